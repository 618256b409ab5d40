/-! THE CLASS: its questions -/
theorem sc_kn {sc : Nat → Int} {kn : Int} {ρ : RS} {N : Nat} (h : StpOK sc kn ρ) (hT : ThOK ρ N) : ∀ t, t < thN ρ → (knR ρ).2 11 t = sc t := by
  intro t
  induction t using Nat.strongRecOn with
  | ind t ih =>
    intro ht
    have e1 : (knR ρ).2 11 t = stV (knT ρ t) t := (knT_keep ρ t (thN ρ) ht).trans (knT_self ρ t)
    have hb := hT.2.2.2.2 t ht
    have e6 : ∀ k, k ≠ 11 → (knT ρ t).2 k t = ρ.2 k t := fun k hk => knT_at ρ t k t (Or.inl hk)
    have g : ∀ x : Int, -1 ≤ x → x < t → (if x = -1 then (-1 : Int) else (knT ρ t).2 11 x.toNat) = ssV sc x := fun x h1 h2 => by
      unfold ssV
      by_cases hx : x = -1
      · rw [if_pos hx, if_pos hx]
      · rw [if_neg hx, if_neg hx]
        have e3 := ih x.toNat (by omega) (by omega)
        rw [← e3]
        exact (knT_keep ρ x.toNat t (by omega)).trans (knT_keep ρ x.toNat (thN ρ) (by omega)).symm
    rw [e1, h.1 t ht]
    unfold stV ssT stA stB
    rw [e6 10 (by decide), e6 6 (by decide), e6 7 (by decide), e6 8 (by decide), g _ hb.2.1.1 hb.2.1.2, g _ hb.2.2.1.1 hb.2.2.1.2]
theorem kt_kn {sc : Nat → Int} {kn : Int} {ρ : RS} {N : Nat} (h : StpOK sc kn ρ) (hT : ThOK ρ N) : ∀ n, n ≤ thN ρ → ktF (knR ρ) n = ktS sc n := by
  intro n
  induction n with
  | zero => intro _; rfl
  | succ n ih =>
    intro hn
    show ktF (knR ρ) n + (if (knR ρ).2 11 n ≠ -1 then 1 else 0) = ktS sc n + (if sc n ≠ -1 then 1 else 0)
    rw [ih (by omega), sc_kn h hT n (by omega)]
theorem sc_bd {sc : Nat → Int} {kn : Int} {ρ : RS} {N : Nat} (h : StpOK sc kn ρ) (hT : ThOK ρ N) (hN : N < 8000) (t : Nat) (ht : t < thN ρ) : -1 ≤ sc t ∧ sc t ≤ 8000 := by
  have := knR_bd hT hN t ht
  rw [sc_kn h hT t ht] at this
  exact this
set_option maxRecDepth 100000 in
theorem c_known {G : Ge} {M : Mem} {X : Gh} {ρ : RS} (hCl : Cl X ρ M) (l : Int) (l32 : -2147483648 ≤ l ∧ l < 2147483648) (hl : 0 ≤ ρ.1 30 ∧ ρ.1 30 ≤ 300) (hLt : LtOK ρ) (hS : StpOK X.2.2.1 X.2.2.2 ρ) (N : Nat) (hT : ThOK ρ N) (hNb : N < 8000) : Ct G mi_X8_known [vR ((1, 0)), vI l] M (fun v' M' => v' = some (vI (knownF ρ l).1) ∧ M' = M) := by
  refine Ct.of pl_X8_known [some (vR ((1, 0))), some (vI l), none] rfl (Nat.le_of_ble_eq_true rfl) ?_
  obtain ⟨hA, hB, hC, hD, hE, hN, hG, hH, hI, hJ, hK, hL⟩ := id hCl
  refine S_aload_n dX8_known_0 rfl ?_
  refine S_iload_n dX8_known_1 rfl ?_
  by_cases hv : 0 ≤ l ∧ l < ρ.1 30
  · obtain ⟨y, rfl⟩ : ∃ y : Nat, l = ↑y := ⟨l.toNat, by omega⟩
    obtain ⟨⟨x, hx1, hx2, hx3⟩, h32, h33, ⟨pl, h34, hpl⟩, ht, h36, ⟨kk, h37, hkk, hkk6⟩, ⟨z, h38, hz, hzk⟩⟩ := hLt y (by omega)
    have hsb := sc_bd hS hT hNb kk hkk
    have e7 : (knR ρ).2 11 (ρ.2 37 y).toNat = X.2.2.1 kk := by
      rw [h37, Int.toNat_natCast]
      exact sc_kn hS hT kk hkk
    refine S_callV (mi := mi_X8_known) [vI (↑y)] ok_X8_letterAt ml_X8_171 dX8_known_2 rfl (by decide) rfl (by decide) rfl (Nat.le_of_ble_eq_true rfl) rfl (c_letterAt hCl hl y (by omega)) ?_
    rintro v' M1 ⟨rfl, hM1⟩
    rw [hM1]
    clear hM1
    refine S_astore_n dX8_known_5 (by decide) ?_
    refine S_aload_n dX8_known_6 rfl ?_
    refine S_ifnonnull 12 dX8_known_7 (by decide) (fun c_7 => ?_) (fun c_7 => absurd c_7 (by simp))
    refine S_aload_n dX8_known_12 rfl ?_
    refine S_getP (o := some (18, kk)) fl_X8_221 dX8_known_13 rfl rfl (by rw [(show M.P (12, y) 2 = some (18, kk) from (congrFun (hJ.2.1 y (by omega)).2.1.2.2 2).trans (qx_of h37))]) ?_
    refine S_getI (v := X.2.2.1 kk) fl_X8_222 dX8_known_16 rfl rfl (by rw [(show M.I (18, kk) 7 = X.2.2.1 kk from congrFun (hD.1 kk (by omega)).2.1 7)]) ?_
    refine S_iconst dX8_known_19 ?_
    refine S_icmp_ne 27 dX8_known_20 (by decide) (by omega) (fun c_20 => ?_) (fun c_20 => ?_)
    · refine S_iconst dX8_known_27 ?_
      exact S_iret dX8_known_28 rfl (Or.inl rfl) (by first | (exfalso; omega) | (have e9 : (knownF ρ (↑y)).1 = (1 : Int) := (by unfold knownF; rw [if_neg (by omega)]; simp only [Int.toNat_natCast]; (repeat (first | rw [if_pos (by omega)] | rw [if_neg (by omega)])); try rfl); rw [e9]; exact ⟨rfl, rfl⟩))
    · refine S_iconst dX8_known_23 ?_
      refine S_goto 28 dX8_known_24 (by decide) ?_
      exact S_iret dX8_known_28 rfl (Or.inl rfl) (by first | (exfalso; omega) | (have e9 : (knownF ρ (↑y)).1 = (0 : Int) := (by unfold knownF; rw [if_neg (by omega)]; simp only [Int.toNat_natCast]; (repeat (first | rw [if_pos (by omega)] | rw [if_neg (by omega)])); try rfl); rw [e9]; exact ⟨rfl, rfl⟩))
  · refine S_callV (mi := mi_X8_known) [vI l] ok_X8_letterAt ml_X8_171 dX8_known_2 rfl (by decide) rfl (by decide) rfl (Nat.le_of_ble_eq_true rfl) rfl (c_letterAtN hCl hl l l32 hv) ?_
    rintro v' M2 ⟨rfl, hM2⟩
    rw [hM2]
    clear hM2
    refine S_astore_n dX8_known_5 (by decide) ?_
    refine S_aload_n dX8_known_6 rfl ?_
    refine S_ifnonnull 12 dX8_known_7 (by decide) (fun c_7 => absurd c_7 (by simp)) (fun c_7 => ?_)
    refine S_iconst dX8_known_10 ?_
    exact S_iret dX8_known_11 rfl (Or.inl rfl) (by first | (exfalso; omega) | (have e9 : (knownF ρ l).1 = ((-1) : Int) := (by unfold knownF; (repeat (first | rw [if_pos (by omega)] | rw [if_neg (by omega)])); try rfl); rw [e9]; exact ⟨rfl, rfl⟩))
set_option maxRecDepth 100000 in
theorem c_steps {G : Ge} {M : Mem} {X : Gh} {ρ : RS} (hCl : Cl X ρ M) (l : Int) (l32 : -2147483648 ≤ l ∧ l < 2147483648) (hl : 0 ≤ ρ.1 30 ∧ ρ.1 30 ≤ 300) (hLt : LtOK ρ) (hS : StpOK X.2.2.1 X.2.2.2 ρ) (N : Nat) (hT : ThOK ρ N) (hNb : N < 8000) : Ct G mi_X8_steps [vR ((1, 0)), vI l] M (fun v' M' => v' = some (vI (stepsF ρ l).1) ∧ M' = M) := by
  refine Ct.of pl_X8_steps [some (vR ((1, 0))), some (vI l), none] rfl (Nat.le_of_ble_eq_true rfl) ?_
  obtain ⟨hA, hB, hC, hD, hE, hN, hG, hH, hI, hJ, hK, hL⟩ := id hCl
  refine S_aload_n dX8_steps_0 rfl ?_
  refine S_iload_n dX8_steps_1 rfl ?_
  by_cases hv : 0 ≤ l ∧ l < ρ.1 30
  · obtain ⟨y, rfl⟩ : ∃ y : Nat, l = ↑y := ⟨l.toNat, by omega⟩
    obtain ⟨⟨x, hx1, hx2, hx3⟩, h32, h33, ⟨pl, h34, hpl⟩, ht, h36, ⟨kk, h37, hkk, hkk6⟩, ⟨z, h38, hz, hzk⟩⟩ := hLt y (by omega)
    have hsb := sc_bd hS hT hNb kk hkk
    have e7 : (knR ρ).2 11 (ρ.2 37 y).toNat = X.2.2.1 kk := by
      rw [h37, Int.toNat_natCast]
      exact sc_kn hS hT kk hkk
    refine S_callV (mi := mi_X8_steps) [vI (↑y)] ok_X8_letterAt ml_X8_171 dX8_steps_2 rfl (by decide) rfl (by decide) rfl (Nat.le_of_ble_eq_true rfl) rfl (c_letterAt hCl hl y (by omega)) ?_
    rintro v' M1 ⟨rfl, hM1⟩
    rw [hM1]
    clear hM1
    refine S_astore_n dX8_steps_5 (by decide) ?_
    refine S_aload_n dX8_steps_6 rfl ?_
    refine S_ifnonnull 14 dX8_steps_7 (by decide) (fun c_7 => ?_) (fun c_7 => absurd c_7 (by simp))
    refine S_aload_n dX8_steps_14 rfl ?_
    refine S_getP (o := some (18, kk)) fl_X8_221 dX8_steps_15 rfl rfl (by rw [(show M.P (12, y) 2 = some (18, kk) from (congrFun (hJ.2.1 y (by omega)).2.1.2.2 2).trans (qx_of h37))]) ?_
    refine S_getI (v := X.2.2.1 kk) fl_X8_222 dX8_steps_18 rfl rfl (by rw [(show M.I (18, kk) 7 = X.2.2.1 kk from congrFun (hD.1 kk (by omega)).2.1 7)]) ?_
    exact S_iret dX8_steps_21 rfl (Or.inl rfl) (by first | (exfalso; omega) | (have e9 : (stepsF ρ (↑y)).1 = (X.2.2.1 kk : Int) := (by unfold stepsF; rw [if_neg (by omega)]; simp only [Int.toNat_natCast]; exact e7; (repeat (first | rw [if_pos (by omega)] | rw [if_neg (by omega)])); try rfl); rw [e9]; exact ⟨rfl, rfl⟩))
  · refine S_callV (mi := mi_X8_steps) [vI l] ok_X8_letterAt ml_X8_171 dX8_steps_2 rfl (by decide) rfl (by decide) rfl (Nat.le_of_ble_eq_true rfl) rfl (c_letterAtN hCl hl l l32 hv) ?_
    rintro v' M2 ⟨rfl, hM2⟩
    rw [hM2]
    clear hM2
    refine S_astore_n dX8_steps_5 (by decide) ?_
    refine S_aload_n dX8_steps_6 rfl ?_
    refine S_ifnonnull 14 dX8_steps_7 (by decide) (fun c_7 => absurd c_7 (by simp)) (fun c_7 => ?_)
    refine S_iconst dX8_steps_10 ?_
    refine S_goto 21 dX8_steps_11 (by decide) ?_
    exact S_iret dX8_steps_21 rfl (Or.inl rfl) (by first | (exfalso; omega) | (have e9 : (stepsF ρ l).1 = ((-1) : Int) := (by unfold stepsF; (repeat (first | rw [if_pos (by omega)] | rw [if_neg (by omega)])); try rfl); rw [e9]; exact ⟨rfl, rfl⟩))
set_option maxRecDepth 100000 in
theorem c_letter {G : Ge} {M : Mem} {X : Gh} {ρ : RS} (hCl : Cl X ρ M) (l w : Int) (l32 : -2147483648 ≤ l ∧ l < 2147483648) (w32 : -2147483648 ≤ w ∧ w < 2147483648) (hl : 0 ≤ ρ.1 30 ∧ ρ.1 30 ≤ 300) : Ct G mi_X8_letter [vR ((1, 0)), vI l, vI w] M (fun v' M' => v' = some (vI (letterV ρ l w)) ∧ M' = M) := by
  refine Ct.of pl_X8_letter [some (vR ((1, 0))), some (vI l), some (vI w), none] rfl (Nat.le_of_ble_eq_true rfl) ?_
  obtain ⟨hA, hB, hC, hD, hE, hN, hG, hH, hI, hJ, hK, hL⟩ := id hCl
  refine S_aload_n dX8_letter_0 rfl ?_
  refine S_iload_n dX8_letter_1 rfl ?_
  by_cases hv : 0 ≤ l ∧ l < ρ.1 30
  · obtain ⟨y, rfl⟩ : ∃ y : Nat, l = ↑y := ⟨l.toNat, by omega⟩
    refine S_callV (mi := mi_X8_letter) [vI (↑y)] ok_X8_letterAt ml_X8_171 dX8_letter_2 rfl (by decide) rfl (by decide) rfl (Nat.le_of_ble_eq_true rfl) rfl (c_letterAt hCl hl y (by omega)) ?_
    rintro v' M1 ⟨rfl, hM1⟩
    rw [hM1]
    clear hM1
    refine S_astore_n dX8_letter_5 (by decide) ?_
    refine S_aload_n dX8_letter_6 rfl ?_
    refine S_ifnonnull 12 dX8_letter_7 (by decide) (fun c_7 => ?_) (fun c_7 => absurd c_7 (by simp))
    refine S_iload_n dX8_letter_12 rfl ?_
    rcases (show w = 0 ∨ w = 1 ∨ w = 2 ∨ w = 3 ∨ w = 4 ∨ w = 5 ∨ (w < 0 ∨ 5 < w) from by omega) with t_13 | t_13 | t_13 | t_13 | t_13 | t_13 | t_13
    · refine S_tableIn 52 dX8_letter_13 (by omega) (by omega) (by rw [t_13]; rfl) (by decide) ?_
      refine S_aload_n dX8_letter_52 rfl ?_
      refine S_getI (v := ρ.2 31 y) fl_X8_175 dX8_letter_53 rfl rfl (by rw [(show M.I (12, y) 0 = ρ.2 31 y from (show M.I (12, y) 0 = ρ.2 31 y from congrFun (hJ.2.1 y (by omega)).2.1.2.1 0))]) ?_
      exact S_iret dX8_letter_56 rfl (Or.inl rfl) (by first | (exfalso; omega) | (have e9 : letterV ρ (↑y) w = (ρ.2 31 y : Int) := (by unfold letterV; simp only [Int.toNat_natCast]; (repeat (first | rw [if_pos (by omega)] | rw [if_neg (by omega)])); try rfl); rw [e9]; exact ⟨rfl, rfl⟩))
    · refine S_tableIn 57 dX8_letter_13 (by omega) (by omega) (by rw [t_13]; rfl) (by decide) ?_
      refine S_aload_n dX8_letter_57 rfl ?_
      refine S_callV (mi := mi_X8_letter) [] ok_X2_from ml_X8_189 dX8_letter_58 rfl (by decide) rfl (by decide) rfl (Nat.le_of_ble_eq_true rfl) rfl (c_from hCl y (by omega)) ?_
      rintro v' M2 ⟨rfl, hM2⟩
      rw [hM2]
      clear hM2
      exact S_iret dX8_letter_61 rfl (Or.inl rfl) (by first | (exfalso; omega) | (have e9 : letterV ρ (↑y) w = (ρ.2 32 y : Int) := (by unfold letterV; simp only [Int.toNat_natCast]; (repeat (first | rw [if_pos (by omega)] | rw [if_neg (by omega)])); try rfl); rw [e9]; exact ⟨rfl, rfl⟩))
    · refine S_tableIn 62 dX8_letter_13 (by omega) (by omega) (by rw [t_13]; rfl) (by decide) ?_
      refine S_aload_n dX8_letter_62 rfl ?_
      refine S_callV (mi := mi_X8_letter) [] ok_X2_before ml_X8_240 dX8_letter_63 rfl (by decide) rfl (by decide) rfl (Nat.le_of_ble_eq_true rfl) rfl (c_before hCl y (by omega)) ?_
      rintro v' M3 ⟨rfl, hM3⟩
      rw [hM3]
      clear hM3
      exact S_iret dX8_letter_66 rfl (Or.inl rfl) (by first | (exfalso; omega) | (have e9 : letterV ρ (↑y) w = (ρ.2 33 y : Int) := (by unfold letterV; simp only [Int.toNat_natCast]; (repeat (first | rw [if_pos (by omega)] | rw [if_neg (by omega)])); try rfl); rw [e9]; exact ⟨rfl, rfl⟩))
    · refine S_tableIn 67 dX8_letter_13 (by omega) (by omega) (by rw [t_13]; rfl) (by decide) ?_
      refine S_aload_n dX8_letter_67 rfl ?_
      refine S_callV (mi := mi_X8_letter) [] ok_X2_place ml_X8_242 dX8_letter_68 rfl (by decide) rfl (by decide) rfl (Nat.le_of_ble_eq_true rfl) rfl (c_place hCl y (by omega)) ?_
      rintro v' M4 ⟨rfl, hM4⟩
      rw [hM4]
      clear hM4
      exact S_iret dX8_letter_71 rfl (Or.inl rfl) (by first | (exfalso; omega) | (have e9 : letterV ρ (↑y) w = (ρ.2 34 y : Int) := (by unfold letterV; simp only [Int.toNat_natCast]; (repeat (first | rw [if_pos (by omega)] | rw [if_neg (by omega)])); try rfl); rw [e9]; exact ⟨rfl, rfl⟩))
    · refine S_tableIn 72 dX8_letter_13 (by omega) (by omega) (by rw [t_13]; rfl) (by decide) ?_
      refine S_aload_n dX8_letter_72 rfl ?_
      refine S_getI (v := ρ.2 35 y) fl_X8_155 dX8_letter_73 rfl rfl (by rw [(show M.I (12, y) 4 = ρ.2 35 y from (show M.I (12, y) 4 = ρ.2 35 y from congrFun (hJ.2.1 y (by omega)).2.1.2.1 4))]) ?_
      exact S_iret dX8_letter_76 rfl (Or.inl rfl) (by first | (exfalso; omega) | (have e9 : letterV ρ (↑y) w = (ρ.2 35 y : Int) := (by unfold letterV; simp only [Int.toNat_natCast]; (repeat (first | rw [if_pos (by omega)] | rw [if_neg (by omega)])); try rfl); rw [e9]; exact ⟨rfl, rfl⟩))
    · refine S_tableIn 77 dX8_letter_13 (by omega) (by omega) (by rw [t_13]; rfl) (by decide) ?_
      refine S_aload_n dX8_letter_77 rfl ?_
      refine S_getI (v := ρ.2 36 y) fl_X8_162 dX8_letter_78 rfl rfl (by rw [(show M.I (12, y) 5 = ρ.2 36 y from (show M.I (12, y) 5 = ρ.2 36 y from congrFun (hJ.2.1 y (by omega)).2.1.2.1 5))]) ?_
      exact S_iret dX8_letter_81 rfl (Or.inl rfl) (by first | (exfalso; omega) | (have e9 : letterV ρ (↑y) w = (ρ.2 36 y : Int) := (by unfold letterV; simp only [Int.toNat_natCast]; (repeat (first | rw [if_pos (by omega)] | rw [if_neg (by omega)])); try rfl); rw [e9]; exact ⟨rfl, rfl⟩))
    · refine S_tableOut 82 dX8_letter_13 (by omega) t_13 (by decide) ?_
      refine S_iconst dX8_letter_82 ?_
      exact S_iret dX8_letter_83 rfl (Or.inl rfl) (by first | (exfalso; omega) | (have e9 : letterV ρ (↑y) w = ((-1) : Int) := (by unfold letterV; simp only [Int.toNat_natCast]; (repeat (first | rw [if_pos (by omega)] | rw [if_neg (by omega)])); try rfl); rw [e9]; exact ⟨rfl, rfl⟩))
  · refine S_callV (mi := mi_X8_letter) [vI l] ok_X8_letterAt ml_X8_171 dX8_letter_2 rfl (by decide) rfl (by decide) rfl (Nat.le_of_ble_eq_true rfl) rfl (c_letterAtN hCl hl l l32 hv) ?_
    rintro v' M5 ⟨rfl, hM5⟩
    rw [hM5]
    clear hM5
    refine S_astore_n dX8_letter_5 (by decide) ?_
    refine S_aload_n dX8_letter_6 rfl ?_
    refine S_ifnonnull 12 dX8_letter_7 (by decide) (fun c_7 => absurd c_7 (by simp)) (fun c_7 => ?_)
    refine S_iconst dX8_letter_10 ?_
    exact S_iret dX8_letter_11 rfl (Or.inl rfl) (by first | (exfalso; omega) | (have e9 : letterV ρ l w = ((-1) : Int) := (by unfold letterV; (repeat (first | rw [if_pos (by omega)] | rw [if_neg (by omega)])); try rfl); rw [e9]; exact ⟨rfl, rfl⟩))
set_option maxRecDepth 100000 in
theorem c_count {G : Ge} {M : Mem} {X : Gh} {ρ : RS} (hCl : Cl X ρ M) (w : Int) (w32 : -2147483648 ≤ w ∧ w < 2147483648) (hp : 0 ≤ ρ.1 4 ∧ ρ.1 4 ≤ 6) (hS : StpOK X.2.2.1 X.2.2.2 ρ) (N : Nat) (hT : ThOK ρ N) (hNb : N < 8000) (hk44 : 0 ≤ ρ.1 44) : Ct G mi_X8_count [vR ((1, 0)), vI w] M (fun v' M' => v' = some (vI (countF ρ w).1) ∧ M' = M) := by
  refine Ct.of pl_X8_count [some (vR ((1, 0))), some (vI w)] rfl (Nat.le_of_ble_eq_true rfl) ?_
  obtain ⟨hA, hB, hC, hD, hE, hN, hG, hH, hI, hJ, hK, hL⟩ := id hCl
  have hkt := kt_kn hS hT (thN ρ) (Nat.le_refl _)
  rw [← hS.2] at hkt
  have h5 := hT.1
  refine S_iload_n dX8_count_0 rfl ?_
  rcases (show w = 0 ∨ w = 1 ∨ w = 2 ∨ w = 3 ∨ w = 4 ∨ (w < 0 ∨ 4 < w) from by omega) with t_1 | t_1 | t_1 | t_1 | t_1 | t_1
  · refine S_tableIn 36 dX8_count_1 (by omega) (by omega) (by rw [t_1]; rfl) (by decide) ?_
    refine S_aload_n dX8_count_36 rfl ?_
    refine S_getI (v := 2 * ρ.1 4) fl_X8_58 dX8_count_37 rfl rfl (by rw [(show M.I (1, 0) 6 = 2 * ρ.1 4 from congrFun hA.2.1 6)]) ?_
    refine S_iconst dX8_count_40 ?_
    refine S_idiv dX8_count_41 (by omega) (by omega) ?_
    rw [show Int.tdiv (2 * ρ.1 4) 2 = (ρ.1 4 : Int) from by rw [Int.tdiv_eq_ediv_of_nonneg (by omega)]; omega]
    exact S_iret dX8_count_42 rfl (Or.inl rfl) (by have e9 : (countF ρ w).1 = (ρ.1 4 : Int) := (by unfold countF; (repeat (first | rw [if_pos (by omega)] | rw [if_neg (by omega)])); all_goals (first | rfl | exact h5 | exact hkt)); rw [e9]; exact ⟨rfl, rfl⟩)
  · refine S_tableIn 43 dX8_count_1 (by omega) (by omega) (by rw [t_1]; rfl) (by decide) ?_
    refine S_aload_n dX8_count_43 rfl ?_
    refine S_getI (v := ρ.1 30) fl_X8_142 dX8_count_44 rfl rfl (by rw [(show M.I (1, 0) 7 = ρ.1 30 from (show M.I (1, 0) 7 = ρ.1 30 from congrFun hA.2.1 7))]) ?_
    exact S_iret dX8_count_47 rfl (Or.inl rfl) (by have e9 : (countF ρ w).1 = (ρ.1 30 : Int) := (by unfold countF; (repeat (first | rw [if_pos (by omega)] | rw [if_neg (by omega)])); all_goals (first | rfl | exact h5 | exact hkt)); rw [e9]; exact ⟨rfl, rfl⟩)
  · refine S_tableIn 48 dX8_count_1 (by omega) (by omega) (by rw [t_1]; rfl) (by decide) ?_
    refine S_aload_n dX8_count_48 rfl ?_
    refine S_getP (o := some (3, 0)) fl_X8_10 dX8_count_49 rfl rfl (by rw [(show M.P (1, 0) 1 = some (3, 0) from congrFun hA.2.2 1)]) ?_
    refine S_getP (o := some (4, 0)) fl_X8_244 dX8_count_52 rfl rfl (by rw [(show M.P (3, 0) 1 = some (4, 0) from congrFun hC.1.2.2 1)]) ?_
    refine S_callV (mi := mi_X8_count) [] ok_Jx4a65c_size_8abf5 ml_X8_248 dX8_count_55 rfl (by decide) rfl (by decide) rfl (Nat.le_of_ble_eq_true rfl) rfl (c_Jx4a65c_size_8abf5 (thN ρ) hC.2.1) ?_
    rintro v' M1 ⟨rfl, hM1⟩
    rw [hM1]
    clear hM1
    exact S_iret dX8_count_58 rfl (Or.inl rfl) (by have e9 : (countF ρ w).1 = (↑(thN ρ) : Int) := (by unfold countF; (repeat (first | rw [if_pos (by omega)] | rw [if_neg (by omega)])); all_goals (first | rfl | exact h5 | exact hkt)); rw [e9]; exact ⟨rfl, rfl⟩)
  · refine S_tableIn 59 dX8_count_1 (by omega) (by omega) (by rw [t_1]; rfl) (by decide) ?_
    refine S_aload_n dX8_count_59 rfl ?_
    refine S_getP (o := some (3, 0)) fl_X8_10 dX8_count_60 rfl rfl (by rw [(show M.P (1, 0) 1 = some (3, 0) from congrFun hA.2.2 1)]) ?_
    refine S_getI (v := X.2.2.2) fl_X8_253 dX8_count_63 rfl rfl (by rw [(show M.I (3, 0) 2 = X.2.2.2 from congrFun hC.1.2.1 2)]) ?_
    exact S_iret dX8_count_66 rfl (Or.inl rfl) (by have e9 : (countF ρ w).1 = (X.2.2.2 : Int) := (by unfold countF; (repeat (first | rw [if_pos (by omega)] | rw [if_neg (by omega)])); all_goals (first | rfl | exact h5 | exact hkt)); rw [e9]; exact ⟨rfl, rfl⟩)
  · refine S_tableIn 67 dX8_count_1 (by omega) (by omega) (by rw [t_1]; rfl) (by decide) ?_
    refine S_aload_n dX8_count_67 rfl ?_
    refine S_getP (o := some (16, 0)) fl_X8_43 dX8_count_68 rfl rfl (by rw [(show M.P (1, 0) 5 = some (16, 0) from congrFun hA.2.2 5)]) ?_
    refine S_getI (v := ρ.1 44) fl_X8_256 dX8_count_71 rfl rfl (by rw [(show M.I (16, 0) 1 = ρ.1 44 from (show M.I (16, 0) 1 = ρ.1 44 from congrFun hL.1.2.1 1))]) ?_
    exact S_iret dX8_count_74 rfl (Or.inl rfl) (by have e9 : (countF ρ w).1 = (ρ.1 44 : Int) := (by unfold countF; (repeat (first | rw [if_pos (by omega)] | rw [if_neg (by omega)])); all_goals (first | rfl | exact h5 | exact hkt)); rw [e9]; exact ⟨rfl, rfl⟩)
  · refine S_tableOut 75 dX8_count_1 (by omega) t_1 (by decide) ?_
    refine S_iconst dX8_count_75 ?_
    exact S_iret dX8_count_76 rfl (Or.inl rfl) (by have e9 : (countF ρ w).1 = ((-1) : Int) := (by unfold countF; (repeat (first | rw [if_pos (by omega)] | rw [if_neg (by omega)])); all_goals (first | rfl | exact h5 | exact hkt)); rw [e9]; exact ⟨rfl, rfl⟩)
set_option maxRecDepth 100000 in
theorem c_trace {G : Ge} {M : Mem} {X : Gh} {ρ : RS} (hCl : Cl X ρ M) (i : Int) (i32 : -2147483648 ≤ i ∧ i < 2147483648) (h44 : 0 ≤ ρ.1 44 ∧ ρ.1 44 ≤ 40) : Ct G mi_X8_trace [vR ((1, 0)), vI i] M (fun v' M' => v' = some (vI (traceV ρ i)) ∧ M' = M) := by
  refine Ct.of pl_X8_trace [some (vR ((1, 0))), some (vI i)] rfl (Nat.le_of_ble_eq_true rfl) ?_
  obtain ⟨hA, hB, hC, hD, hE, hN, hG, hH, hI, hJ, hK, hL⟩ := id hCl
  refine S_iload_n dX8_trace_0 rfl ?_
  refine S_if_lt 27 dX8_trace_1 (by decide) (by omega) (fun c_1 => ?_) (fun c_1 => ?_)
  · refine S_iconst dX8_trace_27 ?_
    exact S_iret dX8_trace_28 rfl (Or.inl rfl) (by have e9 : traceV ρ i = ((-1) : Int) := (by unfold traceV; rw [if_neg (by split <;> omega)]; all_goals rfl); rw [e9]; exact ⟨rfl, rfl⟩)
  · refine S_iload_n dX8_trace_4 rfl ?_
    refine S_aload_n dX8_trace_5 rfl ?_
    refine S_getP (o := some (16, 0)) fl_X8_43 dX8_trace_6 rfl rfl (by rw [(show M.P (1, 0) 5 = some (16, 0) from congrFun hA.2.2 5)]) ?_
    refine S_getI (v := ρ.1 44) fl_X8_256 dX8_trace_9 rfl rfl (by rw [(show M.I (16, 0) 1 = ρ.1 44 from (show M.I (16, 0) 1 = ρ.1 44 from congrFun hL.1.2.1 1))]) ?_
    refine S_icmp_ge 27 dX8_trace_12 (by decide) (by omega) (fun c_12 => ?_) (fun c_12 => ?_)
    · refine S_iconst dX8_trace_27 ?_
      exact S_iret dX8_trace_28 rfl (Or.inl rfl) (by have e9 : traceV ρ i = ((-1) : Int) := (by unfold traceV; rw [if_neg (by split <;> omega)]; all_goals rfl); rw [e9]; exact ⟨rfl, rfl⟩)
    · obtain ⟨y, rfl⟩ : ∃ y : Nat, i = ↑y := ⟨i.toNat, by omega⟩
      refine S_aload_n dX8_trace_15 rfl ?_
      refine S_getP (o := some (16, 0)) fl_X8_43 dX8_trace_16 rfl rfl (by rw [(show M.P (1, 0) 5 = some (16, 0) from congrFun hA.2.2 5)]) ?_
      refine S_getP (o := some (17, 0)) fl_X8_288 dX8_trace_19 rfl rfl (by rw [(show M.P (16, 0) 0 = some (17, 0) from congrFun hL.1.2.2 0)]) ?_
      refine S_iload_n dX8_trace_22 rfl ?_
      refine S_iald (v := ρ.2 43 y) y dX8_trace_23 rfl rfl (by rw [(show M.len (17, 0) = some 40 from hL.2.1)]) (by omega) (by omega) (by rw [(show M.I (17, 0) y = ρ.2 43 y from hL.2.2 y (by omega))]) ?_
      refine S_goto 28 dX8_trace_24 (by decide) ?_
      exact S_iret dX8_trace_28 rfl (Or.inl rfl) (by have e9 : traceV ρ (↑y) = (ρ.2 43 y : Int) := (by unfold traceV; rw [if_pos (by split <;> omega)]; all_goals rfl); rw [e9]; exact ⟨rfl, rfl⟩)
