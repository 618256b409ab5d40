/-! THE CLASS: more questions -/
theorem qx_nS {x : Int} : ∀ r, qx x = some r → nS r.1 := fun r h => by
  unfold qx at h
  split at h
  · cases h
  · cases h; exact ⟨show (18 : Nat) ≠ 40 by decide, show (18 : Nat) ≠ 41 by decide⟩
theorem hl_no {ρ : RS} {p : Int} : ∀ (n : Nat) (f : Int), (∀ l, l < n → (ρ.2 31 l).tdiv 2 ≠ p) → hlF ρ p n f = f := by
  intro n
  induction n with
  | zero => intro f _; rfl
  | succ n ih =>
    intro f h
    show (if (ρ.2 31 n).tdiv 2 = p then _ else hlF ρ p n f) = f
    rw [if_neg (h n (Nat.lt_succ_self n))]
    exact ih f (fun l hl => h l (by omega))
set_option maxRecDepth 100000 in
theorem c_tray {G : Ge} {M : Mem} {X : Gh} {ρ : RS} (hCl : Cl X ρ M) (t : Int) (t32 : -2147483648 ≤ t ∧ t < 2147483648) : Ct G mi_X8_tray [vR ((1, 0)), vI t] M (fun v' M' => v' = some (vI (trayV ρ t)) ∧ M' = M) := by
  refine Ct.of pl_X8_tray [some (vR ((1, 0))), some (vI t), none] rfl (Nat.le_of_ble_eq_true rfl) ?_
  obtain ⟨hA, hB, hC, hD, hE, hN, hG, hH, hI, hJ, hK, hL⟩ := id hCl
  refine S_aload_n dX8_tray_0 rfl ?_
  refine S_iload_n dX8_tray_1 rfl ?_
  by_cases hv : 0 ≤ t ∧ t < 8
  · obtain ⟨i, rfl⟩ : ∃ i : Nat, t = ↑i := ⟨t.toNat, by omega⟩
    refine S_callV (mi := mi_X8_tray) [vI (↑i)] ok_X8_trayAt ml_X8_258 dX8_tray_2 rfl (by decide) rfl (by decide) rfl (Nat.le_of_ble_eq_true rfl) rfl (c_trayAt hCl i (by omega)) ?_
    rintro v' M1 ⟨rfl, hM1⟩
    rw [hM1]
    clear hM1
    refine S_astore_n dX8_tray_5 (by decide) ?_
    refine S_aload_n dX8_tray_6 rfl ?_
    refine S_ifnonnull 12 dX8_tray_7 (by decide) (fun c_7 => ?_) (fun c_7 => absurd c_7 (by simp))
    obtain ⟨o1, o2, hOb, hTr⟩ := (hK.2 i (by omega)).2
    rcases hTr with ⟨h39, rfl, rfl⟩ | ⟨h39, rfl, l, rfl, h40, hll⟩ | ⟨h39, rfl, n, k, rfl, h40, hk, fr, p, hSk⟩ | ⟨rfl, t2, rfl, h40, ht2, h39⟩
    · refine S_aload_n dX8_tray_12 rfl ?_
      refine S_getP (o := none) fl_X8_274 dX8_tray_13 rfl rfl (by rw [(show M.P (15, i) 1 = none from congrFun hOb.2.2 1)]) ?_
      refine S_ifnull 21 dX8_tray_16 (by decide) (fun c_16 => ?_) (fun c_16 => absurd c_16 (by simp))
      refine S_aload_n dX8_tray_21 rfl ?_
      refine S_getP (o := none) fl_X8_278 dX8_tray_22 rfl rfl (by rw [(show M.P (15, i) 0 = none from congrFun hOb.2.2 0)]) ?_
      refine S_ifnonnull 32 dX8_tray_25 (by decide) (fun c_25 => absurd c_25 (by simp)) (fun c_25 => ?_)
      refine S_iconst dX8_tray_28 ?_
      refine S_goto 41 dX8_tray_29 (by decide) ?_
      exact S_iret dX8_tray_41 rfl (Or.inl rfl) (by have e9 : trayV ρ ↑i = (0 : Int) := (by unfold trayV; rw [if_pos (by omega), Int.toNat_natCast, h39]; all_goals rfl); rw [e9]; exact ⟨rfl, rfl⟩)
    · refine S_aload_n dX8_tray_12 rfl ?_
      refine S_getP (o := some (12, l)) fl_X8_274 dX8_tray_13 rfl rfl (by rw [(show M.P (15, i) 1 = some (12, l) from congrFun hOb.2.2 1)]) ?_
      refine S_ifnull 21 dX8_tray_16 (by decide) (fun c_16 => absurd c_16 (by simp)) (fun c_16 => ?_)
      refine S_iconst dX8_tray_19 ?_
      exact S_iret dX8_tray_20 rfl (Or.inl rfl) (by have e9 : trayV ρ ↑i = (1 : Int) := (by unfold trayV; rw [if_pos (by omega), Int.toNat_natCast, h39]; all_goals rfl); rw [e9]; exact ⟨rfl, rfl⟩)
    · refine S_aload_n dX8_tray_12 rfl ?_
      refine S_getP (o := none) fl_X8_274 dX8_tray_13 rfl rfl (by rw [(show M.P (15, i) 1 = none from congrFun hOb.2.2 1)]) ?_
      refine S_ifnull 21 dX8_tray_16 (by decide) (fun c_16 => ?_) (fun c_16 => absurd c_16 (by simp))
      refine S_aload_n dX8_tray_21 rfl ?_
      refine S_getP (o := some (19, n)) fl_X8_278 dX8_tray_22 rfl rfl (by rw [(show M.P (15, i) 0 = some (19, n) from congrFun hOb.2.2 0)]) ?_
      refine S_ifnonnull 32 dX8_tray_25 (by decide) (fun c_25 => ?_) (fun c_25 => absurd c_25 (by simp))
      refine S_iconst dX8_tray_32 ?_
      refine S_aload_n dX8_tray_33 rfl ?_
      refine S_getP (o := some (19, n)) fl_X8_278 dX8_tray_34 rfl rfl (by rw [(show M.P (15, i) 0 = some (19, n) from congrFun hOb.2.2 0)]) ?_
      refine S_getI (v := 4) fl_X8_281_s dX8_tray_37 rfl rfl (by rw [(show M.I (19, n) 0 = 4 from congrFun hSk.2.1 0)]) ?_
      refine S_iadd dX8_tray_40 ?_
      exact S_iret dX8_tray_41 rfl (Or.inl rfl) (by have e9 : trayV ρ ↑i = (2 + 4 : Int) := (by unfold trayV; rw [if_pos (by omega), Int.toNat_natCast, h39]; all_goals rfl); rw [e9]; exact ⟨rfl, rfl⟩)
    · refine S_aload_n dX8_tray_12 rfl ?_
      refine S_getP (o := none) fl_X8_274 dX8_tray_13 rfl rfl (by rw [(show M.P (15, i) 1 = none from congrFun hOb.2.2 1)]) ?_
      refine S_ifnull 21 dX8_tray_16 (by decide) (fun c_16 => ?_) (fun c_16 => absurd c_16 (by simp))
      refine S_aload_n dX8_tray_21 rfl ?_
      refine S_getP (o := some (18, t2)) fl_X8_278 dX8_tray_22 rfl rfl (by rw [(show M.P (15, i) 0 = some (18, t2) from congrFun hOb.2.2 0)]) ?_
      refine S_ifnonnull 32 dX8_tray_25 (by decide) (fun c_25 => ?_) (fun c_25 => absurd c_25 (by simp))
      refine S_iconst dX8_tray_32 ?_
      refine S_aload_n dX8_tray_33 rfl ?_
      refine S_getP (o := some (18, t2)) fl_X8_278 dX8_tray_34 rfl rfl (by rw [(show M.P (15, i) 0 = some (18, t2) from congrFun hOb.2.2 0)]) ?_
      refine S_getI (v := ρ.2 6 t2) fl_X8_281 dX8_tray_37 rfl rfl (by rw [(show M.I (18, t2) 0 = ρ.2 6 t2 from (show M.I (18, t2) 0 = ρ.2 6 t2 from congrFun (hD.1 t2 (by omega)).2.1 0))]) ?_
      refine S_iadd dX8_tray_40 ?_
      exact S_iret dX8_tray_41 rfl (Or.inl rfl) (by have e9 : trayV ρ ↑i = (2 + (ρ.2 6 t2) : Int) := (by unfold trayV; rw [if_pos (by omega), Int.toNat_natCast, h39]; all_goals rfl); rw [e9]; exact ⟨rfl, rfl⟩)
  · refine S_callV (mi := mi_X8_tray) [vI t] ok_X8_trayAt ml_X8_258 dX8_tray_2 rfl (by decide) rfl (by decide) rfl (Nat.le_of_ble_eq_true rfl) rfl (c_trayAtN hCl t t32 hv) ?_
    rintro v' M2 ⟨rfl, hM2⟩
    rw [hM2]
    clear hM2
    refine S_astore_n dX8_tray_5 (by decide) ?_
    refine S_aload_n dX8_tray_6 rfl ?_
    refine S_ifnonnull 12 dX8_tray_7 (by decide) (fun c_7 => absurd c_7 (by simp)) (fun c_7 => ?_)
    refine S_iconst dX8_tray_10 ?_
    exact S_iret dX8_tray_11 rfl (Or.inl rfl) (by have e9 : trayV ρ t = ((-1) : Int) := (by unfold trayV; rw [if_neg (by omega)]); rw [e9]; exact ⟨rfl, rfl⟩)
set_option maxRecDepth 100000 in
theorem c_told {G : Ge} {M : Mem} {X : Gh} {ρ : RS} (hCl : Cl X ρ M) (e w : Int) (e32 : -2147483648 ≤ e ∧ e < 2147483648) (w32 : -2147483648 ≤ w ∧ w < 2147483648) (hp : 0 ≤ ρ.1 4 ∧ ρ.1 4 ≤ 6) (hXs : ∀ e : Nat, (e : Int) < 2 * ρ.1 4 → (X.1 e = true ↔ ρ.2 14 (e / 2) ≠ 0)) (hEn : ∀ e : Nat, e < 12 → ρ.2 14 (e / 2) ≠ 0 → EndOK ρ e) (hSe : SecOK ρ) (N : Nat) (hT : ThOK ρ N) (hNb : N < 8000) (hrw : ∀ e, e < 12 → ∃ n : Nat, n ≤ 12 ∧ ρ.2 12 e = ↑n) : Ct G mi_X8_told [vR ((1, 0)), vI e, vI w] M (fun v' M' => v' = some (vI (toldV ρ e w)) ∧ M' = M) := by
  refine Ct.of pl_X8_told [some (vR ((1, 0))), some (vI e), some (vI w), none] rfl (Nat.le_of_ble_eq_true rfl) ?_
  obtain ⟨hA, hB, hC, hD, hE, hN, hG, hH, hI, hJ, hK, hL⟩ := id hCl
  refine S_aload_n dX8_told_0 rfl ?_
  refine S_iload_n dX8_told_1 rfl ?_
  by_cases hv : 0 ≤ e ∧ e < 2 * ρ.1 4
  · obtain ⟨x, rfl⟩ : ∃ x : Nat, e = ↑x := ⟨e.toNat, by omega⟩
    have hl8 := hT.2.1
    refine S_callV (mi := mi_X8_told) [vI (↑x)] ok_X8_endAt ml_X8_78 dX8_told_2 rfl (by decide) rfl (by decide) rfl (Nat.le_of_ble_eq_true rfl) rfl (c_endAt hCl hp x (by omega)) ?_
    rintro v' M1 ⟨rfl, hM1⟩
    rw [hM1]
    clear hM1
    refine S_astore_n dX8_told_5 (by decide) ?_
    refine S_aload_n dX8_told_6 rfl ?_
    refine S_ifnonnull 12 dX8_told_7 (by decide) (fun c_7 => ?_) (fun c_7 => absurd c_7 (by simp))
    refine S_iload_n dX8_told_12 rfl ?_
    refine S_if_ne 21 dX8_told_13 (by decide) (by omega) (fun c_13 => ?_) (fun c_13 => ?_)
    · refine S_aload_n dX8_told_21 rfl ?_
      by_cases hs : X.1 x = true
      · have hst := (hXs x (by omega)).mp hs
        obtain ⟨⟨s9, h15, hs9, hs9k⟩, ⟨r9, h16, hr9, hr9k⟩, hsc, htc⟩ := hEn x (by omega) hst
        have hSe9 := hSe s9 hs9 hs9k
        obtain ⟨w9, hw9⟩ : ∃ w9 : Nat, ρ.2 9 s9 = ↑w9 := ⟨(ρ.2 9 s9).toNat, by omega⟩
        obtain ⟨q, hq⟩ : ∃ q : Nat, ρ.1 0 = ↑q := ⟨(ρ.1 0).toNat, by have := hT.2.2.1; omega⟩
        obtain ⟨g, hg⟩ : ∃ g : Nat, ρ.1 1 = ↑g := ⟨(ρ.1 1).toNat, by have := hT.2.2.2.1; omega⟩
        have hqq := hT.2.2.1
        have hgg := hT.2.2.2.1
        refine S_getI (v := 1) fl_X8_99 dX8_told_22 rfl rfl (by rw [(show M.I (7, x) 3 = 1 from (congrFun (hE.1 x (by omega)).2.1 3).trans (if_pos hs))]) ?_
        refine S_if_ne 30 dX8_told_25 (by decide) (by omega) (fun c_25 => ?_) (fun c_25 => absurd c_25 (by omega))
        refine S_iload_n dX8_told_30 rfl ?_
        rcases (show w = 1 ∨ w = 2 ∨ w = 3 ∨ w = 4 ∨ w = 5 ∨ w = 6 ∨ w = 7 ∨ w = 8 ∨ w = 9 ∨ (w < 1 ∨ 9 < w) from by omega) with t_31 | t_31 | t_31 | t_31 | t_31 | t_31 | t_31 | t_31 | t_31 | t_31
        · refine S_tableIn 80 dX8_told_31 (by omega) (by omega) (by rw [t_31]; rfl) (by decide) ?_
          refine S_aload_n dX8_told_80 rfl ?_
          refine S_getP (o := some (2, 0)) fl_X8_20 dX8_told_81 rfl rfl (by rw [(show M.P (1, 0) 0 = some (2, 0) from congrFun hA.2.2 0)]) ?_
          refine S_aload_n dX8_told_84 rfl ?_
          refine S_getP (o := some (18, s9)) fl_X8_115 dX8_told_85 rfl rfl (by rw [(show M.P (7, x) 4 = some (18, s9) from (congrFun (hE.1 x (by omega)).2.2 4).trans ((if_pos hs).trans (qx_of h15)))]) ?_
          refine S_getI (v := ↑w9) fl_X8_131 dX8_told_88 rfl rfl (by rw [(show M.I (18, s9) 1 = ↑w9 from (show M.I (18, s9) 1 = ρ.2 9 s9 from congrFun (hD.1 s9 (by omega)).2.1 1).trans hw9)]) ?_
          refine S_callV (mi := mi_X8_told) [vI (↑w9)] ok_X0_publicOf ml_X8_136 dX8_told_91 rfl (by decide) rfl (by decide) rfl (Nat.le_of_ble_eq_true rfl) rfl (c_X0_publicOf q g w9 hB hq (by omega) hg (by omega) (by omega)) ?_
          rintro v' M2 ⟨rfl, hM2⟩
          rw [hM2]
          clear hM2
          exact S_iret dX8_told_94 rfl (Or.inl rfl) (by first | (exfalso; omega) | (have e9 : toldV ρ (↑x) w = (powF (ρ.1 0) (ρ.1 1) w9 : Int) := (by unfold toldV; simp only [Int.toNat_natCast]; (repeat (first | rw [if_pos (by omega)] | rw [if_neg (by omega)])); rw [h15, Int.toNat_natCast, hw9, Int.toNat_natCast]; all_goals rfl); rw [e9]; exact ⟨rfl, rfl⟩))
        · refine S_tableIn 95 dX8_told_31 (by omega) (by omega) (by rw [t_31]; rfl) (by decide) ?_
          refine S_aload_n dX8_told_95 rfl ?_
          refine S_getP (o := some (18, r9)) fl_X8_119 dX8_told_96 rfl rfl (by rw [(show M.P (7, x) 5 = some (18, r9) from (congrFun (hE.1 x (by omega)).2.2 5).trans ((if_pos hs).trans (qx_of h16)))]) ?_
          refine S_callS (mi := mi_X8_told) [vR ((18, r9))] ok_X8_valueOf ml_X8_225 dX8_told_99 (by decide) rfl (Nat.le_of_ble_eq_true rfl) rfl (c_valueOf hCl r9 (by omega)) ?_
          rintro v' M3 ⟨rfl, hM3⟩
          rw [hM3]
          clear hM3
          exact S_iret dX8_told_102 rfl (Or.inl rfl) (by first | (exfalso; omega) | (have e9 : toldV ρ (↑x) w = (ρ.2 9 r9 : Int) := (by unfold toldV; simp only [Int.toNat_natCast]; (repeat (first | rw [if_pos (by omega)] | rw [if_neg (by omega)])); rw [h16, Int.toNat_natCast]; all_goals rfl); rw [e9]; exact ⟨rfl, rfl⟩))
        · refine S_tableIn 103 dX8_told_31 (by omega) (by omega) (by rw [t_31]; rfl) (by decide) ?_
          refine S_aload_n dX8_told_103 rfl ?_
          rcases hsc with h17 | ⟨c9, h17, hc9, hc9k⟩
          · refine S_getP (o := none) fl_X8_128 dX8_told_104 rfl rfl (by rw [(show M.P (7, x) 6 = none from (congrFun (hE.1 x (by omega)).2.2 6).trans ((if_pos hs).trans ((congrArg qx h17).trans qx_no)))]) ?_
            refine S_callS (mi := mi_X8_told) [vN] ok_X8_valueOf ml_X8_225 dX8_told_107 (by decide) rfl (Nat.le_of_ble_eq_true rfl) rfl (c_valueOfN) ?_
            rintro v' M4 ⟨rfl, hM4⟩
            rw [hM4]
            clear hM4
            exact S_iret dX8_told_110 rfl (Or.inl rfl) (by first | (exfalso; omega) | (have e9 : toldV ρ (↑x) w = (-1 : Int) := (by unfold toldV; simp only [Int.toNat_natCast]; (repeat (first | rw [if_pos (by omega)] | rw [if_neg (by omega)])); unfold wofV; rw [h17, if_pos rfl]; all_goals rfl); rw [e9]; exact ⟨rfl, rfl⟩))
          · refine S_getP (o := some (18, c9)) fl_X8_128 dX8_told_104 rfl rfl (by rw [(show M.P (7, x) 6 = some (18, c9) from (congrFun (hE.1 x (by omega)).2.2 6).trans ((if_pos hs).trans (qx_of h17)))]) ?_
            refine S_callS (mi := mi_X8_told) [vR ((18, c9))] ok_X8_valueOf ml_X8_225 dX8_told_107 (by decide) rfl (Nat.le_of_ble_eq_true rfl) rfl (c_valueOf hCl c9 (by omega)) ?_
            rintro v' M5 ⟨rfl, hM5⟩
            rw [hM5]
            clear hM5
            exact S_iret dX8_told_110 rfl (Or.inl rfl) (by first | (exfalso; omega) | (have e9 : toldV ρ (↑x) w = (ρ.2 9 c9 : Int) := (by unfold toldV; simp only [Int.toNat_natCast]; (repeat (first | rw [if_pos (by omega)] | rw [if_neg (by omega)])); unfold wofV; rw [h17, if_neg (by omega), Int.toNat_natCast]; all_goals rfl); rw [e9]; exact ⟨rfl, rfl⟩))
        · refine S_tableIn 111 dX8_told_31 (by omega) (by omega) (by rw [t_31]; rfl) (by decide) ?_
          refine S_aload_n dX8_told_111 rfl ?_
          rcases htc with h18 | ⟨c9, h18, hc9, hc9k⟩
          · refine S_getP (o := none) fl_X8_192 dX8_told_112 rfl rfl (by rw [(show M.P (7, x) 7 = none from (congrFun (hE.1 x (by omega)).2.2 7).trans ((if_pos hs).trans ((congrArg qx h18).trans qx_no)))]) ?_
            refine S_callS (mi := mi_X8_told) [vN] ok_X8_valueOf ml_X8_225 dX8_told_115 (by decide) rfl (Nat.le_of_ble_eq_true rfl) rfl (c_valueOfN) ?_
            rintro v' M6 ⟨rfl, hM6⟩
            rw [hM6]
            clear hM6
            exact S_iret dX8_told_118 rfl (Or.inl rfl) (by first | (exfalso; omega) | (have e9 : toldV ρ (↑x) w = (-1 : Int) := (by unfold toldV; simp only [Int.toNat_natCast]; (repeat (first | rw [if_pos (by omega)] | rw [if_neg (by omega)])); unfold wofV; rw [h18, if_pos rfl]; all_goals rfl); rw [e9]; exact ⟨rfl, rfl⟩))
          · refine S_getP (o := some (18, c9)) fl_X8_192 dX8_told_112 rfl rfl (by rw [(show M.P (7, x) 7 = some (18, c9) from (congrFun (hE.1 x (by omega)).2.2 7).trans ((if_pos hs).trans (qx_of h18)))]) ?_
            refine S_callS (mi := mi_X8_told) [vR ((18, c9))] ok_X8_valueOf ml_X8_225 dX8_told_115 (by decide) rfl (Nat.le_of_ble_eq_true rfl) rfl (c_valueOf hCl c9 (by omega)) ?_
            rintro v' M7 ⟨rfl, hM7⟩
            rw [hM7]
            clear hM7
            exact S_iret dX8_told_118 rfl (Or.inl rfl) (by first | (exfalso; omega) | (have e9 : toldV ρ (↑x) w = (ρ.2 9 c9 : Int) := (by unfold toldV; simp only [Int.toNat_natCast]; (repeat (first | rw [if_pos (by omega)] | rw [if_neg (by omega)])); unfold wofV; rw [h18, if_neg (by omega), Int.toNat_natCast]; all_goals rfl); rw [e9]; exact ⟨rfl, rfl⟩))
        · refine S_tableIn 119 dX8_told_31 (by omega) (by omega) (by rw [t_31]; rfl) (by decide) ?_
          refine S_aload_n dX8_told_119 rfl ?_
          refine S_getI (v := ρ.2 19 x) fl_X8_139 dX8_told_120 rfl rfl (by rw [(show M.I (7, x) 8 = ρ.2 19 x from (congrFun (hE.1 x (by omega)).2.1 8).trans ((if_pos hs)))]) ?_
          exact S_iret dX8_told_123 rfl (Or.inl rfl) (by first | (exfalso; omega) | (have e9 : toldV ρ (↑x) w = (ρ.2 19 x : Int) := (by unfold toldV; simp only [Int.toNat_natCast]; (repeat (first | rw [if_pos (by omega)] | rw [if_neg (by omega)])); all_goals rfl); rw [e9]; exact ⟨rfl, rfl⟩))
        · refine S_tableIn 124 dX8_told_31 (by omega) (by omega) (by rw [t_31]; rfl) (by decide) ?_
          refine S_aload_n dX8_told_124 rfl ?_
          refine S_getI (v := ρ.2 20 x) fl_X8_168 dX8_told_125 rfl rfl (by rw [(show M.I (7, x) 9 = ρ.2 20 x from (show M.I (7, x) 9 = ρ.2 20 x from congrFun (hE.1 x (by omega)).2.1 9))]) ?_
          exact S_iret dX8_told_128 rfl (Or.inl rfl) (by first | (exfalso; omega) | (have e9 : toldV ρ (↑x) w = (ρ.2 20 x : Int) := (by unfold toldV; simp only [Int.toNat_natCast]; (repeat (first | rw [if_pos (by omega)] | rw [if_neg (by omega)])); all_goals rfl); rw [e9]; exact ⟨rfl, rfl⟩))
        · refine S_tableIn 129 dX8_told_31 (by omega) (by omega) (by rw [t_31]; rfl) (by decide) ?_
          refine S_aload_n dX8_told_129 rfl ?_
          refine S_getI (v := ρ.2 21 x) fl_X8_228 dX8_told_130 rfl rfl (by rw [(show M.I (7, x) 10 = ρ.2 21 x from (show M.I (7, x) 10 = ρ.2 21 x from congrFun (hE.1 x (by omega)).2.1 10))]) ?_
          exact S_iret dX8_told_133 rfl (Or.inl rfl) (by first | (exfalso; omega) | (have e9 : toldV ρ (↑x) w = (ρ.2 21 x : Int) := (by unfold toldV; simp only [Int.toNat_natCast]; (repeat (first | rw [if_pos (by omega)] | rw [if_neg (by omega)])); all_goals rfl); rw [e9]; exact ⟨rfl, rfl⟩))
        · refine S_tableIn 134 dX8_told_31 (by omega) (by omega) (by rw [t_31]; rfl) (by decide) ?_
          refine S_aload_n dX8_told_134 rfl ?_
          refine S_getI (v := ρ.2 22 x) fl_X8_231 dX8_told_135 rfl rfl (by rw [(show M.I (7, x) 11 = ρ.2 22 x from (show M.I (7, x) 11 = ρ.2 22 x from congrFun (hE.1 x (by omega)).2.1 11))]) ?_
          exact S_iret dX8_told_138 rfl (Or.inl rfl) (by first | (exfalso; omega) | (have e9 : toldV ρ (↑x) w = (ρ.2 22 x : Int) := (by unfold toldV; simp only [Int.toNat_natCast]; (repeat (first | rw [if_pos (by omega)] | rw [if_neg (by omega)])); all_goals rfl); rw [e9]; exact ⟨rfl, rfl⟩))
        · refine S_tableIn 139 dX8_told_31 (by omega) (by omega) (by rw [t_31]; rfl) (by decide) ?_
          refine S_aload_n dX8_told_139 rfl ?_
          refine S_getI (v := ρ.2 25 x) fl_X8_206 dX8_told_140 rfl rfl (by rw [(show M.I (7, x) 13 = ρ.2 25 x from (show M.I (7, x) 13 = ρ.2 25 x from congrFun (hE.1 x (by omega)).2.1 13))]) ?_
          exact S_iret dX8_told_143 rfl (Or.inl rfl) (by first | (exfalso; omega) | (have e9 : toldV ρ (↑x) w = (ρ.2 25 x : Int) := (by unfold toldV; simp only [Int.toNat_natCast]; (repeat (first | rw [if_pos (by omega)] | rw [if_neg (by omega)])); all_goals rfl); rw [e9]; exact ⟨rfl, rfl⟩))
        · refine S_tableOut 144 dX8_told_31 (by omega) t_31 (by decide) ?_
          refine S_iconst dX8_told_144 ?_
          exact S_iret dX8_told_145 rfl (Or.inl rfl) (by first | (exfalso; omega) | (have e9 : toldV ρ (↑x) w = ((-1) : Int) := (by unfold toldV; clear hsc htc; simp only [Int.toNat_natCast]; (repeat (first | rw [if_pos (by omega)] | rw [if_neg (by omega)])); all_goals rfl); rw [e9]; exact ⟨rfl, rfl⟩))
      · have hst : ρ.2 14 (x / 2) = 0 := Decidable.of_not_not (fun q => hs ((hXs x (by omega)).mpr q))
        refine S_getI (v := 0) fl_X8_99 dX8_told_22 rfl rfl (by rw [(show M.I (7, x) 3 = 0 from (congrFun (hE.1 x (by omega)).2.1 3).trans (if_neg hs))]) ?_
        refine S_if_ne 30 dX8_told_25 (by decide) (by omega) (fun c_25 => absurd c_25 (by omega)) (fun c_25 => ?_)
        refine S_iconst dX8_told_28 ?_
        exact S_iret dX8_told_29 rfl (Or.inl rfl) (by have e9 : toldV ρ (↑x) w = ((-1) : Int) := (by unfold toldV; simp only [Int.toNat_natCast]; by_cases hw : 0 ≤ w ∧ w ≤ 9; (rw [if_neg (by omega), if_neg (by omega), if_pos (by omega)]); (rw [if_pos (by omega)])); rw [e9]; exact ⟨rfl, rfl⟩)
    · refine S_aload_n dX8_told_16 rfl ?_
      refine S_getI (v := ρ.2 12 x) fl_X8_82 dX8_told_17 rfl rfl (by rw [(show M.I (7, x) 2 = ρ.2 12 x from (show M.I (7, x) 2 = ρ.2 12 x from congrFun (hE.1 x (by omega)).2.1 2))]) ?_
      exact S_iret dX8_told_20 rfl (Or.inl rfl) (by first | (exfalso; omega) | (have e9 : toldV ρ (↑x) w = (ρ.2 12 x : Int) := (by unfold toldV; simp only [Int.toNat_natCast]; (repeat (first | rw [if_pos (by omega)] | rw [if_neg (by omega)])); all_goals rfl); rw [e9]; exact ⟨rfl, rfl⟩))
  · refine S_callV (mi := mi_X8_told) [vI e] ok_X8_endAt ml_X8_78 dX8_told_2 rfl (by decide) rfl (by decide) rfl (Nat.le_of_ble_eq_true rfl) rfl (c_endAtN hCl hp e e32 hv) ?_
    rintro v' M8 ⟨rfl, hM8⟩
    rw [hM8]
    clear hM8
    refine S_astore_n dX8_told_5 (by decide) ?_
    refine S_aload_n dX8_told_6 rfl ?_
    refine S_ifnonnull 12 dX8_told_7 (by decide) (fun c_7 => absurd c_7 (by simp)) (fun c_7 => ?_)
    refine S_iconst dX8_told_10 ?_
    exact S_iret dX8_told_11 rfl (Or.inl rfl) (by first | (exfalso; omega) | (have e9 : toldV ρ e w = ((-1) : Int) := (by unfold toldV; (repeat (first | rw [if_pos (by omega)] | rw [if_neg (by omega)])); all_goals rfl); rw [e9]; exact ⟨rfl, rfl⟩))
set_option maxRecDepth 100000 in
theorem c_skipped {G : Ge} {M : Mem} {X : Gh} {ρ : RS} (hCl : Cl X ρ M) (e i w : Int) (e32 : -2147483648 ≤ e ∧ e < 2147483648) (i32 : -2147483648 ≤ i ∧ i < 2147483648) (w32 : -2147483648 ≤ w ∧ w < 2147483648) (hp : 0 ≤ ρ.1 4 ∧ ρ.1 4 ≤ 6) (hKo : KOK ρ) : Ct G mi_X8_skipped [vR ((1, 0)), vI e, vI i, vI w] M (fun v' M' => v' = some (vI (skippedV ρ e i w)) ∧ M' = M) := by
  refine Ct.of pl_X8_skipped [some (vR ((1, 0))), some (vI e), some (vI i), some (vI w), none, none] rfl (Nat.le_of_ble_eq_true rfl) ?_
  obtain ⟨hA, hB, hC, hD, hE, hN, hG, hH, hI, hJ, hK, hL⟩ := id hCl
  refine S_aload_n dX8_skipped_0 rfl ?_
  refine S_iload_n dX8_skipped_1 rfl ?_
  by_cases hv : 0 ≤ e ∧ e < 2 * ρ.1 4
  · obtain ⟨x, rfl⟩ : ∃ x : Nat, e = ↑x := ⟨e.toNat, by omega⟩
    obtain ⟨n, hn2, hn⟩ := hKo.1 x (by omega)
    refine S_callV (mi := mi_X8_skipped) [vI (↑x)] ok_X8_endAt ml_X8_78 dX8_skipped_2 rfl (by decide) rfl (by decide) rfl (Nat.le_of_ble_eq_true rfl) rfl (c_endAt hCl hp x (by omega)) ?_
    rintro v' M1 ⟨rfl, hM1⟩
    rw [hM1]
    clear hM1
    refine S_astore dX8_skipped_5 (by decide) ?_
    refine S_aload dX8_skipped_7 rfl ?_
    refine S_ifnull 25 dX8_skipped_9 (by decide) (fun c_9 => absurd c_9 (by simp)) (fun c_9 => ?_)
    refine S_iload_n dX8_skipped_12 rfl ?_
    refine S_if_lt 25 dX8_skipped_13 (by decide) (by omega) (fun c_13 => ?_) (fun c_13 => ?_)
    · refine S_iconst dX8_skipped_25 ?_
      exact S_iret dX8_skipped_26 rfl (Or.inl rfl) (by first | (exfalso; omega) | (have e9 : skippedV ρ (↑x) i w = ((-1) : Int) := (by unfold skippedV; simp only [Int.toNat_natCast]; (repeat (first | rw [if_pos (by omega)] | rw [if_neg (by omega)])); all_goals rfl); rw [e9]; exact ⟨rfl, rfl⟩))
    · refine S_iload_n dX8_skipped_16 rfl ?_
      refine S_aload dX8_skipped_17 rfl ?_
      refine S_getI (v := ↑n) fl_X8_206 dX8_skipped_19 rfl rfl (by rw [(show M.I (7, x) 13 = ↑n from (show M.I (7, x) 13 = ρ.2 25 x from congrFun (hE.1 x (by omega)).2.1 13).trans hn)]) ?_
      refine S_icmp_lt 27 dX8_skipped_22 (by decide) (by omega) (fun c_22 => ?_) (fun c_22 => ?_)
      · obtain ⟨y, rfl⟩ : ∃ y : Nat, i = ↑y := ⟨i.toNat, by omega⟩
        obtain ⟨m, k, hm1, hm2, hm3, hm4⟩ := (hH.1 x (by omega)).2 y (by omega)
        refine S_aload dX8_skipped_27 rfl ?_
        refine S_getP (o := some (9, x)) fl_X8_209 dX8_skipped_29 rfl rfl (by rw [(show M.P (7, x) 12 = some (9, x) from congrFun (hE.1 x (by omega)).2.2 12)]) ?_
        refine S_iload_n dX8_skipped_32 rfl ?_
        refine S_aald (o := some (19, m)) y dX8_skipped_33 rfl (by decide) rfl (by rw [(show M.len (9, x) = some 12 from (hH.1 x (by omega)).1)]) (by omega) (by omega) (by rw [hm1]) ?_
        refine S_astore dX8_skipped_34 (by decide) ?_
        refine S_iload_n dX8_skipped_36 rfl ?_
        rcases (show w = 0 ∨ w = 1 ∨ w = 2 ∨ w = 3 ∨ (w < 0 ∨ 3 < w) from by omega) with t_37 | t_37 | t_37 | t_37 | t_37
        · refine S_tableIn 68 dX8_skipped_37 (by omega) (by omega) (by rw [t_37]; rfl) (by decide) ?_
          refine S_aload dX8_skipped_68 rfl ?_
          refine S_getI (v := ρ.2 26 (12 * x + y)) fl_X8_234 dX8_skipped_70 rfl rfl (by rw [(show M.I (19, m) 9 = ρ.2 26 (12 * x + y) from congrFun hm4.2.1 9)]) ?_
          exact S_iret dX8_skipped_73 rfl (Or.inl rfl) (by first | (exfalso; omega) | (have e9 : skippedV ρ (↑x) (↑y) w = (ρ.2 26 (12 * x + y) : Int) := (by unfold skippedV; simp only [Int.toNat_natCast]; (repeat (first | rw [if_pos (by omega)] | rw [if_neg (by omega)])); all_goals rfl); rw [e9]; exact ⟨rfl, rfl⟩))
        · refine S_tableIn 74 dX8_skipped_37 (by omega) (by omega) (by rw [t_37]; rfl) (by decide) ?_
          refine S_aload dX8_skipped_74 rfl ?_
          refine S_getI (v := ρ.2 27 (12 * x + y)) fl_X8_235 dX8_skipped_76 rfl rfl (by rw [(show M.I (19, m) 10 = ρ.2 27 (12 * x + y) from congrFun hm4.2.1 10)]) ?_
          exact S_iret dX8_skipped_79 rfl (Or.inl rfl) (by first | (exfalso; omega) | (have e9 : skippedV ρ (↑x) (↑y) w = (ρ.2 27 (12 * x + y) : Int) := (by unfold skippedV; simp only [Int.toNat_natCast]; (repeat (first | rw [if_pos (by omega)] | rw [if_neg (by omega)])); all_goals rfl); rw [e9]; exact ⟨rfl, rfl⟩))
        · refine S_tableIn 80 dX8_skipped_37 (by omega) (by omega) (by rw [t_37]; rfl) (by decide) ?_
          refine S_aload dX8_skipped_80 rfl ?_
          refine S_getI (v := ρ.2 9 k) fl_X8_238 dX8_skipped_82 rfl rfl (by rw [(show M.I (19, m) 1 = ρ.2 9 k from congrFun hm4.2.1 1)]) ?_
          exact S_iret dX8_skipped_85 rfl (Or.inl rfl) (by first | (exfalso; omega) | (have e9 : skippedV ρ (↑x) (↑y) w = (ρ.2 9 k : Int) := (by unfold skippedV; simp only [Int.toNat_natCast]; (repeat (first | rw [if_pos (by omega)] | rw [if_neg (by omega)])); rw [hm2, Int.toNat_natCast]; all_goals rfl); rw [e9]; exact ⟨rfl, rfl⟩))
        · refine S_tableIn 86 dX8_skipped_37 (by omega) (by omega) (by rw [t_37]; rfl) (by decide) ?_
          refine S_aload dX8_skipped_86 rfl ?_
          refine S_getI (v := ρ.2 29 (12 * x + y)) fl_X8_239 dX8_skipped_88 rfl rfl (by rw [(show M.I (19, m) 11 = ρ.2 29 (12 * x + y) from congrFun hm4.2.1 11)]) ?_
          exact S_iret dX8_skipped_91 rfl (Or.inl rfl) (by first | (exfalso; omega) | (have e9 : skippedV ρ (↑x) (↑y) w = (ρ.2 29 (12 * x + y) : Int) := (by unfold skippedV; simp only [Int.toNat_natCast]; (repeat (first | rw [if_pos (by omega)] | rw [if_neg (by omega)])); all_goals rfl); rw [e9]; exact ⟨rfl, rfl⟩))
        · refine S_tableOut 92 dX8_skipped_37 (by omega) t_37 (by decide) ?_
          refine S_iconst dX8_skipped_92 ?_
          exact S_iret dX8_skipped_93 rfl (Or.inl rfl) (by first | (exfalso; omega) | (have e9 : skippedV ρ (↑x) (↑y) w = ((-1) : Int) := (by unfold skippedV; simp only [Int.toNat_natCast]; (repeat (first | rw [if_pos (by omega)] | rw [if_neg (by omega)])); all_goals rfl); rw [e9]; exact ⟨rfl, rfl⟩))
      · refine S_iconst dX8_skipped_25 ?_
        exact S_iret dX8_skipped_26 rfl (Or.inl rfl) (by first | (exfalso; omega) | (have e9 : skippedV ρ (↑x) i w = ((-1) : Int) := (by unfold skippedV; simp only [Int.toNat_natCast]; (repeat (first | rw [if_pos (by omega)] | rw [if_neg (by omega)])); all_goals rfl); rw [e9]; exact ⟨rfl, rfl⟩))
  · refine S_callV (mi := mi_X8_skipped) [vI e] ok_X8_endAt ml_X8_78 dX8_skipped_2 rfl (by decide) rfl (by decide) rfl (Nat.le_of_ble_eq_true rfl) rfl (c_endAtN hCl hp e e32 hv) ?_
    rintro v' M2 ⟨rfl, hM2⟩
    rw [hM2]
    clear hM2
    refine S_astore dX8_skipped_5 (by decide) ?_
    refine S_aload dX8_skipped_7 rfl ?_
    refine S_ifnull 25 dX8_skipped_9 (by decide) (fun c_9 => ?_) (fun c_9 => absurd c_9 (by simp))
    refine S_iconst dX8_skipped_25 ?_
    exact S_iret dX8_skipped_26 rfl (Or.inl rfl) (by first | (exfalso; omega) | (have e9 : skippedV ρ e i w = ((-1) : Int) := (by unfold skippedV; (repeat (first | rw [if_pos (by omega)] | rw [if_neg (by omega)])); all_goals rfl); rw [e9]; exact ⟨rfl, rfl⟩))
set_option maxRecDepth 100000 in
theorem c_same {G : Ge} {M : Mem} {X : Gh} {ρ : RS} (hCl : Cl X ρ M) (p : Int) (p32 : -2147483648 ≤ p ∧ p < 2147483648) (hp : 0 ≤ ρ.1 4 ∧ ρ.1 4 ≤ 6) (hXs : ∀ e : Nat, (e : Int) < 2 * ρ.1 4 → (X.1 e = true ↔ ρ.2 14 (e / 2) ≠ 0)) (hEn : ∀ e : Nat, e < 12 → ρ.2 14 (e / 2) ≠ 0 → EndOK ρ e) (N : Nat) (hT : ThOK ρ N) (hNb : N < 8000) : Ct G mi_X8_same [vR ((1, 0)), vI p] M (fun v' M' => v' = some (vI (sameV ρ p)) ∧ M' = M) := by
  refine Ct.of pl_X8_same [some (vR ((1, 0))), some (vI p), none, none] rfl (Nat.le_of_ble_eq_true rfl) ?_
  obtain ⟨hA, hB, hC, hD, hE, hN, hG, hH, hI, hJ, hK, hL⟩ := id hCl
  refine S_aload_n dX8_same_0 rfl ?_
  refine S_iload_n dX8_same_1 rfl ?_
  by_cases hv : 0 ≤ p ∧ p < ρ.1 4
  · obtain ⟨y, rfl⟩ : ∃ y : Nat, p = ↑y := ⟨p.toNat, by omega⟩
    refine S_callV (mi := mi_X8_same) [vI (↑y)] ok_X8_lowerOf ml_X8_93 dX8_same_2 rfl (by decide) rfl (by decide) rfl (Nat.le_of_ble_eq_true rfl) rfl (c_lowerOf hCl hp y (by omega)) ?_
    rintro v' M1 ⟨rfl, hM1⟩
    rw [hM1]
    clear hM1
    refine S_astore_n dX8_same_5 (by decide) ?_
    refine S_aload_n dX8_same_6 rfl ?_
    refine S_iload_n dX8_same_7 rfl ?_
    refine S_callV (mi := mi_X8_same) [vI (↑y)] ok_X8_otherOf ml_X8_96 dX8_same_8 rfl (by decide) rfl (by decide) rfl (Nat.le_of_ble_eq_true rfl) rfl (c_otherOf hCl hp y (by omega)) ?_
    rintro v' M2 ⟨rfl, hM2⟩
    rw [hM2]
    clear hM2
    refine S_astore_n dX8_same_11 (by decide) ?_
    refine S_aload_n dX8_same_12 rfl ?_
    refine S_ifnull 27 dX8_same_13 (by decide) (fun c_13 => absurd c_13 (by simp)) (fun c_13 => ?_)
    refine S_aload_n dX8_same_16 rfl ?_
    refine S_ifnull 27 dX8_same_17 (by decide) (fun c_17 => absurd c_17 (by simp)) (fun c_17 => ?_)
    refine S_aload_n dX8_same_20 rfl ?_
    by_cases hs : X.1 (2 * y) = true
    · have hst := (hXs (2 * y) (by omega)).mp hs
      have hst2 : ρ.2 14 ((2 * y + 1) / 2) ≠ 0 := by rw [show (2 * y + 1) / 2 = 2 * y / 2 from by omega]; exact hst
      have hs2 := (hXs (2 * y + 1) (by omega)).mpr hst2
      have hb1 := (hEn (2 * y) (by omega) hst).bd hT hNb
      have hb2 := (hEn (2 * y + 1) (by omega) hst2).bd hT hNb
      have hsty : ¬ ρ.2 14 y = 0 := by rw [show 2 * y / 2 = y from by omega] at hst; exact hst
      refine S_getI (v := 1) fl_X8_99 dX8_same_21 rfl rfl (by rw [(show M.I (7, 2 * y) 3 = 1 from (congrFun (hE.1 (2 * y) (by omega)).2.1 3).trans (if_pos hs))]) ?_
      refine S_if_ne 29 dX8_same_24 (by decide) (by omega) (fun c_24 => ?_) (fun c_24 => absurd c_24 (by omega))
      refine S_aload_n dX8_same_29 rfl ?_
      refine S_getP (o := qx (ρ.2 16 (2 * y))) fl_X8_119 dX8_same_30 rfl rfl (by rw [(show M.P (7, 2 * y) 5 = qx (ρ.2 16 (2 * y)) from (congrFun (hE.1 (2 * y) (by omega)).2.2 5).trans ((if_pos hs).trans rfl))]) ?_
      refine S_aload_n dX8_same_33 rfl ?_
      refine S_getP (o := qx (ρ.2 16 (2 * y + 1))) fl_X8_119 dX8_same_34 rfl rfl (by rw [(show M.P (7, 2 * y + 1) 5 = qx (ρ.2 16 (2 * y + 1)) from (congrFun (hE.1 (2 * y + 1) (by omega)).2.2 5).trans ((if_pos hs2).trans rfl))]) ?_
      refine S_acmp_ne 44 dX8_same_37 (by decide) ⟨qx_nS, qx_nS⟩ (fun c_37 => ?_) (fun c_37 => ?_)
      · have d37 : ¬ (ρ.2 16 (2 * y) = ρ.2 16 (2 * y + 1)) := fun q => c_37 (congrArg qx q)
        refine S_iconst dX8_same_44 ?_
        refine S_aload_n dX8_same_45 rfl ?_
        refine S_getP (o := qx (ρ.2 17 (2 * y))) fl_X8_128 dX8_same_46 rfl rfl (by rw [(show M.P (7, 2 * y) 6 = qx (ρ.2 17 (2 * y)) from (congrFun (hE.1 (2 * y) (by omega)).2.2 6).trans ((if_pos hs).trans rfl))]) ?_
        refine S_aload_n dX8_same_49 rfl ?_
        refine S_getP (o := qx (ρ.2 18 (2 * y + 1))) fl_X8_192 dX8_same_50 rfl rfl (by rw [(show M.P (7, 2 * y + 1) 7 = qx (ρ.2 18 (2 * y + 1)) from (congrFun (hE.1 (2 * y + 1) (by omega)).2.2 7).trans ((if_pos hs2).trans rfl))]) ?_
        refine S_acmp_ne 60 dX8_same_53 (by decide) ⟨qx_nS, qx_nS⟩ (fun c_53 => ?_) (fun c_53 => ?_)
        · have d53 : ¬ (ρ.2 17 (2 * y) = ρ.2 18 (2 * y + 1)) := fun q => c_53 (congrArg qx q)
          refine S_iconst dX8_same_60 ?_
          refine S_iadd dX8_same_61 ?_
          refine S_aload_n dX8_same_62 rfl ?_
          refine S_getP (o := qx (ρ.2 17 (2 * y + 1))) fl_X8_128 dX8_same_63 rfl rfl (by rw [(show M.P (7, 2 * y + 1) 6 = qx (ρ.2 17 (2 * y + 1)) from (congrFun (hE.1 (2 * y + 1) (by omega)).2.2 6).trans ((if_pos hs2).trans rfl))]) ?_
          refine S_aload_n dX8_same_66 rfl ?_
          refine S_getP (o := qx (ρ.2 18 (2 * y))) fl_X8_192 dX8_same_67 rfl rfl (by rw [(show M.P (7, 2 * y) 7 = qx (ρ.2 18 (2 * y)) from (congrFun (hE.1 (2 * y) (by omega)).2.2 7).trans ((if_pos hs).trans rfl))]) ?_
          refine S_acmp_ne 77 dX8_same_70 (by decide) ⟨qx_nS, qx_nS⟩ (fun c_70 => ?_) (fun c_70 => ?_)
          · have d70 : ¬ (ρ.2 17 (2 * y + 1) = ρ.2 18 (2 * y)) := fun q => c_70 (congrArg qx q)
            refine S_iconst dX8_same_77 ?_
            refine S_iadd dX8_same_78 ?_
            exact S_iret dX8_same_79 rfl (Or.inl rfl) (by have e9 : sameV ρ (↑y) = ((0 + 0) + 0 : Int) := (by unfold sameV; simp only [Int.toNat_natCast]; (repeat (first | rw [if_pos (by omega)] | rw [if_neg (by omega)])); all_goals rfl); rw [e9]; exact ⟨rfl, rfl⟩)
          · have d70 : ρ.2 17 (2 * y + 1) = ρ.2 18 (2 * y) := (qx_inj (by omega) (by omega)).mp c_70
            refine S_iconst dX8_same_73 ?_
            refine S_goto 78 dX8_same_74 (by decide) ?_
            refine S_iadd dX8_same_78 ?_
            exact S_iret dX8_same_79 rfl (Or.inl rfl) (by have e9 : sameV ρ (↑y) = ((0 + 0) + 4 : Int) := (by unfold sameV; simp only [Int.toNat_natCast]; (repeat (first | rw [if_pos (by omega)] | rw [if_neg (by omega)])); all_goals rfl); rw [e9]; exact ⟨rfl, rfl⟩)
        · have d53 : ρ.2 17 (2 * y) = ρ.2 18 (2 * y + 1) := (qx_inj (by omega) (by omega)).mp c_53
          refine S_iconst dX8_same_56 ?_
          refine S_goto 61 dX8_same_57 (by decide) ?_
          refine S_iadd dX8_same_61 ?_
          refine S_aload_n dX8_same_62 rfl ?_
          refine S_getP (o := qx (ρ.2 17 (2 * y + 1))) fl_X8_128 dX8_same_63 rfl rfl (by rw [(show M.P (7, 2 * y + 1) 6 = qx (ρ.2 17 (2 * y + 1)) from (congrFun (hE.1 (2 * y + 1) (by omega)).2.2 6).trans ((if_pos hs2).trans rfl))]) ?_
          refine S_aload_n dX8_same_66 rfl ?_
          refine S_getP (o := qx (ρ.2 18 (2 * y))) fl_X8_192 dX8_same_67 rfl rfl (by rw [(show M.P (7, 2 * y) 7 = qx (ρ.2 18 (2 * y)) from (congrFun (hE.1 (2 * y) (by omega)).2.2 7).trans ((if_pos hs).trans rfl))]) ?_
          refine S_acmp_ne 77 dX8_same_70 (by decide) ⟨qx_nS, qx_nS⟩ (fun c_70 => ?_) (fun c_70 => ?_)
          · have d70 : ¬ (ρ.2 17 (2 * y + 1) = ρ.2 18 (2 * y)) := fun q => c_70 (congrArg qx q)
            refine S_iconst dX8_same_77 ?_
            refine S_iadd dX8_same_78 ?_
            exact S_iret dX8_same_79 rfl (Or.inl rfl) (by have e9 : sameV ρ (↑y) = ((0 + 2) + 0 : Int) := (by unfold sameV; simp only [Int.toNat_natCast]; (repeat (first | rw [if_pos (by omega)] | rw [if_neg (by omega)])); all_goals rfl); rw [e9]; exact ⟨rfl, rfl⟩)
          · have d70 : ρ.2 17 (2 * y + 1) = ρ.2 18 (2 * y) := (qx_inj (by omega) (by omega)).mp c_70
            refine S_iconst dX8_same_73 ?_
            refine S_goto 78 dX8_same_74 (by decide) ?_
            refine S_iadd dX8_same_78 ?_
            exact S_iret dX8_same_79 rfl (Or.inl rfl) (by have e9 : sameV ρ (↑y) = ((0 + 2) + 4 : Int) := (by unfold sameV; simp only [Int.toNat_natCast]; (repeat (first | rw [if_pos (by omega)] | rw [if_neg (by omega)])); all_goals rfl); rw [e9]; exact ⟨rfl, rfl⟩)
      · have d37 : ρ.2 16 (2 * y) = ρ.2 16 (2 * y + 1) := (qx_inj (by omega) (by omega)).mp c_37
        refine S_iconst dX8_same_40 ?_
        refine S_goto 45 dX8_same_41 (by decide) ?_
        refine S_aload_n dX8_same_45 rfl ?_
        refine S_getP (o := qx (ρ.2 17 (2 * y))) fl_X8_128 dX8_same_46 rfl rfl (by rw [(show M.P (7, 2 * y) 6 = qx (ρ.2 17 (2 * y)) from (congrFun (hE.1 (2 * y) (by omega)).2.2 6).trans ((if_pos hs).trans rfl))]) ?_
        refine S_aload_n dX8_same_49 rfl ?_
        refine S_getP (o := qx (ρ.2 18 (2 * y + 1))) fl_X8_192 dX8_same_50 rfl rfl (by rw [(show M.P (7, 2 * y + 1) 7 = qx (ρ.2 18 (2 * y + 1)) from (congrFun (hE.1 (2 * y + 1) (by omega)).2.2 7).trans ((if_pos hs2).trans rfl))]) ?_
        refine S_acmp_ne 60 dX8_same_53 (by decide) ⟨qx_nS, qx_nS⟩ (fun c_53 => ?_) (fun c_53 => ?_)
        · have d53 : ¬ (ρ.2 17 (2 * y) = ρ.2 18 (2 * y + 1)) := fun q => c_53 (congrArg qx q)
          refine S_iconst dX8_same_60 ?_
          refine S_iadd dX8_same_61 ?_
          refine S_aload_n dX8_same_62 rfl ?_
          refine S_getP (o := qx (ρ.2 17 (2 * y + 1))) fl_X8_128 dX8_same_63 rfl rfl (by rw [(show M.P (7, 2 * y + 1) 6 = qx (ρ.2 17 (2 * y + 1)) from (congrFun (hE.1 (2 * y + 1) (by omega)).2.2 6).trans ((if_pos hs2).trans rfl))]) ?_
          refine S_aload_n dX8_same_66 rfl ?_
          refine S_getP (o := qx (ρ.2 18 (2 * y))) fl_X8_192 dX8_same_67 rfl rfl (by rw [(show M.P (7, 2 * y) 7 = qx (ρ.2 18 (2 * y)) from (congrFun (hE.1 (2 * y) (by omega)).2.2 7).trans ((if_pos hs).trans rfl))]) ?_
          refine S_acmp_ne 77 dX8_same_70 (by decide) ⟨qx_nS, qx_nS⟩ (fun c_70 => ?_) (fun c_70 => ?_)
          · have d70 : ¬ (ρ.2 17 (2 * y + 1) = ρ.2 18 (2 * y)) := fun q => c_70 (congrArg qx q)
            refine S_iconst dX8_same_77 ?_
            refine S_iadd dX8_same_78 ?_
            exact S_iret dX8_same_79 rfl (Or.inl rfl) (by have e9 : sameV ρ (↑y) = ((1 + 0) + 0 : Int) := (by unfold sameV; simp only [Int.toNat_natCast]; (repeat (first | rw [if_pos (by omega)] | rw [if_neg (by omega)])); all_goals rfl); rw [e9]; exact ⟨rfl, rfl⟩)
          · have d70 : ρ.2 17 (2 * y + 1) = ρ.2 18 (2 * y) := (qx_inj (by omega) (by omega)).mp c_70
            refine S_iconst dX8_same_73 ?_
            refine S_goto 78 dX8_same_74 (by decide) ?_
            refine S_iadd dX8_same_78 ?_
            exact S_iret dX8_same_79 rfl (Or.inl rfl) (by have e9 : sameV ρ (↑y) = ((1 + 0) + 4 : Int) := (by unfold sameV; simp only [Int.toNat_natCast]; (repeat (first | rw [if_pos (by omega)] | rw [if_neg (by omega)])); all_goals rfl); rw [e9]; exact ⟨rfl, rfl⟩)
        · have d53 : ρ.2 17 (2 * y) = ρ.2 18 (2 * y + 1) := (qx_inj (by omega) (by omega)).mp c_53
          refine S_iconst dX8_same_56 ?_
          refine S_goto 61 dX8_same_57 (by decide) ?_
          refine S_iadd dX8_same_61 ?_
          refine S_aload_n dX8_same_62 rfl ?_
          refine S_getP (o := qx (ρ.2 17 (2 * y + 1))) fl_X8_128 dX8_same_63 rfl rfl (by rw [(show M.P (7, 2 * y + 1) 6 = qx (ρ.2 17 (2 * y + 1)) from (congrFun (hE.1 (2 * y + 1) (by omega)).2.2 6).trans ((if_pos hs2).trans rfl))]) ?_
          refine S_aload_n dX8_same_66 rfl ?_
          refine S_getP (o := qx (ρ.2 18 (2 * y))) fl_X8_192 dX8_same_67 rfl rfl (by rw [(show M.P (7, 2 * y) 7 = qx (ρ.2 18 (2 * y)) from (congrFun (hE.1 (2 * y) (by omega)).2.2 7).trans ((if_pos hs).trans rfl))]) ?_
          refine S_acmp_ne 77 dX8_same_70 (by decide) ⟨qx_nS, qx_nS⟩ (fun c_70 => ?_) (fun c_70 => ?_)
          · have d70 : ¬ (ρ.2 17 (2 * y + 1) = ρ.2 18 (2 * y)) := fun q => c_70 (congrArg qx q)
            refine S_iconst dX8_same_77 ?_
            refine S_iadd dX8_same_78 ?_
            exact S_iret dX8_same_79 rfl (Or.inl rfl) (by have e9 : sameV ρ (↑y) = ((1 + 2) + 0 : Int) := (by unfold sameV; simp only [Int.toNat_natCast]; (repeat (first | rw [if_pos (by omega)] | rw [if_neg (by omega)])); all_goals rfl); rw [e9]; exact ⟨rfl, rfl⟩)
          · have d70 : ρ.2 17 (2 * y + 1) = ρ.2 18 (2 * y) := (qx_inj (by omega) (by omega)).mp c_70
            refine S_iconst dX8_same_73 ?_
            refine S_goto 78 dX8_same_74 (by decide) ?_
            refine S_iadd dX8_same_78 ?_
            exact S_iret dX8_same_79 rfl (Or.inl rfl) (by have e9 : sameV ρ (↑y) = ((1 + 2) + 4 : Int) := (by unfold sameV; simp only [Int.toNat_natCast]; (repeat (first | rw [if_pos (by omega)] | rw [if_neg (by omega)])); all_goals rfl); rw [e9]; exact ⟨rfl, rfl⟩)
    · have hsty : ρ.2 14 y = 0 := Decidable.of_not_not (fun q => hs ((hXs (2 * y) (by omega)).mpr (by rw [show 2 * y / 2 = y from by omega]; exact q)))
      refine S_getI (v := 0) fl_X8_99 dX8_same_21 rfl rfl (by rw [(show M.I (7, 2 * y) 3 = 0 from (congrFun (hE.1 (2 * y) (by omega)).2.1 3).trans (if_neg hs))]) ?_
      refine S_if_ne 29 dX8_same_24 (by decide) (by omega) (fun c_24 => absurd c_24 (by omega)) (fun c_24 => ?_)
      refine S_iconst dX8_same_27 ?_
      exact S_iret dX8_same_28 rfl (Or.inl rfl) (by have e9 : sameV ρ (↑y) = ((-1) : Int) := (by unfold sameV; simp only [Int.toNat_natCast]; (repeat (first | rw [if_pos (by omega)] | rw [if_neg (by omega)])); all_goals rfl); rw [e9]; exact ⟨rfl, rfl⟩)
  · refine S_callV (mi := mi_X8_same) [vI p] ok_X8_lowerOf ml_X8_93 dX8_same_2 rfl (by decide) rfl (by decide) rfl (Nat.le_of_ble_eq_true rfl) rfl (c_lowerOfN hCl hp p p32 hv) ?_
    rintro v' M3 ⟨rfl, hM3⟩
    rw [hM3]
    clear hM3
    refine S_astore_n dX8_same_5 (by decide) ?_
    refine S_aload_n dX8_same_6 rfl ?_
    refine S_iload_n dX8_same_7 rfl ?_
    refine S_callV (mi := mi_X8_same) [vI p] ok_X8_otherOf ml_X8_96 dX8_same_8 rfl (by decide) rfl (by decide) rfl (Nat.le_of_ble_eq_true rfl) rfl (c_otherOfN hCl hp p p32 hv) ?_
    rintro v' M4 ⟨rfl, hM4⟩
    rw [hM4]
    clear hM4
    refine S_astore_n dX8_same_11 (by decide) ?_
    refine S_aload_n dX8_same_12 rfl ?_
    refine S_ifnull 27 dX8_same_13 (by decide) (fun c_13 => ?_) (fun c_13 => absurd c_13 (by simp))
    refine S_iconst dX8_same_27 ?_
    exact S_iret dX8_same_28 rfl (Or.inl rfl) (by have e9 : sameV ρ p = ((-1) : Int) := (by unfold sameV; (repeat (first | rw [if_pos (by omega)] | rw [if_neg (by omega)])); all_goals rfl); rw [e9]; exact ⟨rfl, rfl⟩)
set_option maxRecDepth 100000 in
theorem lp_heals {G : Ge} {X : Gh} {ρ : RS} {M : Mem} (hCl : Cl X ρ M) (p : Int) (p32 : -2147483648 ≤ p ∧ p < 2147483648) (hl : 0 ≤ ρ.1 30 ∧ ρ.1 30 ≤ 300) (hLt : LtOK ρ) (hS : StpOK X.2.2.1 X.2.2.2 ρ) (N : Nat) (hT : ThOK ρ N) (hNb : N < 8000) : ∀ (d : Nat) (f : Int), (d : Int) ≤ ρ.1 30 → -1 ≤ f ∧ f ≤ 300 → Sf G mi_X8_heals (fun v' M' => v' = some (vI (hlF (knR ρ) p d f)) ∧ M' = M) 19 [some (vR ((1, 0))), some (vI p), some (vI f), some (vI (↑d - 1))] [] M := by
  intro d
  induction d with
  | zero =>
    intro f hd hf
    rw [show ((↑(0 : Nat) : Int) - 1) = -1 from rfl]
    refine S_iload_n dX8_heals_19 rfl ?_
    refine S_if_lt 64 dX8_heals_20 (by decide) (by omega) (fun c_20 => ?_) (fun c_20 => absurd c_20 (by omega))
    refine S_iload_n dX8_heals_64 rfl ?_
    exact S_iret dX8_heals_65 rfl (Or.inl rfl) ⟨rfl, rfl⟩
  | succ d ih =>
    intro f hd hf
    obtain ⟨hA, hB, hC, hD, hE, hN, hG, hH, hI, hJ, hK, hL⟩ := id hCl
    obtain ⟨⟨x, hx1, hx2, hx3⟩, h32, h33, ⟨pl, h34, hpl⟩, ht, h36, ⟨kk, h37, hkk, hkk6⟩, ⟨z, h38, hz, hzk⟩⟩ := hLt d (by omega)
    have e31 : (knR ρ).2 31 d = ρ.2 31 d := knR_at ρ 31 d (Or.inl (by decide))
    have e37 : (knR ρ).2 37 d = ρ.2 37 d := knR_at ρ 37 d (Or.inl (by decide))
    have e11 : (knR ρ).2 11 ((knR ρ).2 37 d).toNat = X.2.2.1 kk := by rw [e37, h37, Int.toNat_natCast]; exact sc_kn hS hT kk hkk
    have hsb := sc_bd hS hT hNb kk hkk
    have etd : Int.tdiv ↑x 2 = ↑(x / 2) := rfl
    rw [show ((↑(d + 1) : Int) - 1) = ↑d from by omega]
    refine S_iload_n dX8_heals_19 rfl ?_
    refine S_if_lt 64 dX8_heals_20 (by decide) (by omega) (fun c_20 => absurd c_20 (by omega)) (fun c_20 => ?_)
    refine S_aload_n dX8_heals_23 rfl ?_
    refine S_getP (o := some (11, 0)) fl_X8_29 dX8_heals_24 rfl rfl (by rw [(show M.P (1, 0) 3 = some (11, 0) from congrFun hA.2.2 3)]) ?_
    refine S_iload_n dX8_heals_27 rfl ?_
    refine S_aald (o := some (12, d)) d dX8_heals_28 rfl (by decide) rfl (by rw [(show M.len (11, 0) = some 300 from hJ.1)]) (by omega) (by omega) (by rw [(show M.P (11, 0) d = some (12, d) from (hJ.2.1 d (by omega)).1)]) ?_
    refine S_getI (v := ↑x) fl_X8_175 dX8_heals_29 rfl rfl (by rw [(show M.I (12, d) 0 = ↑x from (show M.I (12, d) 0 = ρ.2 31 d from congrFun (hJ.2.1 d (by omega)).2.1.2.1 0).trans hx1)]) ?_
    refine S_iconst dX8_heals_32 ?_
    refine S_idiv dX8_heals_33 (by omega) (by omega) ?_
    rw [show Int.tdiv (↑x) 2 = (↑(x / 2) : Int) from rfl]
    refine S_iload_n dX8_heals_34 rfl ?_
    refine S_icmp_ne 58 dX8_heals_35 (by decide) (by omega) (fun c_35 => ?_) (fun c_35 => ?_)
    · refine S_iinc dX8_heals_58 rfl (by decide) ?_
      rw [show ((↑d) + (-1) : Int) = ↑d - 1 from by omega]
      refine S_goto 19 dX8_heals_61 (by decide) ?_
      have e9 : hlF (knR ρ) p (d + 1) f = hlF (knR ρ) p d f := if_neg (by rw [e31, hx1, etd]; omega)
      rw [e9]
      exact ih f (by omega) (by omega)
    · refine S_aload_n dX8_heals_38 rfl ?_
      refine S_getP (o := some (11, 0)) fl_X8_29 dX8_heals_39 rfl rfl (by rw [(show M.P (1, 0) 3 = some (11, 0) from congrFun hA.2.2 3)]) ?_
      refine S_iload_n dX8_heals_42 rfl ?_
      refine S_aald (o := some (12, d)) d dX8_heals_43 rfl (by decide) rfl (by rw [(show M.len (11, 0) = some 300 from hJ.1)]) (by omega) (by omega) (by rw [(show M.P (11, 0) d = some (12, d) from (hJ.2.1 d (by omega)).1)]) ?_
      refine S_getP (o := some (18, kk)) fl_X8_221 dX8_heals_44 rfl rfl (by rw [(show M.P (12, d) 2 = some (18, kk) from (congrFun (hJ.2.1 d (by omega)).2.1.2.2 2).trans (qx_of h37))]) ?_
      refine S_getI (v := X.2.2.1 kk) fl_X8_222 dX8_heals_47 rfl rfl (by rw [(show M.I (18, kk) 7 = X.2.2.1 kk from congrFun (hD.1 kk (by omega)).2.1 7)]) ?_
      refine S_iconst dX8_heals_50 ?_
      refine S_icmp_eq 56 dX8_heals_51 (by decide) (by omega) (fun c_51 => ?_) (fun c_51 => ?_)
      · refine S_iload_n dX8_heals_56 rfl ?_
        refine S_istore_n dX8_heals_57 (by decide) ?_
        refine S_iinc dX8_heals_58 rfl (by decide) ?_
        rw [show ((↑d) + (-1) : Int) = ↑d - 1 from by omega]
        refine S_goto 19 dX8_heals_61 (by decide) ?_
        have e9 : hlF (knR ρ) p (d + 1) f = hlF (knR ρ) p d ↑d := (if_pos (by rw [e31, hx1, etd]; omega)).trans (if_neg (fun q => q (by rw [e11]; omega)))
        rw [e9]
        exact ih ↑d (by omega) (by omega)
      · refine S_iload_n dX8_heals_54 rfl ?_
        exact S_iret dX8_heals_55 rfl (Or.inl rfl) (by have e9 : hlF (knR ρ) p (d + 1) f = f := (if_pos (by rw [e31, hx1, etd]; omega)).trans (if_pos (by rw [e11]; exact c_51)); rw [e9]; exact ⟨rfl, rfl⟩)
