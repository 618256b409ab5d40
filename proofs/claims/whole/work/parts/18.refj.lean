/-! THE REFERENCE: questions of what is known -/
theorem stA_bd {ρ : RS} {N t c : Nat} (h : ThOK ρ N) (ht : t < thN ρ) (hb : ∀ j, j < t → -1 ≤ ρ.2 11 j ∧ ρ.2 11 j ≤ c) : -1 ≤ stA ρ t ∧ stA ρ t ≤ c := by
  have h1 := h.2.2.2.2 t ht
  unfold stA; split
  · omega
  · exact hb _ (by omega)
theorem stB_bd {ρ : RS} {N t c : Nat} (h : ThOK ρ N) (ht : t < thN ρ) (hb : ∀ j, j < t → -1 ≤ ρ.2 11 j ∧ ρ.2 11 j ≤ c) : -1 ≤ stB ρ t ∧ stB ρ t ≤ c := by
  have h1 := h.2.2.2.2 t ht
  unfold stB; split
  · omega
  · exact hb _ (by omega)
theorem stM_bd {k f a b : Int} {c : Nat} (ha : -1 ≤ a ∧ a ≤ c) (hb : -1 ≤ b ∧ b ≤ c) : -1 ≤ stM k f a b ∧ stM k f a b ≤ c := by
  unfold stM
  repeat' split
  all_goals omega
theorem lp_X9_know {G : Ge} {ρ : RS} {M0 : Mem} (N : Nat) (h : ThOK ρ N) (hN : N < 8000) (hsh : ∀ t, t < thN ρ → ρ.2 10 t = 0 ∨ ρ.2 10 t = 1) : ∀ (d : Nat) (t : Nat) (x2 x3 x4 : Option AVal) (M : Mem), t + d = thN ρ → Rf ((knT ρ t)) M → SameR M0 M → Sf G mi_X9_know (fun v' M' => v' = none ∧ Rf (knR ρ) M' ∧ SameR M0 M') 2 [some (vR ((30, 0))), some (vI (↑t)), x2, x3, x4] [] M := by
  intro d
  induction d with
  | zero =>
    intro t x2 x3 x4 M hd hR hS
    obtain rfl : t = thN ρ := by omega
    have hl8 := h.2.1
    refine S_iload_n dX9_know_2 rfl ?_
    refine S_aload_n dX9_know_3 rfl ?_
    refine S_getI (v := ↑(thN ρ)) fl_X9_149 dX9_know_4 rfl rfl ((hR.s 5).trans ((knT_s ρ (thN ρ) 5).trans h.1)) ?_
    refine S_icmp_ge 213 dX9_know_7 (by decide) (by omega) (fun c_7 => ?_) (fun c_7 => absurd c_7 (by omega))
    exact S_vret dX9_know_213 rfl ⟨rfl, hR, hS⟩
  | succ d ih =>
    intro t x2 x3 x4 M hd hR hS
    have hl8 := h.2.1
    refine S_iload_n dX9_know_2 rfl ?_
    refine S_aload_n dX9_know_3 rfl ?_
    refine S_getI (v := ↑(thN ρ)) fl_X9_149 dX9_know_4 rfl rfl ((hR.s 5).trans ((knT_s ρ t 5).trans h.1)) ?_
    refine S_icmp_ge 213 dX9_know_7 (by decide) (by omega) (fun c_7 => absurd c_7 (by omega)) (fun c_7 => ?_)
    have hT : ThOK (knT ρ t) N := h.congr ⟨knT_s _ _ _, knT_s _ _ _, knT_s _ _ _⟩ (fun k j a b => knT_at _ _ _ _ (by omega))
    have hthn : thN (knT ρ t) = thN ρ := thN_congr (knT_s _ _ _)
    have hb := knT_bd h t (by omega)
    have hA := stA_bd hT (t := t) (by omega) hb
    have hB := stB_bd hT (t := t) (by omega) hb
    have hM := stM_bd (k := (knT ρ t).2 6 t) (f := (knT ρ t).2 7 t) hA hB
    refine kn_a (ρ := knT ρ t) t N hT hN (by omega) x2 x3 x4 M hR ?_
    refine kn_b (ρ := knT ρ t) t N hT hN (by omega) _ x3 x4 M hR ?_
    refine kn_m (ρ := knT ρ t) t N hT hN (by omega) _ _ (by omega) (by omega) x4 M hR ?_
    refine kn_w (ρ := knT ρ t) t N hT hN (by omega) _ _ _ (by omega) (by rw [knT_at _ _ _ _ (by omega)]; exact hsh t (by omega)) M hR hS (fun M' hR' hS' => ?_)
    refine S_iinc dX9_know_207 rfl (by decide) ?_
    rw [show (↑t + 1 : Int) = ↑(t + 1) from by omega]
    refine S_goto 2 dX9_know_210 (by decide) ?_
    exact ih (t + 1) _ _ _ _ (by omega) hR' hS'
theorem r_X9_know {G : Ge} {ρ : RS} (N : Nat) (h : ThOK ρ N) (hN : N < 8000) (hsh : ∀ t, t < thN ρ → ρ.2 10 t = 0 ∨ ρ.2 10 t = 1) : RC G mi_X9_know [vR ((30, 0))] ρ none (knR ρ) := by
  intro M hR
  have hS := SameR.rf M
  refine Ct.of pl_X9_know [some (vR ((30, 0))), none, none, none, none] rfl (Nat.le_of_ble_eq_true rfl) ?_
  refine S_iconst dX9_know_0 ?_
  refine S_istore_n dX9_know_1 (by decide) ?_
  exact lp_X9_know N h hN hsh (thN ρ) 0 _ _ _ _ (by omega) hR hS
theorem knR_at (ρ : RS) (k j : Nat) (h : k ≠ 11 ∨ thN ρ ≤ j) : (knR ρ).2 k j = ρ.2 k j := knT_at ρ _ k j h
theorem knR_s (ρ : RS) (k : Nat) : (knR ρ).1 k = ρ.1 k := knT_s ρ _ k
theorem knR_bd {ρ : RS} {N : Nat} (h : ThOK ρ N) (hN : N < 8000) (j : Nat) (hj : j < thN ρ) : -1 ≤ (knR ρ).2 11 j ∧ (knR ρ).2 11 j ≤ 8000 := by
  have h1 := knT_bd h (thN ρ) (Nat.le_refl _) j hj
  have h2 := h.2.1
  unfold knR
  exact ⟨h1.1, by omega⟩
def knownF (ρ : RS) (l : Int) : Int × RS := if ¬ (0 ≤ l ∧ l ≤ ρ.1 30 - 1) then (-1, ρ) else (if (knR ρ).2 11 (ρ.2 37 l.toNat).toNat ≠ -1 then 1 else 0, knR ρ)
def stepsF (ρ : RS) (l : Int) : Int × RS := if ¬ (0 ≤ l ∧ l ≤ ρ.1 30 - 1) then (-1, ρ) else ((knR ρ).2 11 (ρ.2 37 l.toNat).toNat, knR ρ)
def hlF (ρ : RS) (p : Int) : Nat → Int → Int
  | 0, f => f
  | l + 1, f => if (ρ.2 31 l).tdiv 2 = p then (if ρ.2 11 (ρ.2 37 l).toNat ≠ -1 then f else hlF ρ p l ↑l) else hlF ρ p l f
def healsF (ρ : RS) (p : Int) : Int × RS := (hlF (knR ρ) p (ρ.1 30).toNat (-1), knR ρ)
def ktF (ρ : RS) : Nat → Int
  | 0 => 0
  | t + 1 => ktF ρ t + (if ρ.2 11 t ≠ -1 then 1 else 0)
theorem r_X9_known {G : Ge} {ρ : RS} (l : Int) (l32 : -2147483648 ≤ l ∧ l < 2147483648) (N : Nat) (h : ThOK ρ N) (hN : N < 8000) (hsh : ∀ t, t < thN ρ → ρ.2 10 t = 0 ∨ ρ.2 10 t = 1) (hl : 0 ≤ ρ.1 30 ∧ ρ.1 30 ≤ 300) (hL : ∀ l : Nat, (l : Int) < ρ.1 30 → (∃ k : Nat, ρ.2 37 l = ↑k ∧ k < thN ρ) ∧ (0 ≤ ρ.2 31 l ∧ ρ.2 31 l ≤ 11)) : RC G mi_X9_known [vR ((30, 0)), vI l] ρ (some (vI (knownF ρ l).1)) ((knownF ρ l).2) := by
  intro M hR
  have hS := SameR.rf M
  refine Ct.of pl_X9_known [some (vR ((30, 0))), some (vI l)] rfl (Nat.le_of_ble_eq_true rfl) ?_
  refine S_aload_n dX9_known_0 rfl ?_
  refine S_iload_n dX9_known_1 rfl ?_
  refine S_callV (mi := mi_X9_known) [vI l] ok_X9_isLetter ml_X9_191 dX9_known_2 rfl (by decide) rfl (by decide) rfl (Nat.le_of_ble_eq_true rfl) rfl (r_X9_isLetter (ρ := ρ) l (by omega) (show 0 ≤ ρ.1 30 ∧ ρ.1 30 ≤ 300 from by omega) M hR) ?_
  rintro v' M1 ⟨⟨rfl, b_2⟩ | ⟨rfl, b_2⟩, hR1, hS1'⟩
  · have hS1 := hS.trans hS1'
    obtain ⟨i, rfl⟩ : ∃ i : Nat, l = ↑i := ⟨l.toNat, by omega⟩
    obtain ⟨⟨k, hk, hkl⟩, -⟩ := hL i (by omega)
    have hkb := knR_bd h hN k hkl
    have hl8 := h.2.1
    refine S_if_ne 10 dX9_known_5 (by decide) (by omega) (fun c_5 => ?_) (fun c_5 => absurd c_5 (by omega))
    refine S_aload_n dX9_known_10 rfl ?_
    refine S_callV (mi := mi_X9_known) [] ok_X9_know ml_X9_238 dX9_known_11 rfl (by decide) rfl (by decide) rfl (Nat.le_of_ble_eq_true rfl) rfl (r_X9_know (ρ := ρ) N h hN hsh M1 hR1) ?_
    rintro v' M2 ⟨rfl, hR2, hS2'⟩
    have hS2 := hS1.trans hS2'
    refine S_aload_n dX9_known_14 rfl ?_
    refine S_getP fl_X9_39 dX9_known_15 rfl rfl (hR2.p 11 rfl) ?_
    refine S_aload_n dX9_known_18 rfl ?_
    refine S_getP fl_X9_114 dX9_known_19 rfl rfl (hR2.p 37 rfl) ?_
    refine S_iload_n dX9_known_22 rfl ?_
    refine R_ald (v := ↑k) i hR2 dX9_known_23 rfl rfl (by omega) (show _ < 300 from by omega) ((knR_at _ _ _ (by omega)).trans hk) ?_
    refine R_ald (v := (knR ρ).2 11 k) k hR2 dX9_known_24 rfl rfl (by omega) (show _ < 8000 from by omega) rfl ?_
    refine S_iconst dX9_known_25 ?_
    refine S_icmp_eq 33 dX9_known_26 (by decide) (by omega) (fun c_26 => ?_) (fun c_26 => ?_)
    · refine S_iconst dX9_known_33 ?_
      exact S_iret dX9_known_34 rfl (Or.inl rfl) (by have e9 : knownF ρ ↑i = ((0 : Int), (knR ρ)) := (by unfold knownF; simp only [Int.toNat_natCast, hk]; (repeat (first | rw [if_pos (by omega)] | rw [if_neg (by omega)])); try rfl); rw [e9]; exact ⟨rfl, hR2, hS2⟩)
    · refine S_iconst dX9_known_29 ?_
      refine S_goto 34 dX9_known_30 (by decide) ?_
      exact S_iret dX9_known_34 rfl (Or.inl rfl) (by have e9 : knownF ρ ↑i = ((1 : Int), (knR ρ)) := (by unfold knownF; simp only [Int.toNat_natCast, hk]; (repeat (first | rw [if_pos (by omega)] | rw [if_neg (by omega)])); try rfl); rw [e9]; exact ⟨rfl, hR2, hS2⟩)
  · have hS1 := hS.trans hS1'
    refine S_if_ne 10 dX9_known_5 (by decide) (by omega) (fun c_5 => absurd c_5 (by omega)) (fun c_5 => ?_)
    refine S_iconst dX9_known_8 ?_
    exact S_iret dX9_known_9 rfl (Or.inl rfl) (by have e9 : knownF ρ l = (((-1) : Int), ρ) := (by unfold knownF; (repeat (first | rw [if_pos (by omega)] | rw [if_neg (by omega)])); try rfl); rw [e9]; exact ⟨rfl, hR1, hS1⟩)
theorem r_X9_steps {G : Ge} {ρ : RS} (l : Int) (l32 : -2147483648 ≤ l ∧ l < 2147483648) (N : Nat) (h : ThOK ρ N) (hN : N < 8000) (hsh : ∀ t, t < thN ρ → ρ.2 10 t = 0 ∨ ρ.2 10 t = 1) (hl : 0 ≤ ρ.1 30 ∧ ρ.1 30 ≤ 300) (hL : ∀ l : Nat, (l : Int) < ρ.1 30 → (∃ k : Nat, ρ.2 37 l = ↑k ∧ k < thN ρ) ∧ (0 ≤ ρ.2 31 l ∧ ρ.2 31 l ≤ 11)) : RC G mi_X9_steps [vR ((30, 0)), vI l] ρ (some (vI (stepsF ρ l).1)) ((stepsF ρ l).2) := by
  intro M hR
  have hS := SameR.rf M
  refine Ct.of pl_X9_steps [some (vR ((30, 0))), some (vI l)] rfl (Nat.le_of_ble_eq_true rfl) ?_
  refine S_aload_n dX9_steps_0 rfl ?_
  refine S_iload_n dX9_steps_1 rfl ?_
  refine S_callV (mi := mi_X9_steps) [vI l] ok_X9_isLetter ml_X9_191 dX9_steps_2 rfl (by decide) rfl (by decide) rfl (Nat.le_of_ble_eq_true rfl) rfl (r_X9_isLetter (ρ := ρ) l (by omega) (show 0 ≤ ρ.1 30 ∧ ρ.1 30 ≤ 300 from by omega) M hR) ?_
  rintro v' M1 ⟨⟨rfl, b_2⟩ | ⟨rfl, b_2⟩, hR1, hS1'⟩
  · have hS1 := hS.trans hS1'
    obtain ⟨i, rfl⟩ : ∃ i : Nat, l = ↑i := ⟨l.toNat, by omega⟩
    obtain ⟨⟨k, hk, hkl⟩, -⟩ := hL i (by omega)
    have hkb := knR_bd h hN k hkl
    have hl8 := h.2.1
    refine S_if_ne 10 dX9_steps_5 (by decide) (by omega) (fun c_5 => ?_) (fun c_5 => absurd c_5 (by omega))
    refine S_aload_n dX9_steps_10 rfl ?_
    refine S_callV (mi := mi_X9_steps) [] ok_X9_know ml_X9_238 dX9_steps_11 rfl (by decide) rfl (by decide) rfl (Nat.le_of_ble_eq_true rfl) rfl (r_X9_know (ρ := ρ) N h hN hsh M1 hR1) ?_
    rintro v' M2 ⟨rfl, hR2, hS2'⟩
    have hS2 := hS1.trans hS2'
    refine S_aload_n dX9_steps_14 rfl ?_
    refine S_getP fl_X9_39 dX9_steps_15 rfl rfl (hR2.p 11 rfl) ?_
    refine S_aload_n dX9_steps_18 rfl ?_
    refine S_getP fl_X9_114 dX9_steps_19 rfl rfl (hR2.p 37 rfl) ?_
    refine S_iload_n dX9_steps_22 rfl ?_
    refine R_ald (v := ↑k) i hR2 dX9_steps_23 rfl rfl (by omega) (show _ < 300 from by omega) ((knR_at _ _ _ (by omega)).trans hk) ?_
    refine R_ald (v := (knR ρ).2 11 k) k hR2 dX9_steps_24 rfl rfl (by omega) (show _ < 8000 from by omega) rfl ?_
    exact S_iret dX9_steps_25 rfl (Or.inl rfl) (by have e9 : stepsF ρ ↑i = (((knR ρ).2 11 k : Int), (knR ρ)) := (by unfold stepsF; simp only [Int.toNat_natCast, hk]; (repeat (first | rw [if_pos (by omega)] | rw [if_neg (by omega)])); try rfl); rw [e9]; exact ⟨rfl, hR2, hS2⟩)
  · have hS1 := hS.trans hS1'
    refine S_if_ne 10 dX9_steps_5 (by decide) (by omega) (fun c_5 => absurd c_5 (by omega)) (fun c_5 => ?_)
    refine S_iconst dX9_steps_8 ?_
    exact S_iret dX9_steps_9 rfl (Or.inl rfl) (by have e9 : stepsF ρ l = (((-1) : Int), ρ) := (by unfold stepsF; (repeat (first | rw [if_pos (by omega)] | rw [if_neg (by omega)])); try rfl); rw [e9]; exact ⟨rfl, hR1, hS1⟩)
theorem lp_X9_heals {G : Ge} {ρ : RS} {M0 : Mem} (p : Int) (p32 : -2147483648 ≤ p ∧ p < 2147483648) (N : Nat) (h : ThOK ρ N) (hN : N < 8000) (hsh : ∀ t, t < thN ρ → ρ.2 10 t = 0 ∨ ρ.2 10 t = 1) (hl : 0 ≤ ρ.1 30 ∧ ρ.1 30 ≤ 300) (hL : ∀ l : Nat, (l : Int) < ρ.1 30 → (∃ k : Nat, ρ.2 37 l = ↑k ∧ k < thN ρ) ∧ (0 ≤ ρ.2 31 l ∧ ρ.2 31 l ≤ 11)) : ∀ (d : Nat) (f : Int) (M : Mem), (d : Int) ≤ ρ.1 30 → -1 ≤ f ∧ f ≤ 300 → Rf ((knR ρ)) M → SameR M0 M → Sf G mi_X9_heals (fun v' M' => v' = some (vI (hlF (knR ρ) p d f)) ∧ Rf (knR ρ) M' ∧ SameR M0 M') 13 [some (vR ((30, 0))), some (vI p), some (vI f), some (vI (↑d - 1))] [] M := by
  intro d
  induction d with
  | zero =>
    intro f M hd hf hR hS
    rw [show ((0 : Nat) : Int) - 1 = -1 from rfl]
    refine S_iload_n dX9_heals_13 rfl ?_
    refine S_if_lt 54 dX9_heals_14 (by decide) (by omega) (fun c_14 => ?_) (fun c_14 => absurd c_14 (by omega))
    refine S_iload_n dX9_heals_54 rfl ?_
    exact S_iret dX9_heals_55 rfl (Or.inl rfl) ⟨rfl, hR, hS⟩
  | succ d ih =>
    intro f M hd hf hR hS
    obtain ⟨⟨k, hk, hkl⟩, hE⟩ := hL d (by omega)
    have hkb := knR_bd h hN k hkl
    have hl8 := h.2.1
    rw [show (↑(d + 1) : Int) - 1 = ↑d from by omega]
    have ht2 : (ρ.2 31 d).tdiv 2 = ρ.2 31 d / 2 := Int.tdiv_eq_ediv_of_nonneg hE.1
    have hu : hlF (knR ρ) p (d + 1) f = if (ρ.2 31 d).tdiv 2 = p then (if (knR ρ).2 11 k ≠ -1 then f else hlF (knR ρ) p d ↑d) else hlF (knR ρ) p d f := by
      show (if ((knR ρ).2 31 d).tdiv 2 = p then (if (knR ρ).2 11 ((knR ρ).2 37 d).toNat ≠ -1 then f else hlF (knR ρ) p d ↑d) else hlF (knR ρ) p d f) = _
      rw [knR_at ρ 31 d (by omega), knR_at ρ 37 d (by omega), hk]; rfl
    refine S_iload_n dX9_heals_13 rfl ?_
    refine S_if_lt 54 dX9_heals_14 (by decide) (by omega) (fun c_14 => absurd c_14 (by omega)) (fun c_14 => ?_)
    refine S_aload_n dX9_heals_17 rfl ?_
    refine S_getP fl_X9_96 dX9_heals_18 rfl rfl (hR.p 31 rfl) ?_
    refine S_iload_n dX9_heals_21 rfl ?_
    refine R_ald (v := ρ.2 31 d) d hR dX9_heals_22 rfl rfl (by omega) (show _ < 300 from by omega) (knR_at _ _ _ (by omega)) ?_
    refine S_iconst dX9_heals_23 ?_
    refine S_idiv dX9_heals_24 (by omega) (by omega) ?_
    refine S_iload_n dX9_heals_25 rfl ?_
    refine S_icmp_ne 48 dX9_heals_26 (by decide) (by omega) (fun c_26 => ?_) (fun c_26 => ?_)
    · refine S_iinc dX9_heals_48 rfl (by decide) ?_
      rw [show ((↑d) + (-1) : Int) = ↑d - 1 from by omega]
      refine S_goto 13 dX9_heals_51 (by decide) ?_
      rw [show hlF (knR ρ) p (d + 1) f = hlF (knR ρ) p d f from by rw [hu, if_neg (by omega)]]
      exact ih f _ (by omega) (by omega) hR hS
    · refine S_aload_n dX9_heals_29 rfl ?_
      refine S_getP fl_X9_39 dX9_heals_30 rfl rfl (hR.p 11 rfl) ?_
      refine S_aload_n dX9_heals_33 rfl ?_
      refine S_getP fl_X9_114 dX9_heals_34 rfl rfl (hR.p 37 rfl) ?_
      refine S_iload_n dX9_heals_37 rfl ?_
      refine R_ald (v := ↑k) d hR dX9_heals_38 rfl rfl (by omega) (show _ < 300 from by omega) ((knR_at _ _ _ (by omega)).trans hk) ?_
      refine R_ald (v := (knR ρ).2 11 k) k hR dX9_heals_39 rfl rfl (by omega) (show _ < 8000 from by omega) rfl ?_
      refine S_iconst dX9_heals_40 ?_
      refine S_icmp_eq 46 dX9_heals_41 (by decide) (by omega) (fun c_41 => ?_) (fun c_41 => ?_)
      · rw [show hlF (knR ρ) p (d + 1) f = hlF (knR ρ) p d ↑d from by rw [hu, if_pos (by omega), if_neg (by omega)]]
        refine S_iload_n dX9_heals_46 rfl ?_
        refine S_istore_n dX9_heals_47 (by decide) ?_
        refine S_iinc dX9_heals_48 rfl (by decide) ?_
        rw [show ((↑d) + (-1) : Int) = ↑d - 1 from by omega]
        refine S_goto 13 dX9_heals_51 (by decide) ?_
        exact ih (↑d) _ (by omega) (by omega) hR hS
      · refine S_iload_n dX9_heals_44 rfl ?_
        rw [show hlF (knR ρ) p (d + 1) f = f from by rw [hu, if_pos (by omega), if_pos (by omega)]]
        exact S_iret dX9_heals_45 rfl (Or.inl rfl) ⟨rfl, hR, hS⟩
theorem r_X9_heals {G : Ge} {ρ : RS} (p : Int) (p32 : -2147483648 ≤ p ∧ p < 2147483648) (N : Nat) (h : ThOK ρ N) (hN : N < 8000) (hsh : ∀ t, t < thN ρ → ρ.2 10 t = 0 ∨ ρ.2 10 t = 1) (hl : 0 ≤ ρ.1 30 ∧ ρ.1 30 ≤ 300) (hL : ∀ l : Nat, (l : Int) < ρ.1 30 → (∃ k : Nat, ρ.2 37 l = ↑k ∧ k < thN ρ) ∧ (0 ≤ ρ.2 31 l ∧ ρ.2 31 l ≤ 11)) : RC G mi_X9_heals [vR ((30, 0)), vI p] ρ (some (vI (healsF ρ p).1)) ((healsF ρ p).2) := by
  intro M hR
  have hS := SameR.rf M
  refine Ct.of pl_X9_heals [some (vR ((30, 0))), some (vI p), none, none] rfl (Nat.le_of_ble_eq_true rfl) ?_
  refine S_aload_n dX9_heals_0 rfl ?_
  refine S_callV (mi := mi_X9_heals) [] ok_X9_know ml_X9_238 dX9_heals_1 rfl (by decide) rfl (by decide) rfl (Nat.le_of_ble_eq_true rfl) rfl (r_X9_know (ρ := ρ) N h hN hsh M hR) ?_
  rintro v' M1 ⟨rfl, hR1, hS1'⟩
  have hS1 := hS.trans hS1'
  refine S_iconst dX9_heals_4 ?_
  refine S_istore_n dX9_heals_5 (by decide) ?_
  refine S_aload_n dX9_heals_6 rfl ?_
  refine S_getI (v := ρ.1 30) fl_X9_142 dX9_heals_7 rfl rfl ((hR1.s 30).trans (knR_s ρ 30)) ?_
  refine S_iconst dX9_heals_10 ?_
  refine S_isub dX9_heals_11 ?_
  refine S_istore_n dX9_heals_12 (by decide) ?_
  have e30 : (ρ.1 30 : Int) = ↑(ρ.1 30).toNat := by omega
  rw [show ρ.1 30 - 1 = ↑(ρ.1 30).toNat - 1 from by omega]
  exact lp_X9_heals p p32 N h hN hsh hl hL (ρ.1 30).toNat (-1) _ (by omega) (by decide) hR1 hS1
