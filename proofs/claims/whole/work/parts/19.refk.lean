/-! THE REFERENCE: questions -/
set_option maxRecDepth 100000 in
theorem lp_X9_knownThings {G : Ge} {ρ : RS} {M0 : Mem} (N : Nat) (h : ThOK ρ N) (hN : N < 8000) (hsh : ∀ t, t < thN ρ → ρ.2 10 t = 0 ∨ ρ.2 10 t = 1) : ∀ (d : Nat) (t : Nat) (M : Mem), t + d = thN ρ → Rf ((knR ρ)) M → SameR M0 M → Sf G mi_X9_knownThings (fun v' M' => v' = some (vI (ktF (knR ρ) (thN ρ))) ∧ Rf (knR ρ) M' ∧ SameR M0 M') 8 [some (vR ((30, 0))), some (vI (ktF (knR ρ) t)), some (vI (↑t))] [] M := by
  intro d
  induction d with
  | zero =>
    intro t M hd hR hS
    have ht : thN ρ = t := by omega
    have hl8 := h.2.1
    refine S_iload_n dX9_knownThings_8 rfl ?_
    refine S_aload_n dX9_knownThings_9 rfl ?_
    refine S_getI (v := ↑(thN ρ)) fl_X9_149 dX9_knownThings_10 rfl rfl ((hR.s 5).trans ((knR_s ρ 5).trans h.1)) ?_
    refine S_icmp_ge 40 dX9_knownThings_13 (by decide) (by omega) (fun c_13 => ?_) (fun c_13 => absurd c_13 (by omega))
    refine S_iload_n dX9_knownThings_40 rfl ?_
    exact S_iret dX9_knownThings_41 rfl (Or.inl rfl) ⟨by rw [ht], hR, hS⟩
  | succ d ih =>
    intro t M hd hR hS
    have hl8 := h.2.1
    have hkb := knR_bd h hN t (by omega)
    refine S_iload_n dX9_knownThings_8 rfl ?_
    refine S_aload_n dX9_knownThings_9 rfl ?_
    refine S_getI (v := ↑(thN ρ)) fl_X9_149 dX9_knownThings_10 rfl rfl ((hR.s 5).trans ((knR_s ρ 5).trans h.1)) ?_
    refine S_icmp_ge 40 dX9_knownThings_13 (by decide) (by omega) (fun c_13 => absurd c_13 (by omega)) (fun c_13 => ?_)
    refine S_iload_n dX9_knownThings_16 rfl ?_
    refine S_aload_n dX9_knownThings_17 rfl ?_
    refine S_getP fl_X9_39 dX9_knownThings_18 rfl rfl (hR.p 11 rfl) ?_
    refine S_iload_n dX9_knownThings_21 rfl ?_
    refine R_ald (v := (knR ρ).2 11 t) t hR dX9_knownThings_22 rfl rfl (by omega) (show _ < 8000 from by omega) rfl ?_
    refine S_iconst dX9_knownThings_23 ?_
    refine S_icmp_eq 31 dX9_knownThings_24 (by decide) (by omega) (fun c_24 => ?_) (fun c_24 => ?_)
    · refine S_iconst dX9_knownThings_31 ?_
      refine S_iadd dX9_knownThings_32 ?_
      refine S_istore_n dX9_knownThings_33 (by decide) ?_
      refine S_iinc dX9_knownThings_34 rfl (by decide) ?_
      rw [show ((↑t) + 1 : Int) = ↑(t + 1) from by omega]
      refine S_goto 8 dX9_knownThings_37 (by decide) ?_
      have e9 : ktF (knR ρ) (t + 1) = (ktF (knR ρ) t) + 0 := (by show ktF (knR ρ) t + (if (knR ρ).2 11 t ≠ -1 then 1 else 0) = _; (first | rw [if_pos (by omega)] | rw [if_neg (by omega)]))
      rw [← e9]
      exact ih (t + 1) _ (by omega) hR hS
    · refine S_iconst dX9_knownThings_27 ?_
      refine S_goto 32 dX9_knownThings_28 (by decide) ?_
      refine S_iadd dX9_knownThings_32 ?_
      refine S_istore_n dX9_knownThings_33 (by decide) ?_
      refine S_iinc dX9_knownThings_34 rfl (by decide) ?_
      rw [show ((↑t) + 1 : Int) = ↑(t + 1) from by omega]
      refine S_goto 8 dX9_knownThings_37 (by decide) ?_
      have e9 : ktF (knR ρ) (t + 1) = (ktF (knR ρ) t) + 1 := (by show ktF (knR ρ) t + (if (knR ρ).2 11 t ≠ -1 then 1 else 0) = _; (first | rw [if_pos (by omega)] | rw [if_neg (by omega)]))
      rw [← e9]
      exact ih (t + 1) _ (by omega) hR hS
set_option maxRecDepth 100000 in
theorem r_X9_knownThings {G : Ge} {ρ : RS} (N : Nat) (h : ThOK ρ N) (hN : N < 8000) (hsh : ∀ t, t < thN ρ → ρ.2 10 t = 0 ∨ ρ.2 10 t = 1) : RC G mi_X9_knownThings [vR ((30, 0))] ρ (some (vI (ktF (knR ρ) (thN ρ)))) (knR ρ) := by
  intro M hR
  have hS := SameR.rf M
  refine Ct.of pl_X9_knownThings [some (vR ((30, 0))), none, none] rfl (Nat.le_of_ble_eq_true rfl) ?_
  refine S_aload_n dX9_knownThings_0 rfl ?_
  refine S_callV (mi := mi_X9_knownThings) [] ok_X9_know ml_X9_238 dX9_knownThings_1 rfl (by decide) rfl (by decide) rfl (Nat.le_of_ble_eq_true rfl) rfl (r_X9_know (ρ := ρ) N h hN hsh M hR) ?_
  rintro v' M1 ⟨rfl, hR1, hS1'⟩
  have hS1 := hS.trans hS1'
  refine S_iconst dX9_knownThings_4 ?_
  refine S_istore_n dX9_knownThings_5 (by decide) ?_
  refine S_iconst dX9_knownThings_6 ?_
  refine S_istore_n dX9_knownThings_7 (by decide) ?_
  exact lp_X9_knownThings N h hN hsh (thN ρ) 0 _ (by omega) hR1 hS1
def countF (ρ : RS) (w : Int) : Int × RS := if w = 0 then (ρ.1 4, ρ) else if w = 1 then (ρ.1 30, ρ) else if w = 2 then (ρ.1 5, ρ) else if w = 3 then (ktF (knR ρ) (thN ρ), knR ρ) else if w = 4 then (ρ.1 44, ρ) else (-1, ρ)
set_option maxRecDepth 100000 in
theorem r_X9_count {G : Ge} {ρ : RS} (w : Int) (w32 : -2147483648 ≤ w ∧ w < 2147483648) (N : Nat) (h : ThOK ρ N) (hN : N < 8000) (hsh : ∀ t, t < thN ρ → ρ.2 10 t = 0 ∨ ρ.2 10 t = 1) : RC G mi_X9_count [vR ((30, 0)), vI w] ρ (some (vI (countF ρ w).1)) ((countF ρ w).2) := by
  intro M hR
  have hS := SameR.rf M
  refine Ct.of pl_X9_count [some (vR ((30, 0))), some (vI w)] rfl (Nat.le_of_ble_eq_true rfl) ?_
  refine S_iload_n dX9_count_0 rfl ?_
  refine S_if_ne 11 dX9_count_1 (by decide) (by omega) (fun c_1 => ?_) (fun c_1 => ?_)
  · refine S_iload_n dX9_count_11 rfl ?_
    refine S_iconst dX9_count_12 ?_
    refine S_icmp_ne 23 dX9_count_13 (by decide) (by omega) (fun c_13 => ?_) (fun c_13 => ?_)
    · refine S_iload_n dX9_count_23 rfl ?_
      refine S_iconst dX9_count_24 ?_
      refine S_icmp_ne 35 dX9_count_25 (by decide) (by omega) (fun c_25 => ?_) (fun c_25 => ?_)
      · refine S_iload_n dX9_count_35 rfl ?_
        refine S_iconst dX9_count_36 ?_
        refine S_icmp_ne 47 dX9_count_37 (by decide) (by omega) (fun c_37 => ?_) (fun c_37 => ?_)
        · refine S_iload_n dX9_count_47 rfl ?_
          refine S_iconst dX9_count_48 ?_
          refine S_icmp_ne 59 dX9_count_49 (by decide) (by omega) (fun c_49 => ?_) (fun c_49 => ?_)
          · refine S_iconst dX9_count_59 ?_
            exact S_iret dX9_count_60 rfl (Or.inl rfl) (by have e9 : countF ρ w = (((-1) : Int), ρ) := (by unfold countF; (repeat (first | rw [if_pos (by omega)] | rw [if_neg (by omega)])); try rfl); rw [e9]; exact ⟨rfl, hR, hS⟩)
          · refine S_aload_n dX9_count_52 rfl ?_
            refine S_getI (v := ρ.1 44) fl_X9_248 dX9_count_53 rfl rfl (hR.s 44) ?_
            refine S_goto 60 dX9_count_56 (by decide) ?_
            exact S_iret dX9_count_60 rfl (Or.inl rfl) (by have e9 : countF ρ w = ((ρ.1 44 : Int), ρ) := (by unfold countF; (repeat (first | rw [if_pos (by omega)] | rw [if_neg (by omega)])); try rfl); rw [e9]; exact ⟨rfl, hR, hS⟩)
        · refine S_aload_n dX9_count_40 rfl ?_
          refine S_callV (mi := mi_X9_count) [] ok_X9_knownThings ml_X9_244 dX9_count_41 rfl (by decide) rfl (by decide) rfl (Nat.le_of_ble_eq_true rfl) rfl (r_X9_knownThings (ρ := ρ) N h hN hsh M hR) ?_
          rintro v' M1 ⟨rfl, hR1, hS1'⟩
          have hS1 := hS.trans hS1'
          refine S_goto 60 dX9_count_44 (by decide) ?_
          exact S_iret dX9_count_60 rfl (Or.inl rfl) (by have e9 : countF ρ w = ((ktF (knR ρ) (thN ρ) : Int), (knR ρ)) := (by unfold countF; (repeat (first | rw [if_pos (by omega)] | rw [if_neg (by omega)])); try rfl); rw [e9]; exact ⟨rfl, hR1, hS1⟩)
      · refine S_aload_n dX9_count_28 rfl ?_
        refine S_getI (v := ρ.1 5) fl_X9_149 dX9_count_29 rfl rfl (hR.s 5) ?_
        refine S_goto 60 dX9_count_32 (by decide) ?_
        exact S_iret dX9_count_60 rfl (Or.inl rfl) (by have e9 : countF ρ w = ((ρ.1 5 : Int), ρ) := (by unfold countF; (repeat (first | rw [if_pos (by omega)] | rw [if_neg (by omega)])); try rfl); rw [e9]; exact ⟨rfl, hR, hS⟩)
    · refine S_aload_n dX9_count_16 rfl ?_
      refine S_getI (v := ρ.1 30) fl_X9_142 dX9_count_17 rfl rfl (hR.s 30) ?_
      refine S_goto 60 dX9_count_20 (by decide) ?_
      exact S_iret dX9_count_60 rfl (Or.inl rfl) (by have e9 : countF ρ w = ((ρ.1 30 : Int), ρ) := (by unfold countF; (repeat (first | rw [if_pos (by omega)] | rw [if_neg (by omega)])); try rfl); rw [e9]; exact ⟨rfl, hR, hS⟩)
  · refine S_aload_n dX9_count_4 rfl ?_
    refine S_getI (v := ρ.1 4) fl_X9_135 dX9_count_5 rfl rfl (hR.s 4) ?_
    refine S_goto 60 dX9_count_8 (by decide) ?_
    exact S_iret dX9_count_60 rfl (Or.inl rfl) (by have e9 : countF ρ w = ((ρ.1 4 : Int), ρ) := (by unfold countF; (repeat (first | rw [if_pos (by omega)] | rw [if_neg (by omega)])); try rfl); rw [e9]; exact ⟨rfl, hR, hS⟩)
def EndOK (ρ : RS) (e : Nat) : Prop := (∃ s : Nat, ρ.2 15 e = ↑s ∧ s < thN ρ ∧ ρ.2 6 s = 3) ∧ (∃ r : Nat, ρ.2 16 e = ↑r ∧ r < thN ρ ∧ ρ.2 6 r = 2) ∧ (ρ.2 17 e = -1 ∨ ∃ c : Nat, ρ.2 17 e = ↑c ∧ c < thN ρ ∧ ρ.2 6 c = 1) ∧ (ρ.2 18 e = -1 ∨ ∃ c : Nat, ρ.2 18 e = ↑c ∧ c < thN ρ ∧ ρ.2 6 c = 1)
def SecOK (ρ : RS) : Prop := ∀ t, t < thN ρ → ρ.2 6 t = 3 → 1 ≤ ρ.2 9 t ∧ ρ.2 9 t ≤ 10000
def wofV (ρ : RS) (t : Int) : Int := if t = -1 then -1 else ρ.2 9 t.toNat
def toldV (ρ : RS) (e w : Int) : Int := if ¬ (0 ≤ e ∧ e ≤ 2 * ρ.1 4 - 1) ∨ ¬ (0 ≤ w ∧ w ≤ 9) then -1 else if w = 0 then ρ.2 12 e.toNat else if ρ.2 14 (e.toNat / 2) = 0 then -1 else
  if w = 1 then powF (ρ.1 0) (ρ.1 1) (ρ.2 9 (ρ.2 15 e.toNat).toNat).toNat else if w = 2 then ρ.2 9 (ρ.2 16 e.toNat).toNat else if w = 3 then wofV ρ (ρ.2 17 e.toNat) else if w = 4 then wofV ρ (ρ.2 18 e.toNat) else
  if w = 5 then ρ.2 19 e.toNat else if w = 6 then ρ.2 20 e.toNat else if w = 7 then ρ.2 21 e.toNat else if w = 8 then ρ.2 22 e.toNat else ρ.2 25 e.toNat
set_option maxRecDepth 100000 in
theorem r_X9_worthOf {G : Ge} {ρ : RS} (t : Int) (ht : t = -1 ∨ (0 ≤ t ∧ t < 8000)) : RC G mi_X9_worthOf [vR ((30, 0)), vI t] ρ (some (vI (wofV ρ t))) ρ := by
  intro M hR
  have hS := SameR.rf M
  refine Ct.of pl_X9_worthOf [some (vR ((30, 0))), some (vI t)] rfl (Nat.le_of_ble_eq_true rfl) ?_
  refine S_iload_n dX9_worthOf_0 rfl ?_
  refine S_iconst dX9_worthOf_1 ?_
  refine S_icmp_ne 9 dX9_worthOf_2 (by decide) (by omega) (fun c_2 => ?_) (fun c_2 => ?_)
  · obtain ⟨i, rfl⟩ : ∃ i : Nat, t = ↑i := ⟨t.toNat, by omega⟩
    refine S_aload_n dX9_worthOf_9 rfl ?_
    refine S_getP fl_X9_32 dX9_worthOf_10 rfl rfl (hR.p 9 rfl) ?_
    refine S_iload_n dX9_worthOf_13 rfl ?_
    refine R_ald (v := ρ.2 9 i) i hR dX9_worthOf_14 rfl rfl (by omega) (show _ < 8000 from by omega) rfl ?_
    exact S_iret dX9_worthOf_15 rfl (Or.inl rfl) (by have e9 : wofV ρ (↑i) = (ρ.2 9 i : Int) := (by unfold wofV; (first | rw [if_pos (by omega)] | rw [if_neg (by omega)]); try rfl); rw [e9]; exact ⟨rfl, hR, hS⟩)
  · refine S_iconst dX9_worthOf_5 ?_
    refine S_goto 15 dX9_worthOf_6 (by decide) ?_
    exact S_iret dX9_worthOf_15 rfl (Or.inl rfl) (by have e9 : wofV ρ t = ((-1) : Int) := (by unfold wofV; (first | rw [if_pos (by omega)] | rw [if_neg (by omega)]); try rfl); rw [e9]; exact ⟨rfl, hR, hS⟩)
set_option maxRecDepth 100000 in
theorem r_X9_told {G : Ge} {ρ : RS} (e w : Int) (e32 : -2147483648 ≤ e ∧ e < 2147483648) (w32 : -2147483648 ≤ w ∧ w < 2147483648) (hp : 0 ≤ ρ.1 4 ∧ ρ.1 4 ≤ 6) (N : Nat) (h : ThOK ρ N) (hN : N < 8000) (hst : ∀ p, p < 6 → ρ.2 14 p = 0 ∨ ρ.2 14 p = 1) (hSe : SecOK ρ) (hE : ∀ e : Nat, e < 12 → ρ.2 14 (e / 2) ≠ 0 → EndOK ρ e) : RC G mi_X9_told [vR ((30, 0)), vI e, vI w] ρ (some (vI (toldV ρ e w))) ρ := by
  intro M hR
  have hS := SameR.rf M
  refine Ct.of pl_X9_told [some (vR ((30, 0))), some (vI e), some (vI w)] rfl (Nat.le_of_ble_eq_true rfl) ?_
  have hq : 0 < ρ.1 0 ∧ ρ.1 0 ≤ 10007 := by have := h.2.2.1; omega
  have hg := h.2.2.2.1
  refine S_aload_n dX9_told_0 rfl ?_
  refine S_iload_n dX9_told_1 rfl ?_
  refine S_callV (mi := mi_X9_told) [vI e] ok_X9_isEnd ml_X9_172 dX9_told_2 rfl (by decide) rfl (by decide) rfl (Nat.le_of_ble_eq_true rfl) rfl (r_X9_isEnd (ρ := ρ) e (by omega) (show 0 ≤ ρ.1 4 ∧ ρ.1 4 ≤ 6 from by omega) M hR) ?_
  rintro v' M1 ⟨⟨rfl, b_2⟩ | ⟨rfl, b_2⟩, hR1, hS1'⟩
  · have hS1 := hS.trans hS1'
    obtain ⟨i, rfl⟩ : ∃ i : Nat, e = ↑i := ⟨e.toNat, by omega⟩
    refine S_if_eq 18 dX9_told_5 (by decide) (by omega) (fun c_5 => absurd c_5 (by omega)) (fun c_5 => ?_)
    refine S_iload_n dX9_told_8 rfl ?_
    refine S_iconst dX9_told_9 ?_
    refine S_bipush dX9_told_10 (by decide) ?_
    refine S_callS (mi := mi_X9_told) [vI w, vI 0, vI 9] ok_X9_in ml_X9_138 dX9_told_12 (by decide) rfl (Nat.le_of_ble_eq_true rfl) rfl (r_X9_in (ρ := ρ) w 0 9 (by omega) (by omega) (by omega) M1 hR1) ?_
    rintro v' M2 ⟨⟨rfl, b_12⟩ | ⟨rfl, b_12⟩, hR2, hS2'⟩
    · have hS2 := hS1.trans hS2'
      refine S_if_ne 20 dX9_told_15 (by decide) (by omega) (fun c_15 => ?_) (fun c_15 => absurd c_15 (by omega))
      refine S_iload_n dX9_told_20 rfl ?_
      refine S_if_ne 31 dX9_told_21 (by decide) (by omega) (fun c_21 => ?_) (fun c_21 => ?_)
      · refine S_aload_n dX9_told_31 rfl ?_
        refine S_getP fl_X9_48 dX9_told_32 rfl rfl (hR2.p 14 rfl) ?_
        refine S_iload_n dX9_told_35 rfl ?_
        refine S_iconst dX9_told_36 ?_
        refine S_idiv dX9_told_37 (by omega) (by omega) ?_
        rw [show Int.tdiv (↑i) 2 = (↑(i / 2) : Int) from rfl]
        refine R_bld (v := ρ.2 14 ((i / 2))) ((i / 2)) hR2 dX9_told_38 rfl rfl (by omega) (show _ < 6 from by omega) rfl ?_
        refine S_if_ne 44 dX9_told_39 (by decide) (by have := hst (i / 2) (by omega); omega) (fun c_39 => ?_) (fun c_39 => ?_)
        · obtain ⟨⟨s9, hs1, hs2, hs3⟩, ⟨r9, hr1, hr2, hr3⟩, hsc, htc⟩ := hE i (by omega) (by omega)
          have hw9 := hSe s9 hs2 hs3
          have hl8 := h.2.1
          refine S_iload_n dX9_told_44 rfl ?_
          rcases (show w = 1 ∨ w = 2 ∨ w = 3 ∨ w = 4 ∨ w = 5 ∨ w = 6 ∨ w = 7 ∨ w = 8 ∨ (w < 1 ∨ 8 < w) from by omega) with t_45 | t_45 | t_45 | t_45 | t_45 | t_45 | t_45 | t_45 | t_45
          · refine S_tableIn 92 dX9_told_45 (by omega) (by omega) (by rw [t_45]; rfl) (by decide) ?_
            refine S_aload_n dX9_told_92 rfl ?_
            refine S_aload_n dX9_told_93 rfl ?_
            refine S_getP fl_X9_51 dX9_told_94 rfl rfl (hR2.p 15 rfl) ?_
            refine S_iload_n dX9_told_97 rfl ?_
            refine R_ald (v := ↑s9) i hR2 dX9_told_98 rfl rfl (by omega) (show _ < 12 from by omega) hs1 ?_
            refine S_callV (mi := mi_X9_told) [vI (↑s9)] ok_X9_publicOf ml_X9_152 dX9_told_99 rfl (by decide) rfl (by decide) rfl (Nat.le_of_ble_eq_true rfl) rfl (r_X9_publicOf (ρ := ρ) s9 (ρ.2 9 s9).toNat (by omega) (by omega) (by omega) hg hq M2 hR2) ?_
            rintro v' M3 ⟨rfl, hR3, hS3'⟩
            have hS3 := hS2.trans hS3'
            exact S_iret dX9_told_102 rfl (Or.inl rfl) (by have e9 : toldV ρ (↑i) w = (powF (ρ.1 0) (ρ.1 1) ((ρ.2 9 s9).toNat) : Int) := (by unfold toldV; simp only [Int.toNat_natCast, hs1]; (repeat (first | rw [if_pos (by omega)] | rw [if_neg (by omega)])); try rfl); rw [e9]; exact ⟨rfl, hR3, hS3⟩)
          · refine S_tableIn 103 dX9_told_45 (by omega) (by omega) (by rw [t_45]; rfl) (by decide) ?_
            refine S_aload_n dX9_told_103 rfl ?_
            refine S_getP fl_X9_32 dX9_told_104 rfl rfl (hR2.p 9 rfl) ?_
            refine S_aload_n dX9_told_107 rfl ?_
            refine S_getP fl_X9_54 dX9_told_108 rfl rfl (hR2.p 16 rfl) ?_
            refine S_iload_n dX9_told_111 rfl ?_
            refine R_ald (v := ↑r9) i hR2 dX9_told_112 rfl rfl (by omega) (show _ < 12 from by omega) hr1 ?_
            refine R_ald (v := ρ.2 9 r9) r9 hR2 dX9_told_113 rfl rfl (by omega) (show _ < 8000 from by omega) rfl ?_
            exact S_iret dX9_told_114 rfl (Or.inl rfl) (by have e9 : toldV ρ (↑i) w = (ρ.2 9 r9 : Int) := (by unfold toldV; simp only [Int.toNat_natCast, hr1]; (repeat (first | rw [if_pos (by omega)] | rw [if_neg (by omega)])); try rfl); rw [e9]; exact ⟨rfl, hR2, hS2⟩)
          · refine S_tableIn 115 dX9_told_45 (by omega) (by omega) (by rw [t_45]; rfl) (by decide) ?_
            refine S_aload_n dX9_told_115 rfl ?_
            refine S_aload_n dX9_told_116 rfl ?_
            refine S_getP fl_X9_57 dX9_told_117 rfl rfl (hR2.p 17 rfl) ?_
            refine S_iload_n dX9_told_120 rfl ?_
            refine R_ald (v := ρ.2 17 i) i hR2 dX9_told_121 rfl rfl (by omega) (show _ < 12 from by omega) rfl ?_
            refine S_callV (mi := mi_X9_told) [vI (ρ.2 17 i)] ok_X9_worthOf ml_X9_241 dX9_told_122 rfl (by decide) rfl (by decide) rfl (Nat.le_of_ble_eq_true rfl) rfl (r_X9_worthOf (ρ := ρ) (ρ.2 17 i) (by rcases hsc with h9 | ⟨c9, h9, h8, -⟩ <;> omega) M2 hR2) ?_
            rintro v' M4 ⟨rfl, hR4, hS4'⟩
            have hS4 := hS2.trans hS4'
            exact S_iret dX9_told_125 rfl (Or.inl rfl) (by have e9 : toldV ρ (↑i) w = (wofV ρ (ρ.2 17 i) : Int) := (by unfold toldV; simp only [Int.toNat_natCast]; (repeat (first | rw [if_pos (by omega)] | rw [if_neg (by omega)])); try rfl); rw [e9]; exact ⟨rfl, hR4, hS4⟩)
          · refine S_tableIn 126 dX9_told_45 (by omega) (by omega) (by rw [t_45]; rfl) (by decide) ?_
            refine S_aload_n dX9_told_126 rfl ?_
            refine S_aload_n dX9_told_127 rfl ?_
            refine S_getP fl_X9_60 dX9_told_128 rfl rfl (hR2.p 18 rfl) ?_
            refine S_iload_n dX9_told_131 rfl ?_
            refine R_ald (v := ρ.2 18 i) i hR2 dX9_told_132 rfl rfl (by omega) (show _ < 12 from by omega) rfl ?_
            refine S_callV (mi := mi_X9_told) [vI (ρ.2 18 i)] ok_X9_worthOf ml_X9_241 dX9_told_133 rfl (by decide) rfl (by decide) rfl (Nat.le_of_ble_eq_true rfl) rfl (r_X9_worthOf (ρ := ρ) (ρ.2 18 i) (by rcases htc with h9 | ⟨c9, h9, h8, -⟩ <;> omega) M2 hR2) ?_
            rintro v' M5 ⟨rfl, hR5, hS5'⟩
            have hS5 := hS2.trans hS5'
            exact S_iret dX9_told_136 rfl (Or.inl rfl) (by have e9 : toldV ρ (↑i) w = (wofV ρ (ρ.2 18 i) : Int) := (by unfold toldV; simp only [Int.toNat_natCast]; (repeat (first | rw [if_pos (by omega)] | rw [if_neg (by omega)])); try rfl); rw [e9]; exact ⟨rfl, hR5, hS5⟩)
          · refine S_tableIn 137 dX9_told_45 (by omega) (by omega) (by rw [t_45]; rfl) (by decide) ?_
            refine S_aload_n dX9_told_137 rfl ?_
            refine S_getP fl_X9_63 dX9_told_138 rfl rfl (hR2.p 19 rfl) ?_
            refine S_iload_n dX9_told_141 rfl ?_
            refine R_ald (v := ρ.2 19 i) i hR2 dX9_told_142 rfl rfl (by omega) (show _ < 12 from by omega) rfl ?_
            exact S_iret dX9_told_143 rfl (Or.inl rfl) (by have e9 : toldV ρ (↑i) w = (ρ.2 19 i : Int) := (by unfold toldV; simp only [Int.toNat_natCast]; (repeat (first | rw [if_pos (by omega)] | rw [if_neg (by omega)])); try rfl); rw [e9]; exact ⟨rfl, hR2, hS2⟩)
          · refine S_tableIn 144 dX9_told_45 (by omega) (by omega) (by rw [t_45]; rfl) (by decide) ?_
            refine S_aload_n dX9_told_144 rfl ?_
            refine S_getP fl_X9_66 dX9_told_145 rfl rfl (hR2.p 20 rfl) ?_
            refine S_iload_n dX9_told_148 rfl ?_
            refine R_ald (v := ρ.2 20 i) i hR2 dX9_told_149 rfl rfl (by omega) (show _ < 12 from by omega) rfl ?_
            exact S_iret dX9_told_150 rfl (Or.inl rfl) (by have e9 : toldV ρ (↑i) w = (ρ.2 20 i : Int) := (by unfold toldV; simp only [Int.toNat_natCast]; (repeat (first | rw [if_pos (by omega)] | rw [if_neg (by omega)])); try rfl); rw [e9]; exact ⟨rfl, hR2, hS2⟩)
          · refine S_tableIn 151 dX9_told_45 (by omega) (by omega) (by rw [t_45]; rfl) (by decide) ?_
            refine S_aload_n dX9_told_151 rfl ?_
            refine S_getP fl_X9_69 dX9_told_152 rfl rfl (hR2.p 21 rfl) ?_
            refine S_iload_n dX9_told_155 rfl ?_
            refine R_ald (v := ρ.2 21 i) i hR2 dX9_told_156 rfl rfl (by omega) (show _ < 12 from by omega) rfl ?_
            exact S_iret dX9_told_157 rfl (Or.inl rfl) (by have e9 : toldV ρ (↑i) w = (ρ.2 21 i : Int) := (by unfold toldV; simp only [Int.toNat_natCast]; (repeat (first | rw [if_pos (by omega)] | rw [if_neg (by omega)])); try rfl); rw [e9]; exact ⟨rfl, hR2, hS2⟩)
          · refine S_tableIn 158 dX9_told_45 (by omega) (by omega) (by rw [t_45]; rfl) (by decide) ?_
            refine S_aload_n dX9_told_158 rfl ?_
            refine S_getP fl_X9_72 dX9_told_159 rfl rfl (hR2.p 22 rfl) ?_
            refine S_iload_n dX9_told_162 rfl ?_
            refine R_ald (v := ρ.2 22 i) i hR2 dX9_told_163 rfl rfl (by omega) (show _ < 12 from by omega) rfl ?_
            exact S_iret dX9_told_164 rfl (Or.inl rfl) (by have e9 : toldV ρ (↑i) w = (ρ.2 22 i : Int) := (by unfold toldV; simp only [Int.toNat_natCast]; (repeat (first | rw [if_pos (by omega)] | rw [if_neg (by omega)])); try rfl); rw [e9]; exact ⟨rfl, hR2, hS2⟩)
          · refine S_tableOut 165 dX9_told_45 (by omega) t_45 (by decide) ?_
            refine S_aload_n dX9_told_165 rfl ?_
            refine S_getP fl_X9_81 dX9_told_166 rfl rfl (hR2.p 25 rfl) ?_
            refine S_iload_n dX9_told_169 rfl ?_
            refine R_ald (v := ρ.2 25 i) i hR2 dX9_told_170 rfl rfl (by omega) (show _ < 12 from by omega) rfl ?_
            exact S_iret dX9_told_171 rfl (Or.inl rfl) (by have e9 : toldV ρ (↑i) w = (ρ.2 25 i : Int) := (by unfold toldV; simp only [Int.toNat_natCast]; (repeat (first | rw [if_pos (by omega)] | rw [if_neg (by omega)])); try rfl); rw [e9]; exact ⟨rfl, hR2, hS2⟩)
        · refine S_iconst dX9_told_42 ?_
          exact S_iret dX9_told_43 rfl (Or.inl rfl) (by have e9 : toldV ρ (↑i) w = ((-1) : Int) := (by unfold toldV; simp only [Int.toNat_natCast]; (repeat (first | rw [if_pos (by omega)] | rw [if_neg (by omega)])); try rfl); rw [e9]; exact ⟨rfl, hR2, hS2⟩)
      · refine S_aload_n dX9_told_24 rfl ?_
        refine S_getP fl_X9_42 dX9_told_25 rfl rfl (hR2.p 12 rfl) ?_
        refine S_iload_n dX9_told_28 rfl ?_
        refine R_ald (v := ρ.2 12 i) i hR2 dX9_told_29 rfl rfl (by omega) (show _ < 12 from by omega) rfl ?_
        exact S_iret dX9_told_30 rfl (Or.inl rfl) (by have e9 : toldV ρ (↑i) w = (ρ.2 12 i : Int) := (by unfold toldV; simp only [Int.toNat_natCast]; (repeat (first | rw [if_pos (by omega)] | rw [if_neg (by omega)])); try rfl); rw [e9]; exact ⟨rfl, hR2, hS2⟩)
    · have hS2 := hS1.trans hS2'
      refine S_if_ne 20 dX9_told_15 (by decide) (by omega) (fun c_15 => absurd c_15 (by omega)) (fun c_15 => ?_)
      refine S_iconst dX9_told_18 ?_
      exact S_iret dX9_told_19 rfl (Or.inl rfl) (by have e9 : toldV ρ (↑i) w = ((-1) : Int) := (by unfold toldV; simp only [Int.toNat_natCast]; (repeat (first | rw [if_pos (by omega)] | rw [if_neg (by omega)])); try rfl); rw [e9]; exact ⟨rfl, hR2, hS2⟩)
  · have hS1 := hS.trans hS1'
    refine S_if_eq 18 dX9_told_5 (by decide) (by omega) (fun c_5 => ?_) (fun c_5 => absurd c_5 (by omega))
    refine S_iconst dX9_told_18 ?_
    exact S_iret dX9_told_19 rfl (Or.inl rfl) (by have e9 : toldV ρ e w = ((-1) : Int) := (by unfold toldV; (repeat (first | rw [if_pos (by omega)] | rw [if_neg (by omega)])); try rfl); rw [e9]; exact ⟨rfl, hR1, hS1⟩)
def skippedV (ρ : RS) (e i w : Int) : Int := if ¬ (0 ≤ e ∧ e ≤ 2 * ρ.1 4 - 1) ∨ ¬ (0 ≤ i ∧ i ≤ ρ.2 25 e.toNat - 1) ∨ ¬ (0 ≤ w ∧ w ≤ 3) then -1 else
  if w = 0 then ρ.2 26 (12 * e.toNat + i.toNat) else if w = 1 then ρ.2 27 (12 * e.toNat + i.toNat) else if w = 2 then ρ.2 9 (ρ.2 28 (12 * e.toNat + i.toNat)).toNat else ρ.2 29 (12 * e.toNat + i.toNat)
def letterV (ρ : RS) (l w : Int) : Int := if ¬ (0 ≤ l ∧ l ≤ ρ.1 30 - 1) ∨ ¬ (0 ≤ w ∧ w ≤ 5) then -1 else
  if w = 0 then ρ.2 31 l.toNat else if w = 1 then ρ.2 32 l.toNat else if w = 2 then ρ.2 33 l.toNat else if w = 3 then ρ.2 34 l.toNat else if w = 4 then ρ.2 35 l.toNat else ρ.2 36 l.toNat
set_option maxRecDepth 100000 in
theorem r_X9_skipped {G : Ge} {ρ : RS} (e i w : Int) (e32 : -2147483648 ≤ e ∧ e < 2147483648) (i32 : -2147483648 ≤ i ∧ i < 2147483648) (w32 : -2147483648 ≤ w ∧ w < 2147483648) (hp : 0 ≤ ρ.1 4 ∧ ρ.1 4 ≤ 6) (hK : KOK ρ) (N : Nat) (h : ThOK ρ N) (hN : N < 8000) (hk : ∀ e j n : Nat, e < 12 → ρ.2 25 e = ↑n → j < n → ∃ k : Nat, ρ.2 28 (12 * e + j) = ↑k ∧ k < thN ρ) : RC G mi_X9_skipped [vR ((30, 0)), vI e, vI i, vI w] ρ (some (vI (skippedV ρ e i w))) ρ := by
  intro M hR
  have hS := SameR.rf M
  refine Ct.of pl_X9_skipped [some (vR ((30, 0))), some (vI e), some (vI i), some (vI w), none] rfl (Nat.le_of_ble_eq_true rfl) ?_
  refine S_aload_n dX9_skipped_0 rfl ?_
  refine S_iload_n dX9_skipped_1 rfl ?_
  refine S_callV (mi := mi_X9_skipped) [vI e] ok_X9_isEnd ml_X9_172 dX9_skipped_2 rfl (by decide) rfl (by decide) rfl (Nat.le_of_ble_eq_true rfl) rfl (r_X9_isEnd (ρ := ρ) e (by omega) (show 0 ≤ ρ.1 4 ∧ ρ.1 4 ≤ 6 from by omega) M hR) ?_
  rintro v' M1 ⟨⟨rfl, b_2⟩ | ⟨rfl, b_2⟩, hR1, hS1'⟩
  · have hS1 := hS.trans hS1'
    obtain ⟨x, rfl⟩ : ∃ x : Nat, e = ↑x := ⟨e.toNat, by omega⟩
    obtain ⟨n, hn, hr⟩ := hK.1 x (by omega)
    have hl8 := h.2.1
    refine S_if_eq 33 dX9_skipped_5 (by decide) (by omega) (fun c_5 => absurd c_5 (by omega)) (fun c_5 => ?_)
    refine S_iload_n dX9_skipped_8 rfl ?_
    refine S_iconst dX9_skipped_9 ?_
    refine S_aload_n dX9_skipped_10 rfl ?_
    refine S_getP fl_X9_81 dX9_skipped_11 rfl rfl (hR1.p 25 rfl) ?_
    refine S_iload_n dX9_skipped_14 rfl ?_
    refine R_ald (v := ↑n) x hR1 dX9_skipped_15 rfl rfl (by omega) (show _ < 12 from by omega) hr ?_
    refine S_iconst dX9_skipped_16 ?_
    refine S_isub dX9_skipped_17 ?_
    refine S_callS (mi := mi_X9_skipped) [vI i, vI 0, vI ((↑n) - 1)] ok_X9_in ml_X9_138 dX9_skipped_18 (by decide) rfl (Nat.le_of_ble_eq_true rfl) rfl (r_X9_in (ρ := ρ) i 0 ((↑n) - 1) (by omega) (by omega) (by omega) M1 hR1) ?_
    rintro v' M2 ⟨⟨rfl, b_18⟩ | ⟨rfl, b_18⟩, hR2, hS2'⟩
    · have hS2 := hS1.trans hS2'
      obtain ⟨y, rfl⟩ : ∃ y : Nat, i = ↑y := ⟨i.toNat, by omega⟩
      obtain ⟨kk, hk1, hk2⟩ := hk x y n (by omega) hr (by omega)
      refine S_if_eq 33 dX9_skipped_21 (by decide) (by omega) (fun c_21 => absurd c_21 (by omega)) (fun c_21 => ?_)
      refine S_iload_n dX9_skipped_24 rfl ?_
      refine S_iconst dX9_skipped_25 ?_
      refine S_iconst dX9_skipped_26 ?_
      refine S_callS (mi := mi_X9_skipped) [vI w, vI 0, vI 3] ok_X9_in ml_X9_138 dX9_skipped_27 (by decide) rfl (Nat.le_of_ble_eq_true rfl) rfl (r_X9_in (ρ := ρ) w 0 3 (by omega) (by omega) (by omega) M2 hR2) ?_
      rintro v' M3 ⟨⟨rfl, b_27⟩ | ⟨rfl, b_27⟩, hR3, hS3'⟩
      · have hS3 := hS2.trans hS3'
        refine S_if_ne 35 dX9_skipped_30 (by decide) (by omega) (fun c_30 => ?_) (fun c_30 => absurd c_30 (by omega))
        refine S_bipush dX9_skipped_35 (by decide) ?_
        refine S_iload_n dX9_skipped_37 rfl ?_
        refine S_imul dX9_skipped_38 ?_
        refine S_iload_n dX9_skipped_39 rfl ?_
        refine S_iadd dX9_skipped_40 ?_
        rw [show ((12 * (↑x)) + (↑y) : Int) = ↑(12 * x + y) from by omega]
        refine S_istore dX9_skipped_41 (by decide) ?_
        refine S_iload_n dX9_skipped_43 rfl ?_
        refine S_if_ne 57 dX9_skipped_44 (by decide) (by omega) (fun c_44 => ?_) (fun c_44 => ?_)
        · refine S_iload_n dX9_skipped_57 rfl ?_
          refine S_iconst dX9_skipped_58 ?_
          refine S_icmp_ne 72 dX9_skipped_59 (by decide) (by omega) (fun c_59 => ?_) (fun c_59 => ?_)
          · refine S_iload_n dX9_skipped_72 rfl ?_
            refine S_iconst dX9_skipped_73 ?_
            refine S_icmp_ne 92 dX9_skipped_74 (by decide) (by omega) (fun c_74 => ?_) (fun c_74 => ?_)
            · refine S_aload_n dX9_skipped_92 rfl ?_
              refine S_getP fl_X9_93 dX9_skipped_93 rfl rfl (hR3.p 29 rfl) ?_
              refine S_iload dX9_skipped_96 rfl ?_
              refine R_ald (v := ρ.2 29 ((12 * x + y))) ((12 * x + y)) hR3 dX9_skipped_98 rfl rfl (by omega) (show _ < 144 from by omega) rfl ?_
              exact S_iret dX9_skipped_99 rfl (Or.inl rfl) (by have e9 : skippedV ρ (↑x) (↑y) w = (ρ.2 29 ((12 * x + y)) : Int) := (by unfold skippedV; simp only [Int.toNat_natCast, hr]; (repeat (first | rw [if_pos (by omega)] | rw [if_neg (by omega)])); try rfl); rw [e9]; exact ⟨rfl, hR3, hS3⟩)
            · refine S_aload_n dX9_skipped_77 rfl ?_
              refine S_getP fl_X9_32 dX9_skipped_78 rfl rfl (hR3.p 9 rfl) ?_
              refine S_aload_n dX9_skipped_81 rfl ?_
              refine S_getP fl_X9_90 dX9_skipped_82 rfl rfl (hR3.p 28 rfl) ?_
              refine S_iload dX9_skipped_85 rfl ?_
              refine R_ald (v := ↑kk) ((12 * x + y)) hR3 dX9_skipped_87 rfl rfl (by omega) (show _ < 144 from by omega) hk1 ?_
              refine R_ald (v := ρ.2 9 kk) kk hR3 dX9_skipped_88 rfl rfl (by omega) (show _ < 8000 from by omega) rfl ?_
              refine S_goto 99 dX9_skipped_89 (by decide) ?_
              exact S_iret dX9_skipped_99 rfl (Or.inl rfl) (by have e9 : skippedV ρ (↑x) (↑y) w = (ρ.2 9 kk : Int) := (by unfold skippedV; simp only [Int.toNat_natCast, hr, hk1]; (repeat (first | rw [if_pos (by omega)] | rw [if_neg (by omega)])); try rfl); rw [e9]; exact ⟨rfl, hR3, hS3⟩)
          · refine S_aload_n dX9_skipped_62 rfl ?_
            refine S_getP fl_X9_87 dX9_skipped_63 rfl rfl (hR3.p 27 rfl) ?_
            refine S_iload dX9_skipped_66 rfl ?_
            refine R_ald (v := ρ.2 27 ((12 * x + y))) ((12 * x + y)) hR3 dX9_skipped_68 rfl rfl (by omega) (show _ < 144 from by omega) rfl ?_
            refine S_goto 99 dX9_skipped_69 (by decide) ?_
            exact S_iret dX9_skipped_99 rfl (Or.inl rfl) (by have e9 : skippedV ρ (↑x) (↑y) w = (ρ.2 27 ((12 * x + y)) : Int) := (by unfold skippedV; simp only [Int.toNat_natCast, hr]; (repeat (first | rw [if_pos (by omega)] | rw [if_neg (by omega)])); try rfl); rw [e9]; exact ⟨rfl, hR3, hS3⟩)
        · refine S_aload_n dX9_skipped_47 rfl ?_
          refine S_getP fl_X9_84 dX9_skipped_48 rfl rfl (hR3.p 26 rfl) ?_
          refine S_iload dX9_skipped_51 rfl ?_
          refine R_ald (v := ρ.2 26 ((12 * x + y))) ((12 * x + y)) hR3 dX9_skipped_53 rfl rfl (by omega) (show _ < 144 from by omega) rfl ?_
          refine S_goto 99 dX9_skipped_54 (by decide) ?_
          exact S_iret dX9_skipped_99 rfl (Or.inl rfl) (by have e9 : skippedV ρ (↑x) (↑y) w = (ρ.2 26 ((12 * x + y)) : Int) := (by unfold skippedV; simp only [Int.toNat_natCast, hr]; (repeat (first | rw [if_pos (by omega)] | rw [if_neg (by omega)])); try rfl); rw [e9]; exact ⟨rfl, hR3, hS3⟩)
      · have hS3 := hS2.trans hS3'
        refine S_if_ne 35 dX9_skipped_30 (by decide) (by omega) (fun c_30 => absurd c_30 (by omega)) (fun c_30 => ?_)
        refine S_iconst dX9_skipped_33 ?_
        exact S_iret dX9_skipped_34 rfl (Or.inl rfl) (by have e9 : skippedV ρ (↑x) (↑y) w = ((-1) : Int) := (by unfold skippedV; simp only [Int.toNat_natCast, hr]; (repeat (first | rw [if_pos (by omega)] | rw [if_neg (by omega)])); try rfl); rw [e9]; exact ⟨rfl, hR3, hS3⟩)
    · have hS2 := hS1.trans hS2'
      refine S_if_eq 33 dX9_skipped_21 (by decide) (by omega) (fun c_21 => ?_) (fun c_21 => absurd c_21 (by omega))
      refine S_iconst dX9_skipped_33 ?_
      exact S_iret dX9_skipped_34 rfl (Or.inl rfl) (by have e9 : skippedV ρ (↑x) i w = ((-1) : Int) := (by unfold skippedV; simp only [Int.toNat_natCast, hr]; (repeat (first | rw [if_pos (by omega)] | rw [if_neg (by omega)])); try rfl); rw [e9]; exact ⟨rfl, hR2, hS2⟩)
  · have hS1 := hS.trans hS1'
    refine S_if_eq 33 dX9_skipped_5 (by decide) (by omega) (fun c_5 => ?_) (fun c_5 => absurd c_5 (by omega))
    refine S_iconst dX9_skipped_33 ?_
    exact S_iret dX9_skipped_34 rfl (Or.inl rfl) (by have e9 : skippedV ρ e i w = ((-1) : Int) := (by unfold skippedV; (repeat (first | rw [if_pos (by omega)] | rw [if_neg (by omega)])); try rfl); rw [e9]; exact ⟨rfl, hR1, hS1⟩)
set_option maxRecDepth 100000 in
theorem r_X9_letter {G : Ge} {ρ : RS} (l w : Int) (l32 : -2147483648 ≤ l ∧ l < 2147483648) (w32 : -2147483648 ≤ w ∧ w < 2147483648) (hl : 0 ≤ ρ.1 30 ∧ ρ.1 30 ≤ 300) : RC G mi_X9_letter [vR ((30, 0)), vI l, vI w] ρ (some (vI (letterV ρ l w))) ρ := by
  intro M hR
  have hS := SameR.rf M
  refine Ct.of pl_X9_letter [some (vR ((30, 0))), some (vI l), some (vI w)] rfl (Nat.le_of_ble_eq_true rfl) ?_
  refine S_aload_n dX9_letter_0 rfl ?_
  refine S_iload_n dX9_letter_1 rfl ?_
  refine S_callV (mi := mi_X9_letter) [vI l] ok_X9_isLetter ml_X9_191 dX9_letter_2 rfl (by decide) rfl (by decide) rfl (Nat.le_of_ble_eq_true rfl) rfl (r_X9_isLetter (ρ := ρ) l (by omega) (show 0 ≤ ρ.1 30 ∧ ρ.1 30 ≤ 300 from by omega) M hR) ?_
  rintro v' M1 ⟨⟨rfl, b_2⟩ | ⟨rfl, b_2⟩, hR1, hS1'⟩
  · have hS1 := hS.trans hS1'
    obtain ⟨i, rfl⟩ : ∃ i : Nat, l = ↑i := ⟨l.toNat, by omega⟩
    refine S_if_eq 17 dX9_letter_5 (by decide) (by omega) (fun c_5 => absurd c_5 (by omega)) (fun c_5 => ?_)
    refine S_iload_n dX9_letter_8 rfl ?_
    refine S_iconst dX9_letter_9 ?_
    refine S_iconst dX9_letter_10 ?_
    refine S_callS (mi := mi_X9_letter) [vI w, vI 0, vI 5] ok_X9_in ml_X9_138 dX9_letter_11 (by decide) rfl (Nat.le_of_ble_eq_true rfl) rfl (r_X9_in (ρ := ρ) w 0 5 (by omega) (by omega) (by omega) M1 hR1) ?_
    rintro v' M2 ⟨⟨rfl, b_11⟩ | ⟨rfl, b_11⟩, hR2, hS2'⟩
    · have hS2 := hS1.trans hS2'
      refine S_if_ne 19 dX9_letter_14 (by decide) (by omega) (fun c_14 => ?_) (fun c_14 => absurd c_14 (by omega))
      refine S_iload_n dX9_letter_19 rfl ?_
      rcases (show w = 0 ∨ w = 1 ∨ w = 2 ∨ w = 3 ∨ w = 4 ∨ (w < 0 ∨ 4 < w) from by omega) with t_20 | t_20 | t_20 | t_20 | t_20 | t_20
      · refine S_tableIn 56 dX9_letter_20 (by omega) (by omega) (by rw [t_20]; rfl) (by decide) ?_
        refine S_aload_n dX9_letter_56 rfl ?_
        refine S_getP fl_X9_96 dX9_letter_57 rfl rfl (hR2.p 31 rfl) ?_
        refine S_iload_n dX9_letter_60 rfl ?_
        refine R_ald (v := ρ.2 31 i) i hR2 dX9_letter_61 rfl rfl (by omega) (show _ < 300 from by omega) rfl ?_
        exact S_iret dX9_letter_62 rfl (Or.inl rfl) (by have e9 : letterV ρ (↑i) w = (ρ.2 31 i : Int) := (by unfold letterV; simp only [Int.toNat_natCast]; (repeat (first | rw [if_pos (by omega)] | rw [if_neg (by omega)])); try rfl); rw [e9]; exact ⟨rfl, hR2, hS2⟩)
      · refine S_tableIn 63 dX9_letter_20 (by omega) (by omega) (by rw [t_20]; rfl) (by decide) ?_
        refine S_aload_n dX9_letter_63 rfl ?_
        refine S_getP fl_X9_99 dX9_letter_64 rfl rfl (hR2.p 32 rfl) ?_
        refine S_iload_n dX9_letter_67 rfl ?_
        refine R_ald (v := ρ.2 32 i) i hR2 dX9_letter_68 rfl rfl (by omega) (show _ < 300 from by omega) rfl ?_
        exact S_iret dX9_letter_69 rfl (Or.inl rfl) (by have e9 : letterV ρ (↑i) w = (ρ.2 32 i : Int) := (by unfold letterV; simp only [Int.toNat_natCast]; (repeat (first | rw [if_pos (by omega)] | rw [if_neg (by omega)])); try rfl); rw [e9]; exact ⟨rfl, hR2, hS2⟩)
      · refine S_tableIn 70 dX9_letter_20 (by omega) (by omega) (by rw [t_20]; rfl) (by decide) ?_
        refine S_aload_n dX9_letter_70 rfl ?_
        refine S_getP fl_X9_102 dX9_letter_71 rfl rfl (hR2.p 33 rfl) ?_
        refine S_iload_n dX9_letter_74 rfl ?_
        refine R_ald (v := ρ.2 33 i) i hR2 dX9_letter_75 rfl rfl (by omega) (show _ < 300 from by omega) rfl ?_
        exact S_iret dX9_letter_76 rfl (Or.inl rfl) (by have e9 : letterV ρ (↑i) w = (ρ.2 33 i : Int) := (by unfold letterV; simp only [Int.toNat_natCast]; (repeat (first | rw [if_pos (by omega)] | rw [if_neg (by omega)])); try rfl); rw [e9]; exact ⟨rfl, hR2, hS2⟩)
      · refine S_tableIn 77 dX9_letter_20 (by omega) (by omega) (by rw [t_20]; rfl) (by decide) ?_
        refine S_aload_n dX9_letter_77 rfl ?_
        refine S_getP fl_X9_105 dX9_letter_78 rfl rfl (hR2.p 34 rfl) ?_
        refine S_iload_n dX9_letter_81 rfl ?_
        refine R_ald (v := ρ.2 34 i) i hR2 dX9_letter_82 rfl rfl (by omega) (show _ < 300 from by omega) rfl ?_
        exact S_iret dX9_letter_83 rfl (Or.inl rfl) (by have e9 : letterV ρ (↑i) w = (ρ.2 34 i : Int) := (by unfold letterV; simp only [Int.toNat_natCast]; (repeat (first | rw [if_pos (by omega)] | rw [if_neg (by omega)])); try rfl); rw [e9]; exact ⟨rfl, hR2, hS2⟩)
      · refine S_tableIn 84 dX9_letter_20 (by omega) (by omega) (by rw [t_20]; rfl) (by decide) ?_
        refine S_aload_n dX9_letter_84 rfl ?_
        refine S_getP fl_X9_108 dX9_letter_85 rfl rfl (hR2.p 35 rfl) ?_
        refine S_iload_n dX9_letter_88 rfl ?_
        refine R_ald (v := ρ.2 35 i) i hR2 dX9_letter_89 rfl rfl (by omega) (show _ < 300 from by omega) rfl ?_
        exact S_iret dX9_letter_90 rfl (Or.inl rfl) (by have e9 : letterV ρ (↑i) w = (ρ.2 35 i : Int) := (by unfold letterV; simp only [Int.toNat_natCast]; (repeat (first | rw [if_pos (by omega)] | rw [if_neg (by omega)])); try rfl); rw [e9]; exact ⟨rfl, hR2, hS2⟩)
      · refine S_tableOut 91 dX9_letter_20 (by omega) t_20 (by decide) ?_
        refine S_aload_n dX9_letter_91 rfl ?_
        refine S_getP fl_X9_111 dX9_letter_92 rfl rfl (hR2.p 36 rfl) ?_
        refine S_iload_n dX9_letter_95 rfl ?_
        refine R_ald (v := ρ.2 36 i) i hR2 dX9_letter_96 rfl rfl (by omega) (show _ < 300 from by omega) rfl ?_
        exact S_iret dX9_letter_97 rfl (Or.inl rfl) (by have e9 : letterV ρ (↑i) w = (ρ.2 36 i : Int) := (by unfold letterV; simp only [Int.toNat_natCast]; (repeat (first | rw [if_pos (by omega)] | rw [if_neg (by omega)])); try rfl); rw [e9]; exact ⟨rfl, hR2, hS2⟩)
    · have hS2 := hS1.trans hS2'
      refine S_if_ne 19 dX9_letter_14 (by decide) (by omega) (fun c_14 => absurd c_14 (by omega)) (fun c_14 => ?_)
      refine S_iconst dX9_letter_17 ?_
      exact S_iret dX9_letter_18 rfl (Or.inl rfl) (by have e9 : letterV ρ (↑i) w = ((-1) : Int) := (by unfold letterV; simp only [Int.toNat_natCast]; (repeat (first | rw [if_pos (by omega)] | rw [if_neg (by omega)])); try rfl); rw [e9]; exact ⟨rfl, hR2, hS2⟩)
  · have hS1 := hS.trans hS1'
    refine S_if_eq 17 dX9_letter_5 (by decide) (by omega) (fun c_5 => ?_) (fun c_5 => absurd c_5 (by omega))
    refine S_iconst dX9_letter_17 ?_
    exact S_iret dX9_letter_18 rfl (Or.inl rfl) (by have e9 : letterV ρ l w = ((-1) : Int) := (by unfold letterV; (repeat (first | rw [if_pos (by omega)] | rw [if_neg (by omega)])); try rfl); rw [e9]; exact ⟨rfl, hR1, hS1⟩)
