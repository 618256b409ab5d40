/-! THE REFERENCE: things come -/
def ThOK (ρ : RS) (N : Nat) : Prop := ρ.1 5 = ↑(thN ρ) ∧ thN ρ ≤ N ∧ (3 ≤ ρ.1 0 ∧ ρ.1 0 ≤ 10007) ∧ (0 ≤ ρ.1 1 ∧ ρ.1 1 ≤ 10007) ∧ ∀ t, t < thN ρ → (0 ≤ ρ.2 6 t ∧ ρ.2 6 t ≤ 5) ∧ (-1 ≤ ρ.2 7 t ∧ ρ.2 7 t < t) ∧ (-1 ≤ ρ.2 8 t ∧ ρ.2 8 t < t) ∧ (0 ≤ ρ.2 9 t ∧ ρ.2 9 t ≤ 10007)
theorem thN_new {ρ : RS} {N : Nat} (h : ThOK ρ N) (k a b v : Int) : thN (newT ρ k a b v) = thN ρ + 1 := by
  show (ρ.1 5 + 1).toNat = _
  have := h.1; omega
theorem new_at (ρ : RS) (k a b v : Int) (i t : Nat) : (newT ρ k a b v).2 i t = if t = thN ρ ∧ 6 ≤ i ∧ i ≤ 10 then (if i = 6 then k else if i = 7 then a else if i = 8 then b else if i = 9 then v else 0) else ρ.2 i t := by
  show (if i = 10 ∧ t = thN ρ then 0 else if i = 9 ∧ t = thN ρ then v else if i = 8 ∧ t = thN ρ then b else if i = 7 ∧ t = thN ρ then a else if i = 6 ∧ t = thN ρ then k else ρ.2 i t) = _
  by_cases ht : t = thN ρ
  · by_cases h10 : i = 10
    · subst h10; simp [ht]
    · by_cases h9 : i = 9
      · subst h9; simp [ht]
      · by_cases h8 : i = 8
        · subst h8; simp [ht]
        · by_cases h7 : i = 7
          · subst h7; simp [ht]
          · by_cases h6 : i = 6
            · subst h6; simp [ht]
            · rw [if_neg (by omega), if_neg (by omega), if_neg (by omega), if_neg (by omega), if_neg (by omega), if_neg (by omega)]
  · rw [if_neg (by omega), if_neg (by omega), if_neg (by omega), if_neg (by omega), if_neg (by omega), if_neg (by omega)]
theorem new_old (ρ : RS) (k a b v : Int) (i t : Nat) (h : t ≠ thN ρ ∨ i < 6 ∨ 10 < i) : (newT ρ k a b v).2 i t = ρ.2 i t := by
  rw [new_at, if_neg (by omega)]
theorem new_s (ρ : RS) (k a b v : Int) (i : Nat) (h : i ≠ 5) : (newT ρ k a b v).1 i = ρ.1 i := if_neg h
theorem ThOK.new {ρ : RS} {N : Nat} (h : ThOK ρ N) {k a b v : Int} (hk : 0 ≤ k ∧ k ≤ 5) (ha : -1 ≤ a ∧ a < thN ρ) (hb : -1 ≤ b ∧ b < thN ρ) (hv : 0 ≤ v ∧ v ≤ 10007) : ThOK (newT ρ k a b v) (N + 1) := by
  have hn := thN_new h k a b v
  refine ⟨by rw [hn]; show ρ.1 5 + 1 = _; have := h.1; omega, by rw [hn]; have := h.2.1; omega, h.2.2.1, h.2.2.2.1, fun t ht => ?_⟩
  rw [hn] at ht
  by_cases e : t = thN ρ
  · rw [new_at, new_at, new_at, new_at]
    simp only [e, true_and]
    simp
    omega
  · rw [new_old _ _ _ _ _ _ _ (Or.inl e), new_old _ _ _ _ _ _ _ (Or.inl e), new_old _ _ _ _ _ _ _ (Or.inl e), new_old _ _ _ _ _ _ _ (Or.inl e)]
    exact h.2.2.2.2 t (by omega)
theorem ThOK.mono {ρ : RS} {N N' : Nat} (h : ThOK ρ N) (hN : N ≤ N') : ThOK ρ N' := ⟨h.1, Nat.le_trans h.2.1 hN, h.2.2⟩
theorem thR_cases (ρ : RS) (k a b v : Int) : (thI ρ k a b < thN ρ ∧ thR ρ k a b v = ρ) ∨ (thI ρ k a b = thN ρ ∧ thR ρ k a b v = newT ρ k a b v) := by
  have := thI_le ρ k a b
  by_cases h : thI ρ k a b < thN ρ
  · exact Or.inl ⟨h, thR_old h⟩
  · exact Or.inr ⟨by omega, thR_new (by omega)⟩
theorem ThOK.thR {ρ : RS} {N : Nat} (h : ThOK ρ N) {k a b v : Int} (hk : 0 ≤ k ∧ k ≤ 5) (ha : -1 ≤ a ∧ a < thN ρ) (hb : -1 ≤ b ∧ b < thN ρ) (hv : 0 ≤ v ∧ v ≤ 10007) : ThOK (thR ρ k a b v) (N + 1) ∧ thI ρ k a b < thN (thR ρ k a b v) ∧ thN ρ ≤ thN (thR ρ k a b v) := by
  rcases thR_cases ρ k a b v with ⟨h1, h2⟩ | ⟨h1, h2⟩
  · rw [h2]; exact ⟨h.mono (by omega), h1, Nat.le_refl _⟩
  · rw [h2, thN_new h]; exact ⟨h.new hk ha hb hv, by omega, by omega⟩
theorem thR_s (ρ : RS) (k a b v : Int) (i : Nat) (h : i ≠ 5) : (thR ρ k a b v).1 i = ρ.1 i := by
  rcases thR_cases ρ k a b v with ⟨-, h2⟩ | ⟨-, h2⟩ <;> rw [h2]
  exact new_s ρ k a b v i h
theorem thR_old_at (ρ : RS) (k a b v : Int) (i t : Nat) (h : t < thN ρ ∨ i < 6 ∨ 10 < i) : (thR ρ k a b v).2 i t = ρ.2 i t := by
  rcases thR_cases ρ k a b v with ⟨-, h2⟩ | ⟨-, h2⟩ <;> rw [h2]
  exact new_old ρ k a b v i t (by omega)
theorem ThOK.th {ρ : RS} {N : Nat} (h : ThOK ρ N) (hN : N < 8000) : ρ.1 5 = ↑(thN ρ) ∧ thN ρ < 8000 ∧ ∀ t, t < thN ρ → (-1 ≤ ρ.2 6 t ∧ ρ.2 6 t ≤ 8000) ∧ (-1 ≤ ρ.2 7 t ∧ ρ.2 7 t ≤ 8000) ∧ (-1 ≤ ρ.2 8 t ∧ ρ.2 8 t ≤ 8000) := ⟨h.1, by have := h.2.1; omega, fun t ht => by have := h.2.2.2.2 t ht; have := h.2.1; omega⟩
def meLo (a b : Nat) : Nat := if a < b then a else b
def meHi (a b : Nat) : Nat := if a < b then b else a
def meV (ρ : RS) (a b : Nat) : Int := powF (ρ.1 0) (powF (ρ.1 0) (ρ.1 1) (ρ.2 9 (meHi a b)).toNat) (ρ.2 9 (meLo a b)).toNat
def rtV (ρ : RS) (r : Int) (m : Nat) : Int := if r = -1 then ρ.2 9 m else mixF (ρ.1 0) (ρ.2 9 r.toNat) (ρ.2 9 m)
def chV (ρ : RS) (t : Nat) : Int := mixF (ρ.1 0) (ρ.2 9 t) (if ρ.2 6 t = 2 then 3 else 2)
def kyV (ρ : RS) (t : Nat) : Int := mixF (ρ.1 0) (ρ.2 9 t) 1
abbrev meI (ρ : RS) (a b : Nat) : Nat := thI ρ 5 (meLo a b) (meHi a b)
abbrev meR (ρ : RS) (a b : Nat) : RS := thR ρ 5 (meLo a b) (meHi a b) (meV ρ a b)
abbrev rtI (ρ : RS) (r : Int) (m : Nat) : Nat := thI ρ 2 r m
abbrev rtR (ρ : RS) (r : Int) (m : Nat) : RS := thR ρ 2 r m (rtV ρ r m)
abbrev chI (ρ : RS) (t : Nat) : Nat := thI ρ 1 t (-1)
abbrev chR (ρ : RS) (t : Nat) : RS := thR ρ 1 t (-1) (chV ρ t)
abbrev kyI (ρ : RS) (t : Nat) : Nat := thI ρ 0 t (-1)
abbrev kyR (ρ : RS) (t : Nat) : RS := thR ρ 0 t (-1) (kyV ρ t)
theorem r_X9_keyOf {G : Ge} {ρ : RS} (c : Nat) (N : Nat) (h : ThOK ρ N) (hN : N < 8000) (hc : c < thN ρ) : RC G mi_X9_keyOf [vR ((30, 0)), vI (↑c)] ρ (some (vI ↑(kyI ρ c))) (kyR ρ c) := by
  intro M hR
  have hS := SameR.rf M
  refine Ct.of pl_X9_keyOf [some (vR ((30, 0))), some (vI (↑c))] rfl (Nat.le_of_ble_eq_true rfl) ?_
  obtain ⟨e5, l8, hT⟩ := h.th hN
  have hq : 0 < ρ.1 0 ∧ ρ.1 0 ≤ 10007 := by have := h.2.2.1; omega
  have hg := h.2.2.2.1
  have hc1 := h.2.2.2.2 c hc
  refine S_aload_n dX9_keyOf_0 rfl ?_
  refine S_iconst dX9_keyOf_1 ?_
  refine S_iload_n dX9_keyOf_2 rfl ?_
  refine S_iconst dX9_keyOf_3 ?_
  refine S_aload_n dX9_keyOf_4 rfl ?_
  refine S_aload_n dX9_keyOf_5 rfl ?_
  refine S_getP fl_X9_32 dX9_keyOf_6 rfl rfl (hR.p 9 rfl) ?_
  refine S_iload_n dX9_keyOf_9 rfl ?_
  refine R_ald (v := ρ.2 9 c) c hR dX9_keyOf_10 rfl rfl (by omega) (show _ < 8000 from by omega) rfl ?_
  refine S_iconst dX9_keyOf_11 ?_
  refine S_callV (mi := mi_X9_keyOf) [vI (ρ.2 9 c), vI 1] ok_X9_mix ml_X9_160 dX9_keyOf_12 rfl (by decide) rfl (by decide) rfl (Nat.le_of_ble_eq_true rfl) rfl (r_X9_mix (ρ := ρ) (ρ.2 9 c) 1 (by omega) (by omega) hq M hR) ?_
  rintro v' M1 ⟨rfl, hR1, hS1'⟩
  have hS1 := hS.trans hS1'
  refine S_callV (mi := mi_X9_keyOf) [vI 0, vI (↑c), vI ((-1)), vI (mixF (ρ.1 0) (ρ.2 9 c) 1)] ok_X9_thing ml_X9_156 dX9_keyOf_15 rfl (by decide) rfl (by decide) rfl (Nat.le_of_ble_eq_true rfl) rfl (r_X9_thing (ρ := ρ) 0 (↑c) ((-1)) (mixF (ρ.1 0) (ρ.2 9 c) 1) e5 l8 (by omega) (by omega) (by omega) hT M1 hR1) ?_
  rintro v' M2 ⟨rfl, hR2, hS2'⟩
  have hS2 := hS1.trans hS2'
  exact S_iret dX9_keyOf_18 rfl (Or.inl rfl) ⟨rfl, hR2, hS2⟩
theorem r_X9_chainOf {G : Ge} {ρ : RS} (t : Nat) (N : Nat) (h : ThOK ρ N) (hN : N < 8000) (ht : t < thN ρ) : RC G mi_X9_chainOf [vR ((30, 0)), vI (↑t)] ρ (some (vI ↑(chI ρ t))) (chR ρ t) := by
  intro M hR
  have hS := SameR.rf M
  refine Ct.of pl_X9_chainOf [some (vR ((30, 0))), some (vI (↑t))] rfl (Nat.le_of_ble_eq_true rfl) ?_
  obtain ⟨e5, l8, hT⟩ := h.th hN
  have hq : 0 < ρ.1 0 ∧ ρ.1 0 ≤ 10007 := by have := h.2.2.1; omega
  have hg := h.2.2.2.1
  have hc1 := h.2.2.2.2 t ht
  refine S_aload_n dX9_chainOf_0 rfl ?_
  refine S_iconst dX9_chainOf_1 ?_
  refine S_iload_n dX9_chainOf_2 rfl ?_
  refine S_iconst dX9_chainOf_3 ?_
  refine S_aload_n dX9_chainOf_4 rfl ?_
  refine S_aload_n dX9_chainOf_5 rfl ?_
  refine S_getP fl_X9_32 dX9_chainOf_6 rfl rfl (hR.p 9 rfl) ?_
  refine S_iload_n dX9_chainOf_9 rfl ?_
  refine R_ald (v := ρ.2 9 t) t hR dX9_chainOf_10 rfl rfl (by omega) (show _ < 8000 from by omega) rfl ?_
  refine S_aload_n dX9_chainOf_11 rfl ?_
  refine S_getP fl_X9_22 dX9_chainOf_12 rfl rfl (hR.p 6 rfl) ?_
  refine S_iload_n dX9_chainOf_15 rfl ?_
  refine R_ald (v := ρ.2 6 t) t hR dX9_chainOf_16 rfl rfl (by omega) (show _ < 8000 from by omega) rfl ?_
  refine S_iconst dX9_chainOf_17 ?_
  refine S_icmp_ne 25 dX9_chainOf_18 (by decide) (by omega) (fun c_18 => ?_) (fun c_18 => ?_)
  · rw [show chR ρ t = thR ρ 1 t (-1) (mixF (ρ.1 0) (ρ.2 9 t) 2) from congrArg (thR ρ 1 t (-1)) (show chV ρ t = _ from by unfold chV; rw [if_neg c_18])]
    refine S_iconst dX9_chainOf_25 ?_
    refine S_callV (mi := mi_X9_chainOf) [vI (ρ.2 9 t), vI 2] ok_X9_mix ml_X9_160 dX9_chainOf_26 rfl (by decide) rfl (by decide) rfl (Nat.le_of_ble_eq_true rfl) rfl (r_X9_mix (ρ := ρ) (ρ.2 9 t) 2 (by omega) (by omega) hq M hR) ?_
    rintro v' M1 ⟨rfl, hR1, hS1'⟩
    have hS1 := hS.trans hS1'
    refine S_callV (mi := mi_X9_chainOf) [vI 1, vI (↑t), vI ((-1)), vI (mixF (ρ.1 0) (ρ.2 9 t) 2)] ok_X9_thing ml_X9_156 dX9_chainOf_29 rfl (by decide) rfl (by decide) rfl (Nat.le_of_ble_eq_true rfl) rfl (r_X9_thing (ρ := ρ) 1 (↑t) ((-1)) (mixF (ρ.1 0) (ρ.2 9 t) 2) e5 l8 (by omega) (by omega) (by omega) hT M1 hR1) ?_
    rintro v' M2 ⟨rfl, hR2, hS2'⟩
    have hS2 := hS1.trans hS2'
    exact S_iret dX9_chainOf_32 rfl (Or.inl rfl) ⟨rfl, hR2, hS2⟩
  · rw [show chR ρ t = thR ρ 1 t (-1) (mixF (ρ.1 0) (ρ.2 9 t) 3) from congrArg (thR ρ 1 t (-1)) (show chV ρ t = _ from by unfold chV; rw [if_pos (by omega)])]
    refine S_iconst dX9_chainOf_21 ?_
    refine S_goto 26 dX9_chainOf_22 (by decide) ?_
    refine S_callV (mi := mi_X9_chainOf) [vI (ρ.2 9 t), vI 3] ok_X9_mix ml_X9_160 dX9_chainOf_26 rfl (by decide) rfl (by decide) rfl (Nat.le_of_ble_eq_true rfl) rfl (r_X9_mix (ρ := ρ) (ρ.2 9 t) 3 (by omega) (by omega) hq M hR) ?_
    rintro v' M3 ⟨rfl, hR3, hS3'⟩
    have hS3 := hS.trans hS3'
    refine S_callV (mi := mi_X9_chainOf) [vI 1, vI (↑t), vI ((-1)), vI (mixF (ρ.1 0) (ρ.2 9 t) 3)] ok_X9_thing ml_X9_156 dX9_chainOf_29 rfl (by decide) rfl (by decide) rfl (Nat.le_of_ble_eq_true rfl) rfl (r_X9_thing (ρ := ρ) 1 (↑t) ((-1)) (mixF (ρ.1 0) (ρ.2 9 t) 3) e5 l8 (by omega) (by omega) (by omega) hT M3 hR3) ?_
    rintro v' M4 ⟨rfl, hR4, hS4'⟩
    have hS4 := hS3.trans hS4'
    exact S_iret dX9_chainOf_32 rfl (Or.inl rfl) ⟨rfl, hR4, hS4⟩
theorem r_X9_rootOf {G : Ge} {ρ : RS} (r : Int) (m : Nat) (N : Nat) (h : ThOK ρ N) (hN : N < 8000) (hr : r = -1 ∨ (0 ≤ r ∧ r < thN ρ)) (hm : m < thN ρ) : RC G mi_X9_rootOf [vR ((30, 0)), vI r, vI (↑m)] ρ (some (vI ↑(rtI ρ r m))) (rtR ρ r m) := by
  intro M hR
  have hS := SameR.rf M
  refine Ct.of pl_X9_rootOf [some (vR ((30, 0))), some (vI r), some (vI (↑m))] rfl (Nat.le_of_ble_eq_true rfl) ?_
  obtain ⟨e5, l8, hT⟩ := h.th hN
  have hq : 0 < ρ.1 0 ∧ ρ.1 0 ≤ 10007 := by have := h.2.2.1; omega
  have hg := h.2.2.2.1
  have hm1 := h.2.2.2.2 m hm
  refine S_aload_n dX9_rootOf_0 rfl ?_
  refine S_iconst dX9_rootOf_1 ?_
  refine S_iload_n dX9_rootOf_2 rfl ?_
  refine S_iload_n dX9_rootOf_3 rfl ?_
  refine S_iload_n dX9_rootOf_4 rfl ?_
  refine S_iconst dX9_rootOf_5 ?_
  refine S_icmp_ne 18 dX9_rootOf_6 (by decide) (by omega) (fun c_6 => ?_) (fun c_6 => ?_)
  · obtain ⟨j, rfl⟩ : ∃ j : Nat, r = ↑j := ⟨r.toNat, by omega⟩
    have hj1 := h.2.2.2.2 j (by omega)
    rw [show rtR ρ ↑j m = thR ρ 2 ↑j m (mixF (ρ.1 0) (ρ.2 9 j) (ρ.2 9 m)) from congrArg (thR ρ 2 ↑j m) (show rtV ρ ↑j m = _ from by unfold rtV; rw [if_neg c_6, Int.toNat_natCast])]
    refine S_aload_n dX9_rootOf_18 rfl ?_
    refine S_aload_n dX9_rootOf_19 rfl ?_
    refine S_getP fl_X9_32 dX9_rootOf_20 rfl rfl (hR.p 9 rfl) ?_
    refine S_iload_n dX9_rootOf_23 rfl ?_
    refine R_ald (v := ρ.2 9 j) j hR dX9_rootOf_24 rfl rfl (by omega) (show _ < 8000 from by omega) rfl ?_
    refine S_aload_n dX9_rootOf_25 rfl ?_
    refine S_getP fl_X9_32 dX9_rootOf_26 rfl rfl (hR.p 9 rfl) ?_
    refine S_iload_n dX9_rootOf_29 rfl ?_
    refine R_ald (v := ρ.2 9 m) m hR dX9_rootOf_30 rfl rfl (by omega) (show _ < 8000 from by omega) rfl ?_
    refine S_callV (mi := mi_X9_rootOf) [vI (ρ.2 9 j), vI (ρ.2 9 m)] ok_X9_mix ml_X9_160 dX9_rootOf_31 rfl (by decide) rfl (by decide) rfl (Nat.le_of_ble_eq_true rfl) rfl (r_X9_mix (ρ := ρ) (ρ.2 9 j) (ρ.2 9 m) (by omega) (by omega) hq M hR) ?_
    rintro v' M1 ⟨rfl, hR1, hS1'⟩
    have hS1 := hS.trans hS1'
    refine S_callV (mi := mi_X9_rootOf) [vI 2, vI (↑j), vI (↑m), vI (mixF (ρ.1 0) (ρ.2 9 j) (ρ.2 9 m))] ok_X9_thing ml_X9_156 dX9_rootOf_34 rfl (by decide) rfl (by decide) rfl (Nat.le_of_ble_eq_true rfl) rfl (r_X9_thing (ρ := ρ) 2 (↑j) (↑m) (mixF (ρ.1 0) (ρ.2 9 j) (ρ.2 9 m)) e5 l8 (by omega) (by omega) (by omega) hT M1 hR1) ?_
    rintro v' M2 ⟨rfl, hR2, hS2'⟩
    have hS2 := hS1.trans hS2'
    exact S_iret dX9_rootOf_37 rfl (Or.inl rfl) ⟨rfl, hR2, hS2⟩
  · obtain rfl : r = -1 := by omega
    rw [show rtR ρ (-1) m = thR ρ 2 (-1) m (ρ.2 9 m) from congrArg (thR ρ 2 (-1) m) (show rtV ρ (-1) m = _ from by unfold rtV; rw [if_pos rfl])]
    refine S_aload_n dX9_rootOf_9 rfl ?_
    refine S_getP fl_X9_32 dX9_rootOf_10 rfl rfl (hR.p 9 rfl) ?_
    refine S_iload_n dX9_rootOf_13 rfl ?_
    refine R_ald (v := ρ.2 9 m) m hR dX9_rootOf_14 rfl rfl (by omega) (show _ < 8000 from by omega) rfl ?_
    refine S_goto 34 dX9_rootOf_15 (by decide) ?_
    refine S_callV (mi := mi_X9_rootOf) [vI 2, vI ((-1)), vI (↑m), vI (ρ.2 9 m)] ok_X9_thing ml_X9_156 dX9_rootOf_34 rfl (by decide) rfl (by decide) rfl (Nat.le_of_ble_eq_true rfl) rfl (r_X9_thing (ρ := ρ) 2 ((-1)) (↑m) (ρ.2 9 m) e5 l8 (by omega) (by omega) (by omega) hT M hR) ?_
    rintro v' M3 ⟨rfl, hR3, hS3'⟩
    have hS3 := hS.trans hS3'
    exact S_iret dX9_rootOf_37 rfl (Or.inl rfl) ⟨rfl, hR3, hS3⟩
