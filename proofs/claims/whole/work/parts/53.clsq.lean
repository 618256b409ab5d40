/-! THE CLASS: keys, chains, roots, meetings -/
def TI (par : Nat → Bool) (ρ : RS) (N : Nat) : Prop := ThOK ρ N ∧ UqT ρ ∧ ThK par ρ ∧ SecOK ρ
theorem TI.cg {par : Nat → Bool} {ρ σ : RS} {N : Nat} (h : TI par ρ N) (hs : σ.1 5 = ρ.1 5 ∧ σ.1 0 = ρ.1 0 ∧ σ.1 1 = ρ.1 1) (ha : ∀ k j, 6 ≤ k → k ≤ 9 → σ.2 k j = ρ.2 k j) : TI par σ N := by
  have hn : thN σ = thN ρ := thN_congr hs.1
  refine ⟨h.1.congr hs ha, fun s t h1 h2 h3 h4 h5 h6 => ?_, fun t ht => ?_, fun t ht h3 => ?_⟩
  · rw [ha 6 s (by decide) (by decide), ha 6 t (by decide) (by decide)] at h4
    rw [ha 7 s (by decide) (by decide), ha 7 t (by decide) (by decide)] at h5
    rw [ha 8 s (by decide) (by decide), ha 8 t (by decide) (by decide)] at h6
    rw [ha 6 s (by decide) (by decide)] at h3
    exact h.2.1 s t (by omega) (by omega) h3 h4 h5 h6
  · rw [ha 6 t (by decide) (by decide), ha 7 t (by decide) (by decide), ha 8 t (by decide) (by decide)]
    exact h.2.2.1 t (by omega)
  · rw [ha 6 t (by decide) (by decide)] at h3
    rw [ha 9 t (by decide) (by decide)]
    exact h.2.2.2 t (by omega) h3
theorem TI.thR {par : Nat → Bool} {ρ : RS} {N : Nat} (h : TI par ρ N) {k f w v : Int} (hK : Kfm par k f w) (hk3 : k ≠ 3) (hf : f < thN ρ) (hw : w < thN ρ) (hv : 0 ≤ v ∧ v ≤ 10007) : TI par (thR ρ k f w v) (N + 1) ∧ thI ρ k f w < thN (thR ρ k f w v) ∧ thN ρ ≤ thN (thR ρ k f w v) := by
  have hkk : (0 ≤ k ∧ k ≤ 5) ∧ -1 ≤ f ∧ -1 ≤ w := by rcases hK with q | q | q | q <;> omega
  have hT := h.1.thR hkk.1 ⟨hkk.2.1, hf⟩ ⟨hkk.2.2, hw⟩ hv
  refine ⟨⟨hT.1, ?_, ?_, ?_⟩, hT.2⟩
  · rcases thR_cases ρ k f w v with ⟨_, q2⟩ | ⟨q1, q2⟩
    · rw [q2]; exact h.2.1
    · rw [q2]
      have hno : ∀ s, s < thN ρ → ¬ (ρ.2 6 s = k ∧ ρ.2 7 s = f ∧ ρ.2 8 s = w) := fun s hs q => by
        have := thI_is h.2.1 hk3 hs q
        omega
      intro s t h1 h2 h3 h4 h5 h6
      rw [thN_new h.1] at h1 h2
      by_cases hs : s = thN ρ
      · by_cases ht : t = thN ρ
        · omega
        · rw [hs, new_6, new_old _ _ _ _ _ 6 t (Or.inl ht)] at h4
          rw [hs, new_7, new_old _ _ _ _ _ 7 t (Or.inl ht)] at h5
          rw [hs, new_8, new_old _ _ _ _ _ 8 t (Or.inl ht)] at h6
          exact absurd ⟨h4.symm, h5.symm, h6.symm⟩ (hno t (by omega))
      · by_cases ht : t = thN ρ
        · rw [ht, new_6, new_old _ _ _ _ _ 6 s (Or.inl hs)] at h4
          rw [ht, new_7, new_old _ _ _ _ _ 7 s (Or.inl hs)] at h5
          rw [ht, new_8, new_old _ _ _ _ _ 8 s (Or.inl hs)] at h6
          exact absurd ⟨h4, h5, h6⟩ (hno s (by omega))
        · rw [new_old _ _ _ _ _ 6 s (Or.inl hs)] at h3
          rw [new_old _ _ _ _ _ 6 s (Or.inl hs), new_old _ _ _ _ _ 6 t (Or.inl ht)] at h4
          rw [new_old _ _ _ _ _ 7 s (Or.inl hs), new_old _ _ _ _ _ 7 t (Or.inl ht)] at h5
          rw [new_old _ _ _ _ _ 8 s (Or.inl hs), new_old _ _ _ _ _ 8 t (Or.inl ht)] at h6
          exact h.2.1 s t (by omega) (by omega) h3 h4 h5 h6
  · rcases thR_cases ρ k f w v with ⟨_, q2⟩ | ⟨q1, q2⟩
    · rw [q2]; exact h.2.2.1
    · rw [q2]
      intro t ht
      rw [thN_new h.1] at ht
      by_cases htn : t = thN ρ
      · rw [htn, new_6, new_7, new_8]; exact hK
      · rw [new_old _ _ _ _ _ 6 t (Or.inl htn), new_old _ _ _ _ _ 7 t (Or.inl htn), new_old _ _ _ _ _ 8 t (Or.inl htn)]
        exact h.2.2.1 t (by omega)
  · rcases thR_cases ρ k f w v with ⟨_, q2⟩ | ⟨q1, q2⟩
    · rw [q2]; exact h.2.2.2
    · rw [q2]
      intro t ht h3
      rw [thN_new h.1] at ht
      by_cases htn : t = thN ρ
      · rw [htn, new_6] at h3; exact absurd h3 hk3
      · rw [new_old _ _ _ _ _ 6 t (Or.inl htn)] at h3
        rw [new_old _ _ _ _ _ 9 t (Or.inl htn)]
        exact h.2.2.2 t (by omega) h3
section
variable {par : Nat → Bool} {ρ : RS} {N : Nat}
theorem kf_ky (c : Nat) : Kfm par 0 ↑c (-1) := Or.inl ⟨Or.inl rfl, by omega, rfl⟩
theorem kf_ch (c : Nat) : Kfm par 1 ↑c (-1) := Or.inl ⟨Or.inr rfl, by omega, rfl⟩
theorem kf_rt (r : Int) (m : Nat) (h : -1 ≤ r) : Kfm par 2 r ↑m := Or.inr (Or.inl ⟨rfl, h, by omega⟩)
theorem co_1 {k : Int} (hk : k = 0 ∨ k = 1) (c : Nat) : cOfV par k ↑c (-1) = ↑c ∧ cWiV par k ↑c (-1) = -1 := by
  unfold cOfV cWiV
  exact ⟨by rw [if_neg (by omega), if_neg (by omega)], by rw [if_neg (by omega), if_neg (by omega)]⟩
theorem co_rt (r m : Nat) : cOfV par 2 ↑r ↑m = ↑r ∧ cWiV par 2 ↑r ↑m = ↑m := by
  unfold cOfV cWiV
  exact ⟨by rw [if_neg (by omega), if_neg (by omega)], by rw [if_neg (by omega), if_neg (by omega)]⟩
theorem co_r1 (m : Nat) : cOfV par 2 (-1) ↑m = ↑m ∧ cWiV par 2 (-1) ↑m = -1 := by
  unfold cOfV cWiV
  exact ⟨by rw [if_neg (by omega), if_pos ⟨rfl, rfl⟩], by rw [if_neg (by omega), if_pos ⟨rfl, rfl⟩]⟩
theorem kf_me {x y : Nat} (h : par x ≠ par y) : Kfm par 5 ↑(meLo x y) ↑(meHi x y) := by
  refine Or.inr (Or.inr (Or.inr ⟨rfl, by omega, ?_, ?_⟩))
  · have : x ≠ y := fun e => h (by rw [e])
    unfold meLo meHi
    split <;> omega
  · rw [Int.toNat_natCast, Int.toNat_natCast]
    unfold meLo meHi
    split
    · exact h
    · exact h.symm
theorem co_me {x y : Nat} (hx : par x = false) (hy : par y = true) : cOfV par 5 ↑(meLo x y) ↑(meHi x y) = ↑x ∧ cWiV par 5 ↑(meLo x y) ↑(meHi x y) = ↑y := by
  unfold cOfV cWiV meLo meHi
  rw [if_pos rfl, if_pos rfl]
  by_cases h : x < y
  · rw [if_pos h, if_pos h, Int.toNat_natCast, hx]
    exact ⟨rfl, rfl⟩
  · rw [if_neg h, if_neg h, Int.toNat_natCast, hy]
    exact ⟨rfl, rfl⟩
theorem me_sym (x y : Nat) : meLo x y = meLo y x ∧ meHi x y = meHi y x := by
  unfold meLo meHi
  constructor <;> (split <;> split <;> omega)
theorem TI.ky {c : Nat} (h : TI par ρ N) (hc : c < thN ρ) : TI par (kyR ρ c) (N + 1) ∧ kyI ρ c < thN (kyR ρ c) ∧ thN ρ ≤ thN (kyR ρ c) := h.thR (kf_ky c) (by decide) (by omega) (by omega) (kyV_bd h.1 hc)
theorem TI.ch {c : Nat} (h : TI par ρ N) (hc : c < thN ρ) : TI par (chR ρ c) (N + 1) ∧ chI ρ c < thN (chR ρ c) ∧ thN ρ ≤ thN (chR ρ c) := h.thR (kf_ch c) (by decide) (by omega) (by omega) (chV_bd h.1 hc)
theorem TI.rt {r : Int} {m : Nat} (h : TI par ρ N) (hr : r = -1 ∨ (0 ≤ r ∧ r < thN ρ)) (hm : m < thN ρ) : TI par (rtR ρ r m) (N + 1) ∧ rtI ρ r m < thN (rtR ρ r m) ∧ thN ρ ≤ thN (rtR ρ r m) := h.thR (kf_rt r m (by omega)) (by decide) (by omega) (by omega) (rtV_bd h.1 hr hm)
theorem TI.me {x y : Nat} (h : TI par ρ N) (hx : x < thN ρ) (hy : y < thN ρ) (hp : par x ≠ par y) : TI par (meR ρ x y) (N + 1) ∧ meI ρ x y < thN (meR ρ x y) ∧ thN ρ ≤ thN (meR ρ x y) := by
  have := meLo_lt hx hy
  exact h.thR (kf_me hp) (by decide) (by omega) (by omega) (meV_bd x y h.1)
end
set_option maxRecDepth 100000 in
theorem c_keyOf {G : Ge} {M : Mem} {Y : (Nat → Bool) × (Nat → Bool)} {ρ : RS} (hCs : Cs Y ρ M) (N : Nat) (hTI : TI Y.2 ρ N) (hNb : N < 7990) (c : Nat) (hc : c < thN ρ) (hRm : Rm 2 8 M) : Ct G mi_X5_keyOf [vR ((3, 0)), vR ((18, c))] M (CP Y (kyR ρ c) 2 8 (some (vR (18, kyI ρ c))) M) := by
  refine Ct.of pl_X5_keyOf [some (vR ((3, 0))), some (vR ((18, c)))] rfl (Nat.le_of_ble_eq_true rfl) ?_
  obtain ⟨sc, kn, hS, hCl⟩ := hCs
  have hF0 : Fr CLs M M := Fr.rf CLs M
  have hB0 : Bg 0 0 M M := Bg.rf M
  obtain ⟨hA, hB, hC, hD, hE, hN, hG, hH, hI, hJ, hK, hL⟩ := id hCl
  have hT := hTI.1
  have hq3 := hT.2.2.1
  have hl8 := hT.2.1
  have hcb := (hT.2.2.2.2 c hc).2.2.2
  refine S_aload_n dX5_keyOf_0 rfl ?_
  refine S_aload_n dX5_keyOf_1 rfl ?_
  refine S_iconst dX5_keyOf_2 ?_
  refine S_null dX5_keyOf_3 ?_
  refine S_aload_n dX5_keyOf_4 rfl ?_
  refine S_getP (o := some (2, 0)) fl_X5_12 dX5_keyOf_5 rfl rfl (by rw [(show M.P (3, 0) 0 = some (2, 0) from congrFun hC.1.2.2 0)]) ?_
  refine S_aload_n dX5_keyOf_8 rfl ?_
  refine S_getI (v := ρ.2 9 c) fl_X5_34 dX5_keyOf_9 rfl rfl (by rw [(show M.I (18, c) 1 = ρ.2 9 c from (show M.I (18, c) 1 = ρ.2 9 c from congrFun (hD.1 c (by omega)).2.1 1))]) ?_
  refine S_iconst dX5_keyOf_12 ?_
  refine S_callV (mi := mi_X5_keyOf) [vI (ρ.2 9 c), vI 1] ok_X0_mix ml_X5_50 dX5_keyOf_13 rfl (by decide) rfl (by decide) rfl (Nat.le_of_ble_eq_true rfl) rfl (c_X0_mix hB (ρ.2 9 c) 1 (by omega) (by omega) (by omega)) ?_
  rintro v' M1 ⟨rfl, hM1⟩
  rw [hM1]
  clear hM1
  have hco : Ct G mi_X5_comeOf [vR (3, 0), vR ((18, c)), vI 0, vN, vI (kyV ρ c)] M (CP Y (kyR ρ c) 2 8 (some (vR (18, kyI ρ c))) M) := by
    have hco := c_comeOf (G := G) (M := M) N hT hNb hTI.2.1 hTI.2.2.1 c (by omega) 0 ↑c (-1) (kyV ρ c) (-1) (kf_ky c) (by decide) (by omega) (by omega) (co_1 (Or.inl rfl) c).1 (co_1 (Or.inl rfl) c).2 (hRm.sub hB0 (by omega) (by omega)) ⟨sc, kn, hS, hCl⟩
    rw [qx_no] at hco
    exact hco
  refine S_callV (mi := mi_X5_keyOf) [vR ((18, c)), vI 0, vN, vI (mixF (ρ.1 0) (ρ.2 9 c) 1)] ok_X5_comeOf ml_X5_46 dX5_keyOf_16 rfl (by decide) rfl (by decide) rfl (Nat.le_of_ble_eq_true rfl) rfl (hco) ?_
  rintro v' M2 ⟨rfl, hCs2, hF2', hB2'⟩
  obtain ⟨ρ3, e3⟩ : ∃ z9 : RS, z9 = (kyR ρ c) := ⟨_, rfl⟩
  rw [← e3] at hCs2
  obtain ⟨sc, kn, hS3, hCl3⟩ := hCs2
  have hF3 : Fr CLs M M2 := hF0.trans hF2'
  have hB3 : Bg 2 8 M M2 := (hB0.trans hB2').le (by omega) (by omega)
  obtain ⟨hA, hB, hC, hD, hE, hN, hG, hH, hI, hJ, hK, hL⟩ := id hCl3
  exact S_aret dX5_keyOf_19 rfl rfl (by subst_vars; exact ⟨rfl, ⟨sc, kn, hS3, hCl3⟩, hF3, hB3.le (by omega) (by omega)⟩)
set_option maxRecDepth 100000 in
theorem c_nextOf {G : Ge} {M : Mem} {Y : (Nat → Bool) × (Nat → Bool)} {ρ : RS} (hCs : Cs Y ρ M) (N : Nat) (hTI : TI Y.2 ρ N) (hNb : N < 7990) (c : Nat) (hc : c < thN ρ) (hk : ρ.2 6 c = 1) (hRm : Rm 2 8 M) : Ct G mi_X5_nextOf [vR ((3, 0)), vR ((18, c))] M (CP Y (chR ρ c) 2 8 (some (vR (18, chI ρ c))) M) := by
  refine Ct.of pl_X5_nextOf [some (vR ((3, 0))), some (vR ((18, c)))] rfl (Nat.le_of_ble_eq_true rfl) ?_
  obtain ⟨sc, kn, hS, hCl⟩ := hCs
  have hF0 : Fr CLs M M := Fr.rf CLs M
  have hB0 : Bg 0 0 M M := Bg.rf M
  obtain ⟨hA, hB, hC, hD, hE, hN, hG, hH, hI, hJ, hK, hL⟩ := id hCl
  have hT := hTI.1
  have hq3 := hT.2.2.1
  have hl8 := hT.2.1
  have hcb := (hT.2.2.2.2 c hc).2.2.2
  refine S_aload_n dX5_nextOf_0 rfl ?_
  refine S_aload_n dX5_nextOf_1 rfl ?_
  refine S_iconst dX5_nextOf_2 ?_
  refine S_null dX5_nextOf_3 ?_
  refine S_aload_n dX5_nextOf_4 rfl ?_
  refine S_getP (o := some (2, 0)) fl_X5_12 dX5_nextOf_5 rfl rfl (by rw [(show M.P (3, 0) 0 = some (2, 0) from congrFun hC.1.2.2 0)]) ?_
  refine S_aload_n dX5_nextOf_8 rfl ?_
  refine S_getI (v := ρ.2 9 c) fl_X5_34 dX5_nextOf_9 rfl rfl (by rw [(show M.I (18, c) 1 = ρ.2 9 c from (show M.I (18, c) 1 = ρ.2 9 c from congrFun (hD.1 c (by omega)).2.1 1))]) ?_
  refine S_iconst dX5_nextOf_12 ?_
  refine S_callV (mi := mi_X5_nextOf) [vI (ρ.2 9 c), vI 2] ok_X0_mix ml_X5_50 dX5_nextOf_13 rfl (by decide) rfl (by decide) rfl (Nat.le_of_ble_eq_true rfl) rfl (c_X0_mix hB (ρ.2 9 c) 2 (by omega) (by omega) (by omega)) ?_
  rintro v' M1 ⟨rfl, hM1⟩
  rw [hM1]
  clear hM1
  have hv9 : mixF (ρ.1 0) (ρ.2 9 c) 2 = chV ρ c := by unfold chV; rw [if_neg (by omega)]
  rw [hv9]
  have hco : Ct G mi_X5_comeOf [vR (3, 0), vR ((18, c)), vI 1, vN, vI (chV ρ c)] M (CP Y (chR ρ c) 2 8 (some (vR (18, chI ρ c))) M) := by
    have hco := c_comeOf (G := G) (M := M) N hT hNb hTI.2.1 hTI.2.2.1 c (by omega) 1 ↑c (-1) (chV ρ c) (-1) (kf_ch c) (by decide) (by omega) (by omega) (co_1 (Or.inr rfl) c).1 (co_1 (Or.inr rfl) c).2 (hRm.sub hB0 (by omega) (by omega)) ⟨sc, kn, hS, hCl⟩
    rw [qx_no] at hco
    exact hco
  refine S_callV (mi := mi_X5_nextOf) [vR ((18, c)), vI 1, vN, vI (chV ρ c)] ok_X5_comeOf ml_X5_46 dX5_nextOf_16 rfl (by decide) rfl (by decide) rfl (Nat.le_of_ble_eq_true rfl) rfl (hco) ?_
  rintro v' M2 ⟨rfl, hCs2, hF2', hB2'⟩
  obtain ⟨ρ3, e3⟩ : ∃ z9 : RS, z9 = (chR ρ c) := ⟨_, rfl⟩
  rw [← e3] at hCs2
  obtain ⟨sc, kn, hS3, hCl3⟩ := hCs2
  have hF3 : Fr CLs M M2 := hF0.trans hF2'
  have hB3 : Bg 2 8 M M2 := (hB0.trans hB2').le (by omega) (by omega)
  obtain ⟨hA, hB, hC, hD, hE, hN, hG, hH, hI, hJ, hK, hL⟩ := id hCl3
  exact S_aret dX5_nextOf_19 rfl rfl (by subst_vars; exact ⟨rfl, ⟨sc, kn, hS3, hCl3⟩, hF3, hB3.le (by omega) (by omega)⟩)
set_option maxRecDepth 100000 in
theorem c_chainOf {G : Ge} {M : Mem} {Y : (Nat → Bool) × (Nat → Bool)} {ρ : RS} (hCs : Cs Y ρ M) (N : Nat) (hTI : TI Y.2 ρ N) (hNb : N < 7990) (c : Nat) (hc : c < thN ρ) (hk : ρ.2 6 c = 2) (hRm : Rm 2 8 M) : Ct G mi_X5_chainOf [vR ((3, 0)), vR ((18, c))] M (CP Y (chR ρ c) 2 8 (some (vR (18, chI ρ c))) M) := by
  refine Ct.of pl_X5_chainOf [some (vR ((3, 0))), some (vR ((18, c)))] rfl (Nat.le_of_ble_eq_true rfl) ?_
  obtain ⟨sc, kn, hS, hCl⟩ := hCs
  have hF0 : Fr CLs M M := Fr.rf CLs M
  have hB0 : Bg 0 0 M M := Bg.rf M
  obtain ⟨hA, hB, hC, hD, hE, hN, hG, hH, hI, hJ, hK, hL⟩ := id hCl
  have hT := hTI.1
  have hq3 := hT.2.2.1
  have hl8 := hT.2.1
  have hcb := (hT.2.2.2.2 c hc).2.2.2
  refine S_aload_n dX5_chainOf_0 rfl ?_
  refine S_aload_n dX5_chainOf_1 rfl ?_
  refine S_iconst dX5_chainOf_2 ?_
  refine S_null dX5_chainOf_3 ?_
  refine S_aload_n dX5_chainOf_4 rfl ?_
  refine S_getP (o := some (2, 0)) fl_X5_12 dX5_chainOf_5 rfl rfl (by rw [(show M.P (3, 0) 0 = some (2, 0) from congrFun hC.1.2.2 0)]) ?_
  refine S_aload_n dX5_chainOf_8 rfl ?_
  refine S_getI (v := ρ.2 9 c) fl_X5_34 dX5_chainOf_9 rfl rfl (by rw [(show M.I (18, c) 1 = ρ.2 9 c from (show M.I (18, c) 1 = ρ.2 9 c from congrFun (hD.1 c (by omega)).2.1 1))]) ?_
  refine S_iconst dX5_chainOf_12 ?_
  refine S_callV (mi := mi_X5_chainOf) [vI (ρ.2 9 c), vI 3] ok_X0_mix ml_X5_50 dX5_chainOf_13 rfl (by decide) rfl (by decide) rfl (Nat.le_of_ble_eq_true rfl) rfl (c_X0_mix hB (ρ.2 9 c) 3 (by omega) (by omega) (by omega)) ?_
  rintro v' M1 ⟨rfl, hM1⟩
  rw [hM1]
  clear hM1
  have hv9 : mixF (ρ.1 0) (ρ.2 9 c) 3 = chV ρ c := by unfold chV; rw [if_pos hk]
  rw [hv9]
  have hco : Ct G mi_X5_comeOf [vR (3, 0), vR ((18, c)), vI 1, vN, vI (chV ρ c)] M (CP Y (chR ρ c) 2 8 (some (vR (18, chI ρ c))) M) := by
    have hco := c_comeOf (G := G) (M := M) N hT hNb hTI.2.1 hTI.2.2.1 c (by omega) 1 ↑c (-1) (chV ρ c) (-1) (kf_ch c) (by decide) (by omega) (by omega) (co_1 (Or.inr rfl) c).1 (co_1 (Or.inr rfl) c).2 (hRm.sub hB0 (by omega) (by omega)) ⟨sc, kn, hS, hCl⟩
    rw [qx_no] at hco
    exact hco
  refine S_callV (mi := mi_X5_chainOf) [vR ((18, c)), vI 1, vN, vI (chV ρ c)] ok_X5_comeOf ml_X5_46 dX5_chainOf_16 rfl (by decide) rfl (by decide) rfl (Nat.le_of_ble_eq_true rfl) rfl (hco) ?_
  rintro v' M2 ⟨rfl, hCs2, hF2', hB2'⟩
  obtain ⟨ρ3, e3⟩ : ∃ z9 : RS, z9 = (chR ρ c) := ⟨_, rfl⟩
  rw [← e3] at hCs2
  obtain ⟨sc, kn, hS3, hCl3⟩ := hCs2
  have hF3 : Fr CLs M M2 := hF0.trans hF2'
  have hB3 : Bg 2 8 M M2 := (hB0.trans hB2').le (by omega) (by omega)
  obtain ⟨hA, hB, hC, hD, hE, hN, hG, hH, hI, hJ, hK, hL⟩ := id hCl3
  exact S_aret dX5_chainOf_19 rfl rfl (by subst_vars; exact ⟨rfl, ⟨sc, kn, hS3, hCl3⟩, hF3, hB3.le (by omega) (by omega)⟩)
set_option maxRecDepth 100000 in
theorem c_rootOf {G : Ge} {M : Mem} {Y : (Nat → Bool) × (Nat → Bool)} {ρ : RS} (hCs : Cs Y ρ M) (N : Nat) (hTI : TI Y.2 ρ N) (hNb : N < 7990) (r m : Nat) (hr : r < thN ρ) (hm : m < thN ρ) (hRm : Rm 2 8 M) : Ct G mi_X5_rootOf [vR ((3, 0)), vR ((18, r)), vR ((18, m))] M (CP Y (rtR ρ (↑r) m) 2 8 (some (vR (18, rtI ρ ↑r m))) M) := by
  refine Ct.of pl_X5_rootOf [some (vR ((3, 0))), some (vR ((18, r))), some (vR ((18, m)))] rfl (Nat.le_of_ble_eq_true rfl) ?_
  obtain ⟨sc, kn, hS, hCl⟩ := hCs
  have hF0 : Fr CLs M M := Fr.rf CLs M
  have hB0 : Bg 0 0 M M := Bg.rf M
  obtain ⟨hA, hB, hC, hD, hE, hN, hG, hH, hI, hJ, hK, hL⟩ := id hCl
  have hT := hTI.1
  have hq3 := hT.2.2.1
  have hl8 := hT.2.1
  have hcb := (hT.2.2.2.2 r hr).2.2.2
  have hcm := (hT.2.2.2.2 m hm).2.2.2
  refine S_aload_n dX5_rootOf_0 rfl ?_
  refine S_aload_n dX5_rootOf_1 rfl ?_
  refine S_iconst dX5_rootOf_2 ?_
  refine S_aload_n dX5_rootOf_3 rfl ?_
  refine S_aload_n dX5_rootOf_4 rfl ?_
  refine S_getP (o := some (2, 0)) fl_X5_12 dX5_rootOf_5 rfl rfl (by rw [(show M.P (3, 0) 0 = some (2, 0) from congrFun hC.1.2.2 0)]) ?_
  refine S_aload_n dX5_rootOf_8 rfl ?_
  refine S_getI (v := ρ.2 9 r) fl_X5_34 dX5_rootOf_9 rfl rfl (by rw [(show M.I (18, r) 1 = ρ.2 9 r from (show M.I (18, r) 1 = ρ.2 9 r from congrFun (hD.1 r (by omega)).2.1 1))]) ?_
  refine S_aload_n dX5_rootOf_12 rfl ?_
  refine S_getI (v := ρ.2 9 m) fl_X5_34 dX5_rootOf_13 rfl rfl (by rw [(show M.I (18, m) 1 = ρ.2 9 m from (show M.I (18, m) 1 = ρ.2 9 m from congrFun (hD.1 m (by omega)).2.1 1))]) ?_
  refine S_callV (mi := mi_X5_rootOf) [vI (ρ.2 9 r), vI (ρ.2 9 m)] ok_X0_mix ml_X5_50 dX5_rootOf_16 rfl (by decide) rfl (by decide) rfl (Nat.le_of_ble_eq_true rfl) rfl (c_X0_mix hB (ρ.2 9 r) (ρ.2 9 m) (by omega) (by omega) (by omega)) ?_
  rintro v' M1 ⟨rfl, hM1⟩
  rw [hM1]
  clear hM1
  have hv9 : mixF (ρ.1 0) (ρ.2 9 r) (ρ.2 9 m) = rtV ρ ↑r m := by unfold rtV; rw [if_neg (by omega), Int.toNat_natCast]
  rw [hv9]
  have hco : Ct G mi_X5_comeOf [vR (3, 0), vR ((18, r)), vI 2, vR ((18, m)), vI (rtV ρ ↑r m)] M (CP Y (rtR ρ (↑r) m) 2 8 (some (vR (18, rtI ρ ↑r m))) M) := by
    have hco := c_comeOf (G := G) (M := M) N hT hNb hTI.2.1 hTI.2.2.1 r (by omega) 2 ↑r ↑m (rtV ρ ↑r m) ↑m (kf_rt ↑r m (by omega)) (by decide) (by omega) (by omega) (co_rt r m).1 (co_rt r m).2 (hRm.sub hB0 (by omega) (by omega)) ⟨sc, kn, hS, hCl⟩
    rw [qx_nat] at hco
    exact hco
  refine S_callV (mi := mi_X5_rootOf) [vR ((18, r)), vI 2, vR ((18, m)), vI (rtV ρ ↑r m)] ok_X5_comeOf ml_X5_46 dX5_rootOf_19 rfl (by decide) rfl (by decide) rfl (Nat.le_of_ble_eq_true rfl) rfl (hco) ?_
  rintro v' M2 ⟨rfl, hCs2, hF2', hB2'⟩
  obtain ⟨ρ3, e3⟩ : ∃ z9 : RS, z9 = (rtR ρ (↑r) m) := ⟨_, rfl⟩
  rw [← e3] at hCs2
  obtain ⟨sc, kn, hS3, hCl3⟩ := hCs2
  have hF3 : Fr CLs M M2 := hF0.trans hF2'
  have hB3 : Bg 2 8 M M2 := (hB0.trans hB2').le (by omega) (by omega)
  obtain ⟨hA, hB, hC, hD, hE, hN, hG, hH, hI, hJ, hK, hL⟩ := id hCl3
  exact S_aret dX5_rootOf_22 rfl rfl (by subst_vars; exact ⟨rfl, ⟨sc, kn, hS3, hCl3⟩, hF3, hB3.le (by omega) (by omega)⟩)
set_option maxRecDepth 100000 in
theorem c_firstRootOf {G : Ge} {M : Mem} {Y : (Nat → Bool) × (Nat → Bool)} {ρ : RS} (hCs : Cs Y ρ M) (N : Nat) (hTI : TI Y.2 ρ N) (hNb : N < 7990) (m : Nat) (hm : m < thN ρ) (hRm : Rm 2 8 M) : Ct G mi_X5_firstRootOf [vR ((3, 0)), vR ((18, m))] M (CP Y (rtR ρ ((-1)) m) 2 8 (some (vR (18, rtI ρ (-1) m))) M) := by
  refine Ct.of pl_X5_firstRootOf [some (vR ((3, 0))), some (vR ((18, m)))] rfl (Nat.le_of_ble_eq_true rfl) ?_
  obtain ⟨sc, kn, hS, hCl⟩ := hCs
  have hF0 : Fr CLs M M := Fr.rf CLs M
  have hB0 : Bg 0 0 M M := Bg.rf M
  obtain ⟨hA, hB, hC, hD, hE, hN, hG, hH, hI, hJ, hK, hL⟩ := id hCl
  have hT := hTI.1
  have hq3 := hT.2.2.1
  have hl8 := hT.2.1
  refine S_aload_n dX5_firstRootOf_0 rfl ?_
  refine S_aload_n dX5_firstRootOf_1 rfl ?_
  refine S_iconst dX5_firstRootOf_2 ?_
  refine S_null dX5_firstRootOf_3 ?_
  refine S_aload_n dX5_firstRootOf_4 rfl ?_
  refine S_getI (v := ρ.2 9 m) fl_X5_34 dX5_firstRootOf_5 rfl rfl (by rw [(show M.I (18, m) 1 = ρ.2 9 m from (show M.I (18, m) 1 = ρ.2 9 m from congrFun (hD.1 m (by omega)).2.1 1))]) ?_
  have hco : Ct G mi_X5_comeOf [vR (3, 0), vR ((18, m)), vI 2, vN, vI (rtV ρ (-1) m)] M (CP Y (rtR ρ ((-1)) m) 2 8 (some (vR (18, rtI ρ (-1) m))) M) := by
    have hco := c_comeOf (G := G) (M := M) N hT hNb hTI.2.1 hTI.2.2.1 m (by omega) 2 (-1) ↑m (rtV ρ (-1) m) (-1) (kf_rt (-1) m (by omega)) (by decide) (by omega) (by omega) (co_r1 m).1 (co_r1 m).2 (hRm.sub hB0 (by omega) (by omega)) ⟨sc, kn, hS, hCl⟩
    rw [qx_no] at hco
    exact hco
  refine S_callV (mi := mi_X5_firstRootOf) [vR ((18, m)), vI 2, vN, vI (ρ.2 9 m)] ok_X5_comeOf ml_X5_46 dX5_firstRootOf_8 rfl (by decide) rfl (by decide) rfl (Nat.le_of_ble_eq_true rfl) rfl (hco) ?_
  rintro v' M1 ⟨rfl, hCs1, hF1', hB1'⟩
  obtain ⟨ρ2, e2⟩ : ∃ z9 : RS, z9 = (rtR ρ ((-1)) m) := ⟨_, rfl⟩
  rw [← e2] at hCs1
  obtain ⟨sc, kn, hS2, hCl2⟩ := hCs1
  have hF2 : Fr CLs M M1 := hF0.trans hF1'
  have hB2 : Bg 2 8 M M1 := (hB0.trans hB1').le (by omega) (by omega)
  obtain ⟨hA, hB, hC, hD, hE, hN, hG, hH, hI, hJ, hK, hL⟩ := id hCl2
  exact S_aret dX5_firstRootOf_11 rfl rfl (by subst_vars; exact ⟨rfl, ⟨sc, kn, hS2, hCl2⟩, hF2, hB2.le (by omega) (by omega)⟩)
set_option maxRecDepth 100000 in
theorem c_meetingOf {G : Ge} {M : Mem} {Y : (Nat → Bool) × (Nat → Bool)} {ρ : RS} (hCs : Cs Y ρ M) (N : Nat) (hTI : TI Y.2 ρ N) (hNb : N < 7990) (x y : Nat) (hx : x < thN ρ) (hy : y < thN ρ) (hpx : Y.2 x = false) (hpy : Y.2 y = true) (hkx : ρ.2 6 x = 3) (hky : ρ.2 6 y = 3) (hRm : Rm 2 8 M) : Ct G mi_X5_meetingOf [vR ((3, 0)), vR ((18, x)), vR ((18, y))] M (CP Y (meR ρ x y) 2 8 (some (vR (18, meI ρ x y))) M) := by
  refine Ct.of pl_X5_meetingOf [some (vR ((3, 0))), some (vR ((18, x))), some (vR ((18, y))), none] rfl (Nat.le_of_ble_eq_true rfl) ?_
  obtain ⟨sc, kn, hS, hCl⟩ := hCs
  have hF0 : Fr CLs M M := Fr.rf CLs M
  have hB0 : Bg 0 0 M M := Bg.rf M
  obtain ⟨hA, hB, hC, hD, hE, hN, hG, hH, hI, hJ, hK, hL⟩ := id hCl
  have hT := hTI.1
  have hq3 := hT.2.2.1
  have hl8 := hT.2.1
  have hwx := hTI.2.2.2 x hx hkx
  have hwy := hTI.2.2.2 y hy hky
  obtain ⟨wx, hwx9⟩ : ∃ n : Nat, ρ.2 9 x = ↑n := ⟨(ρ.2 9 x).toNat, by omega⟩
  obtain ⟨wy, hwy9⟩ : ∃ n : Nat, ρ.2 9 y = ↑n := ⟨(ρ.2 9 y).toNat, by omega⟩
  obtain ⟨q, hq⟩ : ∃ q : Nat, ρ.1 0 = ↑q := ⟨(ρ.1 0).toNat, by omega⟩
  have hgg := hT.2.2.2.1
  obtain ⟨g, hg⟩ : ∃ g : Nat, ρ.1 1 = ↑g := ⟨(ρ.1 1).toNat, by omega⟩
  have hpb := powv hq3 hgg.1 wy
  obtain ⟨pu, hpu⟩ : ∃ n : Nat, (n : Int) = powF (ρ.1 0) (ρ.1 1) wy := ⟨(powF (ρ.1 0) (ρ.1 1) wy).toNat, by omega⟩
  have hpu2 : pu ≤ 10007 := by omega
  have hlt := meLo_lt hx hy
  have hxy : Y.2 x ≠ Y.2 y := by rw [hpx, hpy]; decide
  have hv9 : powF (ρ.1 0) ↑pu wx = meV ρ x y := by
    rw [hpu]
    unfold meV meLo meHi
    by_cases h : x < y
    · rw [if_pos h, if_pos h, hwx9, hwy9, Int.toNat_natCast, Int.toNat_natCast]
    · rw [if_neg h, if_neg h, hwx9, hwy9, Int.toNat_natCast, Int.toNat_natCast]
      exact powF_comm (by omega) hgg.1 wy wx
  refine S_aload_n dX5_meetingOf_0 rfl ?_
  refine S_getP (o := some (2, 0)) fl_X5_12 dX5_meetingOf_1 rfl rfl (by rw [(show M.P (3, 0) 0 = some (2, 0) from congrFun hC.1.2.2 0)]) ?_
  refine S_aload_n dX5_meetingOf_4 rfl ?_
  refine S_getP (o := some (2, 0)) fl_X5_12 dX5_meetingOf_5 rfl rfl (by rw [(show M.P (3, 0) 0 = some (2, 0) from congrFun hC.1.2.2 0)]) ?_
  refine S_aload_n dX5_meetingOf_8 rfl ?_
  refine S_getI (v := ↑wy) fl_X5_34 dX5_meetingOf_9 rfl rfl (by rw [(show M.I (18, y) 1 = ↑wy from (show M.I (18, y) 1 = ρ.2 9 y from congrFun (hD.1 y (by omega)).2.1 1).trans hwy9)]) ?_
  refine S_callV (mi := mi_X5_meetingOf) [vI (↑wy)] ok_X0_publicOf ml_X5_38 dX5_meetingOf_12 rfl (by decide) rfl (by decide) rfl (Nat.le_of_ble_eq_true rfl) rfl (c_X0_publicOf q g wy hB hq (by omega) hg (by omega) (by omega)) ?_
  rintro v' M1 ⟨rfl, hM1⟩
  rw [hM1]
  clear hM1
  refine S_aload_n dX5_meetingOf_15 rfl ?_
  refine S_getI (v := ↑wx) fl_X5_34 dX5_meetingOf_16 rfl rfl (by rw [(show M.I (18, x) 1 = ↑wx from (show M.I (18, x) 1 = ρ.2 9 x from congrFun (hD.1 x (by omega)).2.1 1).trans hwx9)]) ?_
  rw [← hpu]
  refine S_callV (mi := mi_X5_meetingOf) [vI (↑pu), vI (↑wx)] ok_X0_power ml_X5_42 dX5_meetingOf_19 rfl (by decide) rfl (by decide) rfl (Nat.le_of_ble_eq_true rfl) rfl (c_X0_power q pu wx hB hq (by omega) hpu2 (by omega)) ?_
  rintro v' M2 ⟨rfl, hM2⟩
  rw [hM2]
  clear hM2
  refine S_istore_n dX5_meetingOf_22 (by decide) ?_
  refine S_aload_n dX5_meetingOf_23 rfl ?_
  refine S_aload_n dX5_meetingOf_24 rfl ?_
  refine S_iconst dX5_meetingOf_25 ?_
  refine S_aload_n dX5_meetingOf_26 rfl ?_
  refine S_iload_n dX5_meetingOf_27 rfl ?_
  rw [hv9]
  have hco : Ct G mi_X5_comeOf [vR (3, 0), vR ((18, x)), vI 5, vR ((18, y)), vI (meV ρ x y)] M (CP Y (meR ρ x y) 2 8 (some (vR (18, meI ρ x y))) M) := by
    have hco := c_comeOf (G := G) (M := M) N hT hNb hTI.2.1 hTI.2.2.1 x (by omega) 5 ↑(meLo x y) ↑(meHi x y) (meV ρ x y) ↑y (kf_me hxy) (by decide) (by omega) (by omega) (co_me hpx hpy).1 (co_me hpx hpy).2 (hRm.sub hB0 (by omega) (by omega)) ⟨sc, kn, hS, hCl⟩
    rw [qx_nat] at hco
    exact hco
  refine S_callV (mi := mi_X5_meetingOf) [vR ((18, x)), vI 5, vR ((18, y)), vI (meV ρ x y)] ok_X5_comeOf ml_X5_46 dX5_meetingOf_28 rfl (by decide) rfl (by decide) rfl (Nat.le_of_ble_eq_true rfl) rfl (hco) ?_
  rintro v' M3 ⟨rfl, hCs3, hF3', hB3'⟩
  obtain ⟨ρ4, e4⟩ : ∃ z9 : RS, z9 = (meR ρ x y) := ⟨_, rfl⟩
  rw [← e4] at hCs3
  obtain ⟨sc, kn, hS4, hCl4⟩ := hCs3
  have hF4 : Fr CLs M M3 := hF0.trans hF3'
  have hB4 : Bg 2 8 M M3 := (hB0.trans hB3').le (by omega) (by omega)
  obtain ⟨hA, hB, hC, hD, hE, hN, hG, hH, hI, hJ, hK, hL⟩ := id hCl4
  exact S_aret dX5_meetingOf_31 rfl rfl (by subst_vars; exact ⟨rfl, ⟨sc, kn, hS4, hCl4⟩, hF4, hB4.le (by omega) (by omega)⟩)
