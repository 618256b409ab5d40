/-! THE REFERENCE: keys, checks, rows that shift -/
def kbF (q : Int) (v : Int) : Nat → Int
  | 0 => v
  | n + 1 => mixF q (kbF q v n) 2
def kbV (q v : Int) (n : Nat) : Int := mixF q (kbF q v n) 1
theorem kbF_bd {q v : Int} (hq : 0 < q ∧ q ≤ 10007) (hv : 0 ≤ v ∧ v ≤ 10007) : ∀ n, 0 ≤ kbF q v n ∧ kbF q v n ≤ 10007 := by
  intro n
  induction n with
  | zero => exact hv
  | succ n ih => have := mixF_bd hq.1 ih.1 (show (0 : Int) ≤ 2 by decide); exact ⟨this.1, by have h2 := this.2; unfold kbF; omega⟩
theorem lp_X9_keyBehind {G : Ge} {ρ : RS} {M0 : Mem} (v : Int) (n : Nat) (hv : 0 ≤ v ∧ v ≤ 10007) (hn : n ≤ 1000) (hq : 0 < ρ.1 0 ∧ ρ.1 0 ≤ 10007) : ∀ (d : Nat) (k : Nat) (M : Mem), k + d = n → Rf ρ M → SameR M0 M → Sf G mi_X9_keyBehind (fun v' M' => v' = some (vI (kbV (ρ.1 0) v n)) ∧ Rf ρ M' ∧ SameR M0 M') 5 [some (vR ((30, 0))), some (vI v), some (vI (↑n)), some (vI (kbF (ρ.1 0) v k)), some (vI (↑k))] [] M := by
  intro d
  induction d with
  | zero =>
    intro k M hk hR hS
    obtain rfl : k = n := by omega
    have hb := kbF_bd hq hv k
    refine S_iload dX9_keyBehind_5 rfl ?_
    refine S_iload_n dX9_keyBehind_7 rfl ?_
    refine S_icmp_ge 24 dX9_keyBehind_8 (by decide) (by omega) (fun c_8 => ?_) (fun c_8 => absurd c_8 (by omega))
    refine S_aload_n dX9_keyBehind_24 rfl ?_
    refine S_iload_n dX9_keyBehind_25 rfl ?_
    refine S_iconst dX9_keyBehind_26 ?_
    refine S_callV (mi := mi_X9_keyBehind) [vI (kbF (ρ.1 0) v k), vI 1] ok_X9_mix ml_X9_160 dX9_keyBehind_27 rfl (by decide) rfl (by decide) rfl (Nat.le_of_ble_eq_true rfl) rfl (r_X9_mix (ρ := ρ) (kbF (ρ.1 0) v k) 1 (by omega) (by omega) hq M hR) ?_
    rintro v' M1 ⟨rfl, hR1, hS1'⟩
    have hS1 := hS.trans hS1'
    exact S_iret dX9_keyBehind_30 rfl (Or.inl rfl) ⟨rfl, hR1, hS1⟩
  | succ d ih =>
    intro k M hk hR hS
    have hb := kbF_bd hq hv k
    refine S_iload dX9_keyBehind_5 rfl ?_
    refine S_iload_n dX9_keyBehind_7 rfl ?_
    refine S_icmp_ge 24 dX9_keyBehind_8 (by decide) (by omega) (fun c_8 => absurd c_8 (by omega)) (fun c_8 => ?_)
    refine S_aload_n dX9_keyBehind_11 rfl ?_
    refine S_iload_n dX9_keyBehind_12 rfl ?_
    refine S_iconst dX9_keyBehind_13 ?_
    refine S_callV (mi := mi_X9_keyBehind) [vI (kbF (ρ.1 0) v k), vI 2] ok_X9_mix ml_X9_160 dX9_keyBehind_14 rfl (by decide) rfl (by decide) rfl (Nat.le_of_ble_eq_true rfl) rfl (r_X9_mix (ρ := ρ) (kbF (ρ.1 0) v k) 2 (by omega) (by omega) hq M hR) ?_
    rintro v' M1 ⟨rfl, hR1, hS1'⟩
    have hS1 := hS.trans hS1'
    refine S_istore_n dX9_keyBehind_17 (by decide) ?_
    refine S_iinc dX9_keyBehind_18 rfl (by decide) ?_
    rw [show ((↑k) + 1 : Int) = ↑(k + 1) from by omega]
    refine S_goto 5 dX9_keyBehind_21 (by decide) ?_
    exact ih (k + 1) _ (by omega) hR1 hS1
theorem r_X9_keyBehind {G : Ge} {ρ : RS} (v : Int) (n : Nat) (hv : 0 ≤ v ∧ v ≤ 10007) (hn : n ≤ 1000) (hq : 0 < ρ.1 0 ∧ ρ.1 0 ≤ 10007) : RC G mi_X9_keyBehind [vR ((30, 0)), vI v, vI (↑n)] ρ (some (vI (kbV (ρ.1 0) v n))) ρ := by
  intro M hR
  have hS := SameR.rf M
  refine Ct.of pl_X9_keyBehind [some (vR ((30, 0))), some (vI v), some (vI (↑n)), none, none] rfl (Nat.le_of_ble_eq_true rfl) ?_
  refine S_iload_n dX9_keyBehind_0 rfl ?_
  refine S_istore_n dX9_keyBehind_1 (by decide) ?_
  refine S_iconst dX9_keyBehind_2 ?_
  refine S_istore dX9_keyBehind_3 (by decide) ?_
  exact lp_X9_keyBehind v n hv hn hq n 0 _ (by omega) hR hS
def byF (ρ : RS) (l : Nat) (key : Int) : Int := ((ρ.2 35 l - key).tmod 256 + 256).tmod 256
theorem tmb (x : Int) : -256 < x.tmod 256 ∧ x.tmod 256 < 256 := by
  have h := Int.tmod_def x 256
  have h1 : x.tdiv 256 = if 0 ≤ x then x / 256 else -((-x) / 256) := by
    by_cases hx : 0 ≤ x
    · rw [if_pos hx]; exact Int.tdiv_eq_ediv_of_nonneg hx
    · rw [if_neg hx]
      have h2 := Int.neg_tdiv (a := -x) (b := 256)
      rw [Int.neg_neg] at h2
      rw [h2, Int.tdiv_eq_ediv_of_nonneg (by omega)]
  rw [h1] at h
  split at h <;> omega
theorem byF_bd (ρ : RS) (l : Nat) (key : Int) : 0 ≤ byF ρ l key ∧ byF ρ l key ≤ 255 := by
  have h1 := tmb (ρ.2 35 l - key)
  have h2 := tmod_bd (x := (ρ.2 35 l - key).tmod 256 + 256) (q := 256) (by omega) (by decide)
  unfold byF; omega
theorem r_X9_byteOf {G : Ge} {ρ : RS} (l : Nat) (key : Int) (hl : l < 300) (ht : 0 ≤ ρ.2 35 l ∧ ρ.2 35 l ≤ 255) (hk : 0 ≤ key ∧ key ≤ 10007) : RC G mi_X9_byteOf [vR ((30, 0)), vI (↑l), vI key] ρ (some (vI (byF ρ l key))) ρ := by
  intro M hR
  have hS := SameR.rf M
  refine Ct.of pl_X9_byteOf [some (vR ((30, 0))), some (vI (↑l)), some (vI key)] rfl (Nat.le_of_ble_eq_true rfl) ?_
  refine S_aload_n dX9_byteOf_0 rfl ?_
  refine S_getP fl_X9_108 dX9_byteOf_1 rfl rfl (hR.p 35 rfl) ?_
  refine S_iload_n dX9_byteOf_4 rfl ?_
  refine R_ald (v := ρ.2 35 l) l hR dX9_byteOf_5 rfl rfl (by omega) (show _ < 300 from by omega) rfl ?_
  refine S_iload_n dX9_byteOf_6 rfl ?_
  refine S_isub dX9_byteOf_7 ?_
  refine S_sipush dX9_byteOf_8 (by decide) ?_
  refine S_irem dX9_byteOf_11 (by omega) (by omega) ?_
  refine S_sipush dX9_byteOf_12 (by decide) ?_
  refine S_iadd dX9_byteOf_15 ?_
  refine S_sipush dX9_byteOf_16 (by decide) ?_
  refine S_irem dX9_byteOf_19 (by have := tmb (ρ.2 35 l - key); omega) (by omega) ?_
  exact S_iret dX9_byteOf_20 rfl (Or.inl rfl) ⟨rfl, hR, hS⟩
theorem r_X9_isGood {G : Ge} {ρ : RS} (l : Nat) (key : Int) (hl : l < 300) (ht : 0 ≤ ρ.2 35 l ∧ ρ.2 35 l ≤ 255) (hk : 0 ≤ key ∧ key ≤ 10007) (hc : -2147483648 ≤ ρ.2 36 l ∧ ρ.2 36 l < 2147483648) (hq : 0 < ρ.1 0 ∧ ρ.1 0 ≤ 10007) : RB G mi_X9_isGood [vR ((30, 0)), vI (↑l), vI key] ρ (mixF (ρ.1 0) key (byF ρ l key) = ρ.2 36 l) := by
  intro M hR
  have hS := SameR.rf M
  refine Ct.of pl_X9_isGood [some (vR ((30, 0))), some (vI (↑l)), some (vI key)] rfl (Nat.le_of_ble_eq_true rfl) ?_
  refine S_aload_n dX9_isGood_0 rfl ?_
  refine S_iload_n dX9_isGood_1 rfl ?_
  refine S_aload_n dX9_isGood_2 rfl ?_
  refine S_iload_n dX9_isGood_3 rfl ?_
  refine S_iload_n dX9_isGood_4 rfl ?_
  refine S_callV (mi := mi_X9_isGood) [vI (↑l), vI key] ok_X9_byteOf ml_X9_202 dX9_isGood_5 rfl (by decide) rfl (by decide) rfl (Nat.le_of_ble_eq_true rfl) rfl (r_X9_byteOf (ρ := ρ) l key (by omega) ht (by omega) M hR) ?_
  rintro v' M1 ⟨rfl, hR1, hS1'⟩
  have hS1 := hS.trans hS1'
  refine S_callV (mi := mi_X9_isGood) [vI key, vI (byF ρ l key)] ok_X9_mix ml_X9_160 dX9_isGood_8 rfl (by decide) rfl (by decide) rfl (Nat.le_of_ble_eq_true rfl) rfl (r_X9_mix (ρ := ρ) key (byF ρ l key) (by omega) (by have := byF_bd ρ l key; omega) hq M1 hR1) ?_
  rintro v' M2 ⟨rfl, hR2, hS2'⟩
  have hS2 := hS1.trans hS2'
  have hmb := mixF_bd hq.1 hk.1 (byF_bd ρ l key).1
  refine S_aload_n dX9_isGood_11 rfl ?_
  refine S_getP fl_X9_111 dX9_isGood_12 rfl rfl (hR2.p 36 rfl) ?_
  refine S_iload_n dX9_isGood_15 rfl ?_
  refine R_ald (v := ρ.2 36 l) l hR2 dX9_isGood_16 rfl rfl (by omega) (show _ < 300 from by omega) rfl ?_
  refine S_icmp_ne 24 dX9_isGood_17 (by decide) (by omega) (fun c_17 => ?_) (fun c_17 => ?_)
  · refine S_iconst dX9_isGood_24 ?_
    exact S_iret dX9_isGood_25 rfl (Or.inr ⟨rfl, by omega⟩) ⟨Or.inr ⟨rfl, by omega⟩, hR2, hS2⟩
  · refine S_iconst dX9_isGood_20 ?_
    refine S_goto 25 dX9_isGood_21 (by decide) ?_
    exact S_iret dX9_isGood_25 rfl (Or.inr ⟨rfl, by omega⟩) ⟨Or.inl ⟨rfl, by omega⟩, hR2, hS2⟩
def RS.sh1 (ρ : RS) (k0 lo hi : Nat) : RS := (ρ.1, fun k j => if k = k0 ∧ lo ≤ j ∧ j < hi then ρ.2 k (j + 1) else ρ.2 k j)
def RS.sh4 (ρ : RS) (lo hi : Nat) : RS := (ρ.1, fun k j => if (26 ≤ k ∧ k ≤ 29) ∧ lo ≤ j ∧ j < hi then ρ.2 k (j + 1) else ρ.2 k j)
theorem RS.ext {ρ σ : RS} (h1 : ∀ k, ρ.1 k = σ.1 k) (h2 : ∀ k j, ρ.2 k j = σ.2 k j) : ρ = σ := Prod.ext (funext h1) (funext fun k => funext (h2 k))
theorem RS.sh1_0 (ρ : RS) (k0 lo : Nat) : ρ.sh1 k0 lo lo = ρ := RS.ext (fun _ => rfl) (fun k j => if_neg (by omega))
theorem RS.sh4_0 (ρ : RS) (lo : Nat) : ρ.sh4 lo lo = ρ := RS.ext (fun _ => rfl) (fun k j => if_neg (by omega))
theorem RS.sh1_s (ρ : RS) (k0 lo hi : Nat) (h : lo ≤ hi) : (ρ.sh1 k0 lo hi).setA k0 hi (ρ.2 k0 (hi + 1)) = ρ.sh1 k0 lo (hi + 1) := RS.ext (fun _ => rfl) (fun k j => by
  show (if k = k0 ∧ j = hi then ρ.2 k0 (hi + 1) else if k = k0 ∧ lo ≤ j ∧ j < hi then ρ.2 k (j + 1) else ρ.2 k j) = if k = k0 ∧ lo ≤ j ∧ j < hi + 1 then ρ.2 k (j + 1) else ρ.2 k j
  by_cases h1 : k = k0 ∧ j = hi
  · rw [if_pos h1, if_pos (by omega), h1.1, h1.2]
  · rw [if_neg h1]
    by_cases h2 : k = k0 ∧ lo ≤ j ∧ j < hi
    · rw [if_pos h2, if_pos (by omega)]
    · rw [if_neg h2, if_neg (by omega)])
theorem RS.sh4_s (ρ : RS) (lo hi : Nat) (h : lo ≤ hi) : ((((ρ.sh4 lo hi).setA 26 hi (ρ.2 26 (hi + 1))).setA 27 hi (ρ.2 27 (hi + 1))).setA 28 hi (ρ.2 28 (hi + 1))).setA 29 hi (ρ.2 29 (hi + 1)) = ρ.sh4 lo (hi + 1) := RS.ext (fun _ => rfl) (fun k j => by
  show (if k = 29 ∧ j = hi then ρ.2 29 (hi + 1) else if k = 28 ∧ j = hi then ρ.2 28 (hi + 1) else if k = 27 ∧ j = hi then ρ.2 27 (hi + 1) else if k = 26 ∧ j = hi then ρ.2 26 (hi + 1) else if (26 ≤ k ∧ k ≤ 29) ∧ lo ≤ j ∧ j < hi then ρ.2 k (j + 1) else ρ.2 k j) = if (26 ≤ k ∧ k ≤ 29) ∧ lo ≤ j ∧ j < hi + 1 then ρ.2 k (j + 1) else ρ.2 k j
  by_cases h1 : (26 ≤ k ∧ k ≤ 29) ∧ j = hi
  · rw [if_pos (show (26 ≤ k ∧ k ≤ 29) ∧ lo ≤ j ∧ j < hi + 1 by omega), h1.2]
    rcases (show k = 26 ∨ k = 27 ∨ k = 28 ∨ k = 29 by omega) with e | e | e | e <;> subst e <;> simp
  · rw [if_neg (by omega), if_neg (by omega), if_neg (by omega), if_neg (by omega)]
    by_cases h2 : (26 ≤ k ∧ k ≤ 29) ∧ lo ≤ j ∧ j < hi
    · rw [if_pos h2, if_pos (by omega)]
    · rw [if_neg h2, if_neg (by omega)])
theorem RS.sh1_at (ρ : RS) (k0 lo hi k j : Nat) (h : k ≠ k0 ∨ j < lo ∨ hi ≤ j) : (ρ.sh1 k0 lo hi).2 k j = ρ.2 k j := if_neg (by omega)
theorem RS.sh4_at (ρ : RS) (lo hi k j : Nat) (h : k < 26 ∨ 29 < k ∨ j < lo ∨ hi ≤ j) : (ρ.sh4 lo hi).2 k j = ρ.2 k j := if_neg (by omega)
def nextR (ρ : RS) (e n : Nat) : RS := (ρ.setA 12 e n).sh1 13 (12 * e) (12 * e + n)
theorem lp_X9_next {G : Ge} {ρ : RS} {M0 : Mem} (x : Int) (e n : Nat) (he : e < 12) (hn : n < 12) : ∀ (d : Nat) (k : Nat) (M : Mem), k + d = n → Rf (((ρ.setA 12 e ↑n).sh1 13 (12 * e) (12 * e + k))) M → SameR M0 M → Sf G mi_X9_next (fun v' M' => v' = some (vI x) ∧ Rf (nextR ρ e n) M' ∧ SameR M0 M') 22 [some (vR ((30, 0))), some (vI (↑e)), some (vI x), some (vI (↑k))] [] M := by
  intro d
  induction d with
  | zero =>
    intro k M hk hR hS
    obtain rfl : k = n := by omega
    refine S_iload_n dX9_next_22 rfl ?_
    refine S_aload_n dX9_next_23 rfl ?_
    refine S_getP fl_X9_42 dX9_next_24 rfl rfl (hR.p 12 rfl) ?_
    refine S_iload_n dX9_next_27 rfl ?_
    refine R_ald (v := ↑k) e hR dX9_next_28 rfl rfl (by omega) (show _ < 12 from by omega) (by simp [RS.sh1, RS.setA]) ?_
    refine S_icmp_ge 62 dX9_next_29 (by decide) (by omega) (fun c_29 => ?_) (fun c_29 => absurd c_29 (by omega))
    refine S_iload_n dX9_next_62 rfl ?_
    exact S_iret dX9_next_63 rfl (Or.inl rfl) ⟨rfl, hR, hS⟩
  | succ d ih =>
    intro k M hk hR hS
    refine S_iload_n dX9_next_22 rfl ?_
    refine S_aload_n dX9_next_23 rfl ?_
    refine S_getP fl_X9_42 dX9_next_24 rfl rfl (hR.p 12 rfl) ?_
    refine S_iload_n dX9_next_27 rfl ?_
    refine R_ald (v := ↑n) e hR dX9_next_28 rfl rfl (by omega) (show _ < 12 from by omega) (by simp [RS.sh1, RS.setA]) ?_
    refine S_icmp_ge 62 dX9_next_29 (by decide) (by omega) (fun c_29 => absurd c_29 (by omega)) (fun c_29 => ?_)
    refine S_aload_n dX9_next_32 rfl ?_
    refine S_getP fl_X9_45 dX9_next_33 rfl rfl (hR.p 13 rfl) ?_
    refine S_bipush dX9_next_36 (by decide) ?_
    refine S_iload_n dX9_next_38 rfl ?_
    refine S_imul dX9_next_39 ?_
    refine S_iload_n dX9_next_40 rfl ?_
    refine S_iadd dX9_next_41 ?_
    refine S_aload_n dX9_next_42 rfl ?_
    refine S_getP fl_X9_45 dX9_next_43 rfl rfl (hR.p 13 rfl) ?_
    refine S_bipush dX9_next_46 (by decide) ?_
    refine S_iload_n dX9_next_48 rfl ?_
    refine S_imul dX9_next_49 ?_
    refine S_iload_n dX9_next_50 rfl ?_
    refine S_iadd dX9_next_51 ?_
    refine S_iconst dX9_next_52 ?_
    refine S_iadd dX9_next_53 ?_
    refine R_ald (v := ρ.2 13 (12 * e + k + 1)) ((12 * e + k + 1)) hR dX9_next_54 rfl rfl (by omega) (show _ < 144 from by omega) ((RS.sh1_at _ _ _ _ _ _ (by omega)).trans (by simp [RS.setA])) ?_
    refine R_ast (((12 * e) + k)) dX9_next_55 rfl rfl (by omega) (show _ < 144 from by omega) hR hS (fun M1 hR1 hS1 => ?_)
    refine S_iinc dX9_next_56 rfl (by decide) ?_
    rw [show ((↑k) + 1 : Int) = ↑(k + 1) from by omega]
    refine S_goto 22 dX9_next_59 (by decide) ?_
    exact ih (k + 1) _ (by omega) (by have h9 := RS.sh1_s (ρ.setA 12 e ↑n) 13 (12 * e) (12 * e + k) (by omega); rw [show (ρ.setA 12 e ↑n).2 13 (12 * e + k + 1) = ρ.2 13 (12 * e + k + 1) from by simp [RS.setA]] at h9; rw [h9] at hR1; exact hR1) hS1
theorem r_X9_next {G : Ge} {ρ : RS} (e n : Nat) (he : e < 12) (hn : n < 12) (hr : ρ.2 12 e = ↑(n + 1)) : RC G mi_X9_next [vR ((30, 0)), vI (↑e)] ρ (some (vI (ρ.2 13 (12 * e)))) (nextR ρ e n) := by
  intro M hR
  have hS := SameR.rf M
  refine Ct.of pl_X9_next [some (vR ((30, 0))), some (vI (↑e)), none, none] rfl (Nat.le_of_ble_eq_true rfl) ?_
  refine S_aload_n dX9_next_0 rfl ?_
  refine S_getP fl_X9_45 dX9_next_1 rfl rfl (hR.p 13 rfl) ?_
  refine S_bipush dX9_next_4 (by decide) ?_
  refine S_iload_n dX9_next_6 rfl ?_
  refine S_imul dX9_next_7 ?_
  refine R_ald (v := ρ.2 13 ((12 * e))) ((12 * e)) hR dX9_next_8 rfl rfl (by omega) (show _ < 144 from by omega) rfl ?_
  refine S_istore_n dX9_next_9 (by decide) ?_
  refine S_aload_n dX9_next_10 rfl ?_
  refine S_getP fl_X9_42 dX9_next_11 rfl rfl (hR.p 12 rfl) ?_
  refine S_iload_n dX9_next_14 rfl ?_
  refine S_dup2 dX9_next_15 ?_
  refine R_ald (v := ↑(n + 1)) e hR dX9_next_16 rfl rfl (by omega) (show _ < 12 from by omega) hr ?_
  refine S_iconst dX9_next_17 ?_
  refine S_isub dX9_next_18 ?_
  refine R_ast e dX9_next_19 rfl rfl (by omega) (show _ < 12 from by omega) hR hS (fun M1 hR1 hS1 => ?_)
  refine S_iconst dX9_next_20 ?_
  refine S_istore_n dX9_next_21 (by decide) ?_
  exact lp_X9_next (ρ.2 13 (12 * e)) e n he hn n 0 _ (by omega) (by rw [show (↑(n + 1) : Int) - 1 = ↑n from by omega] at hR1; rw [Nat.add_zero, RS.sh1_0]; exact hR1) hS1
