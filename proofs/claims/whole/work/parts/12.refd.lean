/-! THE REFERENCE: kept keys, what was left, the steps of a chain -/
def dropR (ρ : RS) (e i n : Nat) : RS := (ρ.setA 25 e n).sh4 (12 * e + i) (12 * e + n)
def KOK (ρ : RS) : Prop := (∀ e, e < 12 → ∃ n : Nat, n ≤ 12 ∧ ρ.2 25 e = ↑n) ∧ ∀ j, j < 144 → (-1 ≤ ρ.2 26 j ∧ ρ.2 26 j ≤ 10007) ∧ (0 ≤ ρ.2 27 j ∧ ρ.2 27 j ≤ 600) ∧ (0 ≤ ρ.2 28 j ∧ ρ.2 28 j ≤ 8000) ∧ (0 ≤ ρ.2 29 j ∧ ρ.2 29 j ≤ 300)
theorem drop_25 (ρ : RS) (e i n e' : Nat) : (dropR ρ e i n).2 25 e' = if e' = e then ↑n else ρ.2 25 e' := by
  unfold dropR
  rw [RS.sh4_at _ _ _ _ _ (by omega)]
  show (if 25 = 25 ∧ e' = e then (↑n : Int) else ρ.2 25 e') = _
  by_cases h : e' = e
  · rw [if_pos ⟨rfl, h⟩, if_pos h]
  · rw [if_neg (fun q => h q.2), if_neg h]
theorem KOK.drop {ρ : RS} (h : KOK ρ) {e i n : Nat} (he : e < 12) (hn : n < 12) : KOK (dropR ρ e i n) := by
  refine ⟨fun e' he' => ?_, fun j hj => ?_⟩
  · rw [drop_25]
    by_cases h1 : e' = e
    · rw [if_pos h1]; exact ⟨n, by omega, rfl⟩
    · rw [if_neg h1]; exact h.1 e' he'
  · have aux : ∀ k, 26 ≤ k → k ≤ 29 → (dropR ρ e i n).2 k j = if 12 * e + i ≤ j ∧ j < 12 * e + n then ρ.2 k (j + 1) else ρ.2 k j := fun k k1 k2 => by
      unfold dropR RS.sh4
      show (if (26 ≤ k ∧ k ≤ 29) ∧ 12 * e + i ≤ j ∧ j < 12 * e + n then (if k = 25 ∧ j + 1 = e then (↑n : Int) else ρ.2 k (j + 1)) else (if k = 25 ∧ j = e then (↑n : Int) else ρ.2 k j)) = _
      rw [if_neg (show ¬ (k = 25 ∧ j + 1 = e) by omega), if_neg (show ¬ (k = 25 ∧ j = e) by omega)]
      by_cases h3 : 12 * e + i ≤ j ∧ j < 12 * e + n
      · rw [if_pos ⟨⟨k1, k2⟩, h3⟩, if_pos h3]
      · rw [if_neg (fun q => h3 q.2), if_neg h3]
    rw [aux 26 (by omega) (by omega), aux 27 (by omega) (by omega), aux 28 (by omega) (by omega), aux 29 (by omega) (by omega)]
    by_cases h3 : 12 * e + i ≤ j ∧ j < 12 * e + n
    · rw [if_pos h3, if_pos h3, if_pos h3, if_pos h3]; exact h.2 (j + 1) (by omega)
    · rw [if_neg h3, if_neg h3, if_neg h3, if_neg h3]; exact h.2 j hj
theorem lp_X9_drops {G : Ge} {ρ : RS} {M0 : Mem} (e i n : Nat) (he : e < 12) (hn : n < 12) : ∀ (d : Nat) (j : Nat) (M : Mem), j + d = 12 * e + n → 12 * e + i ≤ j → Rf (((ρ.setA 25 e ↑n).sh4 (12 * e + i) j)) M → SameR M0 M → Sf G mi_X9_drops (fun v' M' => v' = none ∧ Rf (dropR ρ e i n) M' ∧ SameR M0 M') 17 [some (vR ((30, 0))), some (vI (↑e)), some (vI (↑i)), some (vI (↑j))] [] M := by
  intro d
  induction d with
  | zero =>
    intro j M hj hj0 hR hS
    obtain rfl : j = 12 * e + n := by omega
    refine S_iload_n dX9_drops_17 rfl ?_
    refine S_bipush dX9_drops_18 (by decide) ?_
    refine S_iload_n dX9_drops_20 rfl ?_
    refine S_imul dX9_drops_21 ?_
    refine S_aload_n dX9_drops_22 rfl ?_
    refine S_getP fl_X9_81 dX9_drops_23 rfl rfl (hR.p 25 rfl) ?_
    refine S_iload_n dX9_drops_26 rfl ?_
    refine R_ald (v := ↑n) e hR dX9_drops_27 rfl rfl (by omega) (show _ < 12 from by omega) ((RS.sh4_at _ _ _ _ _ (by omega)).trans (by simp [RS.setA])) ?_
    refine S_iadd dX9_drops_28 ?_
    refine S_icmp_ge 94 dX9_drops_29 (by decide) (by omega) (fun c_29 => ?_) (fun c_29 => absurd c_29 (by omega))
    exact S_vret dX9_drops_94 rfl ⟨rfl, hR, hS⟩
  | succ d ih =>
    intro j M hj hj0 hR hS
    refine S_iload_n dX9_drops_17 rfl ?_
    refine S_bipush dX9_drops_18 (by decide) ?_
    refine S_iload_n dX9_drops_20 rfl ?_
    refine S_imul dX9_drops_21 ?_
    refine S_aload_n dX9_drops_22 rfl ?_
    refine S_getP fl_X9_81 dX9_drops_23 rfl rfl (hR.p 25 rfl) ?_
    refine S_iload_n dX9_drops_26 rfl ?_
    refine R_ald (v := ↑n) e hR dX9_drops_27 rfl rfl (by omega) (show _ < 12 from by omega) ((RS.sh4_at _ _ _ _ _ (by omega)).trans (by simp [RS.setA])) ?_
    refine S_iadd dX9_drops_28 ?_
    refine S_icmp_ge 94 dX9_drops_29 (by decide) (by omega) (fun c_29 => absurd c_29 (by omega)) (fun c_29 => ?_)
    refine S_aload_n dX9_drops_32 rfl ?_
    refine S_getP fl_X9_84 dX9_drops_33 rfl rfl (hR.p 26 rfl) ?_
    refine S_iload_n dX9_drops_36 rfl ?_
    refine S_aload_n dX9_drops_37 rfl ?_
    refine S_getP fl_X9_84 dX9_drops_38 rfl rfl (hR.p 26 rfl) ?_
    refine S_iload_n dX9_drops_41 rfl ?_
    refine S_iconst dX9_drops_42 ?_
    refine S_iadd dX9_drops_43 ?_
    refine R_ald (v := ρ.2 26 (j + 1)) ((j + 1)) hR dX9_drops_44 rfl rfl (by omega) (show _ < 144 from by omega) ((RS.sh4_at _ _ _ _ _ (by omega)).trans (by simp [RS.setA])) ?_
    refine R_ast j dX9_drops_45 rfl rfl (by omega) (show _ < 144 from by omega) hR hS (fun M1 hR1 hS1 => ?_)
    refine S_aload_n dX9_drops_46 rfl ?_
    refine S_getP fl_X9_87 dX9_drops_47 rfl rfl (hR1.p 27 rfl) ?_
    refine S_iload_n dX9_drops_50 rfl ?_
    refine S_aload_n dX9_drops_51 rfl ?_
    refine S_getP fl_X9_87 dX9_drops_52 rfl rfl (hR1.p 27 rfl) ?_
    refine S_iload_n dX9_drops_55 rfl ?_
    refine S_iconst dX9_drops_56 ?_
    refine S_iadd dX9_drops_57 ?_
    refine R_ald (v := ρ.2 27 (j + 1)) ((j + 1)) hR1 dX9_drops_58 rfl rfl (by omega) (show _ < 144 from by omega) ((RS.sh4_at _ _ _ _ _ (by omega)).trans (by simp [RS.setA])) ?_
    refine R_ast j dX9_drops_59 rfl rfl (by omega) (show _ < 144 from by omega) hR1 hS1 (fun M2 hR2 hS2 => ?_)
    refine S_aload_n dX9_drops_60 rfl ?_
    refine S_getP fl_X9_90 dX9_drops_61 rfl rfl (hR2.p 28 rfl) ?_
    refine S_iload_n dX9_drops_64 rfl ?_
    refine S_aload_n dX9_drops_65 rfl ?_
    refine S_getP fl_X9_90 dX9_drops_66 rfl rfl (hR2.p 28 rfl) ?_
    refine S_iload_n dX9_drops_69 rfl ?_
    refine S_iconst dX9_drops_70 ?_
    refine S_iadd dX9_drops_71 ?_
    refine R_ald (v := ρ.2 28 (j + 1)) ((j + 1)) hR2 dX9_drops_72 rfl rfl (by omega) (show _ < 144 from by omega) ((RS.sh4_at _ _ _ _ _ (by omega)).trans (by simp [RS.setA])) ?_
    refine R_ast j dX9_drops_73 rfl rfl (by omega) (show _ < 144 from by omega) hR2 hS2 (fun M3 hR3 hS3 => ?_)
    refine S_aload_n dX9_drops_74 rfl ?_
    refine S_getP fl_X9_93 dX9_drops_75 rfl rfl (hR3.p 29 rfl) ?_
    refine S_iload_n dX9_drops_78 rfl ?_
    refine S_aload_n dX9_drops_79 rfl ?_
    refine S_getP fl_X9_93 dX9_drops_80 rfl rfl (hR3.p 29 rfl) ?_
    refine S_iload_n dX9_drops_83 rfl ?_
    refine S_iconst dX9_drops_84 ?_
    refine S_iadd dX9_drops_85 ?_
    refine R_ald (v := ρ.2 29 (j + 1)) ((j + 1)) hR3 dX9_drops_86 rfl rfl (by omega) (show _ < 144 from by omega) ((RS.sh4_at _ _ _ _ _ (by omega)).trans (by simp [RS.setA])) ?_
    refine R_ast j dX9_drops_87 rfl rfl (by omega) (show _ < 144 from by omega) hR3 hS3 (fun M4 hR4 hS4 => ?_)
    refine S_iinc dX9_drops_88 rfl (by decide) ?_
    rw [show ((↑j) + 1 : Int) = ↑(j + 1) from by omega]
    refine S_goto 17 dX9_drops_91 (by decide) ?_
    have h9 := RS.sh4_s (ρ.setA 25 e ↑n) (12 * e + i) j hj0
    rw [show (ρ.setA 25 e ↑n).2 26 (j + 1) = ρ.2 26 (j + 1) from by simp [RS.setA], show (ρ.setA 25 e ↑n).2 27 (j + 1) = ρ.2 27 (j + 1) from by simp [RS.setA], show (ρ.setA 25 e ↑n).2 28 (j + 1) = ρ.2 28 (j + 1) from by simp [RS.setA], show (ρ.setA 25 e ↑n).2 29 (j + 1) = ρ.2 29 (j + 1) from by simp [RS.setA]] at h9
    rw [h9] at hR4
    exact ih (j + 1) _ (by omega) (by omega) hR4 hS4
theorem r_X9_drops {G : Ge} {ρ : RS} (e i n : Nat) (he : e < 12) (hn : n < 12) (hi : i ≤ n) (hr : ρ.2 25 e = ↑(n + 1)) : RC G mi_X9_drops [vR ((30, 0)), vI (↑e), vI (↑i)] ρ none (dropR ρ e i n) := by
  intro M hR
  have hS := SameR.rf M
  refine Ct.of pl_X9_drops [some (vR ((30, 0))), some (vI (↑e)), some (vI (↑i)), none] rfl (Nat.le_of_ble_eq_true rfl) ?_
  refine S_aload_n dX9_drops_0 rfl ?_
  refine S_getP fl_X9_81 dX9_drops_1 rfl rfl (hR.p 25 rfl) ?_
  refine S_iload_n dX9_drops_4 rfl ?_
  refine S_dup2 dX9_drops_5 ?_
  refine R_ald (v := ↑(n + 1)) e hR dX9_drops_6 rfl rfl (by omega) (show _ < 12 from by omega) hr ?_
  refine S_iconst dX9_drops_7 ?_
  refine S_isub dX9_drops_8 ?_
  refine R_ast e dX9_drops_9 rfl rfl (by omega) (show _ < 12 from by omega) hR hS (fun M1 hR1 hS1 => ?_)
  refine S_bipush dX9_drops_10 (by decide) ?_
  refine S_iload_n dX9_drops_12 rfl ?_
  refine S_imul dX9_drops_13 ?_
  refine S_iload_n dX9_drops_14 rfl ?_
  refine S_iadd dX9_drops_15 ?_
  rw [show (12 * ↑e + ↑i : Int) = ↑(12 * e + i) from by omega]
  refine S_istore_n dX9_drops_16 (by decide) ?_
  exact lp_X9_drops e i n he hn (n - i) (12 * e + i) _ (by omega) (by omega) (by rw [show (↑(n + 1) : Int) - 1 = ↑n from by omega] at hR1; rw [RS.sh4_0]; exact hR1) hS1
def kptF (ρ : RS) (e l : Nat) : Nat → Nat → Int
  | 0, _ => -1
  | d + 1, i => if ρ.2 26 (12 * e + i) = ρ.2 32 l ∧ ρ.2 27 (12 * e + i) = ρ.2 34 l then ↑i else kptF ρ e l d (i + 1)
theorem lp_X9_keptOf {G : Ge} {ρ : RS} {M0 : Mem} (e l n : Nat) (he : e < 12) (hl : l < 300) (hn : n ≤ 12) (hr : ρ.2 25 e = ↑n) (hK : KOK ρ) (h32 : 0 ≤ ρ.2 32 l ∧ ρ.2 32 l ≤ 10007) (h34 : 0 ≤ ρ.2 34 l ∧ ρ.2 34 l ≤ 600) : ∀ (d : Nat) (i : Nat) (M : Mem), i + d = n → Rf ρ M → SameR M0 M → Sf G mi_X9_keptOf (fun v' M' => v' = some (vI (kptF ρ e l d i)) ∧ Rf ρ M' ∧ SameR M0 M') 2 [some (vR ((30, 0))), some (vI (↑e)), some (vI (↑l)), some (vI (↑i))] [] M := by
  intro d
  induction d with
  | zero =>
    intro i M hi hR hS
    refine S_iload_n dX9_keptOf_2 rfl ?_
    refine S_aload_n dX9_keptOf_3 rfl ?_
    refine S_getP fl_X9_81 dX9_keptOf_4 rfl rfl (hR.p 25 rfl) ?_
    refine S_iload_n dX9_keptOf_7 rfl ?_
    refine R_ald (v := ↑n) e hR dX9_keptOf_8 rfl rfl (by omega) (show _ < 12 from by omega) hr ?_
    refine S_icmp_ge 60 dX9_keptOf_9 (by decide) (by omega) (fun c_9 => ?_) (fun c_9 => absurd c_9 (by omega))
    refine S_iconst dX9_keptOf_60 ?_
    exact S_iret dX9_keptOf_61 rfl (Or.inl rfl) ⟨rfl, hR, hS⟩
  | succ d ih =>
    intro i M hi hR hS
    have hk1 := hK.2 (12 * e + i) (by omega)
    refine S_iload_n dX9_keptOf_2 rfl ?_
    refine S_aload_n dX9_keptOf_3 rfl ?_
    refine S_getP fl_X9_81 dX9_keptOf_4 rfl rfl (hR.p 25 rfl) ?_
    refine S_iload_n dX9_keptOf_7 rfl ?_
    refine R_ald (v := ↑n) e hR dX9_keptOf_8 rfl rfl (by omega) (show _ < 12 from by omega) hr ?_
    refine S_icmp_ge 60 dX9_keptOf_9 (by decide) (by omega) (fun c_9 => absurd c_9 (by omega)) (fun c_9 => ?_)
    refine S_aload_n dX9_keptOf_12 rfl ?_
    refine S_getP fl_X9_84 dX9_keptOf_13 rfl rfl (hR.p 26 rfl) ?_
    refine S_bipush dX9_keptOf_16 (by decide) ?_
    refine S_iload_n dX9_keptOf_18 rfl ?_
    refine S_imul dX9_keptOf_19 ?_
    refine S_iload_n dX9_keptOf_20 rfl ?_
    refine S_iadd dX9_keptOf_21 ?_
    refine R_ald (v := ρ.2 26 (((12 * e) + i))) (((12 * e) + i)) hR dX9_keptOf_22 rfl rfl (by omega) (show _ < 144 from by omega) rfl ?_
    refine S_aload_n dX9_keptOf_23 rfl ?_
    refine S_getP fl_X9_99 dX9_keptOf_24 rfl rfl (hR.p 32 rfl) ?_
    refine S_iload_n dX9_keptOf_27 rfl ?_
    refine R_ald (v := ρ.2 32 l) l hR dX9_keptOf_28 rfl rfl (by omega) (show _ < 300 from by omega) rfl ?_
    refine S_icmp_ne 54 dX9_keptOf_29 (by decide) (by omega) (fun c_29 => ?_) (fun c_29 => ?_)
    · rw [show kptF ρ e l (d + 1) i = kptF ρ e l d (i + 1) from if_neg (by omega)]
      refine S_iinc dX9_keptOf_54 rfl (by decide) ?_
      rw [show ((↑i) + 1 : Int) = ↑(i + 1) from by omega]
      refine S_goto 2 dX9_keptOf_57 (by decide) ?_
      exact ih (i + 1) _ (by omega) hR hS
    · refine S_aload_n dX9_keptOf_32 rfl ?_
      refine S_getP fl_X9_87 dX9_keptOf_33 rfl rfl (hR.p 27 rfl) ?_
      refine S_bipush dX9_keptOf_36 (by decide) ?_
      refine S_iload_n dX9_keptOf_38 rfl ?_
      refine S_imul dX9_keptOf_39 ?_
      refine S_iload_n dX9_keptOf_40 rfl ?_
      refine S_iadd dX9_keptOf_41 ?_
      refine R_ald (v := ρ.2 27 (((12 * e) + i))) (((12 * e) + i)) hR dX9_keptOf_42 rfl rfl (by omega) (show _ < 144 from by omega) rfl ?_
      refine S_aload_n dX9_keptOf_43 rfl ?_
      refine S_getP fl_X9_105 dX9_keptOf_44 rfl rfl (hR.p 34 rfl) ?_
      refine S_iload_n dX9_keptOf_47 rfl ?_
      refine R_ald (v := ρ.2 34 l) l hR dX9_keptOf_48 rfl rfl (by omega) (show _ < 300 from by omega) rfl ?_
      refine S_icmp_ne 54 dX9_keptOf_49 (by decide) (by omega) (fun c_49 => ?_) (fun c_49 => ?_)
      · rw [show kptF ρ e l (d + 1) i = kptF ρ e l d (i + 1) from if_neg (by omega)]
        refine S_iinc dX9_keptOf_54 rfl (by decide) ?_
        rw [show ((↑i) + 1 : Int) = ↑(i + 1) from by omega]
        refine S_goto 2 dX9_keptOf_57 (by decide) ?_
        exact ih (i + 1) _ (by omega) hR hS
      · rw [show kptF ρ e l (d + 1) i = ↑i from if_pos ⟨by omega, by omega⟩]
        refine S_iload_n dX9_keptOf_52 rfl ?_
        exact S_iret dX9_keptOf_53 rfl (Or.inl rfl) ⟨rfl, hR, hS⟩
theorem r_X9_keptOf {G : Ge} {ρ : RS} (e l n : Nat) (he : e < 12) (hl : l < 300) (hn : n ≤ 12) (hr : ρ.2 25 e = ↑n) (hK : KOK ρ) (h32 : 0 ≤ ρ.2 32 l ∧ ρ.2 32 l ≤ 10007) (h34 : 0 ≤ ρ.2 34 l ∧ ρ.2 34 l ≤ 600) : RC G mi_X9_keptOf [vR ((30, 0)), vI (↑e), vI (↑l)] ρ (some (vI (kptF ρ e l n 0))) ρ := by
  intro M hR
  have hS := SameR.rf M
  refine Ct.of pl_X9_keptOf [some (vR ((30, 0))), some (vI (↑e)), some (vI (↑l)), none] rfl (Nat.le_of_ble_eq_true rfl) ?_
  refine S_iconst dX9_keptOf_0 ?_
  refine S_istore_n dX9_keptOf_1 (by decide) ?_
  exact lp_X9_keptOf e l n he hl hn hr hK h32 h34 n 0 _ (by omega) hR hS
theorem lp_X9_hasLeft {G : Ge} {ρ : RS} {M0 : Mem} (e n : Nat) (p : Int) (he : e < 12) (hn : n ≤ 600) (hr : ρ.2 23 e = ↑n) (hL : ∀ j, j < 7200 → -1 ≤ ρ.2 24 j ∧ ρ.2 24 j ≤ 10007) (hp : -1 ≤ p ∧ p ≤ 10007) : ∀ (d : Nat) (k : Nat) (x : Int) (M : Mem), k + d = n → (x = 1 ∧ ∃ k, k < n ∧ ρ.2 24 (600 * e + k) = p) ∨ (x = 0 ∧ ∀ j, j < k → ρ.2 24 (600 * e + j) ≠ p) → Rf ρ M → SameR M0 M → Sf G mi_X9_hasLeft (fun v' M' => (v' = some (vI 1) ∧ (∃ k, k < n ∧ ρ.2 24 (600 * e + k) = p) ∨ v' = some (vI 0) ∧ ¬ (∃ k, k < n ∧ ρ.2 24 (600 * e + k) = p)) ∧ Rf ρ M' ∧ SameR M0 M') 5 [some (vR ((30, 0))), some (vI (↑e)), some (vI p), some (vI x), some (vI (↑k))] [] M := by
  intro d
  induction d with
  | zero =>
    intro k x M hk hx hR hS
    obtain rfl : k = n := by omega
    refine S_iload dX9_hasLeft_5 rfl ?_
    refine S_aload_n dX9_hasLeft_7 rfl ?_
    refine S_getP fl_X9_75 dX9_hasLeft_8 rfl rfl (hR.p 23 rfl) ?_
    refine S_iload_n dX9_hasLeft_11 rfl ?_
    refine R_ald (v := ↑k) e hR dX9_hasLeft_12 rfl rfl (by omega) (show _ < 12 from by omega) hr ?_
    refine S_icmp_ge 49 dX9_hasLeft_13 (by decide) (by omega) (fun c_13 => ?_) (fun c_13 => absurd c_13 (by omega))
    refine S_iload_n dX9_hasLeft_49 rfl ?_
    exact S_iret dX9_hasLeft_50 rfl (Or.inr ⟨rfl, by rcases hx with h | h <;> omega⟩) ⟨hx.elim (fun h => Or.inl ⟨by rw [h.1], h.2⟩) (fun h => Or.inr ⟨by rw [h.1], fun ⟨j, h1, h2⟩ => h.2 j h1 h2⟩), hR, hS⟩
  | succ d ih =>
    intro k x M hk hx hR hS
    have hl1 := hL (600 * e + k) (by omega)
    refine S_iload dX9_hasLeft_5 rfl ?_
    refine S_aload_n dX9_hasLeft_7 rfl ?_
    refine S_getP fl_X9_75 dX9_hasLeft_8 rfl rfl (hR.p 23 rfl) ?_
    refine S_iload_n dX9_hasLeft_11 rfl ?_
    refine R_ald (v := ↑n) e hR dX9_hasLeft_12 rfl rfl (by omega) (show _ < 12 from by omega) hr ?_
    refine S_icmp_ge 49 dX9_hasLeft_13 (by decide) (by omega) (fun c_13 => absurd c_13 (by omega)) (fun c_13 => ?_)
    refine S_iload_n dX9_hasLeft_16 rfl ?_
    refine S_if_ne 37 dX9_hasLeft_17 (by decide) (by rcases hx with h | h <;> omega) (fun c_17 => ?_) (fun c_17 => ?_)
    · refine S_iconst dX9_hasLeft_37 ?_
      refine S_goto 42 dX9_hasLeft_38 (by decide) ?_
      refine S_istore_n dX9_hasLeft_42 (by decide) ?_
      refine S_iinc dX9_hasLeft_43 rfl (by decide) ?_
      rw [show ((↑k) + 1 : Int) = ↑(k + 1) from by omega]
      refine S_goto 5 dX9_hasLeft_46 (by decide) ?_
      exact ih (k + 1) 1 _ (by omega) (by first | (rcases hx with h | h; exact Or.inl ⟨rfl, h.2⟩; exact absurd h.1 c_17) | (exact Or.inl ⟨rfl, k, by omega, by omega⟩) | (rcases hx with h | h; exact absurd h.1 (by omega); exact Or.inr ⟨rfl, fun j hj => (by rcases (show j < k ∨ j = k by omega) with q | q; exact h.2 j q; rw [q]; omega)⟩)) hR hS
    · refine S_aload_n dX9_hasLeft_20 rfl ?_
      refine S_getP fl_X9_78 dX9_hasLeft_21 rfl rfl (hR.p 24 rfl) ?_
      refine S_sipush dX9_hasLeft_24 (by decide) ?_
      refine S_iload_n dX9_hasLeft_27 rfl ?_
      refine S_imul dX9_hasLeft_28 ?_
      refine S_iload dX9_hasLeft_29 rfl ?_
      refine S_iadd dX9_hasLeft_31 ?_
      refine R_ald (v := ρ.2 24 (((600 * e) + k))) (((600 * e) + k)) hR dX9_hasLeft_32 rfl rfl (by omega) (show _ < 7200 from by omega) rfl ?_
      refine S_iload_n dX9_hasLeft_33 rfl ?_
      refine S_icmp_ne 41 dX9_hasLeft_34 (by decide) (by omega) (fun c_34 => ?_) (fun c_34 => ?_)
      · refine S_iconst dX9_hasLeft_41 ?_
        refine S_istore_n dX9_hasLeft_42 (by decide) ?_
        refine S_iinc dX9_hasLeft_43 rfl (by decide) ?_
        rw [show ((↑k) + 1 : Int) = ↑(k + 1) from by omega]
        refine S_goto 5 dX9_hasLeft_46 (by decide) ?_
        exact ih (k + 1) 0 _ (by omega) (by first | (rcases hx with h | h; exact Or.inl ⟨rfl, h.2⟩; exact absurd h.1 c_17) | (exact Or.inl ⟨rfl, k, by omega, by omega⟩) | (rcases hx with h | h; exact absurd h.1 (by omega); exact Or.inr ⟨rfl, fun j hj => (by rcases (show j < k ∨ j = k by omega) with q | q; exact h.2 j q; rw [q]; omega)⟩)) hR hS
      · refine S_iconst dX9_hasLeft_37 ?_
        refine S_goto 42 dX9_hasLeft_38 (by decide) ?_
        refine S_istore_n dX9_hasLeft_42 (by decide) ?_
        refine S_iinc dX9_hasLeft_43 rfl (by decide) ?_
        rw [show ((↑k) + 1 : Int) = ↑(k + 1) from by omega]
        refine S_goto 5 dX9_hasLeft_46 (by decide) ?_
        exact ih (k + 1) 1 _ (by omega) (by first | (rcases hx with h | h; exact Or.inl ⟨rfl, h.2⟩; exact absurd h.1 c_17) | (exact Or.inl ⟨rfl, k, by omega, by omega⟩) | (rcases hx with h | h; exact absurd h.1 (by omega); exact Or.inr ⟨rfl, fun j hj => (by rcases (show j < k ∨ j = k by omega) with q | q; exact h.2 j q; rw [q]; omega)⟩)) hR hS
theorem r_X9_hasLeft {G : Ge} {ρ : RS} (e n : Nat) (p : Int) (he : e < 12) (hn : n ≤ 600) (hr : ρ.2 23 e = ↑n) (hL : ∀ j, j < 7200 → -1 ≤ ρ.2 24 j ∧ ρ.2 24 j ≤ 10007) (hp : -1 ≤ p ∧ p ≤ 10007) : RB G mi_X9_hasLeft [vR ((30, 0)), vI (↑e), vI p] ρ (∃ k, k < n ∧ ρ.2 24 (600 * e + k) = p) := by
  intro M hR
  have hS := SameR.rf M
  refine Ct.of pl_X9_hasLeft [some (vR ((30, 0))), some (vI (↑e)), some (vI p), none, none] rfl (Nat.le_of_ble_eq_true rfl) ?_
  refine S_iconst dX9_hasLeft_0 ?_
  refine S_istore_n dX9_hasLeft_1 (by decide) ?_
  refine S_iconst dX9_hasLeft_2 ?_
  refine S_istore dX9_hasLeft_3 (by decide) ?_
  exact lp_X9_hasLeft e n p he hn hr hL hp n 0 0 _ (by omega) (Or.inr ⟨rfl, fun j hj => absurd hj (by omega)⟩) hR hS
