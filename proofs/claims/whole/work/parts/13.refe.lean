/-! THE REFERENCE: what is kept ends, is kept, is skipped -/
def kp1 (ρ : RS) (e m : Nat) (place key : Int) : RS := ((((ρ.setA 26 (12 * e + m) (ρ.2 19 e)).setA 27 (12 * e + m) place).setA 28 (12 * e + m) key).setA 29 (12 * e + m) (ρ.1 30)).setA 25 e (↑m + 1)
def keepR (ρ : RS) (e n : Nat) (place key : Int) : RS := if n = 12 then kp1 (dropR ρ e 0 11) e 11 place key else kp1 ρ e n place key
theorem keepR_s (ρ : RS) (e n : Nat) (place key : Int) (k : Nat) : (keepR ρ e n place key).1 k = ρ.1 k := by
  unfold keepR; split <;> rfl
theorem dropR_at (ρ : RS) (e i n k j : Nat) (h : k < 25 ∨ 29 < k) : (dropR ρ e i n).2 k j = ρ.2 k j := by
  unfold dropR
  rw [RS.sh4_at _ _ _ _ _ (by omega)]
  exact if_neg (by omega)
theorem kp1_at (ρ : RS) (e m : Nat) (place key : Int) (k j : Nat) (h : k < 25 ∨ 29 < k) : (kp1 ρ e m place key).2 k j = ρ.2 k j := by
  show (if k = 25 ∧ j = e then (↑m + 1 : Int) else if k = 29 ∧ j = 12 * e + m then ρ.1 30 else if k = 28 ∧ j = 12 * e + m then key else if k = 27 ∧ j = 12 * e + m then place else if k = 26 ∧ j = 12 * e + m then ρ.2 19 e else ρ.2 k j) = _
  rw [if_neg (by omega), if_neg (by omega), if_neg (by omega), if_neg (by omega), if_neg (by omega)]
theorem keepR_at (ρ : RS) (e n : Nat) (place key : Int) (k j : Nat) (h : k < 25 ∨ 29 < k) : (keepR ρ e n place key).2 k j = ρ.2 k j := by
  unfold keepR; split
  · rw [kp1_at _ _ _ _ _ _ _ h, dropR_at _ _ _ _ _ _ h]
  · exact kp1_at _ _ _ _ _ _ _ h
theorem kp1_25 (ρ : RS) (e m : Nat) (place key : Int) (e' : Nat) : (kp1 ρ e m place key).2 25 e' = if e' = e then (m : Int) + 1 else ρ.2 25 e' := by
  show (if 25 = 25 ∧ e' = e then (↑m + 1 : Int) else ρ.2 25 e') = _
  by_cases h : e' = e
  · rw [if_pos ⟨rfl, h⟩, if_pos h]
  · rw [if_neg (fun q => h q.2), if_neg h]
theorem KOK.kpp {ρ : RS} (h : KOK ρ) {e m : Nat} {place key : Int} (he : e < 12) (hm : m < 12) (h19 : -1 ≤ ρ.2 19 e ∧ ρ.2 19 e ≤ 10007) (hp : 0 ≤ place ∧ place ≤ 600) (hk : 0 ≤ key ∧ key ≤ 8000) (hl : 0 ≤ ρ.1 30 ∧ ρ.1 30 ≤ 300) : KOK (kp1 ρ e m place key) := by
  refine ⟨fun e' he' => ?_, fun j hj => ?_⟩
  · rw [kp1_25]
    by_cases h1 : e' = e
    · rw [if_pos h1]; exact ⟨m + 1, by omega, by omega⟩
    · rw [if_neg h1]; exact h.1 e' he'
  · have h2 := h.2 j hj
    have a26 : (kp1 ρ e m place key).2 26 j = if j = 12 * e + m then ρ.2 19 e else ρ.2 26 j := by
      show (if 26 = 26 ∧ j = 12 * e + m then ρ.2 19 e else ρ.2 26 j) = _
      simp only [true_and]
    have a27 : (kp1 ρ e m place key).2 27 j = if j = 12 * e + m then place else ρ.2 27 j := by
      show (if 27 = 27 ∧ j = 12 * e + m then place else ρ.2 27 j) = _
      simp only [true_and]
    have a28 : (kp1 ρ e m place key).2 28 j = if j = 12 * e + m then key else ρ.2 28 j := by
      show (if 28 = 28 ∧ j = 12 * e + m then key else ρ.2 28 j) = _
      simp only [true_and]
    have a29 : (kp1 ρ e m place key).2 29 j = if j = 12 * e + m then ρ.1 30 else ρ.2 29 j := by
      show (if 29 = 29 ∧ j = 12 * e + m then ρ.1 30 else ρ.2 29 j) = _
      simp only [true_and]
    rw [a26, a27, a28, a29]
    by_cases hj2 : j = 12 * e + m
    · rw [if_pos hj2, if_pos hj2, if_pos hj2, if_pos hj2]; omega
    · rw [if_neg hj2, if_neg hj2, if_neg hj2, if_neg hj2]; exact h2
theorem KOK.keep {ρ : RS} (h : KOK ρ) {e n : Nat} {place key : Int} (he : e < 12) (hn : n ≤ 12) (h19 : -1 ≤ ρ.2 19 e ∧ ρ.2 19 e ≤ 10007) (hp : 0 ≤ place ∧ place ≤ 600) (hk : 0 ≤ key ∧ key ≤ 8000) (hl : 0 ≤ ρ.1 30 ∧ ρ.1 30 ≤ 300) : KOK (keepR ρ e n place key) := by
  unfold keepR
  by_cases h12 : n = 12
  · rw [if_pos h12]
    exact (h.drop he (by omega)).kpp he (by omega) (by rw [dropR_at _ _ _ _ _ _ (by omega)]; exact h19) hp hk hl
  · rw [if_neg h12]
    exact h.kpp he (by omega) h19 hp hk hl
theorem ThOK.congr {ρ σ : RS} {N : Nat} (h : ThOK ρ N) (h1 : σ.1 5 = ρ.1 5 ∧ σ.1 0 = ρ.1 0 ∧ σ.1 1 = ρ.1 1) (h2 : ∀ k j, 6 ≤ k → k ≤ 9 → σ.2 k j = ρ.2 k j) : ThOK σ N := by
  have hn : thN σ = thN ρ := by unfold thN; rw [h1.1]
  refine ⟨by rw [hn, h1.1]; exact h.1, by rw [hn]; exact h.2.1, by rw [h1.2.1]; exact h.2.2.1, by rw [h1.2.2]; exact h.2.2.2.1, fun t ht => ?_⟩
  rw [hn] at ht
  rw [h2 6 t (by omega) (by omega), h2 7 t (by omega) (by omega), h2 8 t (by omega) (by omega), h2 9 t (by omega) (by omega)]
  exact h.2.2.2.2 t ht
theorem thN_congr {ρ σ : RS} (h : σ.1 5 = ρ.1 5) : thN σ = thN ρ := by unfold thN; rw [h]
theorem KOK.congr {ρ σ : RS} (h : KOK ρ) (h2 : ∀ k j, 25 ≤ k → k ≤ 29 → σ.2 k j = ρ.2 k j) : KOK σ := by
  refine ⟨fun e he => ?_, fun j hj => ?_⟩
  · rw [h2 25 e (by omega) (by omega)]; exact h.1 e he
  · rw [h2 26 j (by omega) (by omega), h2 27 j (by omega) (by omega), h2 28 j (by omega) (by omega), h2 29 j (by omega) (by omega)]; exact h.2 j hj
theorem r_X9_keep {G : Ge} {ρ : RS} (e n : Nat) (place key : Int) (he : e < 12) (hn : n ≤ 12) (hr : ρ.2 25 e = ↑n) : RC G mi_X9_keep [vR ((30, 0)), vI (↑e), vI place, vI key] ρ none (keepR ρ e n place key) := by
  intro M hR
  have hS := SameR.rf M
  refine Ct.of pl_X9_keep [some (vR ((30, 0))), some (vI (↑e)), some (vI place), some (vI key), none] rfl (Nat.le_of_ble_eq_true rfl) ?_
  refine S_aload_n dX9_keep_0 rfl ?_
  refine S_getP fl_X9_81 dX9_keep_1 rfl rfl (hR.p 25 rfl) ?_
  refine S_iload_n dX9_keep_4 rfl ?_
  refine R_ald (v := ↑n) e hR dX9_keep_5 rfl rfl (by omega) (show _ < 12 from by omega) hr ?_
  refine S_bipush dX9_keep_6 (by decide) ?_
  refine S_icmp_ne 17 dX9_keep_8 (by decide) (by omega) (fun c_8 => ?_) (fun c_8 => ?_)
  · rw [show keepR ρ e n place key = kp1 ρ e n place key from if_neg (by omega)]
    refine S_bipush dX9_keep_17 (by decide) ?_
    refine S_iload_n dX9_keep_19 rfl ?_
    refine S_imul dX9_keep_20 ?_
    refine S_aload_n dX9_keep_21 rfl ?_
    refine S_getP fl_X9_81 dX9_keep_22 rfl rfl (hR.p 25 rfl) ?_
    refine S_iload_n dX9_keep_25 rfl ?_
    refine R_ald (v := ↑n) e hR dX9_keep_26 rfl rfl (by omega) (show _ < 12 from by omega) hr ?_
    refine S_iadd dX9_keep_27 ?_
    rw [show ((12 * (↑e)) + (↑n) : Int) = ↑(12 * e + n) from by omega]
    refine S_istore dX9_keep_28 (by decide) ?_
    refine S_aload_n dX9_keep_30 rfl ?_
    refine S_getP fl_X9_84 dX9_keep_31 rfl rfl (hR.p 26 rfl) ?_
    refine S_iload dX9_keep_34 rfl ?_
    refine S_aload_n dX9_keep_36 rfl ?_
    refine S_getP fl_X9_63 dX9_keep_37 rfl rfl (hR.p 19 rfl) ?_
    refine S_iload_n dX9_keep_40 rfl ?_
    refine R_ald (v := ρ.2 19 e) e hR dX9_keep_41 rfl rfl (by omega) (show _ < 12 from by omega) rfl ?_
    refine R_ast ((12 * e + n)) dX9_keep_42 rfl rfl (by omega) (show _ < 144 from by omega) hR hS (fun M21 hR21 hS21 => ?_)
    refine S_aload_n dX9_keep_43 rfl ?_
    refine S_getP fl_X9_87 dX9_keep_44 rfl rfl (hR21.p 27 rfl) ?_
    refine S_iload dX9_keep_47 rfl ?_
    refine S_iload_n dX9_keep_49 rfl ?_
    refine R_ast ((12 * e + n)) dX9_keep_50 rfl rfl (by omega) (show _ < 144 from by omega) hR21 hS21 (fun M22 hR22 hS22 => ?_)
    refine S_aload_n dX9_keep_51 rfl ?_
    refine S_getP fl_X9_90 dX9_keep_52 rfl rfl (hR22.p 28 rfl) ?_
    refine S_iload dX9_keep_55 rfl ?_
    refine S_iload_n dX9_keep_57 rfl ?_
    refine R_ast ((12 * e + n)) dX9_keep_58 rfl rfl (by omega) (show _ < 144 from by omega) hR22 hS22 (fun M23 hR23 hS23 => ?_)
    refine S_aload_n dX9_keep_59 rfl ?_
    refine S_getP fl_X9_93 dX9_keep_60 rfl rfl (hR23.p 29 rfl) ?_
    refine S_iload dX9_keep_63 rfl ?_
    refine S_aload_n dX9_keep_65 rfl ?_
    refine S_getI (v := ρ.1 30) fl_X9_142 dX9_keep_66 rfl rfl (hR23.s 30) ?_
    refine R_ast ((12 * e + n)) dX9_keep_69 rfl rfl (by omega) (show _ < 144 from by omega) hR23 hS23 (fun M24 hR24 hS24 => ?_)
    refine S_aload_n dX9_keep_70 rfl ?_
    refine S_getP fl_X9_81 dX9_keep_71 rfl rfl (hR24.p 25 rfl) ?_
    refine S_iload_n dX9_keep_74 rfl ?_
    refine S_dup2 dX9_keep_75 ?_
    refine R_ald (v := ↑n) e hR24 dX9_keep_76 rfl rfl (by omega) (show _ < 12 from by omega) hr ?_
    refine S_iconst dX9_keep_77 ?_
    refine S_iadd dX9_keep_78 ?_
    refine R_ast e dX9_keep_79 rfl rfl (by omega) (show _ < 12 from by omega) hR24 hS24 (fun M25 hR25 hS25 => ?_)
    exact S_vret dX9_keep_80 rfl ⟨rfl, hR25, hS25⟩
  · obtain rfl : n = 12 := by omega
    rw [show keepR ρ e 12 place key = kp1 (dropR ρ e 0 11) e 11 place key from rfl]
    refine S_aload_n dX9_keep_11 rfl ?_
    refine S_iload_n dX9_keep_12 rfl ?_
    refine S_iconst dX9_keep_13 ?_
    refine S_callV (mi := mi_X9_keep) [vI (↑e), vI 0] ok_X9_drops ml_X9_194 dX9_keep_14 rfl (by decide) rfl (by decide) rfl (Nat.le_of_ble_eq_true rfl) rfl (r_X9_drops (ρ := ρ) e 0 11 (by omega) (by omega) (by omega) hr M hR) ?_
    rintro v' M1 ⟨rfl, hR1, hS1'⟩
    have hS1 := hS.trans hS1'
    refine S_bipush dX9_keep_17 (by decide) ?_
    refine S_iload_n dX9_keep_19 rfl ?_
    refine S_imul dX9_keep_20 ?_
    refine S_aload_n dX9_keep_21 rfl ?_
    refine S_getP fl_X9_81 dX9_keep_22 rfl rfl (hR1.p 25 rfl) ?_
    refine S_iload_n dX9_keep_25 rfl ?_
    refine R_ald (v := ↑(11 : Nat)) e hR1 dX9_keep_26 rfl rfl (by omega) (show _ < 12 from by omega) ((drop_25 ρ e 0 11 e).trans (if_pos rfl)) ?_
    refine S_iadd dX9_keep_27 ?_
    rw [show ((12 * (↑e)) + (↑(11 : Nat)) : Int) = ↑(12 * e + 11) from by omega]
    refine S_istore dX9_keep_28 (by decide) ?_
    refine S_aload_n dX9_keep_30 rfl ?_
    refine S_getP fl_X9_84 dX9_keep_31 rfl rfl (hR1.p 26 rfl) ?_
    refine S_iload dX9_keep_34 rfl ?_
    refine S_aload_n dX9_keep_36 rfl ?_
    refine S_getP fl_X9_63 dX9_keep_37 rfl rfl (hR1.p 19 rfl) ?_
    refine S_iload_n dX9_keep_40 rfl ?_
    refine R_ald (v := ρ.2 19 e) e hR1 dX9_keep_41 rfl rfl (by omega) (show _ < 12 from by omega) rfl ?_
    refine R_ast ((12 * e + 11)) dX9_keep_42 rfl rfl (by omega) (show _ < 144 from by omega) hR1 hS1 (fun M21 hR21 hS21 => ?_)
    refine S_aload_n dX9_keep_43 rfl ?_
    refine S_getP fl_X9_87 dX9_keep_44 rfl rfl (hR21.p 27 rfl) ?_
    refine S_iload dX9_keep_47 rfl ?_
    refine S_iload_n dX9_keep_49 rfl ?_
    refine R_ast ((12 * e + 11)) dX9_keep_50 rfl rfl (by omega) (show _ < 144 from by omega) hR21 hS21 (fun M22 hR22 hS22 => ?_)
    refine S_aload_n dX9_keep_51 rfl ?_
    refine S_getP fl_X9_90 dX9_keep_52 rfl rfl (hR22.p 28 rfl) ?_
    refine S_iload dX9_keep_55 rfl ?_
    refine S_iload_n dX9_keep_57 rfl ?_
    refine R_ast ((12 * e + 11)) dX9_keep_58 rfl rfl (by omega) (show _ < 144 from by omega) hR22 hS22 (fun M23 hR23 hS23 => ?_)
    refine S_aload_n dX9_keep_59 rfl ?_
    refine S_getP fl_X9_93 dX9_keep_60 rfl rfl (hR23.p 29 rfl) ?_
    refine S_iload dX9_keep_63 rfl ?_
    refine S_aload_n dX9_keep_65 rfl ?_
    refine S_getI (v := (dropR ρ e 0 11).1 30) fl_X9_142 dX9_keep_66 rfl rfl (hR23.s 30) ?_
    refine R_ast ((12 * e + 11)) dX9_keep_69 rfl rfl (by omega) (show _ < 144 from by omega) hR23 hS23 (fun M24 hR24 hS24 => ?_)
    refine S_aload_n dX9_keep_70 rfl ?_
    refine S_getP fl_X9_81 dX9_keep_71 rfl rfl (hR24.p 25 rfl) ?_
    refine S_iload_n dX9_keep_74 rfl ?_
    refine S_dup2 dX9_keep_75 ?_
    refine R_ald (v := ↑(11 : Nat)) e hR24 dX9_keep_76 rfl rfl (by omega) (show _ < 12 from by omega) ((drop_25 ρ e 0 11 e).trans (if_pos rfl)) ?_
    refine S_iconst dX9_keep_77 ?_
    refine S_iadd dX9_keep_78 ?_
    refine R_ast e dX9_keep_79 rfl rfl (by omega) (show _ < 12 from by omega) hR24 hS24 (fun M25 hR25 hS25 => ?_)
    exact S_vret dX9_keep_80 rfl ⟨rfl, hR25, hS25⟩
