/-! THE JDK's list: add, its face -/
def AddQ (n : Nat) (M : Mem) (v : Option AVal) (v' : Option AVal) (M' : Mem) : Prop := v' = v ∧ Ls (n + 1) M' ∧ Fr [4, 5] M M' ∧ M.rc ≤ M'.rc + 1 ∧ M.rs + 4 * capM M ≤ M'.rs + 4 * capM M'
set_option maxRecDepth 100000 in
theorem c_add2 {G : Ge} {M : Mem} (n : Nat) (lr : Role) (h2 : M.I (4, 0) 2 = ↑n) (h3 : M.P (4, 0) 1 = some lr) (hm : Ct G mi_Jx4a65c_add_72be8 [vR (4, 0), vR (18, n), vR lr, vI ↑n] (M.putI (4, 0) 0 (M.I (4, 0) 0 + 1)) (AddQ n M none)) : Ct G mi_Jx4a65c_add_9ea2d [vR ((4, 0)), vR ((18, n))] M (AddQ n M (some (vI 1))) := by
  refine Ct.of pl_Jx4a65c_add_9ea2d [some (vR ((4, 0))), some (vR ((18, n)))] rfl (Nat.le_of_ble_eq_true rfl) ?_
  refine S_aload_n dJx4a65c_add_9ea2d_0 rfl ?_
  refine S_dup dJx4a65c_add_9ea2d_1 ?_
  refine S_getI (v := M.I (4, 0) 0) fl_Jx4a65c_63 dJx4a65c_add_9ea2d_2 rfl rfl rfl ?_
  refine S_iconst dJx4a65c_add_9ea2d_5 ?_
  refine S_iadd dJx4a65c_add_9ea2d_6 ?_
  refine S_putI fl_Jx4a65c_63 dJx4a65c_add_9ea2d_7 rfl rfl rfl  (Or.inl rfl) ?_
  refine Sf.nm (fun M1 hM1 => ?_)
  refine S_aload_n dJx4a65c_add_9ea2d_10 rfl ?_
  refine S_aload_n dJx4a65c_add_9ea2d_11 rfl ?_
  refine S_aload_n dJx4a65c_add_9ea2d_12 rfl ?_
  refine S_getP (o := some lr) fl_Jx4a65c_9 dJx4a65c_add_9ea2d_13 rfl rfl (by rw [hM1, Mem.putI_P, h3]) ?_
  refine S_aload_n dJx4a65c_add_9ea2d_16 rfl ?_
  refine S_getI (v := ↑n) fl_Jx4a65c_48 dJx4a65c_add_9ea2d_17 rfl rfl (by rw [hM1, Mem.putI_at (Or.inr (by decide)), h2]) ?_
  rw [← hM1] at hm
  refine S_callV (mi := mi_Jx4a65c_add_9ea2d) [vR ((18, n)), vR lr, vI (↑n)] ok_Jx4a65c_add_72be8 ml_Jx4a65c_131 dJx4a65c_add_9ea2d_20 rfl (by decide) rfl (by decide) rfl (Nat.le_of_ble_eq_true rfl) rfl (hm) ?_
  rintro v' M2 ⟨rfl, hA2⟩
  refine S_iconst dJx4a65c_add_9ea2d_23 ?_
  exact S_iret dJx4a65c_add_9ea2d_24 rfl (Or.inr ⟨rfl, by omega⟩) ⟨rfl, hA2⟩
theorem c_add {G : Ge} {M : Mem} (n : Nat) (h : Ls n M) (h20 : M.len (20, 0) = some 0) (hn : n < 8000) (hrc : 1 ≤ M.rc) (hrs : 50000 ≤ M.rs + 4 * capM M) : Ct G mi_Jx4a65c_add_9ea2d [vR (4, 0), vR (18, n)] M (AddQ n M (some (vI 1))) := by
  obtain ⟨h1, h2, lr, cap, c, h3, h4, h5, h6, h7, h8, h9⟩ := h
  have hcap := capM_of h3 h4
  have e3 : (M.putI (4, 0) 0 (M.I (4, 0) 0 + 1)).P (4, 0) 1 = some lr := h3
  have hc1 : capM (M.putI (4, 0) 0 (M.I (4, 0) 0 + 1)) = cap := capM_of e3 h4
  have e2 : (M.putI (4, 0) 0 (M.I (4, 0) 0 + 1)).I (4, 0) 2 = ↑n := by rw [Mem.putI_at (Or.inr (by decide))]; exact h2
  have fin : ∀ v' M', (v' = none ∧ Ls (n + 1) M' ∧ Fr [4, 5] (M.putI (4, 0) 0 (M.I (4, 0) 0 + 1)) M' ∧ (M.putI (4, 0) 0 (M.I (4, 0) 0 + 1)).rc ≤ M'.rc + 1 ∧ (M.putI (4, 0) 0 (M.I (4, 0) 0 + 1)).rs + 4 * capM (M.putI (4, 0) 0 (M.I (4, 0) 0 + 1)) ≤ M'.rs + 4 * capM M') → AddQ n M none v' M' := fun v' M' q => by
    obtain ⟨q1, q2, q3, q4, q5⟩ := q
    refine ⟨q1, q2, (Fr.pI 4 0 (by decide)).trans q3, q4, ?_⟩
    rw [hc1] at q5
    rw [hcap]
    exact q5
  refine c_add2 n lr h2 h3 ?_
  rcases h5 with ⟨rfl, rfl⟩ | ⟨q1, q2, q3⟩
  · obtain rfl : n = 0 := by omega
    exact Ct.imp fin (c_addA c h1 e2 e3 h4 h9 hrc (by show 12000 ≤ M.rs; omega))
  · obtain ⟨x, hx⟩ : ∃ x : Nat, lr = (5, x) := ⟨lr.2, by rw [← q1]⟩
    subst hx
    by_cases hnc : n = cap
    · subst hnc
      exact Ct.imp fin (c_addB n c x h1 e2 e3 h4 q2 ⟨q3, by omega⟩ h8 h9 hrc (by show 12000 ≤ M.rs; omega))
    · exact Ct.imp fin (c_addC n c x cap h1 e3 h4 q2 q3 (by omega) h7 h8 h9)
