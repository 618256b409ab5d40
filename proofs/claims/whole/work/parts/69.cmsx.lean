/-! THE CLASS: acts -/
theorem Cl.trc {X : Gh} {ρ σ : RS} {M M' : Mem} (h : Cl X ρ M) (hF : Fr [16, 17] M M') (s1 : ∀ k, k ≠ 44 → σ.1 k = ρ.1 k) (sa : ∀ k j, k ≠ 43 → σ.2 k j = ρ.2 k j) (hL' : KL σ M') : Cl X σ M' := by
  have hK := h.2.2.2.2.2.2.2.2.2.2.1
  have e5 : thN σ = thN ρ := congrArg Int.toNat (s1 5 (by decide))
  refine h.same5 (hF.mono (fun c hc => by revert c; decide)) s1 (fun k j hk => sa k j (by omega)) ⟨(hF (14, 0) (by decide)).1.trans hK.1, fun j hj => ?_⟩ hL'
  obtain ⟨q1, p1, p2, q2, q3⟩ := hK.2 j hj
  refine ⟨(hF.P (14, 0) (by decide)).trans q1, p1, p2, q2.fr hF (show 15 ∉ [16, 17] by decide), ?_⟩
  have q := q3.fr hF (by decide)
  unfold Tr at q ⊢
  rw [sa 39 j (by decide), sa 40 j (by decide), sa 41 j (by decide), s1 30 (by decide), e5]
  rcases q with u | u | ⟨u1, u2, n, kk, u3, u4, u5, fr, p, u6⟩ | ⟨u1, t9, u2, u3, u4, u5⟩
  · exact Or.inl u
  · exact Or.inr (Or.inl u)
  · exact Or.inr (Or.inr (Or.inl ⟨u1, u2, n, kk, u3, u4, u5, fr, p, by rw [sa 9 kk (by decide)]; exact u6⟩))
  · exact Or.inr (Or.inr (Or.inr ⟨u1, t9, u2, u3, u4, by rw [sa 6 t9 (by decide)]; exact u5⟩))
theorem Cl.tk0 {X : Gh} {ρ : RS} {M : Mem} (h : Cl X ρ M) : Cl X (ρ.setS 44 0) (M.putI (16, 0) 1 0) := by
  have hL := h.2.2.2.2.2.2.2.2.2.2.2
  refine h.trc (Fr.pI 16 0 (by decide)) (fun k hk => RS.setS_ne hk) (fun _ _ _ => rfl) ⟨?_, hL.2.1, fun i hi => ?_⟩
  · rw [RS.setS_eq]
    exact hL.1.putI (k := 1) (v := 0) (show 1 < 2 by decide)
  · rw [RS.setS_eq] at hi
    omega
def QT (Y : (Nat → Bool) × (Nat → Bool)) (σ : RS) (M : Mem) (v : Option AVal) (v' : Option AVal) (M' : Mem) : Prop := v' = v ∧ Cs Y σ M' ∧ Fr [16, 17] M M' ∧ Bg 0 0 M M'
theorem Cs.note {Y : (Nat → Bool) × (Nat → Bool)} {ρ : RS} {M M' : Mem} (hCs : Cs Y ρ M) (n : Nat) (h44 : ρ.1 44 = ↑n) (b : Int) (hM : M' = (M.putI (17, 0) n b).putI (16, 0) 1 (↑n + 1)) : QT Y (ranR ρ n b) M none none M' := by
  obtain ⟨sc, kn, hS, hCl⟩ := hCs
  have hF : Fr [16, 17] M M' := by rw [hM]; exact (Fr.pI (cs := [16, 17]) 17 0 (by decide)).trans (Fr.pI 16 0 (by decide))
  have hB : Bg 0 0 M M' := by rw [hM]; exact ((Bg.pI _ _ _ _).trans (Bg.pI _ _ _ _)).le (by omega) (by omega)
  have hL := hCl.2.2.2.2.2.2.2.2.2.2.2
  refine ⟨rfl, ⟨sc, kn, hS.cg (ranR_s ρ n b 5 (by decide)) (fun k t _ h2 => ranR_a ρ n b k t (by omega)), ?_⟩, hF, hB⟩
  refine hCl.trc hF (fun k hk => ranR_s ρ n b k hk) (fun k j hk => ranR_a ρ n b k j hk) ⟨?_, ?_, fun i hi => ?_⟩
  · rw [ranR_44, hM]
    have q := hL.1.at (Fx.pI (r := (17, 0)) (k := n) (v := b) (16, 0) (rne (by decide)))
    exact q.putI (k := 1) (v := ↑n + 1) (show 1 < 2 by decide)
  · rw [hM]; exact hL.2.1
  · rw [ranR_44] at hi
    rw [hM, Mem.putI_at (Or.inl (rne (by decide)))]
    by_cases hin : i = n
    · subst hin
      rw [Mem.putI_eq]
      exact (RS.setA_eq (ρ := ρ) (k := 43) (j := i) (v := b)).symm
    · rw [Mem.putI_at (Or.inr hin)]
      rw [show (ranR ρ n b).2 43 i = ρ.2 43 i from if_neg (fun z => hin z.2)]
      exact hL.2.2 i (by omega)
set_option maxRecDepth 100000 in
theorem c_note {G : Ge} {M : Mem} {Y : (Nat → Bool) × (Nat → Bool)} {ρ : RS} (hCs : Cs Y ρ M) (n : Nat) (h44 : ρ.1 44 = ↑n) (hn : n < 40) (b : Int) : Ct G mi_X6_note [vR ((16, 0)), vI b] M (QT Y (ranR ρ n b) M none) := by
  refine Ct.of pl_X6_note [some (vR ((16, 0))), some (vI b)] rfl (Nat.le_of_ble_eq_true rfl) ?_
  have hCs0 := hCs
  obtain ⟨sc, kn, hS, hCl⟩ := hCs
  obtain ⟨hA, hB, hC, hD, hE, hN, hG, hH, hI, hJ, hK, hL⟩ := id hCl
  refine S_aload_n dX6_note_0 rfl ?_
  refine S_getI (v := ↑n) fl_X6_15 dX6_note_1 rfl rfl (by rw [(show M.I (16, 0) 1 = ↑n from (show M.I (16, 0) 1 = ρ.1 44 from congrFun hL.1.2.1 1).trans (by rw [h44]))]) ?_
  refine S_aload_n dX6_note_4 rfl ?_
  refine S_getP (o := some (17, 0)) fl_X6_9 dX6_note_5 rfl rfl (by rw [(show M.P (16, 0) 0 = some (17, 0) from congrFun hL.1.2.2 0)]) ?_
  refine S_alen dX6_note_8 rfl (by decide) rfl (by rw [(show M.len (17, 0) = some 40 from hL.2.1)]) ?_
  refine S_icmp_ge 32 dX6_note_9 (by decide) (by omega) (fun c_9 => absurd c_9 (by omega)) (fun c_9 => ?_)
  refine S_aload_n dX6_note_12 rfl ?_
  refine S_getP (o := some (17, 0)) fl_X6_9 dX6_note_13 rfl rfl (by rw [(show M.P (16, 0) 0 = some (17, 0) from congrFun hL.1.2.2 0)]) ?_
  refine S_aload_n dX6_note_16 rfl ?_
  refine S_getI (v := ↑n) fl_X6_15 dX6_note_17 rfl rfl (by rw [(show M.I (16, 0) 1 = ↑n from (show M.I (16, 0) 1 = ρ.1 44 from congrFun hL.1.2.1 1).trans (by rw [h44]))]) ?_
  refine S_iload_n dX6_note_20 rfl ?_
  refine S_iast n dX6_note_21 rfl rfl (by rw [(show M.len (17, 0) = some 40 from hL.2.1)]) (by omega) (by omega) ?_
  refine Sf.nm (fun M1 hM1 => ?_)
  refine S_aload_n dX6_note_22 rfl ?_
  refine S_dup dX6_note_23 ?_
  refine S_getI (v := ↑n) fl_X6_15 dX6_note_24 rfl rfl (by rw [hM1, Mem.putI_at (Or.inl (rne (by decide))), (show M.I (16, 0) 1 = ↑n from (show M.I (16, 0) 1 = ρ.1 44 from congrFun hL.1.2.1 1).trans (by rw [h44]))]) ?_
  refine S_iconst dX6_note_27 ?_
  refine S_iadd dX6_note_28 ?_
  refine S_putI fl_X6_15 dX6_note_29 rfl rfl rfl  (Or.inl rfl) ?_
  refine Sf.nm (fun M2 hM2 => ?_)
  exact S_vret dX6_note_32 rfl (hCs0.note n h44 b (by rw [hM2, hM1]))
set_option maxRecDepth 100000 in
theorem c_above_0 {G : Ge} {M : Mem}  : Ct G mi_X8_above [vI 0] M (fun v' M' => v' = some (vI (-1)) ∧ M' = M) := by
  refine Ct.of pl_X8_above [some (vI 0)] rfl (Nat.le_of_ble_eq_true rfl) ?_
  refine S_iload_n dX8_above_0 rfl ?_
  refine S_tableOut 42 dX8_above_1 (by omega) (by omega) (by decide) ?_
  refine S_iconst dX8_above_42 ?_
  exact S_iret dX8_above_43 rfl (Or.inl rfl) ⟨rfl, rfl⟩
set_option maxRecDepth 100000 in
theorem c_ownBody_0_0 {G : Ge} {M : Mem}  : Ct G mi_X8_ownBody [vI 0, vI 0] M (fun v' M' => v' = some (vI (10)) ∧ M' = M) := by
  refine Ct.of pl_X8_ownBody [some (vI 0), some (vI 0)] rfl (Nat.le_of_ble_eq_true rfl) ?_
  refine S_iload_n dX8_ownBody_0 rfl ?_
  refine S_iconst dX8_ownBody_1 ?_
  refine S_imul dX8_ownBody_2 ?_
  refine S_iload_n dX8_ownBody_3 rfl ?_
  refine S_iadd dX8_ownBody_4 ?_
  rw [show (((0 * 4) + 0) : Int) = 0 from rfl]
  refine S_tableIn 116 dX8_ownBody_5 (by omega) (by omega) rfl (by decide) ?_
  refine S_bipush dX8_ownBody_116 (by decide) ?_
  exact S_iret dX8_ownBody_118 rfl (Or.inl rfl) ⟨rfl, rfl⟩
set_option maxRecDepth 100000 in
theorem c_ownBody_0_1 {G : Ge} {M : Mem}  : Ct G mi_X8_ownBody [vI 0, vI 1] M (fun v' M' => v' = some (vI (11)) ∧ M' = M) := by
  refine Ct.of pl_X8_ownBody [some (vI 0), some (vI 1)] rfl (Nat.le_of_ble_eq_true rfl) ?_
  refine S_iload_n dX8_ownBody_0 rfl ?_
  refine S_iconst dX8_ownBody_1 ?_
  refine S_imul dX8_ownBody_2 ?_
  refine S_iload_n dX8_ownBody_3 rfl ?_
  refine S_iadd dX8_ownBody_4 ?_
  rw [show (((0 * 4) + 1) : Int) = 1 from rfl]
  refine S_tableIn 119 dX8_ownBody_5 (by omega) (by omega) rfl (by decide) ?_
  refine S_bipush dX8_ownBody_119 (by decide) ?_
  exact S_iret dX8_ownBody_121 rfl (Or.inl rfl) ⟨rfl, rfl⟩
set_option maxRecDepth 100000 in
theorem c_ownBody_0_2 {G : Ge} {M : Mem}  : Ct G mi_X8_ownBody [vI 0, vI 2] M (fun v' M' => v' = some (vI (12)) ∧ M' = M) := by
  refine Ct.of pl_X8_ownBody [some (vI 0), some (vI 2)] rfl (Nat.le_of_ble_eq_true rfl) ?_
  refine S_iload_n dX8_ownBody_0 rfl ?_
  refine S_iconst dX8_ownBody_1 ?_
  refine S_imul dX8_ownBody_2 ?_
  refine S_iload_n dX8_ownBody_3 rfl ?_
  refine S_iadd dX8_ownBody_4 ?_
  rw [show (((0 * 4) + 2) : Int) = 2 from rfl]
  refine S_tableIn 122 dX8_ownBody_5 (by omega) (by omega) rfl (by decide) ?_
  refine S_bipush dX8_ownBody_122 (by decide) ?_
  exact S_iret dX8_ownBody_124 rfl (Or.inl rfl) ⟨rfl, rfl⟩
set_option maxRecDepth 100000 in
theorem c_ownBody_0_3 {G : Ge} {M : Mem}  : Ct G mi_X8_ownBody [vI 0, vI 3] M (fun v' M' => v' = some (vI (13)) ∧ M' = M) := by
  refine Ct.of pl_X8_ownBody [some (vI 0), some (vI 3)] rfl (Nat.le_of_ble_eq_true rfl) ?_
  refine S_iload_n dX8_ownBody_0 rfl ?_
  refine S_iconst dX8_ownBody_1 ?_
  refine S_imul dX8_ownBody_2 ?_
  refine S_iload_n dX8_ownBody_3 rfl ?_
  refine S_iadd dX8_ownBody_4 ?_
  rw [show (((0 * 4) + 3) : Int) = 3 from rfl]
  refine S_tableIn 125 dX8_ownBody_5 (by omega) (by omega) rfl (by decide) ?_
  refine S_bipush dX8_ownBody_125 (by decide) ?_
  exact S_iret dX8_ownBody_127 rfl (Or.inl rfl) ⟨rfl, rfl⟩
set_option maxRecDepth 100000 in
theorem c_above_1 {G : Ge} {M : Mem}  : Ct G mi_X8_above [vI 1] M (fun v' M' => v' = some (vI (0)) ∧ M' = M) := by
  refine Ct.of pl_X8_above [some (vI 1)] rfl (Nat.le_of_ble_eq_true rfl) ?_
  refine S_iload_n dX8_above_0 rfl ?_
  refine S_tableIn 36 dX8_above_1 (by omega) (by omega) rfl (by decide) ?_
  refine S_iconst dX8_above_36 ?_
  exact S_iret dX8_above_37 rfl (Or.inl rfl) ⟨rfl, rfl⟩
set_option maxRecDepth 100000 in
theorem c_ownBody_1_0 {G : Ge} {M : Mem}  : Ct G mi_X8_ownBody [vI 1, vI 0] M (fun v' M' => v' = some (vI (20)) ∧ M' = M) := by
  refine Ct.of pl_X8_ownBody [some (vI 1), some (vI 0)] rfl (Nat.le_of_ble_eq_true rfl) ?_
  refine S_iload_n dX8_ownBody_0 rfl ?_
  refine S_iconst dX8_ownBody_1 ?_
  refine S_imul dX8_ownBody_2 ?_
  refine S_iload_n dX8_ownBody_3 rfl ?_
  refine S_iadd dX8_ownBody_4 ?_
  rw [show (((1 * 4) + 0) : Int) = 4 from rfl]
  refine S_tableIn 128 dX8_ownBody_5 (by omega) (by omega) rfl (by decide) ?_
  refine S_bipush dX8_ownBody_128 (by decide) ?_
  exact S_iret dX8_ownBody_130 rfl (Or.inl rfl) ⟨rfl, rfl⟩
set_option maxRecDepth 100000 in
theorem c_ownBody_1_1 {G : Ge} {M : Mem}  : Ct G mi_X8_ownBody [vI 1, vI 1] M (fun v' M' => v' = some (vI (-1)) ∧ M' = M) := by
  refine Ct.of pl_X8_ownBody [some (vI 1), some (vI 1)] rfl (Nat.le_of_ble_eq_true rfl) ?_
  refine S_iload_n dX8_ownBody_0 rfl ?_
  refine S_iconst dX8_ownBody_1 ?_
  refine S_imul dX8_ownBody_2 ?_
  refine S_iload_n dX8_ownBody_3 rfl ?_
  refine S_iadd dX8_ownBody_4 ?_
  rw [show (((1 * 4) + 1) : Int) = 5 from rfl]
  refine S_tableIn 149 dX8_ownBody_5 (by omega) (by omega) rfl (by decide) ?_
  refine S_iconst dX8_ownBody_149 ?_
  exact S_iret dX8_ownBody_150 rfl (Or.inl rfl) ⟨rfl, rfl⟩
set_option maxRecDepth 100000 in
theorem c_ownBody_1_2 {G : Ge} {M : Mem}  : Ct G mi_X8_ownBody [vI 1, vI 2] M (fun v' M' => v' = some (vI (21)) ∧ M' = M) := by
  refine Ct.of pl_X8_ownBody [some (vI 1), some (vI 2)] rfl (Nat.le_of_ble_eq_true rfl) ?_
  refine S_iload_n dX8_ownBody_0 rfl ?_
  refine S_iconst dX8_ownBody_1 ?_
  refine S_imul dX8_ownBody_2 ?_
  refine S_iload_n dX8_ownBody_3 rfl ?_
  refine S_iadd dX8_ownBody_4 ?_
  rw [show (((1 * 4) + 2) : Int) = 6 from rfl]
  refine S_tableIn 131 dX8_ownBody_5 (by omega) (by omega) rfl (by decide) ?_
  refine S_bipush dX8_ownBody_131 (by decide) ?_
  exact S_iret dX8_ownBody_133 rfl (Or.inl rfl) ⟨rfl, rfl⟩
set_option maxRecDepth 100000 in
theorem c_ownBody_1_3 {G : Ge} {M : Mem}  : Ct G mi_X8_ownBody [vI 1, vI 3] M (fun v' M' => v' = some (vI (-1)) ∧ M' = M) := by
  refine Ct.of pl_X8_ownBody [some (vI 1), some (vI 3)] rfl (Nat.le_of_ble_eq_true rfl) ?_
  refine S_iload_n dX8_ownBody_0 rfl ?_
  refine S_iconst dX8_ownBody_1 ?_
  refine S_imul dX8_ownBody_2 ?_
  refine S_iload_n dX8_ownBody_3 rfl ?_
  refine S_iadd dX8_ownBody_4 ?_
  rw [show (((1 * 4) + 3) : Int) = 7 from rfl]
  refine S_tableIn 149 dX8_ownBody_5 (by omega) (by omega) rfl (by decide) ?_
  refine S_iconst dX8_ownBody_149 ?_
  exact S_iret dX8_ownBody_150 rfl (Or.inl rfl) ⟨rfl, rfl⟩
set_option maxRecDepth 100000 in
theorem c_above_2 {G : Ge} {M : Mem}  : Ct G mi_X8_above [vI 2] M (fun v' M' => v' = some (vI (1)) ∧ M' = M) := by
  refine Ct.of pl_X8_above [some (vI 2)] rfl (Nat.le_of_ble_eq_true rfl) ?_
  refine S_iload_n dX8_above_0 rfl ?_
  refine S_tableIn 38 dX8_above_1 (by omega) (by omega) rfl (by decide) ?_
  refine S_iconst dX8_above_38 ?_
  exact S_iret dX8_above_39 rfl (Or.inl rfl) ⟨rfl, rfl⟩
set_option maxRecDepth 100000 in
theorem c_ownBody_2_0 {G : Ge} {M : Mem}  : Ct G mi_X8_ownBody [vI 2, vI 0] M (fun v' M' => v' = some (vI (-1)) ∧ M' = M) := by
  refine Ct.of pl_X8_ownBody [some (vI 2), some (vI 0)] rfl (Nat.le_of_ble_eq_true rfl) ?_
  refine S_iload_n dX8_ownBody_0 rfl ?_
  refine S_iconst dX8_ownBody_1 ?_
  refine S_imul dX8_ownBody_2 ?_
  refine S_iload_n dX8_ownBody_3 rfl ?_
  refine S_iadd dX8_ownBody_4 ?_
  rw [show (((2 * 4) + 0) : Int) = 8 from rfl]
  refine S_tableIn 149 dX8_ownBody_5 (by omega) (by omega) rfl (by decide) ?_
  refine S_iconst dX8_ownBody_149 ?_
  exact S_iret dX8_ownBody_150 rfl (Or.inl rfl) ⟨rfl, rfl⟩
set_option maxRecDepth 100000 in
theorem c_ownBody_2_1 {G : Ge} {M : Mem}  : Ct G mi_X8_ownBody [vI 2, vI 1] M (fun v' M' => v' = some (vI (-1)) ∧ M' = M) := by
  refine Ct.of pl_X8_ownBody [some (vI 2), some (vI 1)] rfl (Nat.le_of_ble_eq_true rfl) ?_
  refine S_iload_n dX8_ownBody_0 rfl ?_
  refine S_iconst dX8_ownBody_1 ?_
  refine S_imul dX8_ownBody_2 ?_
  refine S_iload_n dX8_ownBody_3 rfl ?_
  refine S_iadd dX8_ownBody_4 ?_
  rw [show (((2 * 4) + 1) : Int) = 9 from rfl]
  refine S_tableIn 149 dX8_ownBody_5 (by omega) (by omega) rfl (by decide) ?_
  refine S_iconst dX8_ownBody_149 ?_
  exact S_iret dX8_ownBody_150 rfl (Or.inl rfl) ⟨rfl, rfl⟩
set_option maxRecDepth 100000 in
theorem c_ownBody_2_2 {G : Ge} {M : Mem}  : Ct G mi_X8_ownBody [vI 2, vI 2] M (fun v' M' => v' = some (vI (-1)) ∧ M' = M) := by
  refine Ct.of pl_X8_ownBody [some (vI 2), some (vI 2)] rfl (Nat.le_of_ble_eq_true rfl) ?_
  refine S_iload_n dX8_ownBody_0 rfl ?_
  refine S_iconst dX8_ownBody_1 ?_
  refine S_imul dX8_ownBody_2 ?_
  refine S_iload_n dX8_ownBody_3 rfl ?_
  refine S_iadd dX8_ownBody_4 ?_
  rw [show (((2 * 4) + 2) : Int) = 10 from rfl]
  refine S_tableIn 149 dX8_ownBody_5 (by omega) (by omega) rfl (by decide) ?_
  refine S_iconst dX8_ownBody_149 ?_
  exact S_iret dX8_ownBody_150 rfl (Or.inl rfl) ⟨rfl, rfl⟩
set_option maxRecDepth 100000 in
theorem c_ownBody_2_3 {G : Ge} {M : Mem}  : Ct G mi_X8_ownBody [vI 2, vI 3] M (fun v' M' => v' = some (vI (30)) ∧ M' = M) := by
  refine Ct.of pl_X8_ownBody [some (vI 2), some (vI 3)] rfl (Nat.le_of_ble_eq_true rfl) ?_
  refine S_iload_n dX8_ownBody_0 rfl ?_
  refine S_iconst dX8_ownBody_1 ?_
  refine S_imul dX8_ownBody_2 ?_
  refine S_iload_n dX8_ownBody_3 rfl ?_
  refine S_iadd dX8_ownBody_4 ?_
  rw [show (((2 * 4) + 3) : Int) = 11 from rfl]
  refine S_tableIn 134 dX8_ownBody_5 (by omega) (by omega) rfl (by decide) ?_
  refine S_bipush dX8_ownBody_134 (by decide) ?_
  exact S_iret dX8_ownBody_136 rfl (Or.inl rfl) ⟨rfl, rfl⟩
set_option maxRecDepth 100000 in
theorem c_above_3 {G : Ge} {M : Mem}  : Ct G mi_X8_above [vI 3] M (fun v' M' => v' = some (vI (0)) ∧ M' = M) := by
  refine Ct.of pl_X8_above [some (vI 3)] rfl (Nat.le_of_ble_eq_true rfl) ?_
  refine S_iload_n dX8_above_0 rfl ?_
  refine S_tableIn 36 dX8_above_1 (by omega) (by omega) rfl (by decide) ?_
  refine S_iconst dX8_above_36 ?_
  exact S_iret dX8_above_37 rfl (Or.inl rfl) ⟨rfl, rfl⟩
set_option maxRecDepth 100000 in
theorem c_ownBody_3_0 {G : Ge} {M : Mem}  : Ct G mi_X8_ownBody [vI 3, vI 0] M (fun v' M' => v' = some (vI (-1)) ∧ M' = M) := by
  refine Ct.of pl_X8_ownBody [some (vI 3), some (vI 0)] rfl (Nat.le_of_ble_eq_true rfl) ?_
  refine S_iload_n dX8_ownBody_0 rfl ?_
  refine S_iconst dX8_ownBody_1 ?_
  refine S_imul dX8_ownBody_2 ?_
  refine S_iload_n dX8_ownBody_3 rfl ?_
  refine S_iadd dX8_ownBody_4 ?_
  rw [show (((3 * 4) + 0) : Int) = 12 from rfl]
  refine S_tableIn 149 dX8_ownBody_5 (by omega) (by omega) rfl (by decide) ?_
  refine S_iconst dX8_ownBody_149 ?_
  exact S_iret dX8_ownBody_150 rfl (Or.inl rfl) ⟨rfl, rfl⟩
set_option maxRecDepth 100000 in
theorem c_ownBody_3_1 {G : Ge} {M : Mem}  : Ct G mi_X8_ownBody [vI 3, vI 1] M (fun v' M' => v' = some (vI (40)) ∧ M' = M) := by
  refine Ct.of pl_X8_ownBody [some (vI 3), some (vI 1)] rfl (Nat.le_of_ble_eq_true rfl) ?_
  refine S_iload_n dX8_ownBody_0 rfl ?_
  refine S_iconst dX8_ownBody_1 ?_
  refine S_imul dX8_ownBody_2 ?_
  refine S_iload_n dX8_ownBody_3 rfl ?_
  refine S_iadd dX8_ownBody_4 ?_
  rw [show (((3 * 4) + 1) : Int) = 13 from rfl]
  refine S_tableIn 137 dX8_ownBody_5 (by omega) (by omega) rfl (by decide) ?_
  refine S_bipush dX8_ownBody_137 (by decide) ?_
  exact S_iret dX8_ownBody_139 rfl (Or.inl rfl) ⟨rfl, rfl⟩
set_option maxRecDepth 100000 in
theorem c_ownBody_3_2 {G : Ge} {M : Mem}  : Ct G mi_X8_ownBody [vI 3, vI 2] M (fun v' M' => v' = some (vI (-1)) ∧ M' = M) := by
  refine Ct.of pl_X8_ownBody [some (vI 3), some (vI 2)] rfl (Nat.le_of_ble_eq_true rfl) ?_
  refine S_iload_n dX8_ownBody_0 rfl ?_
  refine S_iconst dX8_ownBody_1 ?_
  refine S_imul dX8_ownBody_2 ?_
  refine S_iload_n dX8_ownBody_3 rfl ?_
  refine S_iadd dX8_ownBody_4 ?_
  rw [show (((3 * 4) + 2) : Int) = 14 from rfl]
  refine S_tableIn 149 dX8_ownBody_5 (by omega) (by omega) rfl (by decide) ?_
  refine S_iconst dX8_ownBody_149 ?_
  exact S_iret dX8_ownBody_150 rfl (Or.inl rfl) ⟨rfl, rfl⟩
set_option maxRecDepth 100000 in
theorem c_ownBody_3_3 {G : Ge} {M : Mem}  : Ct G mi_X8_ownBody [vI 3, vI 3] M (fun v' M' => v' = some (vI (-1)) ∧ M' = M) := by
  refine Ct.of pl_X8_ownBody [some (vI 3), some (vI 3)] rfl (Nat.le_of_ble_eq_true rfl) ?_
  refine S_iload_n dX8_ownBody_0 rfl ?_
  refine S_iconst dX8_ownBody_1 ?_
  refine S_imul dX8_ownBody_2 ?_
  refine S_iload_n dX8_ownBody_3 rfl ?_
  refine S_iadd dX8_ownBody_4 ?_
  rw [show (((3 * 4) + 3) : Int) = 15 from rfl]
  refine S_tableIn 149 dX8_ownBody_5 (by omega) (by omega) rfl (by decide) ?_
  refine S_iconst dX8_ownBody_149 ?_
  exact S_iret dX8_ownBody_150 rfl (Or.inl rfl) ⟨rfl, rfl⟩
set_option maxRecDepth 100000 in
theorem c_above_4 {G : Ge} {M : Mem}  : Ct G mi_X8_above [vI 4] M (fun v' M' => v' = some (vI (0)) ∧ M' = M) := by
  refine Ct.of pl_X8_above [some (vI 4)] rfl (Nat.le_of_ble_eq_true rfl) ?_
  refine S_iload_n dX8_above_0 rfl ?_
  refine S_tableIn 36 dX8_above_1 (by omega) (by omega) rfl (by decide) ?_
  refine S_iconst dX8_above_36 ?_
  exact S_iret dX8_above_37 rfl (Or.inl rfl) ⟨rfl, rfl⟩
set_option maxRecDepth 100000 in
theorem c_ownBody_4_0 {G : Ge} {M : Mem}  : Ct G mi_X8_ownBody [vI 4, vI 0] M (fun v' M' => v' = some (vI (-1)) ∧ M' = M) := by
  refine Ct.of pl_X8_ownBody [some (vI 4), some (vI 0)] rfl (Nat.le_of_ble_eq_true rfl) ?_
  refine S_iload_n dX8_ownBody_0 rfl ?_
  refine S_iconst dX8_ownBody_1 ?_
  refine S_imul dX8_ownBody_2 ?_
  refine S_iload_n dX8_ownBody_3 rfl ?_
  refine S_iadd dX8_ownBody_4 ?_
  rw [show (((4 * 4) + 0) : Int) = 16 from rfl]
  refine S_tableIn 149 dX8_ownBody_5 (by omega) (by omega) rfl (by decide) ?_
  refine S_iconst dX8_ownBody_149 ?_
  exact S_iret dX8_ownBody_150 rfl (Or.inl rfl) ⟨rfl, rfl⟩
set_option maxRecDepth 100000 in
theorem c_ownBody_4_1 {G : Ge} {M : Mem}  : Ct G mi_X8_ownBody [vI 4, vI 1] M (fun v' M' => v' = some (vI (-1)) ∧ M' = M) := by
  refine Ct.of pl_X8_ownBody [some (vI 4), some (vI 1)] rfl (Nat.le_of_ble_eq_true rfl) ?_
  refine S_iload_n dX8_ownBody_0 rfl ?_
  refine S_iconst dX8_ownBody_1 ?_
  refine S_imul dX8_ownBody_2 ?_
  refine S_iload_n dX8_ownBody_3 rfl ?_
  refine S_iadd dX8_ownBody_4 ?_
  rw [show (((4 * 4) + 1) : Int) = 17 from rfl]
  refine S_tableIn 149 dX8_ownBody_5 (by omega) (by omega) rfl (by decide) ?_
  refine S_iconst dX8_ownBody_149 ?_
  exact S_iret dX8_ownBody_150 rfl (Or.inl rfl) ⟨rfl, rfl⟩
set_option maxRecDepth 100000 in
theorem c_ownBody_4_2 {G : Ge} {M : Mem}  : Ct G mi_X8_ownBody [vI 4, vI 2] M (fun v' M' => v' = some (vI (50)) ∧ M' = M) := by
  refine Ct.of pl_X8_ownBody [some (vI 4), some (vI 2)] rfl (Nat.le_of_ble_eq_true rfl) ?_
  refine S_iload_n dX8_ownBody_0 rfl ?_
  refine S_iconst dX8_ownBody_1 ?_
  refine S_imul dX8_ownBody_2 ?_
  refine S_iload_n dX8_ownBody_3 rfl ?_
  refine S_iadd dX8_ownBody_4 ?_
  rw [show (((4 * 4) + 2) : Int) = 18 from rfl]
  refine S_tableIn 140 dX8_ownBody_5 (by omega) (by omega) rfl (by decide) ?_
  refine S_bipush dX8_ownBody_140 (by decide) ?_
  exact S_iret dX8_ownBody_142 rfl (Or.inl rfl) ⟨rfl, rfl⟩
set_option maxRecDepth 100000 in
theorem c_ownBody_4_3 {G : Ge} {M : Mem}  : Ct G mi_X8_ownBody [vI 4, vI 3] M (fun v' M' => v' = some (vI (-1)) ∧ M' = M) := by
  refine Ct.of pl_X8_ownBody [some (vI 4), some (vI 3)] rfl (Nat.le_of_ble_eq_true rfl) ?_
  refine S_iload_n dX8_ownBody_0 rfl ?_
  refine S_iconst dX8_ownBody_1 ?_
  refine S_imul dX8_ownBody_2 ?_
  refine S_iload_n dX8_ownBody_3 rfl ?_
  refine S_iadd dX8_ownBody_4 ?_
  rw [show (((4 * 4) + 3) : Int) = 19 from rfl]
  refine S_tableIn 149 dX8_ownBody_5 (by omega) (by omega) rfl (by decide) ?_
  refine S_iconst dX8_ownBody_149 ?_
  exact S_iret dX8_ownBody_150 rfl (Or.inl rfl) ⟨rfl, rfl⟩
set_option maxRecDepth 100000 in
theorem c_tickOf {G : Ge} {M : Mem} (t : Nat) (tk : Int) (ht : M.I (19, t) 11 = tk) : Ct G mi_X8_tickOf [vR ((19, t))] M (fun v' M' => v' = some (vI tk) ∧ M' = M) := by
  refine Ct.of pl_X8_tickOf [some (vR ((19, t))), none] rfl (Nat.le_of_ble_eq_true rfl) ?_
  refine S_aload_n dX8_tickOf_0 rfl ?_
  refine S_instS (ci := 4) cl_X8_214 (by decide) dX8_tickOf_1 rfl ?_
  refine S_if_eq 19 dX8_tickOf_4 (by decide) (by omega) (fun c_4 => absurd c_4 (by omega)) (fun c_4 => ?_)
  refine S_aload_n dX8_tickOf_7 rfl ?_
  refine S_castS (ci := 4) cl_X8_214 (by decide) dX8_tickOf_8 rfl ?_
  refine S_astore_n dX8_tickOf_11 (by decide) ?_
  refine S_aload_n dX8_tickOf_12 rfl ?_
  refine S_getI (v := tk) fl_X8_239 dX8_tickOf_13 rfl rfl (by rw [ht]) ?_
  refine S_goto 20 dX8_tickOf_16 (by decide) ?_
  exact S_iret dX8_tickOf_20 rfl (Or.inl rfl) ⟨rfl, rfl⟩
set_option maxRecDepth 100000 in
theorem c_run_0_0_0 {G : Ge} {M : Mem} {Y : (Nat → Bool) × (Nat → Bool)} {ρ : RS} (hCs : Cs Y ρ M) (n : Nat) (h44 : ρ.1 44 = ↑n) (hn : n + 1 ≤ 40) (t : Nat) (v : Int) (hk : M.I (18, t) 0 = 0) (hv : M.I (18, t) 1 = v) (x dp : Int) (hdp : 0 ≤ dp ∧ dp ≤ 20) : Ct G (mi_X8_run 5) [vR ((16, 0)), vR ((18, t)), vI 0, vI 0, vI x, vI dp] M (QT Y (ranL ρ n [10]) M (some (vI (x + v)))) := by
  refine Ct.of (plD_X8_run 5) [some (vR ((16, 0))), some (vR ((18, t))), some (vI 0), some (vI 0), some (vI x), some (vI dp), none, none, none, none] rfl (Nat.le_of_ble_eq_true rfl) ?_
  have hF0 : Fr [16, 17] M M := Fr.rf _ M
  have hB0 : Bg 0 0 M M := Bg.rf M
  refine S_iload_n dX8_run_0 rfl ?_
  refine S_istore dX8_run_1 (by decide) ?_
  refine S_iconst dX8_run_3 ?_
  refine S_istore dX8_run_4 (by decide) ?_
  refine S_iload dX8_run_6 rfl ?_
  refine S_bipush dX8_run_8 (by decide) ?_
  refine S_icmp_ge 36 dX8_run_10 (by decide) (by omega) (fun c_10 => absurd c_10 (by omega)) (fun c_10 => ?_)
  refine S_iload dX8_run_13 rfl ?_
  refine S_iload_n dX8_run_15 rfl ?_
  refine S_callS (mi := mi_X8_run 5) [vI 0, vI 0] ok_X8_ownBody ml_X8_373 dX8_run_16 (by decide) rfl (Nat.le_of_ble_eq_true rfl) rfl (c_ownBody_0_0) ?_
  rintro v' M1 ⟨rfl, hM1⟩
  rw [hM1]
  clear hM1
  refine S_iconst dX8_run_19 ?_
  refine S_icmp_ne 36 dX8_run_20 (by decide) (by omega) (fun c_20 => ?_) (fun c_20 => absurd c_20 (by omega))
  refine S_iload dX8_run_36 rfl ?_
  refine S_iload_n dX8_run_38 rfl ?_
  refine S_callS (mi := mi_X8_run 5) [vI 0, vI 0] ok_X8_ownBody ml_X8_373 dX8_run_39 (by decide) rfl (Nat.le_of_ble_eq_true rfl) rfl (c_ownBody_0_0) ?_
  rintro v' M2 ⟨rfl, hM2⟩
  rw [hM2]
  clear hM2
  refine S_istore dX8_run_42 (by decide) ?_
  refine S_iload dX8_run_44 rfl ?_
  refine S_iconst dX8_run_46 ?_
  refine S_icmp_eq 57 dX8_run_47 (by decide) (by omega) (fun c_47 => absurd c_47 (by omega)) (fun c_47 => ?_)
  refine S_iload dX8_run_50 rfl ?_
  refine S_bipush dX8_run_52 (by decide) ?_
  refine S_icmp_le 59 dX8_run_54 (by decide) (by omega) (fun c_54 => ?_) (fun c_54 => absurd c_54 (by omega))
  refine S_iload dX8_run_59 rfl ?_
  refine S_callS (mi := mi_X8_run 5) [vI 0] ok_X8_above ml_X8_370 dX8_run_61 (by decide) rfl (Nat.le_of_ble_eq_true rfl) rfl (c_above_0) ?_
  rintro v' M3 ⟨rfl, hM3⟩
  rw [hM3]
  clear hM3
  refine S_istore dX8_run_64 (by decide) ?_
  refine S_iload dX8_run_66 rfl ?_
  refine S_iconst dX8_run_68 ?_
  refine S_iadd dX8_run_69 ?_
  refine S_istore dX8_run_70 (by decide) ?_
  refine S_aload_n dX8_run_72 rfl ?_
  refine S_iload dX8_run_73 rfl ?_
  refine S_callV (mi := mi_X8_run 5) [vI 10] ok_X6_note ml_X8_376 dX8_run_75 rfl (by decide) rfl (by decide) rfl (Nat.le_of_ble_eq_true rfl) rfl (c_note (G := G) hCs n h44 (by omega) 10) ?_
  rintro v' M4 ⟨rfl, hcs4, hf4, hb4⟩
  have h44_4 : (ranR ρ n 10).1 44 = ↑(n + 1) := ranR_44 _ _ _
  have hk4 : M4.I (18, t) 0 = 0 := (hf4.I (18, t) (show 18 ∉ [16, 17] by decide)).trans hk
  have hv4 : M4.I (18, t) 1 = v := (hf4.I (18, t) (show 18 ∉ [16, 17] by decide)).trans hv
  have hg4 : Fr [16, 17] M M4 := hF0.trans hf4
  have hd4 : Bg 0 0 M M4 := (hB0.trans hb4).le (by omega) (by omega)
  refine S_iload dX8_run_78 rfl ?_
  refine S_lookup 180 dX8_run_80 (by decide) (by omega) rfl (by decide) ?_
  refine S_iload dX8_run_180 rfl ?_
  refine S_aload_n dX8_run_182 rfl ?_
  refine S_getI (v := v) fl_X8_131 dX8_run_183 rfl rfl (by rw [hv4]) ?_
  refine S_iadd dX8_run_186 ?_
  exact S_iret dX8_run_187 rfl (Or.inl rfl) ⟨rfl, hcs4, hg4, hd4⟩
set_option maxRecDepth 100000 in
theorem c_run_0_0_1 {G : Ge} {M : Mem} {Y : (Nat → Bool) × (Nat → Bool)} {ρ : RS} (hCs : Cs Y ρ M) (n : Nat) (h44 : ρ.1 44 = ↑n) (hn : n + 2 ≤ 40) (t : Nat) (v : Int) (hk : M.I (18, t) 0 = 0) (hv : M.I (18, t) 1 = v) (x dp : Int) (hdp : 0 ≤ dp ∧ dp ≤ 19) : Ct G (mi_X8_run 6) [vR ((16, 0)), vR ((18, t)), vI 0, vI 1, vI x, vI dp] M (QT Y (ranL ρ n [11, 10]) M (some (vI ((x + v) * 3)))) := by
  refine Ct.of (plD_X8_run 6) [some (vR ((16, 0))), some (vR ((18, t))), some (vI 0), some (vI 1), some (vI x), some (vI dp), none, none, none, none] rfl (Nat.le_of_ble_eq_true rfl) ?_
  have hF0 : Fr [16, 17] M M := Fr.rf _ M
  have hB0 : Bg 0 0 M M := Bg.rf M
  refine S_iload_n dX8_run_0 rfl ?_
  refine S_istore dX8_run_1 (by decide) ?_
  refine S_iconst dX8_run_3 ?_
  refine S_istore dX8_run_4 (by decide) ?_
  refine S_iload dX8_run_6 rfl ?_
  refine S_bipush dX8_run_8 (by decide) ?_
  refine S_icmp_ge 36 dX8_run_10 (by decide) (by omega) (fun c_10 => absurd c_10 (by omega)) (fun c_10 => ?_)
  refine S_iload dX8_run_13 rfl ?_
  refine S_iload_n dX8_run_15 rfl ?_
  refine S_callS (mi := mi_X8_run 6) [vI 0, vI 1] ok_X8_ownBody ml_X8_373 dX8_run_16 (by decide) rfl (Nat.le_of_ble_eq_true rfl) rfl (c_ownBody_0_1) ?_
  rintro v' M1 ⟨rfl, hM1⟩
  rw [hM1]
  clear hM1
  refine S_iconst dX8_run_19 ?_
  refine S_icmp_ne 36 dX8_run_20 (by decide) (by omega) (fun c_20 => ?_) (fun c_20 => absurd c_20 (by omega))
  refine S_iload dX8_run_36 rfl ?_
  refine S_iload_n dX8_run_38 rfl ?_
  refine S_callS (mi := mi_X8_run 6) [vI 0, vI 1] ok_X8_ownBody ml_X8_373 dX8_run_39 (by decide) rfl (Nat.le_of_ble_eq_true rfl) rfl (c_ownBody_0_1) ?_
  rintro v' M2 ⟨rfl, hM2⟩
  rw [hM2]
  clear hM2
  refine S_istore dX8_run_42 (by decide) ?_
  refine S_iload dX8_run_44 rfl ?_
  refine S_iconst dX8_run_46 ?_
  refine S_icmp_eq 57 dX8_run_47 (by decide) (by omega) (fun c_47 => absurd c_47 (by omega)) (fun c_47 => ?_)
  refine S_iload dX8_run_50 rfl ?_
  refine S_bipush dX8_run_52 (by decide) ?_
  refine S_icmp_le 59 dX8_run_54 (by decide) (by omega) (fun c_54 => ?_) (fun c_54 => absurd c_54 (by omega))
  refine S_iload dX8_run_59 rfl ?_
  refine S_callS (mi := mi_X8_run 6) [vI 0] ok_X8_above ml_X8_370 dX8_run_61 (by decide) rfl (Nat.le_of_ble_eq_true rfl) rfl (c_above_0) ?_
  rintro v' M3 ⟨rfl, hM3⟩
  rw [hM3]
  clear hM3
  refine S_istore dX8_run_64 (by decide) ?_
  refine S_iload dX8_run_66 rfl ?_
  refine S_iconst dX8_run_68 ?_
  refine S_iadd dX8_run_69 ?_
  refine S_istore dX8_run_70 (by decide) ?_
  refine S_aload_n dX8_run_72 rfl ?_
  refine S_iload dX8_run_73 rfl ?_
  refine S_callV (mi := mi_X8_run 6) [vI 11] ok_X6_note ml_X8_376 dX8_run_75 rfl (by decide) rfl (by decide) rfl (Nat.le_of_ble_eq_true rfl) rfl (c_note (G := G) hCs n h44 (by omega) 11) ?_
  rintro v' M4 ⟨rfl, hcs4, hf4, hb4⟩
  have h44_4 : (ranR ρ n 11).1 44 = ↑(n + 1) := ranR_44 _ _ _
  have hk4 : M4.I (18, t) 0 = 0 := (hf4.I (18, t) (show 18 ∉ [16, 17] by decide)).trans hk
  have hv4 : M4.I (18, t) 1 = v := (hf4.I (18, t) (show 18 ∉ [16, 17] by decide)).trans hv
  have hg4 : Fr [16, 17] M M4 := hF0.trans hf4
  have hd4 : Bg 0 0 M M4 := (hB0.trans hb4).le (by omega) (by omega)
  refine S_iload dX8_run_78 rfl ?_
  refine S_lookup 188 dX8_run_80 (by decide) (by omega) rfl (by decide) ?_
  refine S_aload_n dX8_run_188 rfl ?_
  refine S_aload_n dX8_run_189 rfl ?_
  refine S_aload_n dX8_run_190 rfl ?_
  refine S_getI (v := 0) fl_X8_281 dX8_run_191 rfl rfl (by rw [hk4]) ?_
  refine S_iconst dX8_run_194 ?_
  refine S_iload dX8_run_195 rfl ?_
  refine S_iload dX8_run_197 rfl ?_
  refine S_callS (mi := mi_X8_run 6) [vR ((16, 0)), vR ((18, t)), vI 0, vI 0, vI x, vI (dp + 1)] (okD_X8_run 5) ml_X8_284 dX8_run_199 (by decide) rfl (Nat.le_of_ble_eq_true rfl) rfl (c_run_0_0_0 (G := G) hcs4 (n + 1) h44_4 (by omega) t v hk4 hv4 x (dp + 1) (by omega)) ?_
  rintro v' M5 ⟨rfl, hcs5, hf5, hb5⟩
  have h44_5 : (ranL (ranR ρ n 11) (n + 1) [10]).1 44 = ↑(n + 1 + 1) := ranL_44 [10] _ _ h44_4
  have hk5 : M5.I (18, t) 0 = 0 := (hf5.I (18, t) (show 18 ∉ [16, 17] by decide)).trans hk4
  have hv5 : M5.I (18, t) 1 = v := (hf5.I (18, t) (show 18 ∉ [16, 17] by decide)).trans hv4
  have hg5 : Fr [16, 17] M M5 := hg4.trans hf5
  have hd5 : Bg 0 0 M M5 := (hd4.trans hb5).le (by omega) (by omega)
  refine S_iconst dX8_run_202 ?_
  refine S_imul dX8_run_203 ?_
  exact S_iret dX8_run_204 rfl (Or.inl rfl) ⟨rfl, hcs5, hg5, hd5⟩
set_option maxRecDepth 100000 in
theorem c_run_0_0_3 {G : Ge} {M : Mem} {Y : (Nat → Bool) × (Nat → Bool)} {ρ : RS} (hCs : Cs Y ρ M) (n : Nat) (h44 : ρ.1 44 = ↑n) (hn : n + 1 ≤ 40) (t : Nat) (v : Int) (hk : M.I (18, t) 0 = 0) (hv : M.I (18, t) 1 = v) (x dp : Int) (hdp : 0 ≤ dp ∧ dp ≤ 20) : Ct G (mi_X8_run 5) [vR ((16, 0)), vR ((18, t)), vI 0, vI 3, vI x, vI dp] M (QT Y (ranL ρ n [13]) M (some (vI ((jI x ^^^ jI v).toInt)))) := by
  refine Ct.of (plD_X8_run 5) [some (vR ((16, 0))), some (vR ((18, t))), some (vI 0), some (vI 3), some (vI x), some (vI dp), none, none, none, none] rfl (Nat.le_of_ble_eq_true rfl) ?_
  have hF0 : Fr [16, 17] M M := Fr.rf _ M
  have hB0 : Bg 0 0 M M := Bg.rf M
  refine S_iload_n dX8_run_0 rfl ?_
  refine S_istore dX8_run_1 (by decide) ?_
  refine S_iconst dX8_run_3 ?_
  refine S_istore dX8_run_4 (by decide) ?_
  refine S_iload dX8_run_6 rfl ?_
  refine S_bipush dX8_run_8 (by decide) ?_
  refine S_icmp_ge 36 dX8_run_10 (by decide) (by omega) (fun c_10 => absurd c_10 (by omega)) (fun c_10 => ?_)
  refine S_iload dX8_run_13 rfl ?_
  refine S_iload_n dX8_run_15 rfl ?_
  refine S_callS (mi := mi_X8_run 5) [vI 0, vI 3] ok_X8_ownBody ml_X8_373 dX8_run_16 (by decide) rfl (Nat.le_of_ble_eq_true rfl) rfl (c_ownBody_0_3) ?_
  rintro v' M1 ⟨rfl, hM1⟩
  rw [hM1]
  clear hM1
  refine S_iconst dX8_run_19 ?_
  refine S_icmp_ne 36 dX8_run_20 (by decide) (by omega) (fun c_20 => ?_) (fun c_20 => absurd c_20 (by omega))
  refine S_iload dX8_run_36 rfl ?_
  refine S_iload_n dX8_run_38 rfl ?_
  refine S_callS (mi := mi_X8_run 5) [vI 0, vI 3] ok_X8_ownBody ml_X8_373 dX8_run_39 (by decide) rfl (Nat.le_of_ble_eq_true rfl) rfl (c_ownBody_0_3) ?_
  rintro v' M2 ⟨rfl, hM2⟩
  rw [hM2]
  clear hM2
  refine S_istore dX8_run_42 (by decide) ?_
  refine S_iload dX8_run_44 rfl ?_
  refine S_iconst dX8_run_46 ?_
  refine S_icmp_eq 57 dX8_run_47 (by decide) (by omega) (fun c_47 => absurd c_47 (by omega)) (fun c_47 => ?_)
  refine S_iload dX8_run_50 rfl ?_
  refine S_bipush dX8_run_52 (by decide) ?_
  refine S_icmp_le 59 dX8_run_54 (by decide) (by omega) (fun c_54 => ?_) (fun c_54 => absurd c_54 (by omega))
  refine S_iload dX8_run_59 rfl ?_
  refine S_callS (mi := mi_X8_run 5) [vI 0] ok_X8_above ml_X8_370 dX8_run_61 (by decide) rfl (Nat.le_of_ble_eq_true rfl) rfl (c_above_0) ?_
  rintro v' M3 ⟨rfl, hM3⟩
  rw [hM3]
  clear hM3
  refine S_istore dX8_run_64 (by decide) ?_
  refine S_iload dX8_run_66 rfl ?_
  refine S_iconst dX8_run_68 ?_
  refine S_iadd dX8_run_69 ?_
  refine S_istore dX8_run_70 (by decide) ?_
  refine S_aload_n dX8_run_72 rfl ?_
  refine S_iload dX8_run_73 rfl ?_
  refine S_callV (mi := mi_X8_run 5) [vI 13] ok_X6_note ml_X8_376 dX8_run_75 rfl (by decide) rfl (by decide) rfl (Nat.le_of_ble_eq_true rfl) rfl (c_note (G := G) hCs n h44 (by omega) 13) ?_
  rintro v' M4 ⟨rfl, hcs4, hf4, hb4⟩
  have h44_4 : (ranR ρ n 13).1 44 = ↑(n + 1) := ranR_44 _ _ _
  have hk4 : M4.I (18, t) 0 = 0 := (hf4.I (18, t) (show 18 ∉ [16, 17] by decide)).trans hk
  have hv4 : M4.I (18, t) 1 = v := (hf4.I (18, t) (show 18 ∉ [16, 17] by decide)).trans hv
  have hg4 : Fr [16, 17] M M4 := hF0.trans hf4
  have hd4 : Bg 0 0 M M4 := (hB0.trans hb4).le (by omega) (by omega)
  refine S_iload dX8_run_78 rfl ?_
  refine S_lookup 235 dX8_run_80 (by decide) (by omega) rfl (by decide) ?_
  refine S_iload dX8_run_235 rfl ?_
  refine S_aload_n dX8_run_237 rfl ?_
  refine S_getI (v := v) fl_X8_131 dX8_run_238 rfl rfl (by rw [hv4]) ?_
  refine S_ixor dX8_run_241 ?_
  exact S_iret dX8_run_242 rfl (Or.inl rfl) ⟨rfl, hcs4, hg4, hd4⟩
set_option maxRecDepth 100000 in
theorem c_run_0_0_2 {G : Ge} {M : Mem} {Y : (Nat → Bool) × (Nat → Bool)} {ρ : RS} (hCs : Cs Y ρ M) (n : Nat) (h44 : ρ.1 44 = ↑n) (hn : n + 4 ≤ 40) (t : Nat) (v : Int) (hk : M.I (18, t) 0 = 0) (hv : M.I (18, t) 1 = v) (x dp : Int) (hdp : 0 ≤ dp ∧ dp ≤ 18) : Ct G (mi_X8_run 7) [vR ((16, 0)), vR ((18, t)), vI 0, vI 2, vI x, vI dp] M (QT Y (ranL ρ n [12, 11, 10, 13]) M (some (vI (((x + v) * 3) - ((jI x ^^^ jI v).toInt))))) := by
  refine Ct.of (plD_X8_run 7) [some (vR ((16, 0))), some (vR ((18, t))), some (vI 0), some (vI 2), some (vI x), some (vI dp), none, none, none, none] rfl (Nat.le_of_ble_eq_true rfl) ?_
  have hF0 : Fr [16, 17] M M := Fr.rf _ M
  have hB0 : Bg 0 0 M M := Bg.rf M
  refine S_iload_n dX8_run_0 rfl ?_
  refine S_istore dX8_run_1 (by decide) ?_
  refine S_iconst dX8_run_3 ?_
  refine S_istore dX8_run_4 (by decide) ?_
  refine S_iload dX8_run_6 rfl ?_
  refine S_bipush dX8_run_8 (by decide) ?_
  refine S_icmp_ge 36 dX8_run_10 (by decide) (by omega) (fun c_10 => absurd c_10 (by omega)) (fun c_10 => ?_)
  refine S_iload dX8_run_13 rfl ?_
  refine S_iload_n dX8_run_15 rfl ?_
  refine S_callS (mi := mi_X8_run 7) [vI 0, vI 2] ok_X8_ownBody ml_X8_373 dX8_run_16 (by decide) rfl (Nat.le_of_ble_eq_true rfl) rfl (c_ownBody_0_2) ?_
  rintro v' M1 ⟨rfl, hM1⟩
  rw [hM1]
  clear hM1
  refine S_iconst dX8_run_19 ?_
  refine S_icmp_ne 36 dX8_run_20 (by decide) (by omega) (fun c_20 => ?_) (fun c_20 => absurd c_20 (by omega))
  refine S_iload dX8_run_36 rfl ?_
  refine S_iload_n dX8_run_38 rfl ?_
  refine S_callS (mi := mi_X8_run 7) [vI 0, vI 2] ok_X8_ownBody ml_X8_373 dX8_run_39 (by decide) rfl (Nat.le_of_ble_eq_true rfl) rfl (c_ownBody_0_2) ?_
  rintro v' M2 ⟨rfl, hM2⟩
  rw [hM2]
  clear hM2
  refine S_istore dX8_run_42 (by decide) ?_
  refine S_iload dX8_run_44 rfl ?_
  refine S_iconst dX8_run_46 ?_
  refine S_icmp_eq 57 dX8_run_47 (by decide) (by omega) (fun c_47 => absurd c_47 (by omega)) (fun c_47 => ?_)
  refine S_iload dX8_run_50 rfl ?_
  refine S_bipush dX8_run_52 (by decide) ?_
  refine S_icmp_le 59 dX8_run_54 (by decide) (by omega) (fun c_54 => ?_) (fun c_54 => absurd c_54 (by omega))
  refine S_iload dX8_run_59 rfl ?_
  refine S_callS (mi := mi_X8_run 7) [vI 0] ok_X8_above ml_X8_370 dX8_run_61 (by decide) rfl (Nat.le_of_ble_eq_true rfl) rfl (c_above_0) ?_
  rintro v' M3 ⟨rfl, hM3⟩
  rw [hM3]
  clear hM3
  refine S_istore dX8_run_64 (by decide) ?_
  refine S_iload dX8_run_66 rfl ?_
  refine S_iconst dX8_run_68 ?_
  refine S_iadd dX8_run_69 ?_
  refine S_istore dX8_run_70 (by decide) ?_
  refine S_aload_n dX8_run_72 rfl ?_
  refine S_iload dX8_run_73 rfl ?_
  refine S_callV (mi := mi_X8_run 7) [vI 12] ok_X6_note ml_X8_376 dX8_run_75 rfl (by decide) rfl (by decide) rfl (Nat.le_of_ble_eq_true rfl) rfl (c_note (G := G) hCs n h44 (by omega) 12) ?_
  rintro v' M4 ⟨rfl, hcs4, hf4, hb4⟩
  have h44_4 : (ranR ρ n 12).1 44 = ↑(n + 1) := ranR_44 _ _ _
  have hk4 : M4.I (18, t) 0 = 0 := (hf4.I (18, t) (show 18 ∉ [16, 17] by decide)).trans hk
  have hv4 : M4.I (18, t) 1 = v := (hf4.I (18, t) (show 18 ∉ [16, 17] by decide)).trans hv
  have hg4 : Fr [16, 17] M M4 := hF0.trans hf4
  have hd4 : Bg 0 0 M M4 := (hB0.trans hb4).le (by omega) (by omega)
  refine S_iload dX8_run_78 rfl ?_
  refine S_lookup 205 dX8_run_80 (by decide) (by omega) rfl (by decide) ?_
  refine S_aload_n dX8_run_205 rfl ?_
  refine S_aload_n dX8_run_206 rfl ?_
  refine S_aload_n dX8_run_207 rfl ?_
  refine S_getI (v := 0) fl_X8_281 dX8_run_208 rfl rfl (by rw [hk4]) ?_
  refine S_iconst dX8_run_211 ?_
  refine S_iload dX8_run_212 rfl ?_
  refine S_iload dX8_run_214 rfl ?_
  refine S_callS (mi := mi_X8_run 7) [vR ((16, 0)), vR ((18, t)), vI 0, vI 1, vI x, vI (dp + 1)] (okD_X8_run 6) ml_X8_284 dX8_run_216 (by decide) rfl (Nat.le_of_ble_eq_true rfl) rfl (c_run_0_0_1 (G := G) hcs4 (n + 1) h44_4 (by omega) t v hk4 hv4 x (dp + 1) (by omega)) ?_
  rintro v' M5 ⟨rfl, hcs5, hf5, hb5⟩
  have h44_5 : (ranL (ranR ρ n 12) (n + 1) [11, 10]).1 44 = ↑(n + 1 + 2) := ranL_44 [11, 10] _ _ h44_4
  have hk5 : M5.I (18, t) 0 = 0 := (hf5.I (18, t) (show 18 ∉ [16, 17] by decide)).trans hk4
  have hv5 : M5.I (18, t) 1 = v := (hf5.I (18, t) (show 18 ∉ [16, 17] by decide)).trans hv4
  have hg5 : Fr [16, 17] M M5 := hg4.trans hf5
  have hd5 : Bg 0 0 M M5 := (hd4.trans hb5).le (by omega) (by omega)
  refine S_aload_n dX8_run_219 rfl ?_
  refine S_aload_n dX8_run_220 rfl ?_
  refine S_aload_n dX8_run_221 rfl ?_
  refine S_getI (v := 0) fl_X8_281 dX8_run_222 rfl rfl (by rw [hk5]) ?_
  refine S_iconst dX8_run_225 ?_
  refine S_iload dX8_run_226 rfl ?_
  refine S_iload dX8_run_228 rfl ?_
  refine S_callS (mi := mi_X8_run 7) [vR ((16, 0)), vR ((18, t)), vI 0, vI 3, vI x, vI (dp + 1)] (okD_X8_run 5) ml_X8_284 dX8_run_230 (by decide) rfl (Nat.le_of_ble_eq_true rfl) rfl (c_run_0_0_3 (G := G) hcs5 (n + 1 + 2) h44_5 (by omega) t v hk5 hv5 x (dp + 1) (by omega)) ?_
  rintro v' M6 ⟨rfl, hcs6, hf6, hb6⟩
  have h44_6 : (ranL (ranL (ranR ρ n 12) (n + 1) [11, 10]) (n + 1 + 2) [13]).1 44 = ↑(n + 1 + 2 + 1) := ranL_44 [13] _ _ h44_5
  have hk6 : M6.I (18, t) 0 = 0 := (hf6.I (18, t) (show 18 ∉ [16, 17] by decide)).trans hk5
  have hv6 : M6.I (18, t) 1 = v := (hf6.I (18, t) (show 18 ∉ [16, 17] by decide)).trans hv5
  have hg6 : Fr [16, 17] M M6 := hg5.trans hf6
  have hd6 : Bg 0 0 M M6 := (hd5.trans hb6).le (by omega) (by omega)
  refine S_isub dX8_run_233 ?_
  exact S_iret dX8_run_234 rfl (Or.inl rfl) ⟨rfl, hcs6, hg6, hd6⟩
set_option maxRecDepth 100000 in
theorem c_run_1_0_0 {G : Ge} {M : Mem} {Y : (Nat → Bool) × (Nat → Bool)} {ρ : RS} (hCs : Cs Y ρ M) (n : Nat) (h44 : ρ.1 44 = ↑n) (hn : n + 1 ≤ 40) (t : Nat) (v : Int) (hk : M.I (18, t) 0 = 1) (hv : M.I (18, t) 1 = v) (x dp : Int) (hdp : 0 ≤ dp ∧ dp ≤ 20) : Ct G (mi_X8_run 5) [vR ((16, 0)), vR ((18, t)), vI 0, vI 0, vI x, vI dp] M (QT Y (ranL ρ n [10]) M (some (vI (x + v)))) := by
  refine Ct.of (plD_X8_run 5) [some (vR ((16, 0))), some (vR ((18, t))), some (vI 0), some (vI 0), some (vI x), some (vI dp), none, none, none, none] rfl (Nat.le_of_ble_eq_true rfl) ?_
  have hF0 : Fr [16, 17] M M := Fr.rf _ M
  have hB0 : Bg 0 0 M M := Bg.rf M
  refine S_iload_n dX8_run_0 rfl ?_
  refine S_istore dX8_run_1 (by decide) ?_
  refine S_iconst dX8_run_3 ?_
  refine S_istore dX8_run_4 (by decide) ?_
  refine S_iload dX8_run_6 rfl ?_
  refine S_bipush dX8_run_8 (by decide) ?_
  refine S_icmp_ge 36 dX8_run_10 (by decide) (by omega) (fun c_10 => absurd c_10 (by omega)) (fun c_10 => ?_)
  refine S_iload dX8_run_13 rfl ?_
  refine S_iload_n dX8_run_15 rfl ?_
  refine S_callS (mi := mi_X8_run 5) [vI 0, vI 0] ok_X8_ownBody ml_X8_373 dX8_run_16 (by decide) rfl (Nat.le_of_ble_eq_true rfl) rfl (c_ownBody_0_0) ?_
  rintro v' M1 ⟨rfl, hM1⟩
  rw [hM1]
  clear hM1
  refine S_iconst dX8_run_19 ?_
  refine S_icmp_ne 36 dX8_run_20 (by decide) (by omega) (fun c_20 => ?_) (fun c_20 => absurd c_20 (by omega))
  refine S_iload dX8_run_36 rfl ?_
  refine S_iload_n dX8_run_38 rfl ?_
  refine S_callS (mi := mi_X8_run 5) [vI 0, vI 0] ok_X8_ownBody ml_X8_373 dX8_run_39 (by decide) rfl (Nat.le_of_ble_eq_true rfl) rfl (c_ownBody_0_0) ?_
  rintro v' M2 ⟨rfl, hM2⟩
  rw [hM2]
  clear hM2
  refine S_istore dX8_run_42 (by decide) ?_
  refine S_iload dX8_run_44 rfl ?_
  refine S_iconst dX8_run_46 ?_
  refine S_icmp_eq 57 dX8_run_47 (by decide) (by omega) (fun c_47 => absurd c_47 (by omega)) (fun c_47 => ?_)
  refine S_iload dX8_run_50 rfl ?_
  refine S_bipush dX8_run_52 (by decide) ?_
  refine S_icmp_le 59 dX8_run_54 (by decide) (by omega) (fun c_54 => ?_) (fun c_54 => absurd c_54 (by omega))
  refine S_iload dX8_run_59 rfl ?_
  refine S_callS (mi := mi_X8_run 5) [vI 0] ok_X8_above ml_X8_370 dX8_run_61 (by decide) rfl (Nat.le_of_ble_eq_true rfl) rfl (c_above_0) ?_
  rintro v' M3 ⟨rfl, hM3⟩
  rw [hM3]
  clear hM3
  refine S_istore dX8_run_64 (by decide) ?_
  refine S_iload dX8_run_66 rfl ?_
  refine S_iconst dX8_run_68 ?_
  refine S_iadd dX8_run_69 ?_
  refine S_istore dX8_run_70 (by decide) ?_
  refine S_aload_n dX8_run_72 rfl ?_
  refine S_iload dX8_run_73 rfl ?_
  refine S_callV (mi := mi_X8_run 5) [vI 10] ok_X6_note ml_X8_376 dX8_run_75 rfl (by decide) rfl (by decide) rfl (Nat.le_of_ble_eq_true rfl) rfl (c_note (G := G) hCs n h44 (by omega) 10) ?_
  rintro v' M4 ⟨rfl, hcs4, hf4, hb4⟩
  have h44_4 : (ranR ρ n 10).1 44 = ↑(n + 1) := ranR_44 _ _ _
  have hk4 : M4.I (18, t) 0 = 1 := (hf4.I (18, t) (show 18 ∉ [16, 17] by decide)).trans hk
  have hv4 : M4.I (18, t) 1 = v := (hf4.I (18, t) (show 18 ∉ [16, 17] by decide)).trans hv
  have hg4 : Fr [16, 17] M M4 := hF0.trans hf4
  have hd4 : Bg 0 0 M M4 := (hB0.trans hb4).le (by omega) (by omega)
  refine S_iload dX8_run_78 rfl ?_
  refine S_lookup 180 dX8_run_80 (by decide) (by omega) rfl (by decide) ?_
  refine S_iload dX8_run_180 rfl ?_
  refine S_aload_n dX8_run_182 rfl ?_
  refine S_getI (v := v) fl_X8_131 dX8_run_183 rfl rfl (by rw [hv4]) ?_
  refine S_iadd dX8_run_186 ?_
  exact S_iret dX8_run_187 rfl (Or.inl rfl) ⟨rfl, hcs4, hg4, hd4⟩
set_option maxRecDepth 100000 in
theorem c_run_1_1_0 {G : Ge} {M : Mem} {Y : (Nat → Bool) × (Nat → Bool)} {ρ : RS} (hCs : Cs Y ρ M) (n : Nat) (h44 : ρ.1 44 = ↑n) (hn : n + 2 ≤ 40) (t : Nat) (v : Int) (hk : M.I (18, t) 0 = 1) (hv : M.I (18, t) 1 = v) (x dp : Int) (hdp : 0 ≤ dp ∧ dp ≤ 19) : Ct G (mi_X8_run 6) [vR ((16, 0)), vR ((18, t)), vI 1, vI 0, vI x, vI dp] M (QT Y (ranL ρ n [20, 10]) M (some (vI ((x + v) * 2)))) := by
  refine Ct.of (plD_X8_run 6) [some (vR ((16, 0))), some (vR ((18, t))), some (vI 1), some (vI 0), some (vI x), some (vI dp), none, none, none, none] rfl (Nat.le_of_ble_eq_true rfl) ?_
  have hF0 : Fr [16, 17] M M := Fr.rf _ M
  have hB0 : Bg 0 0 M M := Bg.rf M
  refine S_iload_n dX8_run_0 rfl ?_
  refine S_istore dX8_run_1 (by decide) ?_
  refine S_iconst dX8_run_3 ?_
  refine S_istore dX8_run_4 (by decide) ?_
  refine S_iload dX8_run_6 rfl ?_
  refine S_bipush dX8_run_8 (by decide) ?_
  refine S_icmp_ge 36 dX8_run_10 (by decide) (by omega) (fun c_10 => absurd c_10 (by omega)) (fun c_10 => ?_)
  refine S_iload dX8_run_13 rfl ?_
  refine S_iload_n dX8_run_15 rfl ?_
  refine S_callS (mi := mi_X8_run 6) [vI 1, vI 0] ok_X8_ownBody ml_X8_373 dX8_run_16 (by decide) rfl (Nat.le_of_ble_eq_true rfl) rfl (c_ownBody_1_0) ?_
  rintro v' M1 ⟨rfl, hM1⟩
  rw [hM1]
  clear hM1
  refine S_iconst dX8_run_19 ?_
  refine S_icmp_ne 36 dX8_run_20 (by decide) (by omega) (fun c_20 => ?_) (fun c_20 => absurd c_20 (by omega))
  refine S_iload dX8_run_36 rfl ?_
  refine S_iload_n dX8_run_38 rfl ?_
  refine S_callS (mi := mi_X8_run 6) [vI 1, vI 0] ok_X8_ownBody ml_X8_373 dX8_run_39 (by decide) rfl (Nat.le_of_ble_eq_true rfl) rfl (c_ownBody_1_0) ?_
  rintro v' M2 ⟨rfl, hM2⟩
  rw [hM2]
  clear hM2
  refine S_istore dX8_run_42 (by decide) ?_
  refine S_iload dX8_run_44 rfl ?_
  refine S_iconst dX8_run_46 ?_
  refine S_icmp_eq 57 dX8_run_47 (by decide) (by omega) (fun c_47 => absurd c_47 (by omega)) (fun c_47 => ?_)
  refine S_iload dX8_run_50 rfl ?_
  refine S_bipush dX8_run_52 (by decide) ?_
  refine S_icmp_le 59 dX8_run_54 (by decide) (by omega) (fun c_54 => ?_) (fun c_54 => absurd c_54 (by omega))
  refine S_iload dX8_run_59 rfl ?_
  refine S_callS (mi := mi_X8_run 6) [vI 1] ok_X8_above ml_X8_370 dX8_run_61 (by decide) rfl (Nat.le_of_ble_eq_true rfl) rfl (c_above_1) ?_
  rintro v' M3 ⟨rfl, hM3⟩
  rw [hM3]
  clear hM3
  refine S_istore dX8_run_64 (by decide) ?_
  refine S_iload dX8_run_66 rfl ?_
  refine S_iconst dX8_run_68 ?_
  refine S_iadd dX8_run_69 ?_
  refine S_istore dX8_run_70 (by decide) ?_
  refine S_aload_n dX8_run_72 rfl ?_
  refine S_iload dX8_run_73 rfl ?_
  refine S_callV (mi := mi_X8_run 6) [vI 20] ok_X6_note ml_X8_376 dX8_run_75 rfl (by decide) rfl (by decide) rfl (Nat.le_of_ble_eq_true rfl) rfl (c_note (G := G) hCs n h44 (by omega) 20) ?_
  rintro v' M4 ⟨rfl, hcs4, hf4, hb4⟩
  have h44_4 : (ranR ρ n 20).1 44 = ↑(n + 1) := ranR_44 _ _ _
  have hk4 : M4.I (18, t) 0 = 1 := (hf4.I (18, t) (show 18 ∉ [16, 17] by decide)).trans hk
  have hv4 : M4.I (18, t) 1 = v := (hf4.I (18, t) (show 18 ∉ [16, 17] by decide)).trans hv
  have hg4 : Fr [16, 17] M M4 := hF0.trans hf4
  have hd4 : Bg 0 0 M M4 := (hB0.trans hb4).le (by omega) (by omega)
  refine S_iload dX8_run_78 rfl ?_
  refine S_lookup 243 dX8_run_80 (by decide) (by omega) rfl (by decide) ?_
  refine S_aload_n dX8_run_243 rfl ?_
  refine S_aload_n dX8_run_244 rfl ?_
  refine S_iload dX8_run_245 rfl ?_
  refine S_iconst dX8_run_247 ?_
  refine S_iload dX8_run_248 rfl ?_
  refine S_iload dX8_run_250 rfl ?_
  refine S_callS (mi := mi_X8_run 6) [vR ((16, 0)), vR ((18, t)), vI 0, vI 0, vI x, vI (dp + 1)] (okD_X8_run 5) ml_X8_284 dX8_run_252 (by decide) rfl (Nat.le_of_ble_eq_true rfl) rfl (c_run_1_0_0 (G := G) hcs4 (n + 1) h44_4 (by omega) t v hk4 hv4 x (dp + 1) (by omega)) ?_
  rintro v' M5 ⟨rfl, hcs5, hf5, hb5⟩
  have h44_5 : (ranL (ranR ρ n 20) (n + 1) [10]).1 44 = ↑(n + 1 + 1) := ranL_44 [10] _ _ h44_4
  have hk5 : M5.I (18, t) 0 = 1 := (hf5.I (18, t) (show 18 ∉ [16, 17] by decide)).trans hk4
  have hv5 : M5.I (18, t) 1 = v := (hf5.I (18, t) (show 18 ∉ [16, 17] by decide)).trans hv4
  have hg5 : Fr [16, 17] M M5 := hg4.trans hf5
  have hd5 : Bg 0 0 M M5 := (hd4.trans hb5).le (by omega) (by omega)
  refine S_iconst dX8_run_255 ?_
  refine S_imul dX8_run_256 ?_
  exact S_iret dX8_run_257 rfl (Or.inl rfl) ⟨rfl, hcs5, hg5, hd5⟩
set_option maxRecDepth 100000 in
theorem c_run_1_1_1 {G : Ge} {M : Mem} {Y : (Nat → Bool) × (Nat → Bool)} {ρ : RS} (hCs : Cs Y ρ M) (n : Nat) (h44 : ρ.1 44 = ↑n) (hn : n + 3 ≤ 40) (t : Nat) (v : Int) (hk : M.I (18, t) 0 = 1) (hv : M.I (18, t) 1 = v) (x dp : Int) (hdp : 0 ≤ dp ∧ dp ≤ 18) : Ct G (mi_X8_run 7) [vR ((16, 0)), vR ((18, t)), vI 1, vI 1, vI x, vI dp] M (QT Y (ranL ρ n [11, 20, 10]) M (some (vI (((x + v) * 2) * 3)))) := by
  refine Ct.of (plD_X8_run 7) [some (vR ((16, 0))), some (vR ((18, t))), some (vI 1), some (vI 1), some (vI x), some (vI dp), none, none, none, none] rfl (Nat.le_of_ble_eq_true rfl) ?_
  have hF0 : Fr [16, 17] M M := Fr.rf _ M
  have hB0 : Bg 0 0 M M := Bg.rf M
  refine S_iload_n dX8_run_0 rfl ?_
  refine S_istore dX8_run_1 (by decide) ?_
  refine S_iconst dX8_run_3 ?_
  refine S_istore dX8_run_4 (by decide) ?_
  refine S_iload dX8_run_6 rfl ?_
  refine S_bipush dX8_run_8 (by decide) ?_
  refine S_icmp_ge 36 dX8_run_10 (by decide) (by omega) (fun c_10 => absurd c_10 (by omega)) (fun c_10 => ?_)
  refine S_iload dX8_run_13 rfl ?_
  refine S_iload_n dX8_run_15 rfl ?_
  refine S_callS (mi := mi_X8_run 7) [vI 1, vI 1] ok_X8_ownBody ml_X8_373 dX8_run_16 (by decide) rfl (Nat.le_of_ble_eq_true rfl) rfl (c_ownBody_1_1) ?_
  rintro v' M1 ⟨rfl, hM1⟩
  rw [hM1]
  clear hM1
  refine S_iconst dX8_run_19 ?_
  refine S_icmp_ne 36 dX8_run_20 (by decide) (by omega) (fun c_20 => absurd c_20 (by omega)) (fun c_20 => ?_)
  refine S_iload dX8_run_23 rfl ?_
  refine S_callS (mi := mi_X8_run 7) [vI 1] ok_X8_above ml_X8_370 dX8_run_25 (by decide) rfl (Nat.le_of_ble_eq_true rfl) rfl (c_above_1) ?_
  rintro v' M2 ⟨rfl, hM2⟩
  rw [hM2]
  clear hM2
  refine S_istore dX8_run_28 (by decide) ?_
  refine S_iinc dX8_run_30 rfl (by decide) ?_
  rw [show ((0 : Int) + 1) = 1 from rfl]
  refine S_goto 6 dX8_run_33 (by decide) ?_
  refine S_iload dX8_run_6 rfl ?_
  refine S_bipush dX8_run_8 (by decide) ?_
  refine S_icmp_ge 36 dX8_run_10 (by decide) (by omega) (fun c_10 => absurd c_10 (by omega)) (fun c_10 => ?_)
  refine S_iload dX8_run_13 rfl ?_
  refine S_iload_n dX8_run_15 rfl ?_
  refine S_callS (mi := mi_X8_run 7) [vI 0, vI 1] ok_X8_ownBody ml_X8_373 dX8_run_16 (by decide) rfl (Nat.le_of_ble_eq_true rfl) rfl (c_ownBody_0_1) ?_
  rintro v' M3 ⟨rfl, hM3⟩
  rw [hM3]
  clear hM3
  refine S_iconst dX8_run_19 ?_
  refine S_icmp_ne 36 dX8_run_20 (by decide) (by omega) (fun c_20 => ?_) (fun c_20 => absurd c_20 (by omega))
  refine S_iload dX8_run_36 rfl ?_
  refine S_iload_n dX8_run_38 rfl ?_
  refine S_callS (mi := mi_X8_run 7) [vI 0, vI 1] ok_X8_ownBody ml_X8_373 dX8_run_39 (by decide) rfl (Nat.le_of_ble_eq_true rfl) rfl (c_ownBody_0_1) ?_
  rintro v' M4 ⟨rfl, hM4⟩
  rw [hM4]
  clear hM4
  refine S_istore dX8_run_42 (by decide) ?_
  refine S_iload dX8_run_44 rfl ?_
  refine S_iconst dX8_run_46 ?_
  refine S_icmp_eq 57 dX8_run_47 (by decide) (by omega) (fun c_47 => absurd c_47 (by omega)) (fun c_47 => ?_)
  refine S_iload dX8_run_50 rfl ?_
  refine S_bipush dX8_run_52 (by decide) ?_
  refine S_icmp_le 59 dX8_run_54 (by decide) (by omega) (fun c_54 => ?_) (fun c_54 => absurd c_54 (by omega))
  refine S_iload dX8_run_59 rfl ?_
  refine S_callS (mi := mi_X8_run 7) [vI 0] ok_X8_above ml_X8_370 dX8_run_61 (by decide) rfl (Nat.le_of_ble_eq_true rfl) rfl (c_above_0) ?_
  rintro v' M5 ⟨rfl, hM5⟩
  rw [hM5]
  clear hM5
  refine S_istore dX8_run_64 (by decide) ?_
  refine S_iload dX8_run_66 rfl ?_
  refine S_iconst dX8_run_68 ?_
  refine S_iadd dX8_run_69 ?_
  refine S_istore dX8_run_70 (by decide) ?_
  refine S_aload_n dX8_run_72 rfl ?_
  refine S_iload dX8_run_73 rfl ?_
  refine S_callV (mi := mi_X8_run 7) [vI 11] ok_X6_note ml_X8_376 dX8_run_75 rfl (by decide) rfl (by decide) rfl (Nat.le_of_ble_eq_true rfl) rfl (c_note (G := G) hCs n h44 (by omega) 11) ?_
  rintro v' M6 ⟨rfl, hcs6, hf6, hb6⟩
  have h44_6 : (ranR ρ n 11).1 44 = ↑(n + 1) := ranR_44 _ _ _
  have hk6 : M6.I (18, t) 0 = 1 := (hf6.I (18, t) (show 18 ∉ [16, 17] by decide)).trans hk
  have hv6 : M6.I (18, t) 1 = v := (hf6.I (18, t) (show 18 ∉ [16, 17] by decide)).trans hv
  have hg6 : Fr [16, 17] M M6 := hF0.trans hf6
  have hd6 : Bg 0 0 M M6 := (hB0.trans hb6).le (by omega) (by omega)
  refine S_iload dX8_run_78 rfl ?_
  refine S_lookup 188 dX8_run_80 (by decide) (by omega) rfl (by decide) ?_
  refine S_aload_n dX8_run_188 rfl ?_
  refine S_aload_n dX8_run_189 rfl ?_
  refine S_aload_n dX8_run_190 rfl ?_
  refine S_getI (v := 1) fl_X8_281 dX8_run_191 rfl rfl (by rw [hk6]) ?_
  refine S_iconst dX8_run_194 ?_
  refine S_iload dX8_run_195 rfl ?_
  refine S_iload dX8_run_197 rfl ?_
  refine S_callS (mi := mi_X8_run 7) [vR ((16, 0)), vR ((18, t)), vI 1, vI 0, vI x, vI (dp + 1)] (okD_X8_run 6) ml_X8_284 dX8_run_199 (by decide) rfl (Nat.le_of_ble_eq_true rfl) rfl (c_run_1_1_0 (G := G) hcs6 (n + 1) h44_6 (by omega) t v hk6 hv6 x (dp + 1) (by omega)) ?_
  rintro v' M7 ⟨rfl, hcs7, hf7, hb7⟩
  have h44_7 : (ranL (ranR ρ n 11) (n + 1) [20, 10]).1 44 = ↑(n + 1 + 2) := ranL_44 [20, 10] _ _ h44_6
  have hk7 : M7.I (18, t) 0 = 1 := (hf7.I (18, t) (show 18 ∉ [16, 17] by decide)).trans hk6
  have hv7 : M7.I (18, t) 1 = v := (hf7.I (18, t) (show 18 ∉ [16, 17] by decide)).trans hv6
  have hg7 : Fr [16, 17] M M7 := hg6.trans hf7
  have hd7 : Bg 0 0 M M7 := (hd6.trans hb7).le (by omega) (by omega)
  refine S_iconst dX8_run_202 ?_
  refine S_imul dX8_run_203 ?_
  exact S_iret dX8_run_204 rfl (Or.inl rfl) ⟨rfl, hcs7, hg7, hd7⟩
set_option maxRecDepth 100000 in
theorem c_run_1_1_3 {G : Ge} {M : Mem} {Y : (Nat → Bool) × (Nat → Bool)} {ρ : RS} (hCs : Cs Y ρ M) (n : Nat) (h44 : ρ.1 44 = ↑n) (hn : n + 1 ≤ 40) (t : Nat) (v : Int) (hk : M.I (18, t) 0 = 1) (hv : M.I (18, t) 1 = v) (x dp : Int) (hdp : 0 ≤ dp ∧ dp ≤ 20) : Ct G (mi_X8_run 5) [vR ((16, 0)), vR ((18, t)), vI 1, vI 3, vI x, vI dp] M (QT Y (ranL ρ n [13]) M (some (vI ((jI x ^^^ jI v).toInt)))) := by
  refine Ct.of (plD_X8_run 5) [some (vR ((16, 0))), some (vR ((18, t))), some (vI 1), some (vI 3), some (vI x), some (vI dp), none, none, none, none] rfl (Nat.le_of_ble_eq_true rfl) ?_
  have hF0 : Fr [16, 17] M M := Fr.rf _ M
  have hB0 : Bg 0 0 M M := Bg.rf M
  refine S_iload_n dX8_run_0 rfl ?_
  refine S_istore dX8_run_1 (by decide) ?_
  refine S_iconst dX8_run_3 ?_
  refine S_istore dX8_run_4 (by decide) ?_
  refine S_iload dX8_run_6 rfl ?_
  refine S_bipush dX8_run_8 (by decide) ?_
  refine S_icmp_ge 36 dX8_run_10 (by decide) (by omega) (fun c_10 => absurd c_10 (by omega)) (fun c_10 => ?_)
  refine S_iload dX8_run_13 rfl ?_
  refine S_iload_n dX8_run_15 rfl ?_
  refine S_callS (mi := mi_X8_run 5) [vI 1, vI 3] ok_X8_ownBody ml_X8_373 dX8_run_16 (by decide) rfl (Nat.le_of_ble_eq_true rfl) rfl (c_ownBody_1_3) ?_
  rintro v' M1 ⟨rfl, hM1⟩
  rw [hM1]
  clear hM1
  refine S_iconst dX8_run_19 ?_
  refine S_icmp_ne 36 dX8_run_20 (by decide) (by omega) (fun c_20 => absurd c_20 (by omega)) (fun c_20 => ?_)
  refine S_iload dX8_run_23 rfl ?_
  refine S_callS (mi := mi_X8_run 5) [vI 1] ok_X8_above ml_X8_370 dX8_run_25 (by decide) rfl (Nat.le_of_ble_eq_true rfl) rfl (c_above_1) ?_
  rintro v' M2 ⟨rfl, hM2⟩
  rw [hM2]
  clear hM2
  refine S_istore dX8_run_28 (by decide) ?_
  refine S_iinc dX8_run_30 rfl (by decide) ?_
  rw [show ((0 : Int) + 1) = 1 from rfl]
  refine S_goto 6 dX8_run_33 (by decide) ?_
  refine S_iload dX8_run_6 rfl ?_
  refine S_bipush dX8_run_8 (by decide) ?_
  refine S_icmp_ge 36 dX8_run_10 (by decide) (by omega) (fun c_10 => absurd c_10 (by omega)) (fun c_10 => ?_)
  refine S_iload dX8_run_13 rfl ?_
  refine S_iload_n dX8_run_15 rfl ?_
  refine S_callS (mi := mi_X8_run 5) [vI 0, vI 3] ok_X8_ownBody ml_X8_373 dX8_run_16 (by decide) rfl (Nat.le_of_ble_eq_true rfl) rfl (c_ownBody_0_3) ?_
  rintro v' M3 ⟨rfl, hM3⟩
  rw [hM3]
  clear hM3
  refine S_iconst dX8_run_19 ?_
  refine S_icmp_ne 36 dX8_run_20 (by decide) (by omega) (fun c_20 => ?_) (fun c_20 => absurd c_20 (by omega))
  refine S_iload dX8_run_36 rfl ?_
  refine S_iload_n dX8_run_38 rfl ?_
  refine S_callS (mi := mi_X8_run 5) [vI 0, vI 3] ok_X8_ownBody ml_X8_373 dX8_run_39 (by decide) rfl (Nat.le_of_ble_eq_true rfl) rfl (c_ownBody_0_3) ?_
  rintro v' M4 ⟨rfl, hM4⟩
  rw [hM4]
  clear hM4
  refine S_istore dX8_run_42 (by decide) ?_
  refine S_iload dX8_run_44 rfl ?_
  refine S_iconst dX8_run_46 ?_
  refine S_icmp_eq 57 dX8_run_47 (by decide) (by omega) (fun c_47 => absurd c_47 (by omega)) (fun c_47 => ?_)
  refine S_iload dX8_run_50 rfl ?_
  refine S_bipush dX8_run_52 (by decide) ?_
  refine S_icmp_le 59 dX8_run_54 (by decide) (by omega) (fun c_54 => ?_) (fun c_54 => absurd c_54 (by omega))
  refine S_iload dX8_run_59 rfl ?_
  refine S_callS (mi := mi_X8_run 5) [vI 0] ok_X8_above ml_X8_370 dX8_run_61 (by decide) rfl (Nat.le_of_ble_eq_true rfl) rfl (c_above_0) ?_
  rintro v' M5 ⟨rfl, hM5⟩
  rw [hM5]
  clear hM5
  refine S_istore dX8_run_64 (by decide) ?_
  refine S_iload dX8_run_66 rfl ?_
  refine S_iconst dX8_run_68 ?_
  refine S_iadd dX8_run_69 ?_
  refine S_istore dX8_run_70 (by decide) ?_
  refine S_aload_n dX8_run_72 rfl ?_
  refine S_iload dX8_run_73 rfl ?_
  refine S_callV (mi := mi_X8_run 5) [vI 13] ok_X6_note ml_X8_376 dX8_run_75 rfl (by decide) rfl (by decide) rfl (Nat.le_of_ble_eq_true rfl) rfl (c_note (G := G) hCs n h44 (by omega) 13) ?_
  rintro v' M6 ⟨rfl, hcs6, hf6, hb6⟩
  have h44_6 : (ranR ρ n 13).1 44 = ↑(n + 1) := ranR_44 _ _ _
  have hk6 : M6.I (18, t) 0 = 1 := (hf6.I (18, t) (show 18 ∉ [16, 17] by decide)).trans hk
  have hv6 : M6.I (18, t) 1 = v := (hf6.I (18, t) (show 18 ∉ [16, 17] by decide)).trans hv
  have hg6 : Fr [16, 17] M M6 := hF0.trans hf6
  have hd6 : Bg 0 0 M M6 := (hB0.trans hb6).le (by omega) (by omega)
  refine S_iload dX8_run_78 rfl ?_
  refine S_lookup 235 dX8_run_80 (by decide) (by omega) rfl (by decide) ?_
  refine S_iload dX8_run_235 rfl ?_
  refine S_aload_n dX8_run_237 rfl ?_
  refine S_getI (v := v) fl_X8_131 dX8_run_238 rfl rfl (by rw [hv6]) ?_
  refine S_ixor dX8_run_241 ?_
  exact S_iret dX8_run_242 rfl (Or.inl rfl) ⟨rfl, hcs6, hg6, hd6⟩
set_option maxRecDepth 100000 in
theorem c_run_1_0_2 {G : Ge} {M : Mem} {Y : (Nat → Bool) × (Nat → Bool)} {ρ : RS} (hCs : Cs Y ρ M) (n : Nat) (h44 : ρ.1 44 = ↑n) (hn : n + 5 ≤ 40) (t : Nat) (v : Int) (hk : M.I (18, t) 0 = 1) (hv : M.I (18, t) 1 = v) (x dp : Int) (hdp : 0 ≤ dp ∧ dp ≤ 17) : Ct G (mi_X8_run 8) [vR ((16, 0)), vR ((18, t)), vI 0, vI 2, vI x, vI dp] M (QT Y (ranL ρ n [12, 11, 20, 10, 13]) M (some (vI ((((x + v) * 2) * 3) - ((jI x ^^^ jI v).toInt))))) := by
  refine Ct.of (plD_X8_run 8) [some (vR ((16, 0))), some (vR ((18, t))), some (vI 0), some (vI 2), some (vI x), some (vI dp), none, none, none, none] rfl (Nat.le_of_ble_eq_true rfl) ?_
  have hF0 : Fr [16, 17] M M := Fr.rf _ M
  have hB0 : Bg 0 0 M M := Bg.rf M
  refine S_iload_n dX8_run_0 rfl ?_
  refine S_istore dX8_run_1 (by decide) ?_
  refine S_iconst dX8_run_3 ?_
  refine S_istore dX8_run_4 (by decide) ?_
  refine S_iload dX8_run_6 rfl ?_
  refine S_bipush dX8_run_8 (by decide) ?_
  refine S_icmp_ge 36 dX8_run_10 (by decide) (by omega) (fun c_10 => absurd c_10 (by omega)) (fun c_10 => ?_)
  refine S_iload dX8_run_13 rfl ?_
  refine S_iload_n dX8_run_15 rfl ?_
  refine S_callS (mi := mi_X8_run 8) [vI 0, vI 2] ok_X8_ownBody ml_X8_373 dX8_run_16 (by decide) rfl (Nat.le_of_ble_eq_true rfl) rfl (c_ownBody_0_2) ?_
  rintro v' M1 ⟨rfl, hM1⟩
  rw [hM1]
  clear hM1
  refine S_iconst dX8_run_19 ?_
  refine S_icmp_ne 36 dX8_run_20 (by decide) (by omega) (fun c_20 => ?_) (fun c_20 => absurd c_20 (by omega))
  refine S_iload dX8_run_36 rfl ?_
  refine S_iload_n dX8_run_38 rfl ?_
  refine S_callS (mi := mi_X8_run 8) [vI 0, vI 2] ok_X8_ownBody ml_X8_373 dX8_run_39 (by decide) rfl (Nat.le_of_ble_eq_true rfl) rfl (c_ownBody_0_2) ?_
  rintro v' M2 ⟨rfl, hM2⟩
  rw [hM2]
  clear hM2
  refine S_istore dX8_run_42 (by decide) ?_
  refine S_iload dX8_run_44 rfl ?_
  refine S_iconst dX8_run_46 ?_
  refine S_icmp_eq 57 dX8_run_47 (by decide) (by omega) (fun c_47 => absurd c_47 (by omega)) (fun c_47 => ?_)
  refine S_iload dX8_run_50 rfl ?_
  refine S_bipush dX8_run_52 (by decide) ?_
  refine S_icmp_le 59 dX8_run_54 (by decide) (by omega) (fun c_54 => ?_) (fun c_54 => absurd c_54 (by omega))
  refine S_iload dX8_run_59 rfl ?_
  refine S_callS (mi := mi_X8_run 8) [vI 0] ok_X8_above ml_X8_370 dX8_run_61 (by decide) rfl (Nat.le_of_ble_eq_true rfl) rfl (c_above_0) ?_
  rintro v' M3 ⟨rfl, hM3⟩
  rw [hM3]
  clear hM3
  refine S_istore dX8_run_64 (by decide) ?_
  refine S_iload dX8_run_66 rfl ?_
  refine S_iconst dX8_run_68 ?_
  refine S_iadd dX8_run_69 ?_
  refine S_istore dX8_run_70 (by decide) ?_
  refine S_aload_n dX8_run_72 rfl ?_
  refine S_iload dX8_run_73 rfl ?_
  refine S_callV (mi := mi_X8_run 8) [vI 12] ok_X6_note ml_X8_376 dX8_run_75 rfl (by decide) rfl (by decide) rfl (Nat.le_of_ble_eq_true rfl) rfl (c_note (G := G) hCs n h44 (by omega) 12) ?_
  rintro v' M4 ⟨rfl, hcs4, hf4, hb4⟩
  have h44_4 : (ranR ρ n 12).1 44 = ↑(n + 1) := ranR_44 _ _ _
  have hk4 : M4.I (18, t) 0 = 1 := (hf4.I (18, t) (show 18 ∉ [16, 17] by decide)).trans hk
  have hv4 : M4.I (18, t) 1 = v := (hf4.I (18, t) (show 18 ∉ [16, 17] by decide)).trans hv
  have hg4 : Fr [16, 17] M M4 := hF0.trans hf4
  have hd4 : Bg 0 0 M M4 := (hB0.trans hb4).le (by omega) (by omega)
  refine S_iload dX8_run_78 rfl ?_
  refine S_lookup 205 dX8_run_80 (by decide) (by omega) rfl (by decide) ?_
  refine S_aload_n dX8_run_205 rfl ?_
  refine S_aload_n dX8_run_206 rfl ?_
  refine S_aload_n dX8_run_207 rfl ?_
  refine S_getI (v := 1) fl_X8_281 dX8_run_208 rfl rfl (by rw [hk4]) ?_
  refine S_iconst dX8_run_211 ?_
  refine S_iload dX8_run_212 rfl ?_
  refine S_iload dX8_run_214 rfl ?_
  refine S_callS (mi := mi_X8_run 8) [vR ((16, 0)), vR ((18, t)), vI 1, vI 1, vI x, vI (dp + 1)] (okD_X8_run 7) ml_X8_284 dX8_run_216 (by decide) rfl (Nat.le_of_ble_eq_true rfl) rfl (c_run_1_1_1 (G := G) hcs4 (n + 1) h44_4 (by omega) t v hk4 hv4 x (dp + 1) (by omega)) ?_
  rintro v' M5 ⟨rfl, hcs5, hf5, hb5⟩
  have h44_5 : (ranL (ranR ρ n 12) (n + 1) [11, 20, 10]).1 44 = ↑(n + 1 + 3) := ranL_44 [11, 20, 10] _ _ h44_4
  have hk5 : M5.I (18, t) 0 = 1 := (hf5.I (18, t) (show 18 ∉ [16, 17] by decide)).trans hk4
  have hv5 : M5.I (18, t) 1 = v := (hf5.I (18, t) (show 18 ∉ [16, 17] by decide)).trans hv4
  have hg5 : Fr [16, 17] M M5 := hg4.trans hf5
  have hd5 : Bg 0 0 M M5 := (hd4.trans hb5).le (by omega) (by omega)
  refine S_aload_n dX8_run_219 rfl ?_
  refine S_aload_n dX8_run_220 rfl ?_
  refine S_aload_n dX8_run_221 rfl ?_
  refine S_getI (v := 1) fl_X8_281 dX8_run_222 rfl rfl (by rw [hk5]) ?_
  refine S_iconst dX8_run_225 ?_
  refine S_iload dX8_run_226 rfl ?_
  refine S_iload dX8_run_228 rfl ?_
  refine S_callS (mi := mi_X8_run 8) [vR ((16, 0)), vR ((18, t)), vI 1, vI 3, vI x, vI (dp + 1)] (okD_X8_run 5) ml_X8_284 dX8_run_230 (by decide) rfl (Nat.le_of_ble_eq_true rfl) rfl (c_run_1_1_3 (G := G) hcs5 (n + 1 + 3) h44_5 (by omega) t v hk5 hv5 x (dp + 1) (by omega)) ?_
  rintro v' M6 ⟨rfl, hcs6, hf6, hb6⟩
  have h44_6 : (ranL (ranL (ranR ρ n 12) (n + 1) [11, 20, 10]) (n + 1 + 3) [13]).1 44 = ↑(n + 1 + 3 + 1) := ranL_44 [13] _ _ h44_5
  have hk6 : M6.I (18, t) 0 = 1 := (hf6.I (18, t) (show 18 ∉ [16, 17] by decide)).trans hk5
  have hv6 : M6.I (18, t) 1 = v := (hf6.I (18, t) (show 18 ∉ [16, 17] by decide)).trans hv5
  have hg6 : Fr [16, 17] M M6 := hg5.trans hf6
  have hd6 : Bg 0 0 M M6 := (hd5.trans hb6).le (by omega) (by omega)
  refine S_isub dX8_run_233 ?_
  exact S_iret dX8_run_234 rfl (Or.inl rfl) ⟨rfl, hcs6, hg6, hd6⟩
set_option maxRecDepth 100000 in
theorem c_run_1_1_2 {G : Ge} {M : Mem} {Y : (Nat → Bool) × (Nat → Bool)} {ρ : RS} (hCs : Cs Y ρ M) (n : Nat) (h44 : ρ.1 44 = ↑n) (hn : n + 6 ≤ 40) (t : Nat) (v : Int) (hk : M.I (18, t) 0 = 1) (hv : M.I (18, t) 1 = v) (x dp : Int) (hdp : 0 ≤ dp ∧ dp ≤ 16) : Ct G (mi_X8_run 9) [vR ((16, 0)), vR ((18, t)), vI 1, vI 2, vI x, vI dp] M (QT Y (ranL ρ n [21, 12, 11, 20, 10, 13]) M (some (vI (((((x + 1) + v) * 2) * 3) - ((jI ((x + 1)) ^^^ jI v).toInt))))) := by
  refine Ct.of (plD_X8_run 9) [some (vR ((16, 0))), some (vR ((18, t))), some (vI 1), some (vI 2), some (vI x), some (vI dp), none, none, none, none] rfl (Nat.le_of_ble_eq_true rfl) ?_
  have hF0 : Fr [16, 17] M M := Fr.rf _ M
  have hB0 : Bg 0 0 M M := Bg.rf M
  refine S_iload_n dX8_run_0 rfl ?_
  refine S_istore dX8_run_1 (by decide) ?_
  refine S_iconst dX8_run_3 ?_
  refine S_istore dX8_run_4 (by decide) ?_
  refine S_iload dX8_run_6 rfl ?_
  refine S_bipush dX8_run_8 (by decide) ?_
  refine S_icmp_ge 36 dX8_run_10 (by decide) (by omega) (fun c_10 => absurd c_10 (by omega)) (fun c_10 => ?_)
  refine S_iload dX8_run_13 rfl ?_
  refine S_iload_n dX8_run_15 rfl ?_
  refine S_callS (mi := mi_X8_run 9) [vI 1, vI 2] ok_X8_ownBody ml_X8_373 dX8_run_16 (by decide) rfl (Nat.le_of_ble_eq_true rfl) rfl (c_ownBody_1_2) ?_
  rintro v' M1 ⟨rfl, hM1⟩
  rw [hM1]
  clear hM1
  refine S_iconst dX8_run_19 ?_
  refine S_icmp_ne 36 dX8_run_20 (by decide) (by omega) (fun c_20 => ?_) (fun c_20 => absurd c_20 (by omega))
  refine S_iload dX8_run_36 rfl ?_
  refine S_iload_n dX8_run_38 rfl ?_
  refine S_callS (mi := mi_X8_run 9) [vI 1, vI 2] ok_X8_ownBody ml_X8_373 dX8_run_39 (by decide) rfl (Nat.le_of_ble_eq_true rfl) rfl (c_ownBody_1_2) ?_
  rintro v' M2 ⟨rfl, hM2⟩
  rw [hM2]
  clear hM2
  refine S_istore dX8_run_42 (by decide) ?_
  refine S_iload dX8_run_44 rfl ?_
  refine S_iconst dX8_run_46 ?_
  refine S_icmp_eq 57 dX8_run_47 (by decide) (by omega) (fun c_47 => absurd c_47 (by omega)) (fun c_47 => ?_)
  refine S_iload dX8_run_50 rfl ?_
  refine S_bipush dX8_run_52 (by decide) ?_
  refine S_icmp_le 59 dX8_run_54 (by decide) (by omega) (fun c_54 => ?_) (fun c_54 => absurd c_54 (by omega))
  refine S_iload dX8_run_59 rfl ?_
  refine S_callS (mi := mi_X8_run 9) [vI 1] ok_X8_above ml_X8_370 dX8_run_61 (by decide) rfl (Nat.le_of_ble_eq_true rfl) rfl (c_above_1) ?_
  rintro v' M3 ⟨rfl, hM3⟩
  rw [hM3]
  clear hM3
  refine S_istore dX8_run_64 (by decide) ?_
  refine S_iload dX8_run_66 rfl ?_
  refine S_iconst dX8_run_68 ?_
  refine S_iadd dX8_run_69 ?_
  refine S_istore dX8_run_70 (by decide) ?_
  refine S_aload_n dX8_run_72 rfl ?_
  refine S_iload dX8_run_73 rfl ?_
  refine S_callV (mi := mi_X8_run 9) [vI 21] ok_X6_note ml_X8_376 dX8_run_75 rfl (by decide) rfl (by decide) rfl (Nat.le_of_ble_eq_true rfl) rfl (c_note (G := G) hCs n h44 (by omega) 21) ?_
  rintro v' M4 ⟨rfl, hcs4, hf4, hb4⟩
  have h44_4 : (ranR ρ n 21).1 44 = ↑(n + 1) := ranR_44 _ _ _
  have hk4 : M4.I (18, t) 0 = 1 := (hf4.I (18, t) (show 18 ∉ [16, 17] by decide)).trans hk
  have hv4 : M4.I (18, t) 1 = v := (hf4.I (18, t) (show 18 ∉ [16, 17] by decide)).trans hv
  have hg4 : Fr [16, 17] M M4 := hF0.trans hf4
  have hd4 : Bg 0 0 M M4 := (hB0.trans hb4).le (by omega) (by omega)
  refine S_iload dX8_run_78 rfl ?_
  refine S_lookup 258 dX8_run_80 (by decide) (by omega) rfl (by decide) ?_
  refine S_aload_n dX8_run_258 rfl ?_
  refine S_aload_n dX8_run_259 rfl ?_
  refine S_iload dX8_run_260 rfl ?_
  refine S_iconst dX8_run_262 ?_
  refine S_iload dX8_run_263 rfl ?_
  refine S_iconst dX8_run_265 ?_
  refine S_iadd dX8_run_266 ?_
  refine S_iload dX8_run_267 rfl ?_
  refine S_callS (mi := mi_X8_run 9) [vR ((16, 0)), vR ((18, t)), vI 0, vI 2, vI (x + 1), vI (dp + 1)] (okD_X8_run 8) ml_X8_284 dX8_run_269 (by decide) rfl (Nat.le_of_ble_eq_true rfl) rfl (c_run_1_0_2 (G := G) hcs4 (n + 1) h44_4 (by omega) t v hk4 hv4 (x + 1) (dp + 1) (by omega)) ?_
  rintro v' M5 ⟨rfl, hcs5, hf5, hb5⟩
  have h44_5 : (ranL (ranR ρ n 21) (n + 1) [12, 11, 20, 10, 13]).1 44 = ↑(n + 1 + 5) := ranL_44 [12, 11, 20, 10, 13] _ _ h44_4
  have hk5 : M5.I (18, t) 0 = 1 := (hf5.I (18, t) (show 18 ∉ [16, 17] by decide)).trans hk4
  have hv5 : M5.I (18, t) 1 = v := (hf5.I (18, t) (show 18 ∉ [16, 17] by decide)).trans hv4
  have hg5 : Fr [16, 17] M M5 := hg4.trans hf5
  have hd5 : Bg 0 0 M M5 := (hd4.trans hb5).le (by omega) (by omega)
  exact S_iret dX8_run_272 rfl (Or.inl rfl) ⟨rfl, hcs5, hg5, hd5⟩
set_option maxRecDepth 100000 in
theorem c_run_2_0_0 {G : Ge} {M : Mem} {Y : (Nat → Bool) × (Nat → Bool)} {ρ : RS} (hCs : Cs Y ρ M) (n : Nat) (h44 : ρ.1 44 = ↑n) (hn : n + 1 ≤ 40) (t : Nat) (v : Int) (hk : M.I (18, t) 0 = 2) (hv : M.I (18, t) 1 = v) (x dp : Int) (hdp : 0 ≤ dp ∧ dp ≤ 20) : Ct G (mi_X8_run 5) [vR ((16, 0)), vR ((18, t)), vI 0, vI 0, vI x, vI dp] M (QT Y (ranL ρ n [10]) M (some (vI (x + v)))) := by
  refine Ct.of (plD_X8_run 5) [some (vR ((16, 0))), some (vR ((18, t))), some (vI 0), some (vI 0), some (vI x), some (vI dp), none, none, none, none] rfl (Nat.le_of_ble_eq_true rfl) ?_
  have hF0 : Fr [16, 17] M M := Fr.rf _ M
  have hB0 : Bg 0 0 M M := Bg.rf M
  refine S_iload_n dX8_run_0 rfl ?_
  refine S_istore dX8_run_1 (by decide) ?_
  refine S_iconst dX8_run_3 ?_
  refine S_istore dX8_run_4 (by decide) ?_
  refine S_iload dX8_run_6 rfl ?_
  refine S_bipush dX8_run_8 (by decide) ?_
  refine S_icmp_ge 36 dX8_run_10 (by decide) (by omega) (fun c_10 => absurd c_10 (by omega)) (fun c_10 => ?_)
  refine S_iload dX8_run_13 rfl ?_
  refine S_iload_n dX8_run_15 rfl ?_
  refine S_callS (mi := mi_X8_run 5) [vI 0, vI 0] ok_X8_ownBody ml_X8_373 dX8_run_16 (by decide) rfl (Nat.le_of_ble_eq_true rfl) rfl (c_ownBody_0_0) ?_
  rintro v' M1 ⟨rfl, hM1⟩
  rw [hM1]
  clear hM1
  refine S_iconst dX8_run_19 ?_
  refine S_icmp_ne 36 dX8_run_20 (by decide) (by omega) (fun c_20 => ?_) (fun c_20 => absurd c_20 (by omega))
  refine S_iload dX8_run_36 rfl ?_
  refine S_iload_n dX8_run_38 rfl ?_
  refine S_callS (mi := mi_X8_run 5) [vI 0, vI 0] ok_X8_ownBody ml_X8_373 dX8_run_39 (by decide) rfl (Nat.le_of_ble_eq_true rfl) rfl (c_ownBody_0_0) ?_
  rintro v' M2 ⟨rfl, hM2⟩
  rw [hM2]
  clear hM2
  refine S_istore dX8_run_42 (by decide) ?_
  refine S_iload dX8_run_44 rfl ?_
  refine S_iconst dX8_run_46 ?_
  refine S_icmp_eq 57 dX8_run_47 (by decide) (by omega) (fun c_47 => absurd c_47 (by omega)) (fun c_47 => ?_)
  refine S_iload dX8_run_50 rfl ?_
  refine S_bipush dX8_run_52 (by decide) ?_
  refine S_icmp_le 59 dX8_run_54 (by decide) (by omega) (fun c_54 => ?_) (fun c_54 => absurd c_54 (by omega))
  refine S_iload dX8_run_59 rfl ?_
  refine S_callS (mi := mi_X8_run 5) [vI 0] ok_X8_above ml_X8_370 dX8_run_61 (by decide) rfl (Nat.le_of_ble_eq_true rfl) rfl (c_above_0) ?_
  rintro v' M3 ⟨rfl, hM3⟩
  rw [hM3]
  clear hM3
  refine S_istore dX8_run_64 (by decide) ?_
  refine S_iload dX8_run_66 rfl ?_
  refine S_iconst dX8_run_68 ?_
  refine S_iadd dX8_run_69 ?_
  refine S_istore dX8_run_70 (by decide) ?_
  refine S_aload_n dX8_run_72 rfl ?_
  refine S_iload dX8_run_73 rfl ?_
  refine S_callV (mi := mi_X8_run 5) [vI 10] ok_X6_note ml_X8_376 dX8_run_75 rfl (by decide) rfl (by decide) rfl (Nat.le_of_ble_eq_true rfl) rfl (c_note (G := G) hCs n h44 (by omega) 10) ?_
  rintro v' M4 ⟨rfl, hcs4, hf4, hb4⟩
  have h44_4 : (ranR ρ n 10).1 44 = ↑(n + 1) := ranR_44 _ _ _
  have hk4 : M4.I (18, t) 0 = 2 := (hf4.I (18, t) (show 18 ∉ [16, 17] by decide)).trans hk
  have hv4 : M4.I (18, t) 1 = v := (hf4.I (18, t) (show 18 ∉ [16, 17] by decide)).trans hv
  have hg4 : Fr [16, 17] M M4 := hF0.trans hf4
  have hd4 : Bg 0 0 M M4 := (hB0.trans hb4).le (by omega) (by omega)
  refine S_iload dX8_run_78 rfl ?_
  refine S_lookup 180 dX8_run_80 (by decide) (by omega) rfl (by decide) ?_
  refine S_iload dX8_run_180 rfl ?_
  refine S_aload_n dX8_run_182 rfl ?_
  refine S_getI (v := v) fl_X8_131 dX8_run_183 rfl rfl (by rw [hv4]) ?_
  refine S_iadd dX8_run_186 ?_
  exact S_iret dX8_run_187 rfl (Or.inl rfl) ⟨rfl, hcs4, hg4, hd4⟩
set_option maxRecDepth 100000 in
theorem c_run_2_2_0 {G : Ge} {M : Mem} {Y : (Nat → Bool) × (Nat → Bool)} {ρ : RS} (hCs : Cs Y ρ M) (n : Nat) (h44 : ρ.1 44 = ↑n) (hn : n + 2 ≤ 40) (t : Nat) (v : Int) (hk : M.I (18, t) 0 = 2) (hv : M.I (18, t) 1 = v) (x dp : Int) (hdp : 0 ≤ dp ∧ dp ≤ 19) : Ct G (mi_X8_run 6) [vR ((16, 0)), vR ((18, t)), vI 2, vI 0, vI x, vI dp] M (QT Y (ranL ρ n [20, 10]) M (some (vI ((x + v) * 2)))) := by
  refine Ct.of (plD_X8_run 6) [some (vR ((16, 0))), some (vR ((18, t))), some (vI 2), some (vI 0), some (vI x), some (vI dp), none, none, none, none] rfl (Nat.le_of_ble_eq_true rfl) ?_
  have hF0 : Fr [16, 17] M M := Fr.rf _ M
  have hB0 : Bg 0 0 M M := Bg.rf M
  refine S_iload_n dX8_run_0 rfl ?_
  refine S_istore dX8_run_1 (by decide) ?_
  refine S_iconst dX8_run_3 ?_
  refine S_istore dX8_run_4 (by decide) ?_
  refine S_iload dX8_run_6 rfl ?_
  refine S_bipush dX8_run_8 (by decide) ?_
  refine S_icmp_ge 36 dX8_run_10 (by decide) (by omega) (fun c_10 => absurd c_10 (by omega)) (fun c_10 => ?_)
  refine S_iload dX8_run_13 rfl ?_
  refine S_iload_n dX8_run_15 rfl ?_
  refine S_callS (mi := mi_X8_run 6) [vI 2, vI 0] ok_X8_ownBody ml_X8_373 dX8_run_16 (by decide) rfl (Nat.le_of_ble_eq_true rfl) rfl (c_ownBody_2_0) ?_
  rintro v' M1 ⟨rfl, hM1⟩
  rw [hM1]
  clear hM1
  refine S_iconst dX8_run_19 ?_
  refine S_icmp_ne 36 dX8_run_20 (by decide) (by omega) (fun c_20 => absurd c_20 (by omega)) (fun c_20 => ?_)
  refine S_iload dX8_run_23 rfl ?_
  refine S_callS (mi := mi_X8_run 6) [vI 2] ok_X8_above ml_X8_370 dX8_run_25 (by decide) rfl (Nat.le_of_ble_eq_true rfl) rfl (c_above_2) ?_
  rintro v' M2 ⟨rfl, hM2⟩
  rw [hM2]
  clear hM2
  refine S_istore dX8_run_28 (by decide) ?_
  refine S_iinc dX8_run_30 rfl (by decide) ?_
  rw [show ((0 : Int) + 1) = 1 from rfl]
  refine S_goto 6 dX8_run_33 (by decide) ?_
  refine S_iload dX8_run_6 rfl ?_
  refine S_bipush dX8_run_8 (by decide) ?_
  refine S_icmp_ge 36 dX8_run_10 (by decide) (by omega) (fun c_10 => absurd c_10 (by omega)) (fun c_10 => ?_)
  refine S_iload dX8_run_13 rfl ?_
  refine S_iload_n dX8_run_15 rfl ?_
  refine S_callS (mi := mi_X8_run 6) [vI 1, vI 0] ok_X8_ownBody ml_X8_373 dX8_run_16 (by decide) rfl (Nat.le_of_ble_eq_true rfl) rfl (c_ownBody_1_0) ?_
  rintro v' M3 ⟨rfl, hM3⟩
  rw [hM3]
  clear hM3
  refine S_iconst dX8_run_19 ?_
  refine S_icmp_ne 36 dX8_run_20 (by decide) (by omega) (fun c_20 => ?_) (fun c_20 => absurd c_20 (by omega))
  refine S_iload dX8_run_36 rfl ?_
  refine S_iload_n dX8_run_38 rfl ?_
  refine S_callS (mi := mi_X8_run 6) [vI 1, vI 0] ok_X8_ownBody ml_X8_373 dX8_run_39 (by decide) rfl (Nat.le_of_ble_eq_true rfl) rfl (c_ownBody_1_0) ?_
  rintro v' M4 ⟨rfl, hM4⟩
  rw [hM4]
  clear hM4
  refine S_istore dX8_run_42 (by decide) ?_
  refine S_iload dX8_run_44 rfl ?_
  refine S_iconst dX8_run_46 ?_
  refine S_icmp_eq 57 dX8_run_47 (by decide) (by omega) (fun c_47 => absurd c_47 (by omega)) (fun c_47 => ?_)
  refine S_iload dX8_run_50 rfl ?_
  refine S_bipush dX8_run_52 (by decide) ?_
  refine S_icmp_le 59 dX8_run_54 (by decide) (by omega) (fun c_54 => ?_) (fun c_54 => absurd c_54 (by omega))
  refine S_iload dX8_run_59 rfl ?_
  refine S_callS (mi := mi_X8_run 6) [vI 1] ok_X8_above ml_X8_370 dX8_run_61 (by decide) rfl (Nat.le_of_ble_eq_true rfl) rfl (c_above_1) ?_
  rintro v' M5 ⟨rfl, hM5⟩
  rw [hM5]
  clear hM5
  refine S_istore dX8_run_64 (by decide) ?_
  refine S_iload dX8_run_66 rfl ?_
  refine S_iconst dX8_run_68 ?_
  refine S_iadd dX8_run_69 ?_
  refine S_istore dX8_run_70 (by decide) ?_
  refine S_aload_n dX8_run_72 rfl ?_
  refine S_iload dX8_run_73 rfl ?_
  refine S_callV (mi := mi_X8_run 6) [vI 20] ok_X6_note ml_X8_376 dX8_run_75 rfl (by decide) rfl (by decide) rfl (Nat.le_of_ble_eq_true rfl) rfl (c_note (G := G) hCs n h44 (by omega) 20) ?_
  rintro v' M6 ⟨rfl, hcs6, hf6, hb6⟩
  have h44_6 : (ranR ρ n 20).1 44 = ↑(n + 1) := ranR_44 _ _ _
  have hk6 : M6.I (18, t) 0 = 2 := (hf6.I (18, t) (show 18 ∉ [16, 17] by decide)).trans hk
  have hv6 : M6.I (18, t) 1 = v := (hf6.I (18, t) (show 18 ∉ [16, 17] by decide)).trans hv
  have hg6 : Fr [16, 17] M M6 := hF0.trans hf6
  have hd6 : Bg 0 0 M M6 := (hB0.trans hb6).le (by omega) (by omega)
  refine S_iload dX8_run_78 rfl ?_
  refine S_lookup 243 dX8_run_80 (by decide) (by omega) rfl (by decide) ?_
  refine S_aload_n dX8_run_243 rfl ?_
  refine S_aload_n dX8_run_244 rfl ?_
  refine S_iload dX8_run_245 rfl ?_
  refine S_iconst dX8_run_247 ?_
  refine S_iload dX8_run_248 rfl ?_
  refine S_iload dX8_run_250 rfl ?_
  refine S_callS (mi := mi_X8_run 6) [vR ((16, 0)), vR ((18, t)), vI 0, vI 0, vI x, vI (dp + 1)] (okD_X8_run 5) ml_X8_284 dX8_run_252 (by decide) rfl (Nat.le_of_ble_eq_true rfl) rfl (c_run_2_0_0 (G := G) hcs6 (n + 1) h44_6 (by omega) t v hk6 hv6 x (dp + 1) (by omega)) ?_
  rintro v' M7 ⟨rfl, hcs7, hf7, hb7⟩
  have h44_7 : (ranL (ranR ρ n 20) (n + 1) [10]).1 44 = ↑(n + 1 + 1) := ranL_44 [10] _ _ h44_6
  have hk7 : M7.I (18, t) 0 = 2 := (hf7.I (18, t) (show 18 ∉ [16, 17] by decide)).trans hk6
  have hv7 : M7.I (18, t) 1 = v := (hf7.I (18, t) (show 18 ∉ [16, 17] by decide)).trans hv6
  have hg7 : Fr [16, 17] M M7 := hg6.trans hf7
  have hd7 : Bg 0 0 M M7 := (hd6.trans hb7).le (by omega) (by omega)
  refine S_iconst dX8_run_255 ?_
  refine S_imul dX8_run_256 ?_
  exact S_iret dX8_run_257 rfl (Or.inl rfl) ⟨rfl, hcs7, hg7, hd7⟩
set_option maxRecDepth 100000 in
theorem c_run_2_2_1 {G : Ge} {M : Mem} {Y : (Nat → Bool) × (Nat → Bool)} {ρ : RS} (hCs : Cs Y ρ M) (n : Nat) (h44 : ρ.1 44 = ↑n) (hn : n + 3 ≤ 40) (t : Nat) (v : Int) (hk : M.I (18, t) 0 = 2) (hv : M.I (18, t) 1 = v) (x dp : Int) (hdp : 0 ≤ dp ∧ dp ≤ 18) : Ct G (mi_X8_run 7) [vR ((16, 0)), vR ((18, t)), vI 2, vI 1, vI x, vI dp] M (QT Y (ranL ρ n [11, 20, 10]) M (some (vI (((x + v) * 2) * 3)))) := by
  refine Ct.of (plD_X8_run 7) [some (vR ((16, 0))), some (vR ((18, t))), some (vI 2), some (vI 1), some (vI x), some (vI dp), none, none, none, none] rfl (Nat.le_of_ble_eq_true rfl) ?_
  have hF0 : Fr [16, 17] M M := Fr.rf _ M
  have hB0 : Bg 0 0 M M := Bg.rf M
  refine S_iload_n dX8_run_0 rfl ?_
  refine S_istore dX8_run_1 (by decide) ?_
  refine S_iconst dX8_run_3 ?_
  refine S_istore dX8_run_4 (by decide) ?_
  refine S_iload dX8_run_6 rfl ?_
  refine S_bipush dX8_run_8 (by decide) ?_
  refine S_icmp_ge 36 dX8_run_10 (by decide) (by omega) (fun c_10 => absurd c_10 (by omega)) (fun c_10 => ?_)
  refine S_iload dX8_run_13 rfl ?_
  refine S_iload_n dX8_run_15 rfl ?_
  refine S_callS (mi := mi_X8_run 7) [vI 2, vI 1] ok_X8_ownBody ml_X8_373 dX8_run_16 (by decide) rfl (Nat.le_of_ble_eq_true rfl) rfl (c_ownBody_2_1) ?_
  rintro v' M1 ⟨rfl, hM1⟩
  rw [hM1]
  clear hM1
  refine S_iconst dX8_run_19 ?_
  refine S_icmp_ne 36 dX8_run_20 (by decide) (by omega) (fun c_20 => absurd c_20 (by omega)) (fun c_20 => ?_)
  refine S_iload dX8_run_23 rfl ?_
  refine S_callS (mi := mi_X8_run 7) [vI 2] ok_X8_above ml_X8_370 dX8_run_25 (by decide) rfl (Nat.le_of_ble_eq_true rfl) rfl (c_above_2) ?_
  rintro v' M2 ⟨rfl, hM2⟩
  rw [hM2]
  clear hM2
  refine S_istore dX8_run_28 (by decide) ?_
  refine S_iinc dX8_run_30 rfl (by decide) ?_
  rw [show ((0 : Int) + 1) = 1 from rfl]
  refine S_goto 6 dX8_run_33 (by decide) ?_
  refine S_iload dX8_run_6 rfl ?_
  refine S_bipush dX8_run_8 (by decide) ?_
  refine S_icmp_ge 36 dX8_run_10 (by decide) (by omega) (fun c_10 => absurd c_10 (by omega)) (fun c_10 => ?_)
  refine S_iload dX8_run_13 rfl ?_
  refine S_iload_n dX8_run_15 rfl ?_
  refine S_callS (mi := mi_X8_run 7) [vI 1, vI 1] ok_X8_ownBody ml_X8_373 dX8_run_16 (by decide) rfl (Nat.le_of_ble_eq_true rfl) rfl (c_ownBody_1_1) ?_
  rintro v' M3 ⟨rfl, hM3⟩
  rw [hM3]
  clear hM3
  refine S_iconst dX8_run_19 ?_
  refine S_icmp_ne 36 dX8_run_20 (by decide) (by omega) (fun c_20 => absurd c_20 (by omega)) (fun c_20 => ?_)
  refine S_iload dX8_run_23 rfl ?_
  refine S_callS (mi := mi_X8_run 7) [vI 1] ok_X8_above ml_X8_370 dX8_run_25 (by decide) rfl (Nat.le_of_ble_eq_true rfl) rfl (c_above_1) ?_
  rintro v' M4 ⟨rfl, hM4⟩
  rw [hM4]
  clear hM4
  refine S_istore dX8_run_28 (by decide) ?_
  refine S_iinc dX8_run_30 rfl (by decide) ?_
  rw [show ((1 : Int) + 1) = 2 from rfl]
  refine S_goto 6 dX8_run_33 (by decide) ?_
  refine S_iload dX8_run_6 rfl ?_
  refine S_bipush dX8_run_8 (by decide) ?_
  refine S_icmp_ge 36 dX8_run_10 (by decide) (by omega) (fun c_10 => absurd c_10 (by omega)) (fun c_10 => ?_)
  refine S_iload dX8_run_13 rfl ?_
  refine S_iload_n dX8_run_15 rfl ?_
  refine S_callS (mi := mi_X8_run 7) [vI 0, vI 1] ok_X8_ownBody ml_X8_373 dX8_run_16 (by decide) rfl (Nat.le_of_ble_eq_true rfl) rfl (c_ownBody_0_1) ?_
  rintro v' M5 ⟨rfl, hM5⟩
  rw [hM5]
  clear hM5
  refine S_iconst dX8_run_19 ?_
  refine S_icmp_ne 36 dX8_run_20 (by decide) (by omega) (fun c_20 => ?_) (fun c_20 => absurd c_20 (by omega))
  refine S_iload dX8_run_36 rfl ?_
  refine S_iload_n dX8_run_38 rfl ?_
  refine S_callS (mi := mi_X8_run 7) [vI 0, vI 1] ok_X8_ownBody ml_X8_373 dX8_run_39 (by decide) rfl (Nat.le_of_ble_eq_true rfl) rfl (c_ownBody_0_1) ?_
  rintro v' M6 ⟨rfl, hM6⟩
  rw [hM6]
  clear hM6
  refine S_istore dX8_run_42 (by decide) ?_
  refine S_iload dX8_run_44 rfl ?_
  refine S_iconst dX8_run_46 ?_
  refine S_icmp_eq 57 dX8_run_47 (by decide) (by omega) (fun c_47 => absurd c_47 (by omega)) (fun c_47 => ?_)
  refine S_iload dX8_run_50 rfl ?_
  refine S_bipush dX8_run_52 (by decide) ?_
  refine S_icmp_le 59 dX8_run_54 (by decide) (by omega) (fun c_54 => ?_) (fun c_54 => absurd c_54 (by omega))
  refine S_iload dX8_run_59 rfl ?_
  refine S_callS (mi := mi_X8_run 7) [vI 0] ok_X8_above ml_X8_370 dX8_run_61 (by decide) rfl (Nat.le_of_ble_eq_true rfl) rfl (c_above_0) ?_
  rintro v' M7 ⟨rfl, hM7⟩
  rw [hM7]
  clear hM7
  refine S_istore dX8_run_64 (by decide) ?_
  refine S_iload dX8_run_66 rfl ?_
  refine S_iconst dX8_run_68 ?_
  refine S_iadd dX8_run_69 ?_
  refine S_istore dX8_run_70 (by decide) ?_
  refine S_aload_n dX8_run_72 rfl ?_
  refine S_iload dX8_run_73 rfl ?_
  refine S_callV (mi := mi_X8_run 7) [vI 11] ok_X6_note ml_X8_376 dX8_run_75 rfl (by decide) rfl (by decide) rfl (Nat.le_of_ble_eq_true rfl) rfl (c_note (G := G) hCs n h44 (by omega) 11) ?_
  rintro v' M8 ⟨rfl, hcs8, hf8, hb8⟩
  have h44_8 : (ranR ρ n 11).1 44 = ↑(n + 1) := ranR_44 _ _ _
  have hk8 : M8.I (18, t) 0 = 2 := (hf8.I (18, t) (show 18 ∉ [16, 17] by decide)).trans hk
  have hv8 : M8.I (18, t) 1 = v := (hf8.I (18, t) (show 18 ∉ [16, 17] by decide)).trans hv
  have hg8 : Fr [16, 17] M M8 := hF0.trans hf8
  have hd8 : Bg 0 0 M M8 := (hB0.trans hb8).le (by omega) (by omega)
  refine S_iload dX8_run_78 rfl ?_
  refine S_lookup 188 dX8_run_80 (by decide) (by omega) rfl (by decide) ?_
  refine S_aload_n dX8_run_188 rfl ?_
  refine S_aload_n dX8_run_189 rfl ?_
  refine S_aload_n dX8_run_190 rfl ?_
  refine S_getI (v := 2) fl_X8_281 dX8_run_191 rfl rfl (by rw [hk8]) ?_
  refine S_iconst dX8_run_194 ?_
  refine S_iload dX8_run_195 rfl ?_
  refine S_iload dX8_run_197 rfl ?_
  refine S_callS (mi := mi_X8_run 7) [vR ((16, 0)), vR ((18, t)), vI 2, vI 0, vI x, vI (dp + 1)] (okD_X8_run 6) ml_X8_284 dX8_run_199 (by decide) rfl (Nat.le_of_ble_eq_true rfl) rfl (c_run_2_2_0 (G := G) hcs8 (n + 1) h44_8 (by omega) t v hk8 hv8 x (dp + 1) (by omega)) ?_
  rintro v' M9 ⟨rfl, hcs9, hf9, hb9⟩
  have h44_9 : (ranL (ranR ρ n 11) (n + 1) [20, 10]).1 44 = ↑(n + 1 + 2) := ranL_44 [20, 10] _ _ h44_8
  have hk9 : M9.I (18, t) 0 = 2 := (hf9.I (18, t) (show 18 ∉ [16, 17] by decide)).trans hk8
  have hv9 : M9.I (18, t) 1 = v := (hf9.I (18, t) (show 18 ∉ [16, 17] by decide)).trans hv8
  have hg9 : Fr [16, 17] M M9 := hg8.trans hf9
  have hd9 : Bg 0 0 M M9 := (hd8.trans hb9).le (by omega) (by omega)
  refine S_iconst dX8_run_202 ?_
  refine S_imul dX8_run_203 ?_
  exact S_iret dX8_run_204 rfl (Or.inl rfl) ⟨rfl, hcs9, hg9, hd9⟩
set_option maxRecDepth 100000 in
theorem c_run_2_1_3 {G : Ge} {M : Mem} {Y : (Nat → Bool) × (Nat → Bool)} {ρ : RS} (hCs : Cs Y ρ M) (n : Nat) (h44 : ρ.1 44 = ↑n) (hn : n + 1 ≤ 40) (t : Nat) (v : Int) (hk : M.I (18, t) 0 = 2) (hv : M.I (18, t) 1 = v) (x dp : Int) (hdp : 0 ≤ dp ∧ dp ≤ 20) : Ct G (mi_X8_run 5) [vR ((16, 0)), vR ((18, t)), vI 1, vI 3, vI x, vI dp] M (QT Y (ranL ρ n [13]) M (some (vI ((jI x ^^^ jI v).toInt)))) := by
  refine Ct.of (plD_X8_run 5) [some (vR ((16, 0))), some (vR ((18, t))), some (vI 1), some (vI 3), some (vI x), some (vI dp), none, none, none, none] rfl (Nat.le_of_ble_eq_true rfl) ?_
  have hF0 : Fr [16, 17] M M := Fr.rf _ M
  have hB0 : Bg 0 0 M M := Bg.rf M
  refine S_iload_n dX8_run_0 rfl ?_
  refine S_istore dX8_run_1 (by decide) ?_
  refine S_iconst dX8_run_3 ?_
  refine S_istore dX8_run_4 (by decide) ?_
  refine S_iload dX8_run_6 rfl ?_
  refine S_bipush dX8_run_8 (by decide) ?_
  refine S_icmp_ge 36 dX8_run_10 (by decide) (by omega) (fun c_10 => absurd c_10 (by omega)) (fun c_10 => ?_)
  refine S_iload dX8_run_13 rfl ?_
  refine S_iload_n dX8_run_15 rfl ?_
  refine S_callS (mi := mi_X8_run 5) [vI 1, vI 3] ok_X8_ownBody ml_X8_373 dX8_run_16 (by decide) rfl (Nat.le_of_ble_eq_true rfl) rfl (c_ownBody_1_3) ?_
  rintro v' M1 ⟨rfl, hM1⟩
  rw [hM1]
  clear hM1
  refine S_iconst dX8_run_19 ?_
  refine S_icmp_ne 36 dX8_run_20 (by decide) (by omega) (fun c_20 => absurd c_20 (by omega)) (fun c_20 => ?_)
  refine S_iload dX8_run_23 rfl ?_
  refine S_callS (mi := mi_X8_run 5) [vI 1] ok_X8_above ml_X8_370 dX8_run_25 (by decide) rfl (Nat.le_of_ble_eq_true rfl) rfl (c_above_1) ?_
  rintro v' M2 ⟨rfl, hM2⟩
  rw [hM2]
  clear hM2
  refine S_istore dX8_run_28 (by decide) ?_
  refine S_iinc dX8_run_30 rfl (by decide) ?_
  rw [show ((0 : Int) + 1) = 1 from rfl]
  refine S_goto 6 dX8_run_33 (by decide) ?_
  refine S_iload dX8_run_6 rfl ?_
  refine S_bipush dX8_run_8 (by decide) ?_
  refine S_icmp_ge 36 dX8_run_10 (by decide) (by omega) (fun c_10 => absurd c_10 (by omega)) (fun c_10 => ?_)
  refine S_iload dX8_run_13 rfl ?_
  refine S_iload_n dX8_run_15 rfl ?_
  refine S_callS (mi := mi_X8_run 5) [vI 0, vI 3] ok_X8_ownBody ml_X8_373 dX8_run_16 (by decide) rfl (Nat.le_of_ble_eq_true rfl) rfl (c_ownBody_0_3) ?_
  rintro v' M3 ⟨rfl, hM3⟩
  rw [hM3]
  clear hM3
  refine S_iconst dX8_run_19 ?_
  refine S_icmp_ne 36 dX8_run_20 (by decide) (by omega) (fun c_20 => ?_) (fun c_20 => absurd c_20 (by omega))
  refine S_iload dX8_run_36 rfl ?_
  refine S_iload_n dX8_run_38 rfl ?_
  refine S_callS (mi := mi_X8_run 5) [vI 0, vI 3] ok_X8_ownBody ml_X8_373 dX8_run_39 (by decide) rfl (Nat.le_of_ble_eq_true rfl) rfl (c_ownBody_0_3) ?_
  rintro v' M4 ⟨rfl, hM4⟩
  rw [hM4]
  clear hM4
  refine S_istore dX8_run_42 (by decide) ?_
  refine S_iload dX8_run_44 rfl ?_
  refine S_iconst dX8_run_46 ?_
  refine S_icmp_eq 57 dX8_run_47 (by decide) (by omega) (fun c_47 => absurd c_47 (by omega)) (fun c_47 => ?_)
  refine S_iload dX8_run_50 rfl ?_
  refine S_bipush dX8_run_52 (by decide) ?_
  refine S_icmp_le 59 dX8_run_54 (by decide) (by omega) (fun c_54 => ?_) (fun c_54 => absurd c_54 (by omega))
  refine S_iload dX8_run_59 rfl ?_
  refine S_callS (mi := mi_X8_run 5) [vI 0] ok_X8_above ml_X8_370 dX8_run_61 (by decide) rfl (Nat.le_of_ble_eq_true rfl) rfl (c_above_0) ?_
  rintro v' M5 ⟨rfl, hM5⟩
  rw [hM5]
  clear hM5
  refine S_istore dX8_run_64 (by decide) ?_
  refine S_iload dX8_run_66 rfl ?_
  refine S_iconst dX8_run_68 ?_
  refine S_iadd dX8_run_69 ?_
  refine S_istore dX8_run_70 (by decide) ?_
  refine S_aload_n dX8_run_72 rfl ?_
  refine S_iload dX8_run_73 rfl ?_
  refine S_callV (mi := mi_X8_run 5) [vI 13] ok_X6_note ml_X8_376 dX8_run_75 rfl (by decide) rfl (by decide) rfl (Nat.le_of_ble_eq_true rfl) rfl (c_note (G := G) hCs n h44 (by omega) 13) ?_
  rintro v' M6 ⟨rfl, hcs6, hf6, hb6⟩
  have h44_6 : (ranR ρ n 13).1 44 = ↑(n + 1) := ranR_44 _ _ _
  have hk6 : M6.I (18, t) 0 = 2 := (hf6.I (18, t) (show 18 ∉ [16, 17] by decide)).trans hk
  have hv6 : M6.I (18, t) 1 = v := (hf6.I (18, t) (show 18 ∉ [16, 17] by decide)).trans hv
  have hg6 : Fr [16, 17] M M6 := hF0.trans hf6
  have hd6 : Bg 0 0 M M6 := (hB0.trans hb6).le (by omega) (by omega)
  refine S_iload dX8_run_78 rfl ?_
  refine S_lookup 235 dX8_run_80 (by decide) (by omega) rfl (by decide) ?_
  refine S_iload dX8_run_235 rfl ?_
  refine S_aload_n dX8_run_237 rfl ?_
  refine S_getI (v := v) fl_X8_131 dX8_run_238 rfl rfl (by rw [hv6]) ?_
  refine S_ixor dX8_run_241 ?_
  exact S_iret dX8_run_242 rfl (Or.inl rfl) ⟨rfl, hcs6, hg6, hd6⟩
set_option maxRecDepth 100000 in
theorem c_run_2_2_3 {G : Ge} {M : Mem} {Y : (Nat → Bool) × (Nat → Bool)} {ρ : RS} (hCs : Cs Y ρ M) (n : Nat) (h44 : ρ.1 44 = ↑n) (hn : n + 2 ≤ 40) (t : Nat) (v : Int) (hk : M.I (18, t) 0 = 2) (hv : M.I (18, t) 1 = v) (x dp : Int) (hdp : 0 ≤ dp ∧ dp ≤ 19) : Ct G (mi_X8_run 6) [vR ((16, 0)), vR ((18, t)), vI 2, vI 3, vI x, vI dp] M (QT Y (ranL ρ n [30, 13]) M (some (vI (((jI x ^^^ jI v).toInt) - 1)))) := by
  refine Ct.of (plD_X8_run 6) [some (vR ((16, 0))), some (vR ((18, t))), some (vI 2), some (vI 3), some (vI x), some (vI dp), none, none, none, none] rfl (Nat.le_of_ble_eq_true rfl) ?_
  have hF0 : Fr [16, 17] M M := Fr.rf _ M
  have hB0 : Bg 0 0 M M := Bg.rf M
  refine S_iload_n dX8_run_0 rfl ?_
  refine S_istore dX8_run_1 (by decide) ?_
  refine S_iconst dX8_run_3 ?_
  refine S_istore dX8_run_4 (by decide) ?_
  refine S_iload dX8_run_6 rfl ?_
  refine S_bipush dX8_run_8 (by decide) ?_
  refine S_icmp_ge 36 dX8_run_10 (by decide) (by omega) (fun c_10 => absurd c_10 (by omega)) (fun c_10 => ?_)
  refine S_iload dX8_run_13 rfl ?_
  refine S_iload_n dX8_run_15 rfl ?_
  refine S_callS (mi := mi_X8_run 6) [vI 2, vI 3] ok_X8_ownBody ml_X8_373 dX8_run_16 (by decide) rfl (Nat.le_of_ble_eq_true rfl) rfl (c_ownBody_2_3) ?_
  rintro v' M1 ⟨rfl, hM1⟩
  rw [hM1]
  clear hM1
  refine S_iconst dX8_run_19 ?_
  refine S_icmp_ne 36 dX8_run_20 (by decide) (by omega) (fun c_20 => ?_) (fun c_20 => absurd c_20 (by omega))
  refine S_iload dX8_run_36 rfl ?_
  refine S_iload_n dX8_run_38 rfl ?_
  refine S_callS (mi := mi_X8_run 6) [vI 2, vI 3] ok_X8_ownBody ml_X8_373 dX8_run_39 (by decide) rfl (Nat.le_of_ble_eq_true rfl) rfl (c_ownBody_2_3) ?_
  rintro v' M2 ⟨rfl, hM2⟩
  rw [hM2]
  clear hM2
  refine S_istore dX8_run_42 (by decide) ?_
  refine S_iload dX8_run_44 rfl ?_
  refine S_iconst dX8_run_46 ?_
  refine S_icmp_eq 57 dX8_run_47 (by decide) (by omega) (fun c_47 => absurd c_47 (by omega)) (fun c_47 => ?_)
  refine S_iload dX8_run_50 rfl ?_
  refine S_bipush dX8_run_52 (by decide) ?_
  refine S_icmp_le 59 dX8_run_54 (by decide) (by omega) (fun c_54 => ?_) (fun c_54 => absurd c_54 (by omega))
  refine S_iload dX8_run_59 rfl ?_
  refine S_callS (mi := mi_X8_run 6) [vI 2] ok_X8_above ml_X8_370 dX8_run_61 (by decide) rfl (Nat.le_of_ble_eq_true rfl) rfl (c_above_2) ?_
  rintro v' M3 ⟨rfl, hM3⟩
  rw [hM3]
  clear hM3
  refine S_istore dX8_run_64 (by decide) ?_
  refine S_iload dX8_run_66 rfl ?_
  refine S_iconst dX8_run_68 ?_
  refine S_iadd dX8_run_69 ?_
  refine S_istore dX8_run_70 (by decide) ?_
  refine S_aload_n dX8_run_72 rfl ?_
  refine S_iload dX8_run_73 rfl ?_
  refine S_callV (mi := mi_X8_run 6) [vI 30] ok_X6_note ml_X8_376 dX8_run_75 rfl (by decide) rfl (by decide) rfl (Nat.le_of_ble_eq_true rfl) rfl (c_note (G := G) hCs n h44 (by omega) 30) ?_
  rintro v' M4 ⟨rfl, hcs4, hf4, hb4⟩
  have h44_4 : (ranR ρ n 30).1 44 = ↑(n + 1) := ranR_44 _ _ _
  have hk4 : M4.I (18, t) 0 = 2 := (hf4.I (18, t) (show 18 ∉ [16, 17] by decide)).trans hk
  have hv4 : M4.I (18, t) 1 = v := (hf4.I (18, t) (show 18 ∉ [16, 17] by decide)).trans hv
  have hg4 : Fr [16, 17] M M4 := hF0.trans hf4
  have hd4 : Bg 0 0 M M4 := (hB0.trans hb4).le (by omega) (by omega)
  refine S_iload dX8_run_78 rfl ?_
  refine S_lookup 273 dX8_run_80 (by decide) (by omega) rfl (by decide) ?_
  refine S_aload_n dX8_run_273 rfl ?_
  refine S_aload_n dX8_run_274 rfl ?_
  refine S_iload dX8_run_275 rfl ?_
  refine S_iconst dX8_run_277 ?_
  refine S_iload dX8_run_278 rfl ?_
  refine S_iload dX8_run_280 rfl ?_
  refine S_callS (mi := mi_X8_run 6) [vR ((16, 0)), vR ((18, t)), vI 1, vI 3, vI x, vI (dp + 1)] (okD_X8_run 5) ml_X8_284 dX8_run_282 (by decide) rfl (Nat.le_of_ble_eq_true rfl) rfl (c_run_2_1_3 (G := G) hcs4 (n + 1) h44_4 (by omega) t v hk4 hv4 x (dp + 1) (by omega)) ?_
  rintro v' M5 ⟨rfl, hcs5, hf5, hb5⟩
  have h44_5 : (ranL (ranR ρ n 30) (n + 1) [13]).1 44 = ↑(n + 1 + 1) := ranL_44 [13] _ _ h44_4
  have hk5 : M5.I (18, t) 0 = 2 := (hf5.I (18, t) (show 18 ∉ [16, 17] by decide)).trans hk4
  have hv5 : M5.I (18, t) 1 = v := (hf5.I (18, t) (show 18 ∉ [16, 17] by decide)).trans hv4
  have hg5 : Fr [16, 17] M M5 := hg4.trans hf5
  have hd5 : Bg 0 0 M M5 := (hd4.trans hb5).le (by omega) (by omega)
  refine S_iconst dX8_run_285 ?_
  refine S_isub dX8_run_286 ?_
  exact S_iret dX8_run_287 rfl (Or.inl rfl) ⟨rfl, hcs5, hg5, hd5⟩
set_option maxRecDepth 100000 in
theorem c_run_2_0_2 {G : Ge} {M : Mem} {Y : (Nat → Bool) × (Nat → Bool)} {ρ : RS} (hCs : Cs Y ρ M) (n : Nat) (h44 : ρ.1 44 = ↑n) (hn : n + 6 ≤ 40) (t : Nat) (v : Int) (hk : M.I (18, t) 0 = 2) (hv : M.I (18, t) 1 = v) (x dp : Int) (hdp : 0 ≤ dp ∧ dp ≤ 17) : Ct G (mi_X8_run 8) [vR ((16, 0)), vR ((18, t)), vI 0, vI 2, vI x, vI dp] M (QT Y (ranL ρ n [12, 11, 20, 10, 30, 13]) M (some (vI ((((x + v) * 2) * 3) - (((jI x ^^^ jI v).toInt) - 1))))) := by
  refine Ct.of (plD_X8_run 8) [some (vR ((16, 0))), some (vR ((18, t))), some (vI 0), some (vI 2), some (vI x), some (vI dp), none, none, none, none] rfl (Nat.le_of_ble_eq_true rfl) ?_
  have hF0 : Fr [16, 17] M M := Fr.rf _ M
  have hB0 : Bg 0 0 M M := Bg.rf M
  refine S_iload_n dX8_run_0 rfl ?_
  refine S_istore dX8_run_1 (by decide) ?_
  refine S_iconst dX8_run_3 ?_
  refine S_istore dX8_run_4 (by decide) ?_
  refine S_iload dX8_run_6 rfl ?_
  refine S_bipush dX8_run_8 (by decide) ?_
  refine S_icmp_ge 36 dX8_run_10 (by decide) (by omega) (fun c_10 => absurd c_10 (by omega)) (fun c_10 => ?_)
  refine S_iload dX8_run_13 rfl ?_
  refine S_iload_n dX8_run_15 rfl ?_
  refine S_callS (mi := mi_X8_run 8) [vI 0, vI 2] ok_X8_ownBody ml_X8_373 dX8_run_16 (by decide) rfl (Nat.le_of_ble_eq_true rfl) rfl (c_ownBody_0_2) ?_
  rintro v' M1 ⟨rfl, hM1⟩
  rw [hM1]
  clear hM1
  refine S_iconst dX8_run_19 ?_
  refine S_icmp_ne 36 dX8_run_20 (by decide) (by omega) (fun c_20 => ?_) (fun c_20 => absurd c_20 (by omega))
  refine S_iload dX8_run_36 rfl ?_
  refine S_iload_n dX8_run_38 rfl ?_
  refine S_callS (mi := mi_X8_run 8) [vI 0, vI 2] ok_X8_ownBody ml_X8_373 dX8_run_39 (by decide) rfl (Nat.le_of_ble_eq_true rfl) rfl (c_ownBody_0_2) ?_
  rintro v' M2 ⟨rfl, hM2⟩
  rw [hM2]
  clear hM2
  refine S_istore dX8_run_42 (by decide) ?_
  refine S_iload dX8_run_44 rfl ?_
  refine S_iconst dX8_run_46 ?_
  refine S_icmp_eq 57 dX8_run_47 (by decide) (by omega) (fun c_47 => absurd c_47 (by omega)) (fun c_47 => ?_)
  refine S_iload dX8_run_50 rfl ?_
  refine S_bipush dX8_run_52 (by decide) ?_
  refine S_icmp_le 59 dX8_run_54 (by decide) (by omega) (fun c_54 => ?_) (fun c_54 => absurd c_54 (by omega))
  refine S_iload dX8_run_59 rfl ?_
  refine S_callS (mi := mi_X8_run 8) [vI 0] ok_X8_above ml_X8_370 dX8_run_61 (by decide) rfl (Nat.le_of_ble_eq_true rfl) rfl (c_above_0) ?_
  rintro v' M3 ⟨rfl, hM3⟩
  rw [hM3]
  clear hM3
  refine S_istore dX8_run_64 (by decide) ?_
  refine S_iload dX8_run_66 rfl ?_
  refine S_iconst dX8_run_68 ?_
  refine S_iadd dX8_run_69 ?_
  refine S_istore dX8_run_70 (by decide) ?_
  refine S_aload_n dX8_run_72 rfl ?_
  refine S_iload dX8_run_73 rfl ?_
  refine S_callV (mi := mi_X8_run 8) [vI 12] ok_X6_note ml_X8_376 dX8_run_75 rfl (by decide) rfl (by decide) rfl (Nat.le_of_ble_eq_true rfl) rfl (c_note (G := G) hCs n h44 (by omega) 12) ?_
  rintro v' M4 ⟨rfl, hcs4, hf4, hb4⟩
  have h44_4 : (ranR ρ n 12).1 44 = ↑(n + 1) := ranR_44 _ _ _
  have hk4 : M4.I (18, t) 0 = 2 := (hf4.I (18, t) (show 18 ∉ [16, 17] by decide)).trans hk
  have hv4 : M4.I (18, t) 1 = v := (hf4.I (18, t) (show 18 ∉ [16, 17] by decide)).trans hv
  have hg4 : Fr [16, 17] M M4 := hF0.trans hf4
  have hd4 : Bg 0 0 M M4 := (hB0.trans hb4).le (by omega) (by omega)
  refine S_iload dX8_run_78 rfl ?_
  refine S_lookup 205 dX8_run_80 (by decide) (by omega) rfl (by decide) ?_
  refine S_aload_n dX8_run_205 rfl ?_
  refine S_aload_n dX8_run_206 rfl ?_
  refine S_aload_n dX8_run_207 rfl ?_
  refine S_getI (v := 2) fl_X8_281 dX8_run_208 rfl rfl (by rw [hk4]) ?_
  refine S_iconst dX8_run_211 ?_
  refine S_iload dX8_run_212 rfl ?_
  refine S_iload dX8_run_214 rfl ?_
  refine S_callS (mi := mi_X8_run 8) [vR ((16, 0)), vR ((18, t)), vI 2, vI 1, vI x, vI (dp + 1)] (okD_X8_run 7) ml_X8_284 dX8_run_216 (by decide) rfl (Nat.le_of_ble_eq_true rfl) rfl (c_run_2_2_1 (G := G) hcs4 (n + 1) h44_4 (by omega) t v hk4 hv4 x (dp + 1) (by omega)) ?_
  rintro v' M5 ⟨rfl, hcs5, hf5, hb5⟩
  have h44_5 : (ranL (ranR ρ n 12) (n + 1) [11, 20, 10]).1 44 = ↑(n + 1 + 3) := ranL_44 [11, 20, 10] _ _ h44_4
  have hk5 : M5.I (18, t) 0 = 2 := (hf5.I (18, t) (show 18 ∉ [16, 17] by decide)).trans hk4
  have hv5 : M5.I (18, t) 1 = v := (hf5.I (18, t) (show 18 ∉ [16, 17] by decide)).trans hv4
  have hg5 : Fr [16, 17] M M5 := hg4.trans hf5
  have hd5 : Bg 0 0 M M5 := (hd4.trans hb5).le (by omega) (by omega)
  refine S_aload_n dX8_run_219 rfl ?_
  refine S_aload_n dX8_run_220 rfl ?_
  refine S_aload_n dX8_run_221 rfl ?_
  refine S_getI (v := 2) fl_X8_281 dX8_run_222 rfl rfl (by rw [hk5]) ?_
  refine S_iconst dX8_run_225 ?_
  refine S_iload dX8_run_226 rfl ?_
  refine S_iload dX8_run_228 rfl ?_
  refine S_callS (mi := mi_X8_run 8) [vR ((16, 0)), vR ((18, t)), vI 2, vI 3, vI x, vI (dp + 1)] (okD_X8_run 6) ml_X8_284 dX8_run_230 (by decide) rfl (Nat.le_of_ble_eq_true rfl) rfl (c_run_2_2_3 (G := G) hcs5 (n + 1 + 3) h44_5 (by omega) t v hk5 hv5 x (dp + 1) (by omega)) ?_
  rintro v' M6 ⟨rfl, hcs6, hf6, hb6⟩
  have h44_6 : (ranL (ranL (ranR ρ n 12) (n + 1) [11, 20, 10]) (n + 1 + 3) [30, 13]).1 44 = ↑(n + 1 + 3 + 2) := ranL_44 [30, 13] _ _ h44_5
  have hk6 : M6.I (18, t) 0 = 2 := (hf6.I (18, t) (show 18 ∉ [16, 17] by decide)).trans hk5
  have hv6 : M6.I (18, t) 1 = v := (hf6.I (18, t) (show 18 ∉ [16, 17] by decide)).trans hv5
  have hg6 : Fr [16, 17] M M6 := hg5.trans hf6
  have hd6 : Bg 0 0 M M6 := (hd5.trans hb6).le (by omega) (by omega)
  refine S_isub dX8_run_233 ?_
  exact S_iret dX8_run_234 rfl (Or.inl rfl) ⟨rfl, hcs6, hg6, hd6⟩
set_option maxRecDepth 100000 in
theorem c_run_2_2_2 {G : Ge} {M : Mem} {Y : (Nat → Bool) × (Nat → Bool)} {ρ : RS} (hCs : Cs Y ρ M) (n : Nat) (h44 : ρ.1 44 = ↑n) (hn : n + 7 ≤ 40) (t : Nat) (v : Int) (hk : M.I (18, t) 0 = 2) (hv : M.I (18, t) 1 = v) (x dp : Int) (hdp : 0 ≤ dp ∧ dp ≤ 16) : Ct G (mi_X8_run 9) [vR ((16, 0)), vR ((18, t)), vI 2, vI 2, vI x, vI dp] M (QT Y (ranL ρ n [21, 12, 11, 20, 10, 30, 13]) M (some (vI (((((x + 1) + v) * 2) * 3) - (((jI ((x + 1)) ^^^ jI v).toInt) - 1))))) := by
  refine Ct.of (plD_X8_run 9) [some (vR ((16, 0))), some (vR ((18, t))), some (vI 2), some (vI 2), some (vI x), some (vI dp), none, none, none, none] rfl (Nat.le_of_ble_eq_true rfl) ?_
  have hF0 : Fr [16, 17] M M := Fr.rf _ M
  have hB0 : Bg 0 0 M M := Bg.rf M
  refine S_iload_n dX8_run_0 rfl ?_
  refine S_istore dX8_run_1 (by decide) ?_
  refine S_iconst dX8_run_3 ?_
  refine S_istore dX8_run_4 (by decide) ?_
  refine S_iload dX8_run_6 rfl ?_
  refine S_bipush dX8_run_8 (by decide) ?_
  refine S_icmp_ge 36 dX8_run_10 (by decide) (by omega) (fun c_10 => absurd c_10 (by omega)) (fun c_10 => ?_)
  refine S_iload dX8_run_13 rfl ?_
  refine S_iload_n dX8_run_15 rfl ?_
  refine S_callS (mi := mi_X8_run 9) [vI 2, vI 2] ok_X8_ownBody ml_X8_373 dX8_run_16 (by decide) rfl (Nat.le_of_ble_eq_true rfl) rfl (c_ownBody_2_2) ?_
  rintro v' M1 ⟨rfl, hM1⟩
  rw [hM1]
  clear hM1
  refine S_iconst dX8_run_19 ?_
  refine S_icmp_ne 36 dX8_run_20 (by decide) (by omega) (fun c_20 => absurd c_20 (by omega)) (fun c_20 => ?_)
  refine S_iload dX8_run_23 rfl ?_
  refine S_callS (mi := mi_X8_run 9) [vI 2] ok_X8_above ml_X8_370 dX8_run_25 (by decide) rfl (Nat.le_of_ble_eq_true rfl) rfl (c_above_2) ?_
  rintro v' M2 ⟨rfl, hM2⟩
  rw [hM2]
  clear hM2
  refine S_istore dX8_run_28 (by decide) ?_
  refine S_iinc dX8_run_30 rfl (by decide) ?_
  rw [show ((0 : Int) + 1) = 1 from rfl]
  refine S_goto 6 dX8_run_33 (by decide) ?_
  refine S_iload dX8_run_6 rfl ?_
  refine S_bipush dX8_run_8 (by decide) ?_
  refine S_icmp_ge 36 dX8_run_10 (by decide) (by omega) (fun c_10 => absurd c_10 (by omega)) (fun c_10 => ?_)
  refine S_iload dX8_run_13 rfl ?_
  refine S_iload_n dX8_run_15 rfl ?_
  refine S_callS (mi := mi_X8_run 9) [vI 1, vI 2] ok_X8_ownBody ml_X8_373 dX8_run_16 (by decide) rfl (Nat.le_of_ble_eq_true rfl) rfl (c_ownBody_1_2) ?_
  rintro v' M3 ⟨rfl, hM3⟩
  rw [hM3]
  clear hM3
  refine S_iconst dX8_run_19 ?_
  refine S_icmp_ne 36 dX8_run_20 (by decide) (by omega) (fun c_20 => ?_) (fun c_20 => absurd c_20 (by omega))
  refine S_iload dX8_run_36 rfl ?_
  refine S_iload_n dX8_run_38 rfl ?_
  refine S_callS (mi := mi_X8_run 9) [vI 1, vI 2] ok_X8_ownBody ml_X8_373 dX8_run_39 (by decide) rfl (Nat.le_of_ble_eq_true rfl) rfl (c_ownBody_1_2) ?_
  rintro v' M4 ⟨rfl, hM4⟩
  rw [hM4]
  clear hM4
  refine S_istore dX8_run_42 (by decide) ?_
  refine S_iload dX8_run_44 rfl ?_
  refine S_iconst dX8_run_46 ?_
  refine S_icmp_eq 57 dX8_run_47 (by decide) (by omega) (fun c_47 => absurd c_47 (by omega)) (fun c_47 => ?_)
  refine S_iload dX8_run_50 rfl ?_
  refine S_bipush dX8_run_52 (by decide) ?_
  refine S_icmp_le 59 dX8_run_54 (by decide) (by omega) (fun c_54 => ?_) (fun c_54 => absurd c_54 (by omega))
  refine S_iload dX8_run_59 rfl ?_
  refine S_callS (mi := mi_X8_run 9) [vI 1] ok_X8_above ml_X8_370 dX8_run_61 (by decide) rfl (Nat.le_of_ble_eq_true rfl) rfl (c_above_1) ?_
  rintro v' M5 ⟨rfl, hM5⟩
  rw [hM5]
  clear hM5
  refine S_istore dX8_run_64 (by decide) ?_
  refine S_iload dX8_run_66 rfl ?_
  refine S_iconst dX8_run_68 ?_
  refine S_iadd dX8_run_69 ?_
  refine S_istore dX8_run_70 (by decide) ?_
  refine S_aload_n dX8_run_72 rfl ?_
  refine S_iload dX8_run_73 rfl ?_
  refine S_callV (mi := mi_X8_run 9) [vI 21] ok_X6_note ml_X8_376 dX8_run_75 rfl (by decide) rfl (by decide) rfl (Nat.le_of_ble_eq_true rfl) rfl (c_note (G := G) hCs n h44 (by omega) 21) ?_
  rintro v' M6 ⟨rfl, hcs6, hf6, hb6⟩
  have h44_6 : (ranR ρ n 21).1 44 = ↑(n + 1) := ranR_44 _ _ _
  have hk6 : M6.I (18, t) 0 = 2 := (hf6.I (18, t) (show 18 ∉ [16, 17] by decide)).trans hk
  have hv6 : M6.I (18, t) 1 = v := (hf6.I (18, t) (show 18 ∉ [16, 17] by decide)).trans hv
  have hg6 : Fr [16, 17] M M6 := hF0.trans hf6
  have hd6 : Bg 0 0 M M6 := (hB0.trans hb6).le (by omega) (by omega)
  refine S_iload dX8_run_78 rfl ?_
  refine S_lookup 258 dX8_run_80 (by decide) (by omega) rfl (by decide) ?_
  refine S_aload_n dX8_run_258 rfl ?_
  refine S_aload_n dX8_run_259 rfl ?_
  refine S_iload dX8_run_260 rfl ?_
  refine S_iconst dX8_run_262 ?_
  refine S_iload dX8_run_263 rfl ?_
  refine S_iconst dX8_run_265 ?_
  refine S_iadd dX8_run_266 ?_
  refine S_iload dX8_run_267 rfl ?_
  refine S_callS (mi := mi_X8_run 9) [vR ((16, 0)), vR ((18, t)), vI 0, vI 2, vI (x + 1), vI (dp + 1)] (okD_X8_run 8) ml_X8_284 dX8_run_269 (by decide) rfl (Nat.le_of_ble_eq_true rfl) rfl (c_run_2_0_2 (G := G) hcs6 (n + 1) h44_6 (by omega) t v hk6 hv6 (x + 1) (dp + 1) (by omega)) ?_
  rintro v' M7 ⟨rfl, hcs7, hf7, hb7⟩
  have h44_7 : (ranL (ranR ρ n 21) (n + 1) [12, 11, 20, 10, 30, 13]).1 44 = ↑(n + 1 + 6) := ranL_44 [12, 11, 20, 10, 30, 13] _ _ h44_6
  have hk7 : M7.I (18, t) 0 = 2 := (hf7.I (18, t) (show 18 ∉ [16, 17] by decide)).trans hk6
  have hv7 : M7.I (18, t) 1 = v := (hf7.I (18, t) (show 18 ∉ [16, 17] by decide)).trans hv6
  have hg7 : Fr [16, 17] M M7 := hg6.trans hf7
  have hd7 : Bg 0 0 M M7 := (hd6.trans hb7).le (by omega) (by omega)
  exact S_iret dX8_run_272 rfl (Or.inl rfl) ⟨rfl, hcs7, hg7, hd7⟩
set_option maxRecDepth 100000 in
theorem c_run_3_3_0 {G : Ge} {M : Mem} {Y : (Nat → Bool) × (Nat → Bool)} {ρ : RS} (hCs : Cs Y ρ M) (n : Nat) (h44 : ρ.1 44 = ↑n) (hn : n + 1 ≤ 40) (t : Nat) (v : Int) (hk : M.I (18, t) 0 = 3) (hv : M.I (18, t) 1 = v) (x dp : Int) (hdp : 0 ≤ dp ∧ dp ≤ 20) : Ct G (mi_X8_run 5) [vR ((16, 0)), vR ((18, t)), vI 3, vI 0, vI x, vI dp] M (QT Y (ranL ρ n [10]) M (some (vI (x + v)))) := by
  refine Ct.of (plD_X8_run 5) [some (vR ((16, 0))), some (vR ((18, t))), some (vI 3), some (vI 0), some (vI x), some (vI dp), none, none, none, none] rfl (Nat.le_of_ble_eq_true rfl) ?_
  have hF0 : Fr [16, 17] M M := Fr.rf _ M
  have hB0 : Bg 0 0 M M := Bg.rf M
  refine S_iload_n dX8_run_0 rfl ?_
  refine S_istore dX8_run_1 (by decide) ?_
  refine S_iconst dX8_run_3 ?_
  refine S_istore dX8_run_4 (by decide) ?_
  refine S_iload dX8_run_6 rfl ?_
  refine S_bipush dX8_run_8 (by decide) ?_
  refine S_icmp_ge 36 dX8_run_10 (by decide) (by omega) (fun c_10 => absurd c_10 (by omega)) (fun c_10 => ?_)
  refine S_iload dX8_run_13 rfl ?_
  refine S_iload_n dX8_run_15 rfl ?_
  refine S_callS (mi := mi_X8_run 5) [vI 3, vI 0] ok_X8_ownBody ml_X8_373 dX8_run_16 (by decide) rfl (Nat.le_of_ble_eq_true rfl) rfl (c_ownBody_3_0) ?_
  rintro v' M1 ⟨rfl, hM1⟩
  rw [hM1]
  clear hM1
  refine S_iconst dX8_run_19 ?_
  refine S_icmp_ne 36 dX8_run_20 (by decide) (by omega) (fun c_20 => absurd c_20 (by omega)) (fun c_20 => ?_)
  refine S_iload dX8_run_23 rfl ?_
  refine S_callS (mi := mi_X8_run 5) [vI 3] ok_X8_above ml_X8_370 dX8_run_25 (by decide) rfl (Nat.le_of_ble_eq_true rfl) rfl (c_above_3) ?_
  rintro v' M2 ⟨rfl, hM2⟩
  rw [hM2]
  clear hM2
  refine S_istore dX8_run_28 (by decide) ?_
  refine S_iinc dX8_run_30 rfl (by decide) ?_
  rw [show ((0 : Int) + 1) = 1 from rfl]
  refine S_goto 6 dX8_run_33 (by decide) ?_
  refine S_iload dX8_run_6 rfl ?_
  refine S_bipush dX8_run_8 (by decide) ?_
  refine S_icmp_ge 36 dX8_run_10 (by decide) (by omega) (fun c_10 => absurd c_10 (by omega)) (fun c_10 => ?_)
  refine S_iload dX8_run_13 rfl ?_
  refine S_iload_n dX8_run_15 rfl ?_
  refine S_callS (mi := mi_X8_run 5) [vI 0, vI 0] ok_X8_ownBody ml_X8_373 dX8_run_16 (by decide) rfl (Nat.le_of_ble_eq_true rfl) rfl (c_ownBody_0_0) ?_
  rintro v' M3 ⟨rfl, hM3⟩
  rw [hM3]
  clear hM3
  refine S_iconst dX8_run_19 ?_
  refine S_icmp_ne 36 dX8_run_20 (by decide) (by omega) (fun c_20 => ?_) (fun c_20 => absurd c_20 (by omega))
  refine S_iload dX8_run_36 rfl ?_
  refine S_iload_n dX8_run_38 rfl ?_
  refine S_callS (mi := mi_X8_run 5) [vI 0, vI 0] ok_X8_ownBody ml_X8_373 dX8_run_39 (by decide) rfl (Nat.le_of_ble_eq_true rfl) rfl (c_ownBody_0_0) ?_
  rintro v' M4 ⟨rfl, hM4⟩
  rw [hM4]
  clear hM4
  refine S_istore dX8_run_42 (by decide) ?_
  refine S_iload dX8_run_44 rfl ?_
  refine S_iconst dX8_run_46 ?_
  refine S_icmp_eq 57 dX8_run_47 (by decide) (by omega) (fun c_47 => absurd c_47 (by omega)) (fun c_47 => ?_)
  refine S_iload dX8_run_50 rfl ?_
  refine S_bipush dX8_run_52 (by decide) ?_
  refine S_icmp_le 59 dX8_run_54 (by decide) (by omega) (fun c_54 => ?_) (fun c_54 => absurd c_54 (by omega))
  refine S_iload dX8_run_59 rfl ?_
  refine S_callS (mi := mi_X8_run 5) [vI 0] ok_X8_above ml_X8_370 dX8_run_61 (by decide) rfl (Nat.le_of_ble_eq_true rfl) rfl (c_above_0) ?_
  rintro v' M5 ⟨rfl, hM5⟩
  rw [hM5]
  clear hM5
  refine S_istore dX8_run_64 (by decide) ?_
  refine S_iload dX8_run_66 rfl ?_
  refine S_iconst dX8_run_68 ?_
  refine S_iadd dX8_run_69 ?_
  refine S_istore dX8_run_70 (by decide) ?_
  refine S_aload_n dX8_run_72 rfl ?_
  refine S_iload dX8_run_73 rfl ?_
  refine S_callV (mi := mi_X8_run 5) [vI 10] ok_X6_note ml_X8_376 dX8_run_75 rfl (by decide) rfl (by decide) rfl (Nat.le_of_ble_eq_true rfl) rfl (c_note (G := G) hCs n h44 (by omega) 10) ?_
  rintro v' M6 ⟨rfl, hcs6, hf6, hb6⟩
  have h44_6 : (ranR ρ n 10).1 44 = ↑(n + 1) := ranR_44 _ _ _
  have hk6 : M6.I (18, t) 0 = 3 := (hf6.I (18, t) (show 18 ∉ [16, 17] by decide)).trans hk
  have hv6 : M6.I (18, t) 1 = v := (hf6.I (18, t) (show 18 ∉ [16, 17] by decide)).trans hv
  have hg6 : Fr [16, 17] M M6 := hF0.trans hf6
  have hd6 : Bg 0 0 M M6 := (hB0.trans hb6).le (by omega) (by omega)
  refine S_iload dX8_run_78 rfl ?_
  refine S_lookup 180 dX8_run_80 (by decide) (by omega) rfl (by decide) ?_
  refine S_iload dX8_run_180 rfl ?_
  refine S_aload_n dX8_run_182 rfl ?_
  refine S_getI (v := v) fl_X8_131 dX8_run_183 rfl rfl (by rw [hv6]) ?_
  refine S_iadd dX8_run_186 ?_
  exact S_iret dX8_run_187 rfl (Or.inl rfl) ⟨rfl, hcs6, hg6, hd6⟩
set_option maxRecDepth 100000 in
theorem c_run_3_0_1 {G : Ge} {M : Mem} {Y : (Nat → Bool) × (Nat → Bool)} {ρ : RS} (hCs : Cs Y ρ M) (n : Nat) (h44 : ρ.1 44 = ↑n) (hn : n + 2 ≤ 40) (t : Nat) (v : Int) (hk : M.I (18, t) 0 = 3) (hv : M.I (18, t) 1 = v) (x dp : Int) (hdp : 0 ≤ dp ∧ dp ≤ 19) : Ct G (mi_X8_run 6) [vR ((16, 0)), vR ((18, t)), vI 0, vI 1, vI x, vI dp] M (QT Y (ranL ρ n [11, 10]) M (some (vI ((x + v) * 3)))) := by
  refine Ct.of (plD_X8_run 6) [some (vR ((16, 0))), some (vR ((18, t))), some (vI 0), some (vI 1), some (vI x), some (vI dp), none, none, none, none] rfl (Nat.le_of_ble_eq_true rfl) ?_
  have hF0 : Fr [16, 17] M M := Fr.rf _ M
  have hB0 : Bg 0 0 M M := Bg.rf M
  refine S_iload_n dX8_run_0 rfl ?_
  refine S_istore dX8_run_1 (by decide) ?_
  refine S_iconst dX8_run_3 ?_
  refine S_istore dX8_run_4 (by decide) ?_
  refine S_iload dX8_run_6 rfl ?_
  refine S_bipush dX8_run_8 (by decide) ?_
  refine S_icmp_ge 36 dX8_run_10 (by decide) (by omega) (fun c_10 => absurd c_10 (by omega)) (fun c_10 => ?_)
  refine S_iload dX8_run_13 rfl ?_
  refine S_iload_n dX8_run_15 rfl ?_
  refine S_callS (mi := mi_X8_run 6) [vI 0, vI 1] ok_X8_ownBody ml_X8_373 dX8_run_16 (by decide) rfl (Nat.le_of_ble_eq_true rfl) rfl (c_ownBody_0_1) ?_
  rintro v' M1 ⟨rfl, hM1⟩
  rw [hM1]
  clear hM1
  refine S_iconst dX8_run_19 ?_
  refine S_icmp_ne 36 dX8_run_20 (by decide) (by omega) (fun c_20 => ?_) (fun c_20 => absurd c_20 (by omega))
  refine S_iload dX8_run_36 rfl ?_
  refine S_iload_n dX8_run_38 rfl ?_
  refine S_callS (mi := mi_X8_run 6) [vI 0, vI 1] ok_X8_ownBody ml_X8_373 dX8_run_39 (by decide) rfl (Nat.le_of_ble_eq_true rfl) rfl (c_ownBody_0_1) ?_
  rintro v' M2 ⟨rfl, hM2⟩
  rw [hM2]
  clear hM2
  refine S_istore dX8_run_42 (by decide) ?_
  refine S_iload dX8_run_44 rfl ?_
  refine S_iconst dX8_run_46 ?_
  refine S_icmp_eq 57 dX8_run_47 (by decide) (by omega) (fun c_47 => absurd c_47 (by omega)) (fun c_47 => ?_)
  refine S_iload dX8_run_50 rfl ?_
  refine S_bipush dX8_run_52 (by decide) ?_
  refine S_icmp_le 59 dX8_run_54 (by decide) (by omega) (fun c_54 => ?_) (fun c_54 => absurd c_54 (by omega))
  refine S_iload dX8_run_59 rfl ?_
  refine S_callS (mi := mi_X8_run 6) [vI 0] ok_X8_above ml_X8_370 dX8_run_61 (by decide) rfl (Nat.le_of_ble_eq_true rfl) rfl (c_above_0) ?_
  rintro v' M3 ⟨rfl, hM3⟩
  rw [hM3]
  clear hM3
  refine S_istore dX8_run_64 (by decide) ?_
  refine S_iload dX8_run_66 rfl ?_
  refine S_iconst dX8_run_68 ?_
  refine S_iadd dX8_run_69 ?_
  refine S_istore dX8_run_70 (by decide) ?_
  refine S_aload_n dX8_run_72 rfl ?_
  refine S_iload dX8_run_73 rfl ?_
  refine S_callV (mi := mi_X8_run 6) [vI 11] ok_X6_note ml_X8_376 dX8_run_75 rfl (by decide) rfl (by decide) rfl (Nat.le_of_ble_eq_true rfl) rfl (c_note (G := G) hCs n h44 (by omega) 11) ?_
  rintro v' M4 ⟨rfl, hcs4, hf4, hb4⟩
  have h44_4 : (ranR ρ n 11).1 44 = ↑(n + 1) := ranR_44 _ _ _
  have hk4 : M4.I (18, t) 0 = 3 := (hf4.I (18, t) (show 18 ∉ [16, 17] by decide)).trans hk
  have hv4 : M4.I (18, t) 1 = v := (hf4.I (18, t) (show 18 ∉ [16, 17] by decide)).trans hv
  have hg4 : Fr [16, 17] M M4 := hF0.trans hf4
  have hd4 : Bg 0 0 M M4 := (hB0.trans hb4).le (by omega) (by omega)
  refine S_iload dX8_run_78 rfl ?_
  refine S_lookup 188 dX8_run_80 (by decide) (by omega) rfl (by decide) ?_
  refine S_aload_n dX8_run_188 rfl ?_
  refine S_aload_n dX8_run_189 rfl ?_
  refine S_aload_n dX8_run_190 rfl ?_
  refine S_getI (v := 3) fl_X8_281 dX8_run_191 rfl rfl (by rw [hk4]) ?_
  refine S_iconst dX8_run_194 ?_
  refine S_iload dX8_run_195 rfl ?_
  refine S_iload dX8_run_197 rfl ?_
  refine S_callS (mi := mi_X8_run 6) [vR ((16, 0)), vR ((18, t)), vI 3, vI 0, vI x, vI (dp + 1)] (okD_X8_run 5) ml_X8_284 dX8_run_199 (by decide) rfl (Nat.le_of_ble_eq_true rfl) rfl (c_run_3_3_0 (G := G) hcs4 (n + 1) h44_4 (by omega) t v hk4 hv4 x (dp + 1) (by omega)) ?_
  rintro v' M5 ⟨rfl, hcs5, hf5, hb5⟩
  have h44_5 : (ranL (ranR ρ n 11) (n + 1) [10]).1 44 = ↑(n + 1 + 1) := ranL_44 [10] _ _ h44_4
  have hk5 : M5.I (18, t) 0 = 3 := (hf5.I (18, t) (show 18 ∉ [16, 17] by decide)).trans hk4
  have hv5 : M5.I (18, t) 1 = v := (hf5.I (18, t) (show 18 ∉ [16, 17] by decide)).trans hv4
  have hg5 : Fr [16, 17] M M5 := hg4.trans hf5
  have hd5 : Bg 0 0 M M5 := (hd4.trans hb5).le (by omega) (by omega)
  refine S_iconst dX8_run_202 ?_
  refine S_imul dX8_run_203 ?_
  exact S_iret dX8_run_204 rfl (Or.inl rfl) ⟨rfl, hcs5, hg5, hd5⟩
set_option maxRecDepth 100000 in
theorem c_run_3_3_1 {G : Ge} {M : Mem} {Y : (Nat → Bool) × (Nat → Bool)} {ρ : RS} (hCs : Cs Y ρ M) (n : Nat) (h44 : ρ.1 44 = ↑n) (hn : n + 3 ≤ 40) (t : Nat) (v : Int) (hk : M.I (18, t) 0 = 3) (hv : M.I (18, t) 1 = v) (x dp : Int) (hdp : 0 ≤ dp ∧ dp ≤ 18) : Ct G (mi_X8_run 7) [vR ((16, 0)), vR ((18, t)), vI 3, vI 1, vI x, vI dp] M (QT Y (ranL ρ n [40, 11, 10]) M (some (vI (((x + v) * 3) + 5)))) := by
  refine Ct.of (plD_X8_run 7) [some (vR ((16, 0))), some (vR ((18, t))), some (vI 3), some (vI 1), some (vI x), some (vI dp), none, none, none, none] rfl (Nat.le_of_ble_eq_true rfl) ?_
  have hF0 : Fr [16, 17] M M := Fr.rf _ M
  have hB0 : Bg 0 0 M M := Bg.rf M
  refine S_iload_n dX8_run_0 rfl ?_
  refine S_istore dX8_run_1 (by decide) ?_
  refine S_iconst dX8_run_3 ?_
  refine S_istore dX8_run_4 (by decide) ?_
  refine S_iload dX8_run_6 rfl ?_
  refine S_bipush dX8_run_8 (by decide) ?_
  refine S_icmp_ge 36 dX8_run_10 (by decide) (by omega) (fun c_10 => absurd c_10 (by omega)) (fun c_10 => ?_)
  refine S_iload dX8_run_13 rfl ?_
  refine S_iload_n dX8_run_15 rfl ?_
  refine S_callS (mi := mi_X8_run 7) [vI 3, vI 1] ok_X8_ownBody ml_X8_373 dX8_run_16 (by decide) rfl (Nat.le_of_ble_eq_true rfl) rfl (c_ownBody_3_1) ?_
  rintro v' M1 ⟨rfl, hM1⟩
  rw [hM1]
  clear hM1
  refine S_iconst dX8_run_19 ?_
  refine S_icmp_ne 36 dX8_run_20 (by decide) (by omega) (fun c_20 => ?_) (fun c_20 => absurd c_20 (by omega))
  refine S_iload dX8_run_36 rfl ?_
  refine S_iload_n dX8_run_38 rfl ?_
  refine S_callS (mi := mi_X8_run 7) [vI 3, vI 1] ok_X8_ownBody ml_X8_373 dX8_run_39 (by decide) rfl (Nat.le_of_ble_eq_true rfl) rfl (c_ownBody_3_1) ?_
  rintro v' M2 ⟨rfl, hM2⟩
  rw [hM2]
  clear hM2
  refine S_istore dX8_run_42 (by decide) ?_
  refine S_iload dX8_run_44 rfl ?_
  refine S_iconst dX8_run_46 ?_
  refine S_icmp_eq 57 dX8_run_47 (by decide) (by omega) (fun c_47 => absurd c_47 (by omega)) (fun c_47 => ?_)
  refine S_iload dX8_run_50 rfl ?_
  refine S_bipush dX8_run_52 (by decide) ?_
  refine S_icmp_le 59 dX8_run_54 (by decide) (by omega) (fun c_54 => ?_) (fun c_54 => absurd c_54 (by omega))
  refine S_iload dX8_run_59 rfl ?_
  refine S_callS (mi := mi_X8_run 7) [vI 3] ok_X8_above ml_X8_370 dX8_run_61 (by decide) rfl (Nat.le_of_ble_eq_true rfl) rfl (c_above_3) ?_
  rintro v' M3 ⟨rfl, hM3⟩
  rw [hM3]
  clear hM3
  refine S_istore dX8_run_64 (by decide) ?_
  refine S_iload dX8_run_66 rfl ?_
  refine S_iconst dX8_run_68 ?_
  refine S_iadd dX8_run_69 ?_
  refine S_istore dX8_run_70 (by decide) ?_
  refine S_aload_n dX8_run_72 rfl ?_
  refine S_iload dX8_run_73 rfl ?_
  refine S_callV (mi := mi_X8_run 7) [vI 40] ok_X6_note ml_X8_376 dX8_run_75 rfl (by decide) rfl (by decide) rfl (Nat.le_of_ble_eq_true rfl) rfl (c_note (G := G) hCs n h44 (by omega) 40) ?_
  rintro v' M4 ⟨rfl, hcs4, hf4, hb4⟩
  have h44_4 : (ranR ρ n 40).1 44 = ↑(n + 1) := ranR_44 _ _ _
  have hk4 : M4.I (18, t) 0 = 3 := (hf4.I (18, t) (show 18 ∉ [16, 17] by decide)).trans hk
  have hv4 : M4.I (18, t) 1 = v := (hf4.I (18, t) (show 18 ∉ [16, 17] by decide)).trans hv
  have hg4 : Fr [16, 17] M M4 := hF0.trans hf4
  have hd4 : Bg 0 0 M M4 := (hB0.trans hb4).le (by omega) (by omega)
  refine S_iload dX8_run_78 rfl ?_
  refine S_lookup 288 dX8_run_80 (by decide) (by omega) rfl (by decide) ?_
  refine S_aload_n dX8_run_288 rfl ?_
  refine S_aload_n dX8_run_289 rfl ?_
  refine S_iload dX8_run_290 rfl ?_
  refine S_iconst dX8_run_292 ?_
  refine S_iload dX8_run_293 rfl ?_
  refine S_iload dX8_run_295 rfl ?_
  refine S_callS (mi := mi_X8_run 7) [vR ((16, 0)), vR ((18, t)), vI 0, vI 1, vI x, vI (dp + 1)] (okD_X8_run 6) ml_X8_284 dX8_run_297 (by decide) rfl (Nat.le_of_ble_eq_true rfl) rfl (c_run_3_0_1 (G := G) hcs4 (n + 1) h44_4 (by omega) t v hk4 hv4 x (dp + 1) (by omega)) ?_
  rintro v' M5 ⟨rfl, hcs5, hf5, hb5⟩
  have h44_5 : (ranL (ranR ρ n 40) (n + 1) [11, 10]).1 44 = ↑(n + 1 + 2) := ranL_44 [11, 10] _ _ h44_4
  have hk5 : M5.I (18, t) 0 = 3 := (hf5.I (18, t) (show 18 ∉ [16, 17] by decide)).trans hk4
  have hv5 : M5.I (18, t) 1 = v := (hf5.I (18, t) (show 18 ∉ [16, 17] by decide)).trans hv4
  have hg5 : Fr [16, 17] M M5 := hg4.trans hf5
  have hd5 : Bg 0 0 M M5 := (hd4.trans hb5).le (by omega) (by omega)
  refine S_iconst dX8_run_300 ?_
  refine S_iadd dX8_run_301 ?_
  exact S_iret dX8_run_302 rfl (Or.inl rfl) ⟨rfl, hcs5, hg5, hd5⟩
set_option maxRecDepth 100000 in
theorem c_run_3_3_3 {G : Ge} {M : Mem} {Y : (Nat → Bool) × (Nat → Bool)} {ρ : RS} (hCs : Cs Y ρ M) (n : Nat) (h44 : ρ.1 44 = ↑n) (hn : n + 1 ≤ 40) (t : Nat) (v : Int) (hk : M.I (18, t) 0 = 3) (hv : M.I (18, t) 1 = v) (x dp : Int) (hdp : 0 ≤ dp ∧ dp ≤ 20) : Ct G (mi_X8_run 5) [vR ((16, 0)), vR ((18, t)), vI 3, vI 3, vI x, vI dp] M (QT Y (ranL ρ n [13]) M (some (vI ((jI x ^^^ jI v).toInt)))) := by
  refine Ct.of (plD_X8_run 5) [some (vR ((16, 0))), some (vR ((18, t))), some (vI 3), some (vI 3), some (vI x), some (vI dp), none, none, none, none] rfl (Nat.le_of_ble_eq_true rfl) ?_
  have hF0 : Fr [16, 17] M M := Fr.rf _ M
  have hB0 : Bg 0 0 M M := Bg.rf M
  refine S_iload_n dX8_run_0 rfl ?_
  refine S_istore dX8_run_1 (by decide) ?_
  refine S_iconst dX8_run_3 ?_
  refine S_istore dX8_run_4 (by decide) ?_
  refine S_iload dX8_run_6 rfl ?_
  refine S_bipush dX8_run_8 (by decide) ?_
  refine S_icmp_ge 36 dX8_run_10 (by decide) (by omega) (fun c_10 => absurd c_10 (by omega)) (fun c_10 => ?_)
  refine S_iload dX8_run_13 rfl ?_
  refine S_iload_n dX8_run_15 rfl ?_
  refine S_callS (mi := mi_X8_run 5) [vI 3, vI 3] ok_X8_ownBody ml_X8_373 dX8_run_16 (by decide) rfl (Nat.le_of_ble_eq_true rfl) rfl (c_ownBody_3_3) ?_
  rintro v' M1 ⟨rfl, hM1⟩
  rw [hM1]
  clear hM1
  refine S_iconst dX8_run_19 ?_
  refine S_icmp_ne 36 dX8_run_20 (by decide) (by omega) (fun c_20 => absurd c_20 (by omega)) (fun c_20 => ?_)
  refine S_iload dX8_run_23 rfl ?_
  refine S_callS (mi := mi_X8_run 5) [vI 3] ok_X8_above ml_X8_370 dX8_run_25 (by decide) rfl (Nat.le_of_ble_eq_true rfl) rfl (c_above_3) ?_
  rintro v' M2 ⟨rfl, hM2⟩
  rw [hM2]
  clear hM2
  refine S_istore dX8_run_28 (by decide) ?_
  refine S_iinc dX8_run_30 rfl (by decide) ?_
  rw [show ((0 : Int) + 1) = 1 from rfl]
  refine S_goto 6 dX8_run_33 (by decide) ?_
  refine S_iload dX8_run_6 rfl ?_
  refine S_bipush dX8_run_8 (by decide) ?_
  refine S_icmp_ge 36 dX8_run_10 (by decide) (by omega) (fun c_10 => absurd c_10 (by omega)) (fun c_10 => ?_)
  refine S_iload dX8_run_13 rfl ?_
  refine S_iload_n dX8_run_15 rfl ?_
  refine S_callS (mi := mi_X8_run 5) [vI 0, vI 3] ok_X8_ownBody ml_X8_373 dX8_run_16 (by decide) rfl (Nat.le_of_ble_eq_true rfl) rfl (c_ownBody_0_3) ?_
  rintro v' M3 ⟨rfl, hM3⟩
  rw [hM3]
  clear hM3
  refine S_iconst dX8_run_19 ?_
  refine S_icmp_ne 36 dX8_run_20 (by decide) (by omega) (fun c_20 => ?_) (fun c_20 => absurd c_20 (by omega))
  refine S_iload dX8_run_36 rfl ?_
  refine S_iload_n dX8_run_38 rfl ?_
  refine S_callS (mi := mi_X8_run 5) [vI 0, vI 3] ok_X8_ownBody ml_X8_373 dX8_run_39 (by decide) rfl (Nat.le_of_ble_eq_true rfl) rfl (c_ownBody_0_3) ?_
  rintro v' M4 ⟨rfl, hM4⟩
  rw [hM4]
  clear hM4
  refine S_istore dX8_run_42 (by decide) ?_
  refine S_iload dX8_run_44 rfl ?_
  refine S_iconst dX8_run_46 ?_
  refine S_icmp_eq 57 dX8_run_47 (by decide) (by omega) (fun c_47 => absurd c_47 (by omega)) (fun c_47 => ?_)
  refine S_iload dX8_run_50 rfl ?_
  refine S_bipush dX8_run_52 (by decide) ?_
  refine S_icmp_le 59 dX8_run_54 (by decide) (by omega) (fun c_54 => ?_) (fun c_54 => absurd c_54 (by omega))
  refine S_iload dX8_run_59 rfl ?_
  refine S_callS (mi := mi_X8_run 5) [vI 0] ok_X8_above ml_X8_370 dX8_run_61 (by decide) rfl (Nat.le_of_ble_eq_true rfl) rfl (c_above_0) ?_
  rintro v' M5 ⟨rfl, hM5⟩
  rw [hM5]
  clear hM5
  refine S_istore dX8_run_64 (by decide) ?_
  refine S_iload dX8_run_66 rfl ?_
  refine S_iconst dX8_run_68 ?_
  refine S_iadd dX8_run_69 ?_
  refine S_istore dX8_run_70 (by decide) ?_
  refine S_aload_n dX8_run_72 rfl ?_
  refine S_iload dX8_run_73 rfl ?_
  refine S_callV (mi := mi_X8_run 5) [vI 13] ok_X6_note ml_X8_376 dX8_run_75 rfl (by decide) rfl (by decide) rfl (Nat.le_of_ble_eq_true rfl) rfl (c_note (G := G) hCs n h44 (by omega) 13) ?_
  rintro v' M6 ⟨rfl, hcs6, hf6, hb6⟩
  have h44_6 : (ranR ρ n 13).1 44 = ↑(n + 1) := ranR_44 _ _ _
  have hk6 : M6.I (18, t) 0 = 3 := (hf6.I (18, t) (show 18 ∉ [16, 17] by decide)).trans hk
  have hv6 : M6.I (18, t) 1 = v := (hf6.I (18, t) (show 18 ∉ [16, 17] by decide)).trans hv
  have hg6 : Fr [16, 17] M M6 := hF0.trans hf6
  have hd6 : Bg 0 0 M M6 := (hB0.trans hb6).le (by omega) (by omega)
  refine S_iload dX8_run_78 rfl ?_
  refine S_lookup 235 dX8_run_80 (by decide) (by omega) rfl (by decide) ?_
  refine S_iload dX8_run_235 rfl ?_
  refine S_aload_n dX8_run_237 rfl ?_
  refine S_getI (v := v) fl_X8_131 dX8_run_238 rfl rfl (by rw [hv6]) ?_
  refine S_ixor dX8_run_241 ?_
  exact S_iret dX8_run_242 rfl (Or.inl rfl) ⟨rfl, hcs6, hg6, hd6⟩
set_option maxRecDepth 100000 in
theorem c_run_3_3_2 {G : Ge} {M : Mem} {Y : (Nat → Bool) × (Nat → Bool)} {ρ : RS} (hCs : Cs Y ρ M) (n : Nat) (h44 : ρ.1 44 = ↑n) (hn : n + 5 ≤ 40) (t : Nat) (v : Int) (hk : M.I (18, t) 0 = 3) (hv : M.I (18, t) 1 = v) (x dp : Int) (hdp : 0 ≤ dp ∧ dp ≤ 17) : Ct G (mi_X8_run 8) [vR ((16, 0)), vR ((18, t)), vI 3, vI 2, vI x, vI dp] M (QT Y (ranL ρ n [12, 40, 11, 10, 13]) M (some (vI ((((x + v) * 3) + 5) - ((jI x ^^^ jI v).toInt))))) := by
  refine Ct.of (plD_X8_run 8) [some (vR ((16, 0))), some (vR ((18, t))), some (vI 3), some (vI 2), some (vI x), some (vI dp), none, none, none, none] rfl (Nat.le_of_ble_eq_true rfl) ?_
  have hF0 : Fr [16, 17] M M := Fr.rf _ M
  have hB0 : Bg 0 0 M M := Bg.rf M
  refine S_iload_n dX8_run_0 rfl ?_
  refine S_istore dX8_run_1 (by decide) ?_
  refine S_iconst dX8_run_3 ?_
  refine S_istore dX8_run_4 (by decide) ?_
  refine S_iload dX8_run_6 rfl ?_
  refine S_bipush dX8_run_8 (by decide) ?_
  refine S_icmp_ge 36 dX8_run_10 (by decide) (by omega) (fun c_10 => absurd c_10 (by omega)) (fun c_10 => ?_)
  refine S_iload dX8_run_13 rfl ?_
  refine S_iload_n dX8_run_15 rfl ?_
  refine S_callS (mi := mi_X8_run 8) [vI 3, vI 2] ok_X8_ownBody ml_X8_373 dX8_run_16 (by decide) rfl (Nat.le_of_ble_eq_true rfl) rfl (c_ownBody_3_2) ?_
  rintro v' M1 ⟨rfl, hM1⟩
  rw [hM1]
  clear hM1
  refine S_iconst dX8_run_19 ?_
  refine S_icmp_ne 36 dX8_run_20 (by decide) (by omega) (fun c_20 => absurd c_20 (by omega)) (fun c_20 => ?_)
  refine S_iload dX8_run_23 rfl ?_
  refine S_callS (mi := mi_X8_run 8) [vI 3] ok_X8_above ml_X8_370 dX8_run_25 (by decide) rfl (Nat.le_of_ble_eq_true rfl) rfl (c_above_3) ?_
  rintro v' M2 ⟨rfl, hM2⟩
  rw [hM2]
  clear hM2
  refine S_istore dX8_run_28 (by decide) ?_
  refine S_iinc dX8_run_30 rfl (by decide) ?_
  rw [show ((0 : Int) + 1) = 1 from rfl]
  refine S_goto 6 dX8_run_33 (by decide) ?_
  refine S_iload dX8_run_6 rfl ?_
  refine S_bipush dX8_run_8 (by decide) ?_
  refine S_icmp_ge 36 dX8_run_10 (by decide) (by omega) (fun c_10 => absurd c_10 (by omega)) (fun c_10 => ?_)
  refine S_iload dX8_run_13 rfl ?_
  refine S_iload_n dX8_run_15 rfl ?_
  refine S_callS (mi := mi_X8_run 8) [vI 0, vI 2] ok_X8_ownBody ml_X8_373 dX8_run_16 (by decide) rfl (Nat.le_of_ble_eq_true rfl) rfl (c_ownBody_0_2) ?_
  rintro v' M3 ⟨rfl, hM3⟩
  rw [hM3]
  clear hM3
  refine S_iconst dX8_run_19 ?_
  refine S_icmp_ne 36 dX8_run_20 (by decide) (by omega) (fun c_20 => ?_) (fun c_20 => absurd c_20 (by omega))
  refine S_iload dX8_run_36 rfl ?_
  refine S_iload_n dX8_run_38 rfl ?_
  refine S_callS (mi := mi_X8_run 8) [vI 0, vI 2] ok_X8_ownBody ml_X8_373 dX8_run_39 (by decide) rfl (Nat.le_of_ble_eq_true rfl) rfl (c_ownBody_0_2) ?_
  rintro v' M4 ⟨rfl, hM4⟩
  rw [hM4]
  clear hM4
  refine S_istore dX8_run_42 (by decide) ?_
  refine S_iload dX8_run_44 rfl ?_
  refine S_iconst dX8_run_46 ?_
  refine S_icmp_eq 57 dX8_run_47 (by decide) (by omega) (fun c_47 => absurd c_47 (by omega)) (fun c_47 => ?_)
  refine S_iload dX8_run_50 rfl ?_
  refine S_bipush dX8_run_52 (by decide) ?_
  refine S_icmp_le 59 dX8_run_54 (by decide) (by omega) (fun c_54 => ?_) (fun c_54 => absurd c_54 (by omega))
  refine S_iload dX8_run_59 rfl ?_
  refine S_callS (mi := mi_X8_run 8) [vI 0] ok_X8_above ml_X8_370 dX8_run_61 (by decide) rfl (Nat.le_of_ble_eq_true rfl) rfl (c_above_0) ?_
  rintro v' M5 ⟨rfl, hM5⟩
  rw [hM5]
  clear hM5
  refine S_istore dX8_run_64 (by decide) ?_
  refine S_iload dX8_run_66 rfl ?_
  refine S_iconst dX8_run_68 ?_
  refine S_iadd dX8_run_69 ?_
  refine S_istore dX8_run_70 (by decide) ?_
  refine S_aload_n dX8_run_72 rfl ?_
  refine S_iload dX8_run_73 rfl ?_
  refine S_callV (mi := mi_X8_run 8) [vI 12] ok_X6_note ml_X8_376 dX8_run_75 rfl (by decide) rfl (by decide) rfl (Nat.le_of_ble_eq_true rfl) rfl (c_note (G := G) hCs n h44 (by omega) 12) ?_
  rintro v' M6 ⟨rfl, hcs6, hf6, hb6⟩
  have h44_6 : (ranR ρ n 12).1 44 = ↑(n + 1) := ranR_44 _ _ _
  have hk6 : M6.I (18, t) 0 = 3 := (hf6.I (18, t) (show 18 ∉ [16, 17] by decide)).trans hk
  have hv6 : M6.I (18, t) 1 = v := (hf6.I (18, t) (show 18 ∉ [16, 17] by decide)).trans hv
  have hg6 : Fr [16, 17] M M6 := hF0.trans hf6
  have hd6 : Bg 0 0 M M6 := (hB0.trans hb6).le (by omega) (by omega)
  refine S_iload dX8_run_78 rfl ?_
  refine S_lookup 205 dX8_run_80 (by decide) (by omega) rfl (by decide) ?_
  refine S_aload_n dX8_run_205 rfl ?_
  refine S_aload_n dX8_run_206 rfl ?_
  refine S_aload_n dX8_run_207 rfl ?_
  refine S_getI (v := 3) fl_X8_281 dX8_run_208 rfl rfl (by rw [hk6]) ?_
  refine S_iconst dX8_run_211 ?_
  refine S_iload dX8_run_212 rfl ?_
  refine S_iload dX8_run_214 rfl ?_
  refine S_callS (mi := mi_X8_run 8) [vR ((16, 0)), vR ((18, t)), vI 3, vI 1, vI x, vI (dp + 1)] (okD_X8_run 7) ml_X8_284 dX8_run_216 (by decide) rfl (Nat.le_of_ble_eq_true rfl) rfl (c_run_3_3_1 (G := G) hcs6 (n + 1) h44_6 (by omega) t v hk6 hv6 x (dp + 1) (by omega)) ?_
  rintro v' M7 ⟨rfl, hcs7, hf7, hb7⟩
  have h44_7 : (ranL (ranR ρ n 12) (n + 1) [40, 11, 10]).1 44 = ↑(n + 1 + 3) := ranL_44 [40, 11, 10] _ _ h44_6
  have hk7 : M7.I (18, t) 0 = 3 := (hf7.I (18, t) (show 18 ∉ [16, 17] by decide)).trans hk6
  have hv7 : M7.I (18, t) 1 = v := (hf7.I (18, t) (show 18 ∉ [16, 17] by decide)).trans hv6
  have hg7 : Fr [16, 17] M M7 := hg6.trans hf7
  have hd7 : Bg 0 0 M M7 := (hd6.trans hb7).le (by omega) (by omega)
  refine S_aload_n dX8_run_219 rfl ?_
  refine S_aload_n dX8_run_220 rfl ?_
  refine S_aload_n dX8_run_221 rfl ?_
  refine S_getI (v := 3) fl_X8_281 dX8_run_222 rfl rfl (by rw [hk7]) ?_
  refine S_iconst dX8_run_225 ?_
  refine S_iload dX8_run_226 rfl ?_
  refine S_iload dX8_run_228 rfl ?_
  refine S_callS (mi := mi_X8_run 8) [vR ((16, 0)), vR ((18, t)), vI 3, vI 3, vI x, vI (dp + 1)] (okD_X8_run 5) ml_X8_284 dX8_run_230 (by decide) rfl (Nat.le_of_ble_eq_true rfl) rfl (c_run_3_3_3 (G := G) hcs7 (n + 1 + 3) h44_7 (by omega) t v hk7 hv7 x (dp + 1) (by omega)) ?_
  rintro v' M8 ⟨rfl, hcs8, hf8, hb8⟩
  have h44_8 : (ranL (ranL (ranR ρ n 12) (n + 1) [40, 11, 10]) (n + 1 + 3) [13]).1 44 = ↑(n + 1 + 3 + 1) := ranL_44 [13] _ _ h44_7
  have hk8 : M8.I (18, t) 0 = 3 := (hf8.I (18, t) (show 18 ∉ [16, 17] by decide)).trans hk7
  have hv8 : M8.I (18, t) 1 = v := (hf8.I (18, t) (show 18 ∉ [16, 17] by decide)).trans hv7
  have hg8 : Fr [16, 17] M M8 := hg7.trans hf8
  have hd8 : Bg 0 0 M M8 := (hd7.trans hb8).le (by omega) (by omega)
  refine S_isub dX8_run_233 ?_
  exact S_iret dX8_run_234 rfl (Or.inl rfl) ⟨rfl, hcs8, hg8, hd8⟩
set_option maxRecDepth 100000 in
theorem c_run_4_4_0 {G : Ge} {M : Mem} {Y : (Nat → Bool) × (Nat → Bool)} {ρ : RS} (hCs : Cs Y ρ M) (n : Nat) (h44 : ρ.1 44 = ↑n) (hn : n + 1 ≤ 40) (t : Nat) (v : Int) (hk : M.I (19, t) 0 = 4) (hv : M.I (19, t) 1 = v) (tk : Int) (ht : M.I (19, t) 11 = tk) (x dp : Int) (hdp : 0 ≤ dp ∧ dp ≤ 20) : Ct G (mi_X8_run 5) [vR ((16, 0)), vR ((19, t)), vI 4, vI 0, vI x, vI dp] M (QT Y (ranL ρ n [10]) M (some (vI (x + v)))) := by
  refine Ct.of (plD_X8_run 5) [some (vR ((16, 0))), some (vR ((19, t))), some (vI 4), some (vI 0), some (vI x), some (vI dp), none, none, none, none] rfl (Nat.le_of_ble_eq_true rfl) ?_
  have hF0 : Fr [16, 17] M M := Fr.rf _ M
  have hB0 : Bg 0 0 M M := Bg.rf M
  refine S_iload_n dX8_run_0 rfl ?_
  refine S_istore dX8_run_1 (by decide) ?_
  refine S_iconst dX8_run_3 ?_
  refine S_istore dX8_run_4 (by decide) ?_
  refine S_iload dX8_run_6 rfl ?_
  refine S_bipush dX8_run_8 (by decide) ?_
  refine S_icmp_ge 36 dX8_run_10 (by decide) (by omega) (fun c_10 => absurd c_10 (by omega)) (fun c_10 => ?_)
  refine S_iload dX8_run_13 rfl ?_
  refine S_iload_n dX8_run_15 rfl ?_
  refine S_callS (mi := mi_X8_run 5) [vI 4, vI 0] ok_X8_ownBody ml_X8_373 dX8_run_16 (by decide) rfl (Nat.le_of_ble_eq_true rfl) rfl (c_ownBody_4_0) ?_
  rintro v' M1 ⟨rfl, hM1⟩
  rw [hM1]
  clear hM1
  refine S_iconst dX8_run_19 ?_
  refine S_icmp_ne 36 dX8_run_20 (by decide) (by omega) (fun c_20 => absurd c_20 (by omega)) (fun c_20 => ?_)
  refine S_iload dX8_run_23 rfl ?_
  refine S_callS (mi := mi_X8_run 5) [vI 4] ok_X8_above ml_X8_370 dX8_run_25 (by decide) rfl (Nat.le_of_ble_eq_true rfl) rfl (c_above_4) ?_
  rintro v' M2 ⟨rfl, hM2⟩
  rw [hM2]
  clear hM2
  refine S_istore dX8_run_28 (by decide) ?_
  refine S_iinc dX8_run_30 rfl (by decide) ?_
  rw [show ((0 : Int) + 1) = 1 from rfl]
  refine S_goto 6 dX8_run_33 (by decide) ?_
  refine S_iload dX8_run_6 rfl ?_
  refine S_bipush dX8_run_8 (by decide) ?_
  refine S_icmp_ge 36 dX8_run_10 (by decide) (by omega) (fun c_10 => absurd c_10 (by omega)) (fun c_10 => ?_)
  refine S_iload dX8_run_13 rfl ?_
  refine S_iload_n dX8_run_15 rfl ?_
  refine S_callS (mi := mi_X8_run 5) [vI 0, vI 0] ok_X8_ownBody ml_X8_373 dX8_run_16 (by decide) rfl (Nat.le_of_ble_eq_true rfl) rfl (c_ownBody_0_0) ?_
  rintro v' M3 ⟨rfl, hM3⟩
  rw [hM3]
  clear hM3
  refine S_iconst dX8_run_19 ?_
  refine S_icmp_ne 36 dX8_run_20 (by decide) (by omega) (fun c_20 => ?_) (fun c_20 => absurd c_20 (by omega))
  refine S_iload dX8_run_36 rfl ?_
  refine S_iload_n dX8_run_38 rfl ?_
  refine S_callS (mi := mi_X8_run 5) [vI 0, vI 0] ok_X8_ownBody ml_X8_373 dX8_run_39 (by decide) rfl (Nat.le_of_ble_eq_true rfl) rfl (c_ownBody_0_0) ?_
  rintro v' M4 ⟨rfl, hM4⟩
  rw [hM4]
  clear hM4
  refine S_istore dX8_run_42 (by decide) ?_
  refine S_iload dX8_run_44 rfl ?_
  refine S_iconst dX8_run_46 ?_
  refine S_icmp_eq 57 dX8_run_47 (by decide) (by omega) (fun c_47 => absurd c_47 (by omega)) (fun c_47 => ?_)
  refine S_iload dX8_run_50 rfl ?_
  refine S_bipush dX8_run_52 (by decide) ?_
  refine S_icmp_le 59 dX8_run_54 (by decide) (by omega) (fun c_54 => ?_) (fun c_54 => absurd c_54 (by omega))
  refine S_iload dX8_run_59 rfl ?_
  refine S_callS (mi := mi_X8_run 5) [vI 0] ok_X8_above ml_X8_370 dX8_run_61 (by decide) rfl (Nat.le_of_ble_eq_true rfl) rfl (c_above_0) ?_
  rintro v' M5 ⟨rfl, hM5⟩
  rw [hM5]
  clear hM5
  refine S_istore dX8_run_64 (by decide) ?_
  refine S_iload dX8_run_66 rfl ?_
  refine S_iconst dX8_run_68 ?_
  refine S_iadd dX8_run_69 ?_
  refine S_istore dX8_run_70 (by decide) ?_
  refine S_aload_n dX8_run_72 rfl ?_
  refine S_iload dX8_run_73 rfl ?_
  refine S_callV (mi := mi_X8_run 5) [vI 10] ok_X6_note ml_X8_376 dX8_run_75 rfl (by decide) rfl (by decide) rfl (Nat.le_of_ble_eq_true rfl) rfl (c_note (G := G) hCs n h44 (by omega) 10) ?_
  rintro v' M6 ⟨rfl, hcs6, hf6, hb6⟩
  have h44_6 : (ranR ρ n 10).1 44 = ↑(n + 1) := ranR_44 _ _ _
  have hk6 : M6.I (19, t) 0 = 4 := (hf6.I (19, t) (show 19 ∉ [16, 17] by decide)).trans hk
  have hv6 : M6.I (19, t) 1 = v := (hf6.I (19, t) (show 19 ∉ [16, 17] by decide)).trans hv
  have ht6 : M6.I (19, t) 11 = tk := (hf6.I (19, t) (show 19 ∉ [16, 17] by decide)).trans ht
  have hg6 : Fr [16, 17] M M6 := hF0.trans hf6
  have hd6 : Bg 0 0 M M6 := (hB0.trans hb6).le (by omega) (by omega)
  refine S_iload dX8_run_78 rfl ?_
  refine S_lookup 180 dX8_run_80 (by decide) (by omega) rfl (by decide) ?_
  refine S_iload dX8_run_180 rfl ?_
  refine S_aload_n dX8_run_182 rfl ?_
  refine S_getI (v := v) fl_X8_131_s dX8_run_183 rfl rfl (by rw [hv6]) ?_
  refine S_iadd dX8_run_186 ?_
  exact S_iret dX8_run_187 rfl (Or.inl rfl) ⟨rfl, hcs6, hg6, hd6⟩
set_option maxRecDepth 100000 in
theorem c_run_4_4_1 {G : Ge} {M : Mem} {Y : (Nat → Bool) × (Nat → Bool)} {ρ : RS} (hCs : Cs Y ρ M) (n : Nat) (h44 : ρ.1 44 = ↑n) (hn : n + 2 ≤ 40) (t : Nat) (v : Int) (hk : M.I (19, t) 0 = 4) (hv : M.I (19, t) 1 = v) (tk : Int) (ht : M.I (19, t) 11 = tk) (x dp : Int) (hdp : 0 ≤ dp ∧ dp ≤ 19) : Ct G (mi_X8_run 6) [vR ((16, 0)), vR ((19, t)), vI 4, vI 1, vI x, vI dp] M (QT Y (ranL ρ n [11, 10]) M (some (vI ((x + v) * 3)))) := by
  refine Ct.of (plD_X8_run 6) [some (vR ((16, 0))), some (vR ((19, t))), some (vI 4), some (vI 1), some (vI x), some (vI dp), none, none, none, none] rfl (Nat.le_of_ble_eq_true rfl) ?_
  have hF0 : Fr [16, 17] M M := Fr.rf _ M
  have hB0 : Bg 0 0 M M := Bg.rf M
  refine S_iload_n dX8_run_0 rfl ?_
  refine S_istore dX8_run_1 (by decide) ?_
  refine S_iconst dX8_run_3 ?_
  refine S_istore dX8_run_4 (by decide) ?_
  refine S_iload dX8_run_6 rfl ?_
  refine S_bipush dX8_run_8 (by decide) ?_
  refine S_icmp_ge 36 dX8_run_10 (by decide) (by omega) (fun c_10 => absurd c_10 (by omega)) (fun c_10 => ?_)
  refine S_iload dX8_run_13 rfl ?_
  refine S_iload_n dX8_run_15 rfl ?_
  refine S_callS (mi := mi_X8_run 6) [vI 4, vI 1] ok_X8_ownBody ml_X8_373 dX8_run_16 (by decide) rfl (Nat.le_of_ble_eq_true rfl) rfl (c_ownBody_4_1) ?_
  rintro v' M1 ⟨rfl, hM1⟩
  rw [hM1]
  clear hM1
  refine S_iconst dX8_run_19 ?_
  refine S_icmp_ne 36 dX8_run_20 (by decide) (by omega) (fun c_20 => absurd c_20 (by omega)) (fun c_20 => ?_)
  refine S_iload dX8_run_23 rfl ?_
  refine S_callS (mi := mi_X8_run 6) [vI 4] ok_X8_above ml_X8_370 dX8_run_25 (by decide) rfl (Nat.le_of_ble_eq_true rfl) rfl (c_above_4) ?_
  rintro v' M2 ⟨rfl, hM2⟩
  rw [hM2]
  clear hM2
  refine S_istore dX8_run_28 (by decide) ?_
  refine S_iinc dX8_run_30 rfl (by decide) ?_
  rw [show ((0 : Int) + 1) = 1 from rfl]
  refine S_goto 6 dX8_run_33 (by decide) ?_
  refine S_iload dX8_run_6 rfl ?_
  refine S_bipush dX8_run_8 (by decide) ?_
  refine S_icmp_ge 36 dX8_run_10 (by decide) (by omega) (fun c_10 => absurd c_10 (by omega)) (fun c_10 => ?_)
  refine S_iload dX8_run_13 rfl ?_
  refine S_iload_n dX8_run_15 rfl ?_
  refine S_callS (mi := mi_X8_run 6) [vI 0, vI 1] ok_X8_ownBody ml_X8_373 dX8_run_16 (by decide) rfl (Nat.le_of_ble_eq_true rfl) rfl (c_ownBody_0_1) ?_
  rintro v' M3 ⟨rfl, hM3⟩
  rw [hM3]
  clear hM3
  refine S_iconst dX8_run_19 ?_
  refine S_icmp_ne 36 dX8_run_20 (by decide) (by omega) (fun c_20 => ?_) (fun c_20 => absurd c_20 (by omega))
  refine S_iload dX8_run_36 rfl ?_
  refine S_iload_n dX8_run_38 rfl ?_
  refine S_callS (mi := mi_X8_run 6) [vI 0, vI 1] ok_X8_ownBody ml_X8_373 dX8_run_39 (by decide) rfl (Nat.le_of_ble_eq_true rfl) rfl (c_ownBody_0_1) ?_
  rintro v' M4 ⟨rfl, hM4⟩
  rw [hM4]
  clear hM4
  refine S_istore dX8_run_42 (by decide) ?_
  refine S_iload dX8_run_44 rfl ?_
  refine S_iconst dX8_run_46 ?_
  refine S_icmp_eq 57 dX8_run_47 (by decide) (by omega) (fun c_47 => absurd c_47 (by omega)) (fun c_47 => ?_)
  refine S_iload dX8_run_50 rfl ?_
  refine S_bipush dX8_run_52 (by decide) ?_
  refine S_icmp_le 59 dX8_run_54 (by decide) (by omega) (fun c_54 => ?_) (fun c_54 => absurd c_54 (by omega))
  refine S_iload dX8_run_59 rfl ?_
  refine S_callS (mi := mi_X8_run 6) [vI 0] ok_X8_above ml_X8_370 dX8_run_61 (by decide) rfl (Nat.le_of_ble_eq_true rfl) rfl (c_above_0) ?_
  rintro v' M5 ⟨rfl, hM5⟩
  rw [hM5]
  clear hM5
  refine S_istore dX8_run_64 (by decide) ?_
  refine S_iload dX8_run_66 rfl ?_
  refine S_iconst dX8_run_68 ?_
  refine S_iadd dX8_run_69 ?_
  refine S_istore dX8_run_70 (by decide) ?_
  refine S_aload_n dX8_run_72 rfl ?_
  refine S_iload dX8_run_73 rfl ?_
  refine S_callV (mi := mi_X8_run 6) [vI 11] ok_X6_note ml_X8_376 dX8_run_75 rfl (by decide) rfl (by decide) rfl (Nat.le_of_ble_eq_true rfl) rfl (c_note (G := G) hCs n h44 (by omega) 11) ?_
  rintro v' M6 ⟨rfl, hcs6, hf6, hb6⟩
  have h44_6 : (ranR ρ n 11).1 44 = ↑(n + 1) := ranR_44 _ _ _
  have hk6 : M6.I (19, t) 0 = 4 := (hf6.I (19, t) (show 19 ∉ [16, 17] by decide)).trans hk
  have hv6 : M6.I (19, t) 1 = v := (hf6.I (19, t) (show 19 ∉ [16, 17] by decide)).trans hv
  have ht6 : M6.I (19, t) 11 = tk := (hf6.I (19, t) (show 19 ∉ [16, 17] by decide)).trans ht
  have hg6 : Fr [16, 17] M M6 := hF0.trans hf6
  have hd6 : Bg 0 0 M M6 := (hB0.trans hb6).le (by omega) (by omega)
  refine S_iload dX8_run_78 rfl ?_
  refine S_lookup 188 dX8_run_80 (by decide) (by omega) rfl (by decide) ?_
  refine S_aload_n dX8_run_188 rfl ?_
  refine S_aload_n dX8_run_189 rfl ?_
  refine S_aload_n dX8_run_190 rfl ?_
  refine S_getI (v := 4) fl_X8_281_s dX8_run_191 rfl rfl (by rw [hk6]) ?_
  refine S_iconst dX8_run_194 ?_
  refine S_iload dX8_run_195 rfl ?_
  refine S_iload dX8_run_197 rfl ?_
  refine S_callS (mi := mi_X8_run 6) [vR ((16, 0)), vR ((19, t)), vI 4, vI 0, vI x, vI (dp + 1)] (okD_X8_run 5) ml_X8_284 dX8_run_199 (by decide) rfl (Nat.le_of_ble_eq_true rfl) rfl (c_run_4_4_0 (G := G) hcs6 (n + 1) h44_6 (by omega) t v hk6 hv6 tk ht6 x (dp + 1) (by omega)) ?_
  rintro v' M7 ⟨rfl, hcs7, hf7, hb7⟩
  have h44_7 : (ranL (ranR ρ n 11) (n + 1) [10]).1 44 = ↑(n + 1 + 1) := ranL_44 [10] _ _ h44_6
  have hk7 : M7.I (19, t) 0 = 4 := (hf7.I (19, t) (show 19 ∉ [16, 17] by decide)).trans hk6
  have hv7 : M7.I (19, t) 1 = v := (hf7.I (19, t) (show 19 ∉ [16, 17] by decide)).trans hv6
  have ht7 : M7.I (19, t) 11 = tk := (hf7.I (19, t) (show 19 ∉ [16, 17] by decide)).trans ht6
  have hg7 : Fr [16, 17] M M7 := hg6.trans hf7
  have hd7 : Bg 0 0 M M7 := (hd6.trans hb7).le (by omega) (by omega)
  refine S_iconst dX8_run_202 ?_
  refine S_imul dX8_run_203 ?_
  exact S_iret dX8_run_204 rfl (Or.inl rfl) ⟨rfl, hcs7, hg7, hd7⟩
set_option maxRecDepth 100000 in
theorem c_run_4_4_3 {G : Ge} {M : Mem} {Y : (Nat → Bool) × (Nat → Bool)} {ρ : RS} (hCs : Cs Y ρ M) (n : Nat) (h44 : ρ.1 44 = ↑n) (hn : n + 1 ≤ 40) (t : Nat) (v : Int) (hk : M.I (19, t) 0 = 4) (hv : M.I (19, t) 1 = v) (tk : Int) (ht : M.I (19, t) 11 = tk) (x dp : Int) (hdp : 0 ≤ dp ∧ dp ≤ 20) : Ct G (mi_X8_run 5) [vR ((16, 0)), vR ((19, t)), vI 4, vI 3, vI x, vI dp] M (QT Y (ranL ρ n [13]) M (some (vI ((jI x ^^^ jI v).toInt)))) := by
  refine Ct.of (plD_X8_run 5) [some (vR ((16, 0))), some (vR ((19, t))), some (vI 4), some (vI 3), some (vI x), some (vI dp), none, none, none, none] rfl (Nat.le_of_ble_eq_true rfl) ?_
  have hF0 : Fr [16, 17] M M := Fr.rf _ M
  have hB0 : Bg 0 0 M M := Bg.rf M
  refine S_iload_n dX8_run_0 rfl ?_
  refine S_istore dX8_run_1 (by decide) ?_
  refine S_iconst dX8_run_3 ?_
  refine S_istore dX8_run_4 (by decide) ?_
  refine S_iload dX8_run_6 rfl ?_
  refine S_bipush dX8_run_8 (by decide) ?_
  refine S_icmp_ge 36 dX8_run_10 (by decide) (by omega) (fun c_10 => absurd c_10 (by omega)) (fun c_10 => ?_)
  refine S_iload dX8_run_13 rfl ?_
  refine S_iload_n dX8_run_15 rfl ?_
  refine S_callS (mi := mi_X8_run 5) [vI 4, vI 3] ok_X8_ownBody ml_X8_373 dX8_run_16 (by decide) rfl (Nat.le_of_ble_eq_true rfl) rfl (c_ownBody_4_3) ?_
  rintro v' M1 ⟨rfl, hM1⟩
  rw [hM1]
  clear hM1
  refine S_iconst dX8_run_19 ?_
  refine S_icmp_ne 36 dX8_run_20 (by decide) (by omega) (fun c_20 => absurd c_20 (by omega)) (fun c_20 => ?_)
  refine S_iload dX8_run_23 rfl ?_
  refine S_callS (mi := mi_X8_run 5) [vI 4] ok_X8_above ml_X8_370 dX8_run_25 (by decide) rfl (Nat.le_of_ble_eq_true rfl) rfl (c_above_4) ?_
  rintro v' M2 ⟨rfl, hM2⟩
  rw [hM2]
  clear hM2
  refine S_istore dX8_run_28 (by decide) ?_
  refine S_iinc dX8_run_30 rfl (by decide) ?_
  rw [show ((0 : Int) + 1) = 1 from rfl]
  refine S_goto 6 dX8_run_33 (by decide) ?_
  refine S_iload dX8_run_6 rfl ?_
  refine S_bipush dX8_run_8 (by decide) ?_
  refine S_icmp_ge 36 dX8_run_10 (by decide) (by omega) (fun c_10 => absurd c_10 (by omega)) (fun c_10 => ?_)
  refine S_iload dX8_run_13 rfl ?_
  refine S_iload_n dX8_run_15 rfl ?_
  refine S_callS (mi := mi_X8_run 5) [vI 0, vI 3] ok_X8_ownBody ml_X8_373 dX8_run_16 (by decide) rfl (Nat.le_of_ble_eq_true rfl) rfl (c_ownBody_0_3) ?_
  rintro v' M3 ⟨rfl, hM3⟩
  rw [hM3]
  clear hM3
  refine S_iconst dX8_run_19 ?_
  refine S_icmp_ne 36 dX8_run_20 (by decide) (by omega) (fun c_20 => ?_) (fun c_20 => absurd c_20 (by omega))
  refine S_iload dX8_run_36 rfl ?_
  refine S_iload_n dX8_run_38 rfl ?_
  refine S_callS (mi := mi_X8_run 5) [vI 0, vI 3] ok_X8_ownBody ml_X8_373 dX8_run_39 (by decide) rfl (Nat.le_of_ble_eq_true rfl) rfl (c_ownBody_0_3) ?_
  rintro v' M4 ⟨rfl, hM4⟩
  rw [hM4]
  clear hM4
  refine S_istore dX8_run_42 (by decide) ?_
  refine S_iload dX8_run_44 rfl ?_
  refine S_iconst dX8_run_46 ?_
  refine S_icmp_eq 57 dX8_run_47 (by decide) (by omega) (fun c_47 => absurd c_47 (by omega)) (fun c_47 => ?_)
  refine S_iload dX8_run_50 rfl ?_
  refine S_bipush dX8_run_52 (by decide) ?_
  refine S_icmp_le 59 dX8_run_54 (by decide) (by omega) (fun c_54 => ?_) (fun c_54 => absurd c_54 (by omega))
  refine S_iload dX8_run_59 rfl ?_
  refine S_callS (mi := mi_X8_run 5) [vI 0] ok_X8_above ml_X8_370 dX8_run_61 (by decide) rfl (Nat.le_of_ble_eq_true rfl) rfl (c_above_0) ?_
  rintro v' M5 ⟨rfl, hM5⟩
  rw [hM5]
  clear hM5
  refine S_istore dX8_run_64 (by decide) ?_
  refine S_iload dX8_run_66 rfl ?_
  refine S_iconst dX8_run_68 ?_
  refine S_iadd dX8_run_69 ?_
  refine S_istore dX8_run_70 (by decide) ?_
  refine S_aload_n dX8_run_72 rfl ?_
  refine S_iload dX8_run_73 rfl ?_
  refine S_callV (mi := mi_X8_run 5) [vI 13] ok_X6_note ml_X8_376 dX8_run_75 rfl (by decide) rfl (by decide) rfl (Nat.le_of_ble_eq_true rfl) rfl (c_note (G := G) hCs n h44 (by omega) 13) ?_
  rintro v' M6 ⟨rfl, hcs6, hf6, hb6⟩
  have h44_6 : (ranR ρ n 13).1 44 = ↑(n + 1) := ranR_44 _ _ _
  have hk6 : M6.I (19, t) 0 = 4 := (hf6.I (19, t) (show 19 ∉ [16, 17] by decide)).trans hk
  have hv6 : M6.I (19, t) 1 = v := (hf6.I (19, t) (show 19 ∉ [16, 17] by decide)).trans hv
  have ht6 : M6.I (19, t) 11 = tk := (hf6.I (19, t) (show 19 ∉ [16, 17] by decide)).trans ht
  have hg6 : Fr [16, 17] M M6 := hF0.trans hf6
  have hd6 : Bg 0 0 M M6 := (hB0.trans hb6).le (by omega) (by omega)
  refine S_iload dX8_run_78 rfl ?_
  refine S_lookup 235 dX8_run_80 (by decide) (by omega) rfl (by decide) ?_
  refine S_iload dX8_run_235 rfl ?_
  refine S_aload_n dX8_run_237 rfl ?_
  refine S_getI (v := v) fl_X8_131_s dX8_run_238 rfl rfl (by rw [hv6]) ?_
  refine S_ixor dX8_run_241 ?_
  exact S_iret dX8_run_242 rfl (Or.inl rfl) ⟨rfl, hcs6, hg6, hd6⟩
set_option maxRecDepth 100000 in
theorem c_run_4_0_2 {G : Ge} {M : Mem} {Y : (Nat → Bool) × (Nat → Bool)} {ρ : RS} (hCs : Cs Y ρ M) (n : Nat) (h44 : ρ.1 44 = ↑n) (hn : n + 4 ≤ 40) (t : Nat) (v : Int) (hk : M.I (19, t) 0 = 4) (hv : M.I (19, t) 1 = v) (tk : Int) (ht : M.I (19, t) 11 = tk) (x dp : Int) (hdp : 0 ≤ dp ∧ dp ≤ 18) : Ct G (mi_X8_run 7) [vR ((16, 0)), vR ((19, t)), vI 0, vI 2, vI x, vI dp] M (QT Y (ranL ρ n [12, 11, 10, 13]) M (some (vI (((x + v) * 3) - ((jI x ^^^ jI v).toInt))))) := by
  refine Ct.of (plD_X8_run 7) [some (vR ((16, 0))), some (vR ((19, t))), some (vI 0), some (vI 2), some (vI x), some (vI dp), none, none, none, none] rfl (Nat.le_of_ble_eq_true rfl) ?_
  have hF0 : Fr [16, 17] M M := Fr.rf _ M
  have hB0 : Bg 0 0 M M := Bg.rf M
  refine S_iload_n dX8_run_0 rfl ?_
  refine S_istore dX8_run_1 (by decide) ?_
  refine S_iconst dX8_run_3 ?_
  refine S_istore dX8_run_4 (by decide) ?_
  refine S_iload dX8_run_6 rfl ?_
  refine S_bipush dX8_run_8 (by decide) ?_
  refine S_icmp_ge 36 dX8_run_10 (by decide) (by omega) (fun c_10 => absurd c_10 (by omega)) (fun c_10 => ?_)
  refine S_iload dX8_run_13 rfl ?_
  refine S_iload_n dX8_run_15 rfl ?_
  refine S_callS (mi := mi_X8_run 7) [vI 0, vI 2] ok_X8_ownBody ml_X8_373 dX8_run_16 (by decide) rfl (Nat.le_of_ble_eq_true rfl) rfl (c_ownBody_0_2) ?_
  rintro v' M1 ⟨rfl, hM1⟩
  rw [hM1]
  clear hM1
  refine S_iconst dX8_run_19 ?_
  refine S_icmp_ne 36 dX8_run_20 (by decide) (by omega) (fun c_20 => ?_) (fun c_20 => absurd c_20 (by omega))
  refine S_iload dX8_run_36 rfl ?_
  refine S_iload_n dX8_run_38 rfl ?_
  refine S_callS (mi := mi_X8_run 7) [vI 0, vI 2] ok_X8_ownBody ml_X8_373 dX8_run_39 (by decide) rfl (Nat.le_of_ble_eq_true rfl) rfl (c_ownBody_0_2) ?_
  rintro v' M2 ⟨rfl, hM2⟩
  rw [hM2]
  clear hM2
  refine S_istore dX8_run_42 (by decide) ?_
  refine S_iload dX8_run_44 rfl ?_
  refine S_iconst dX8_run_46 ?_
  refine S_icmp_eq 57 dX8_run_47 (by decide) (by omega) (fun c_47 => absurd c_47 (by omega)) (fun c_47 => ?_)
  refine S_iload dX8_run_50 rfl ?_
  refine S_bipush dX8_run_52 (by decide) ?_
  refine S_icmp_le 59 dX8_run_54 (by decide) (by omega) (fun c_54 => ?_) (fun c_54 => absurd c_54 (by omega))
  refine S_iload dX8_run_59 rfl ?_
  refine S_callS (mi := mi_X8_run 7) [vI 0] ok_X8_above ml_X8_370 dX8_run_61 (by decide) rfl (Nat.le_of_ble_eq_true rfl) rfl (c_above_0) ?_
  rintro v' M3 ⟨rfl, hM3⟩
  rw [hM3]
  clear hM3
  refine S_istore dX8_run_64 (by decide) ?_
  refine S_iload dX8_run_66 rfl ?_
  refine S_iconst dX8_run_68 ?_
  refine S_iadd dX8_run_69 ?_
  refine S_istore dX8_run_70 (by decide) ?_
  refine S_aload_n dX8_run_72 rfl ?_
  refine S_iload dX8_run_73 rfl ?_
  refine S_callV (mi := mi_X8_run 7) [vI 12] ok_X6_note ml_X8_376 dX8_run_75 rfl (by decide) rfl (by decide) rfl (Nat.le_of_ble_eq_true rfl) rfl (c_note (G := G) hCs n h44 (by omega) 12) ?_
  rintro v' M4 ⟨rfl, hcs4, hf4, hb4⟩
  have h44_4 : (ranR ρ n 12).1 44 = ↑(n + 1) := ranR_44 _ _ _
  have hk4 : M4.I (19, t) 0 = 4 := (hf4.I (19, t) (show 19 ∉ [16, 17] by decide)).trans hk
  have hv4 : M4.I (19, t) 1 = v := (hf4.I (19, t) (show 19 ∉ [16, 17] by decide)).trans hv
  have ht4 : M4.I (19, t) 11 = tk := (hf4.I (19, t) (show 19 ∉ [16, 17] by decide)).trans ht
  have hg4 : Fr [16, 17] M M4 := hF0.trans hf4
  have hd4 : Bg 0 0 M M4 := (hB0.trans hb4).le (by omega) (by omega)
  refine S_iload dX8_run_78 rfl ?_
  refine S_lookup 205 dX8_run_80 (by decide) (by omega) rfl (by decide) ?_
  refine S_aload_n dX8_run_205 rfl ?_
  refine S_aload_n dX8_run_206 rfl ?_
  refine S_aload_n dX8_run_207 rfl ?_
  refine S_getI (v := 4) fl_X8_281_s dX8_run_208 rfl rfl (by rw [hk4]) ?_
  refine S_iconst dX8_run_211 ?_
  refine S_iload dX8_run_212 rfl ?_
  refine S_iload dX8_run_214 rfl ?_
  refine S_callS (mi := mi_X8_run 7) [vR ((16, 0)), vR ((19, t)), vI 4, vI 1, vI x, vI (dp + 1)] (okD_X8_run 6) ml_X8_284 dX8_run_216 (by decide) rfl (Nat.le_of_ble_eq_true rfl) rfl (c_run_4_4_1 (G := G) hcs4 (n + 1) h44_4 (by omega) t v hk4 hv4 tk ht4 x (dp + 1) (by omega)) ?_
  rintro v' M5 ⟨rfl, hcs5, hf5, hb5⟩
  have h44_5 : (ranL (ranR ρ n 12) (n + 1) [11, 10]).1 44 = ↑(n + 1 + 2) := ranL_44 [11, 10] _ _ h44_4
  have hk5 : M5.I (19, t) 0 = 4 := (hf5.I (19, t) (show 19 ∉ [16, 17] by decide)).trans hk4
  have hv5 : M5.I (19, t) 1 = v := (hf5.I (19, t) (show 19 ∉ [16, 17] by decide)).trans hv4
  have ht5 : M5.I (19, t) 11 = tk := (hf5.I (19, t) (show 19 ∉ [16, 17] by decide)).trans ht4
  have hg5 : Fr [16, 17] M M5 := hg4.trans hf5
  have hd5 : Bg 0 0 M M5 := (hd4.trans hb5).le (by omega) (by omega)
  refine S_aload_n dX8_run_219 rfl ?_
  refine S_aload_n dX8_run_220 rfl ?_
  refine S_aload_n dX8_run_221 rfl ?_
  refine S_getI (v := 4) fl_X8_281_s dX8_run_222 rfl rfl (by rw [hk5]) ?_
  refine S_iconst dX8_run_225 ?_
  refine S_iload dX8_run_226 rfl ?_
  refine S_iload dX8_run_228 rfl ?_
  refine S_callS (mi := mi_X8_run 7) [vR ((16, 0)), vR ((19, t)), vI 4, vI 3, vI x, vI (dp + 1)] (okD_X8_run 5) ml_X8_284 dX8_run_230 (by decide) rfl (Nat.le_of_ble_eq_true rfl) rfl (c_run_4_4_3 (G := G) hcs5 (n + 1 + 2) h44_5 (by omega) t v hk5 hv5 tk ht5 x (dp + 1) (by omega)) ?_
  rintro v' M6 ⟨rfl, hcs6, hf6, hb6⟩
  have h44_6 : (ranL (ranL (ranR ρ n 12) (n + 1) [11, 10]) (n + 1 + 2) [13]).1 44 = ↑(n + 1 + 2 + 1) := ranL_44 [13] _ _ h44_5
  have hk6 : M6.I (19, t) 0 = 4 := (hf6.I (19, t) (show 19 ∉ [16, 17] by decide)).trans hk5
  have hv6 : M6.I (19, t) 1 = v := (hf6.I (19, t) (show 19 ∉ [16, 17] by decide)).trans hv5
  have ht6 : M6.I (19, t) 11 = tk := (hf6.I (19, t) (show 19 ∉ [16, 17] by decide)).trans ht5
  have hg6 : Fr [16, 17] M M6 := hg5.trans hf6
  have hd6 : Bg 0 0 M M6 := (hd5.trans hb6).le (by omega) (by omega)
  refine S_isub dX8_run_233 ?_
  exact S_iret dX8_run_234 rfl (Or.inl rfl) ⟨rfl, hcs6, hg6, hd6⟩
set_option maxRecDepth 100000 in
theorem c_run_4_4_2 {G : Ge} {M : Mem} {Y : (Nat → Bool) × (Nat → Bool)} {ρ : RS} (hCs : Cs Y ρ M) (n : Nat) (h44 : ρ.1 44 = ↑n) (hn : n + 5 ≤ 40) (t : Nat) (v : Int) (hk : M.I (19, t) 0 = 4) (hv : M.I (19, t) 1 = v) (tk : Int) (ht : M.I (19, t) 11 = tk) (x dp : Int) (hdp : 0 ≤ dp ∧ dp ≤ 17) : Ct G (mi_X8_run 8) [vR ((16, 0)), vR ((19, t)), vI 4, vI 2, vI x, vI dp] M (QT Y (ranL ρ n [50, 12, 11, 10, 13]) M (some (vI ((((x + v) * 3) - ((jI x ^^^ jI v).toInt)) + tk)))) := by
  refine Ct.of (plD_X8_run 8) [some (vR ((16, 0))), some (vR ((19, t))), some (vI 4), some (vI 2), some (vI x), some (vI dp), none, none, none, none] rfl (Nat.le_of_ble_eq_true rfl) ?_
  have hF0 : Fr [16, 17] M M := Fr.rf _ M
  have hB0 : Bg 0 0 M M := Bg.rf M
  refine S_iload_n dX8_run_0 rfl ?_
  refine S_istore dX8_run_1 (by decide) ?_
  refine S_iconst dX8_run_3 ?_
  refine S_istore dX8_run_4 (by decide) ?_
  refine S_iload dX8_run_6 rfl ?_
  refine S_bipush dX8_run_8 (by decide) ?_
  refine S_icmp_ge 36 dX8_run_10 (by decide) (by omega) (fun c_10 => absurd c_10 (by omega)) (fun c_10 => ?_)
  refine S_iload dX8_run_13 rfl ?_
  refine S_iload_n dX8_run_15 rfl ?_
  refine S_callS (mi := mi_X8_run 8) [vI 4, vI 2] ok_X8_ownBody ml_X8_373 dX8_run_16 (by decide) rfl (Nat.le_of_ble_eq_true rfl) rfl (c_ownBody_4_2) ?_
  rintro v' M1 ⟨rfl, hM1⟩
  rw [hM1]
  clear hM1
  refine S_iconst dX8_run_19 ?_
  refine S_icmp_ne 36 dX8_run_20 (by decide) (by omega) (fun c_20 => ?_) (fun c_20 => absurd c_20 (by omega))
  refine S_iload dX8_run_36 rfl ?_
  refine S_iload_n dX8_run_38 rfl ?_
  refine S_callS (mi := mi_X8_run 8) [vI 4, vI 2] ok_X8_ownBody ml_X8_373 dX8_run_39 (by decide) rfl (Nat.le_of_ble_eq_true rfl) rfl (c_ownBody_4_2) ?_
  rintro v' M2 ⟨rfl, hM2⟩
  rw [hM2]
  clear hM2
  refine S_istore dX8_run_42 (by decide) ?_
  refine S_iload dX8_run_44 rfl ?_
  refine S_iconst dX8_run_46 ?_
  refine S_icmp_eq 57 dX8_run_47 (by decide) (by omega) (fun c_47 => absurd c_47 (by omega)) (fun c_47 => ?_)
  refine S_iload dX8_run_50 rfl ?_
  refine S_bipush dX8_run_52 (by decide) ?_
  refine S_icmp_le 59 dX8_run_54 (by decide) (by omega) (fun c_54 => ?_) (fun c_54 => absurd c_54 (by omega))
  refine S_iload dX8_run_59 rfl ?_
  refine S_callS (mi := mi_X8_run 8) [vI 4] ok_X8_above ml_X8_370 dX8_run_61 (by decide) rfl (Nat.le_of_ble_eq_true rfl) rfl (c_above_4) ?_
  rintro v' M3 ⟨rfl, hM3⟩
  rw [hM3]
  clear hM3
  refine S_istore dX8_run_64 (by decide) ?_
  refine S_iload dX8_run_66 rfl ?_
  refine S_iconst dX8_run_68 ?_
  refine S_iadd dX8_run_69 ?_
  refine S_istore dX8_run_70 (by decide) ?_
  refine S_aload_n dX8_run_72 rfl ?_
  refine S_iload dX8_run_73 rfl ?_
  refine S_callV (mi := mi_X8_run 8) [vI 50] ok_X6_note ml_X8_376 dX8_run_75 rfl (by decide) rfl (by decide) rfl (Nat.le_of_ble_eq_true rfl) rfl (c_note (G := G) hCs n h44 (by omega) 50) ?_
  rintro v' M4 ⟨rfl, hcs4, hf4, hb4⟩
  have h44_4 : (ranR ρ n 50).1 44 = ↑(n + 1) := ranR_44 _ _ _
  have hk4 : M4.I (19, t) 0 = 4 := (hf4.I (19, t) (show 19 ∉ [16, 17] by decide)).trans hk
  have hv4 : M4.I (19, t) 1 = v := (hf4.I (19, t) (show 19 ∉ [16, 17] by decide)).trans hv
  have ht4 : M4.I (19, t) 11 = tk := (hf4.I (19, t) (show 19 ∉ [16, 17] by decide)).trans ht
  have hg4 : Fr [16, 17] M M4 := hF0.trans hf4
  have hd4 : Bg 0 0 M M4 := (hB0.trans hb4).le (by omega) (by omega)
  refine S_iload dX8_run_78 rfl ?_
  refine S_lookup 303 dX8_run_80 (by decide) (by omega) rfl (by decide) ?_
  refine S_aload_n dX8_run_303 rfl ?_
  refine S_aload_n dX8_run_304 rfl ?_
  refine S_iload dX8_run_305 rfl ?_
  refine S_iconst dX8_run_307 ?_
  refine S_iload dX8_run_308 rfl ?_
  refine S_iload dX8_run_310 rfl ?_
  refine S_callS (mi := mi_X8_run 8) [vR ((16, 0)), vR ((19, t)), vI 0, vI 2, vI x, vI (dp + 1)] (okD_X8_run 7) ml_X8_284 dX8_run_312 (by decide) rfl (Nat.le_of_ble_eq_true rfl) rfl (c_run_4_0_2 (G := G) hcs4 (n + 1) h44_4 (by omega) t v hk4 hv4 tk ht4 x (dp + 1) (by omega)) ?_
  rintro v' M5 ⟨rfl, hcs5, hf5, hb5⟩
  have h44_5 : (ranL (ranR ρ n 50) (n + 1) [12, 11, 10, 13]).1 44 = ↑(n + 1 + 4) := ranL_44 [12, 11, 10, 13] _ _ h44_4
  have hk5 : M5.I (19, t) 0 = 4 := (hf5.I (19, t) (show 19 ∉ [16, 17] by decide)).trans hk4
  have hv5 : M5.I (19, t) 1 = v := (hf5.I (19, t) (show 19 ∉ [16, 17] by decide)).trans hv4
  have ht5 : M5.I (19, t) 11 = tk := (hf5.I (19, t) (show 19 ∉ [16, 17] by decide)).trans ht4
  have hg5 : Fr [16, 17] M M5 := hg4.trans hf5
  have hd5 : Bg 0 0 M M5 := (hd4.trans hb5).le (by omega) (by omega)
  refine S_aload_n dX8_run_315 rfl ?_
  refine S_callS (mi := mi_X8_run 8) [vR ((19, t))] ok_X8_tickOf ml_X8_379 dX8_run_316 (by decide) rfl (Nat.le_of_ble_eq_true rfl) rfl (c_tickOf (G := G) t tk ht5) ?_
  rintro v' M6 ⟨rfl, hM6⟩
  rw [hM6]
  clear hM6
  refine S_iadd dX8_run_319 ?_
  exact S_iret dX8_run_320 rfl (Or.inl rfl) ⟨rfl, hcs5, hg5, hd5⟩
