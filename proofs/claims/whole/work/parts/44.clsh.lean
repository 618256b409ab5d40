/-! THE CLASS: the next secret of a row; a kept key ends -/
set_option maxRecDepth 100000 in
theorem lp_nextS {G : Ge} {Y : (Nat → Bool) × (Nat → Bool)} {ρ : RS} {M0 : Mem} {sc : Nat → Int} {kn : Int} (hS : StpOK sc kn ρ) (e n t : Nat) (he : (e : Int) < 2 * ρ.1 4) (hn : n < 12) (h12 : ρ.2 12 e = ↑(n + 1)) (hb : ∀ e1 : Nat, (e1 : Int) < 2 * ρ.1 4 → ρ.2 12 e1 ≤ 12) (hrow : ∀ i, i < n + 1 → ∃ t : Nat, ρ.2 13 (12 * e + i) = ↑t) : ∀ (d : Nat) (k : Nat) (M : Mem), k + d = n → Cl (Y.1, Y.2, sc, kn) (ρ.sh1 13 (12 * e) (12 * e + k)) M → Fr CLs M0 M → Bg 0 0 M0 M → Sf G mi_X1_nextSecret (CP Y (nextR ρ e n) 0 0 (some (vR (18, t))) M0) 9 [some (vR ((7, e))), some (vR ((18, t))), some (vI (↑(k + 1)))] [] M := by
  intro d
  induction d with
  | zero =>
    intro k M hk hCl hF0 hB0
    have hkn : k = n := by omega
    obtain ⟨σ, hσ⟩ : ∃ x : RS, x = ρ.sh1 13 (12 * e) (12 * e + k) := ⟨_, rfl⟩
    rw [← hσ] at hCl
    have b12 : σ.2 12 e = ↑(n + 1) := by rw [hσ, RS.sh1_at _ _ _ _ _ _ (by omega)]; exact h12
    have bp : σ.1 4 = ρ.1 4 := by rw [hσ]; rfl
    have hS1 : StpOK sc kn σ := by rw [hσ]; exact hS
    have hb1 : ∀ e1 : Nat, (e1 : Int) < 2 * σ.1 4 → σ.2 12 e1 ≤ 12 := by rw [hσ]; exact hb
    obtain ⟨hA, hB, hC, hD, hE, hN, hG, hH, hI, hJ, hK, hL⟩ := id hCl
    refine S_iload_n dX1_nextSecret_9 rfl ?_
    refine S_aload_n dX1_nextSecret_10 rfl ?_
    refine S_getI (v := ↑(n + 1)) fl_X1_34 dX1_nextSecret_11 rfl rfl (by rw [(show M.I (7, e) 2 = ↑(n + 1) from (show M.I (7, e) 2 = σ.2 12 e from congrFun (hE.1 e (by omega)).2.1 2).trans b12)]) ?_
    refine S_icmp_ge 37 dX1_nextSecret_14 (by decide) (by omega) (fun c_14 => ?_) (fun c_14 => absurd c_14 (by omega))
    refine S_aload_n dX1_nextSecret_37 rfl ?_
    refine S_dup dX1_nextSecret_38 ?_
    refine S_getI (v := ↑(n + 1)) fl_X1_34 dX1_nextSecret_39 rfl rfl (by rw [(show M.I (7, e) 2 = ↑(n + 1) from (show M.I (7, e) 2 = σ.2 12 e from congrFun (hE.1 e (by omega)).2.1 2).trans b12)]) ?_
    refine S_iconst dX1_nextSecret_42 ?_
    refine S_isub dX1_nextSecret_43 ?_
    rw [show ((↑(n + 1) : Int) - 1) = ↑n from by omega]
    refine S_putI fl_X1_34 dX1_nextSecret_44 rfl rfl rfl  (Or.inl rfl) ?_
    refine Sf.nm (fun M1 hM1 => ?_)
    obtain ⟨ρ2, e2⟩ : ∃ x : RS, x = (σ.setA 12 e (↑n)) := ⟨_, rfl⟩
    have hCl2 : Cl (Y.1, Y.2, sc, kn) ρ2 M1 := (by rw [e2, hM1]; exact hCl.e12 e (by omega) ↑n (fun i hi => (hG e (by omega)).2 i (by rw [b12]; omega)))
    have hS2 : StpOK sc kn ρ2 := (by rw [e2]; exact hS1)
    have hF2 : Fr CLs M0 M1 := (by rw [hM1]; exact hF0.trans (Fr.pI 7 e (by decide)))
    have hB2 : Bg 0 0 M0 M1 := (by rw [hM1]; exact (hB0.trans (Bg.pI _ _ _ _)).le (by omega) (by omega))
    have s4_2 : ρ2.1 4 = σ.1 4 := (by rw [e2, RS.setA_s])
    have s30_2 : ρ2.1 30 = σ.1 30 := (by rw [e2, RS.setA_s])
    have t_2 : thN ρ2 = thN σ := by rw [e2]; rfl
    obtain ⟨hA, hB, hC, hD, hE, hN, hG, hH, hI, hJ, hK, hL⟩ := id hCl2
    refine S_aload_n dX1_nextSecret_47 rfl ?_
    refine S_getP (o := some (8, e)) fl_X1_11 dX1_nextSecret_48 rfl rfl (by rw [(show M1.P (7, e) 1 = some (8, e) from congrFun (hE.1 e (by omega)).2.2 1)]) ?_
    refine S_aload_n dX1_nextSecret_51 rfl ?_
    refine S_getI (v := ↑n) fl_X1_34 dX1_nextSecret_52 rfl rfl (by rw [(show M1.I (7, e) 2 = ↑n from (show M1.I (7, e) 2 = ρ2.2 12 e from congrFun (hE.1 e (by omega)).2.1 2).trans (by rw [e2, RS.setA_eq]))]) ?_
    refine S_null dX1_nextSecret_55 ?_
    refine S_aastN n dX1_nextSecret_56 rfl (by decide) rfl (by rw [(show M1.len (8, e) = some 12 from (hG e (by omega)).1)]) (by omega) (by omega) ?_
    refine Sf.nm (fun M3 hM3 => ?_)
    have hCl4 : Cl (Y.1, Y.2, sc, kn) ρ2 M3 := (by rw [hM3]; exact hCl2.rowJ e n none (by rw [e2, RS.setA_eq]; exact Int.le_refl _))
    have hS4 : StpOK sc kn ρ2 := hS2
    have hF4 : Fr CLs M0 M3 := (by rw [hM3]; exact hF2.trans (Fr.pP 8 e (by decide)))
    have hB4 : Bg 0 0 M0 M3 := (by rw [hM3]; exact (hB2.trans (Bg.pP _ 8 e _ _ (by decide))).le (by omega) (by omega))
    obtain ⟨hA, hB, hC, hD, hE, hN, hG, hH, hI, hJ, hK, hL⟩ := id hCl4
    refine S_aload_n dX1_nextSecret_57 rfl ?_
    exact S_aret dX1_nextSecret_58 rfl rfl (by
      have e9 : ρ2 = nextR ρ e n := by
        rw [e2, hσ]
        rw [hkn]; exact nx_comm ρ e n
      rw [e9] at hCl4 hS4
      exact ⟨rfl, ⟨sc, kn, hS4, hCl4⟩, hF4, hB4⟩)
  | succ d ih =>
    intro k M hk hCl hF0 hB0
    obtain ⟨σ, hσ⟩ : ∃ x : RS, x = ρ.sh1 13 (12 * e) (12 * e + k) := ⟨_, rfl⟩
    rw [← hσ] at hCl
    have b12 : σ.2 12 e = ↑(n + 1) := by rw [hσ, RS.sh1_at _ _ _ _ _ _ (by omega)]; exact h12
    have bp : σ.1 4 = ρ.1 4 := by rw [hσ]; rfl
    have hS1 : StpOK sc kn σ := by rw [hσ]; exact hS
    have hb1 : ∀ e1 : Nat, (e1 : Int) < 2 * σ.1 4 → σ.2 12 e1 ≤ 12 := by rw [hσ]; exact hb
    obtain ⟨hA, hB, hC, hD, hE, hN, hG, hH, hI, hJ, hK, hL⟩ := id hCl
    obtain ⟨t1, ht1⟩ := hrow (k + 1) (by omega)
    have b13 : σ.2 13 (12 * e + (k + 1)) = ↑t1 := by rw [hσ, RS.sh1_at _ _ _ _ _ _ (by omega)]; exact ht1
    refine S_iload_n dX1_nextSecret_9 rfl ?_
    refine S_aload_n dX1_nextSecret_10 rfl ?_
    refine S_getI (v := ↑(n + 1)) fl_X1_34 dX1_nextSecret_11 rfl rfl (by rw [(show M.I (7, e) 2 = ↑(n + 1) from (show M.I (7, e) 2 = σ.2 12 e from congrFun (hE.1 e (by omega)).2.1 2).trans b12)]) ?_
    refine S_icmp_ge 37 dX1_nextSecret_14 (by decide) (by omega) (fun c_14 => absurd c_14 (by omega)) (fun c_14 => ?_)
    refine S_aload_n dX1_nextSecret_17 rfl ?_
    refine S_getP (o := some (8, e)) fl_X1_11 dX1_nextSecret_18 rfl rfl (by rw [(show M.P (7, e) 1 = some (8, e) from congrFun (hE.1 e (by omega)).2.2 1)]) ?_
    refine S_iload_n dX1_nextSecret_21 rfl ?_
    refine S_iconst dX1_nextSecret_22 ?_
    refine S_isub dX1_nextSecret_23 ?_
    rw [show ((↑(k + 1) : Int) - 1) = ↑k from by omega]
    refine S_aload_n dX1_nextSecret_24 rfl ?_
    refine S_getP (o := some (8, e)) fl_X1_11 dX1_nextSecret_25 rfl rfl (by rw [(show M.P (7, e) 1 = some (8, e) from congrFun (hE.1 e (by omega)).2.2 1)]) ?_
    refine S_iload_n dX1_nextSecret_28 rfl ?_
    refine S_aald (o := some (18, t1)) ((k + 1)) dX1_nextSecret_29 rfl (by decide) rfl (by rw [(show M.len (8, e) = some 12 from (hG e (by omega)).1)]) (by omega) (by omega) (by rw [(show M.P (8, e) ((k + 1)) = some (18, t1) from ((hG e (by omega)).2 ((k + 1)) (by rw [b12]; omega)).trans (qx_of b13))]) ?_
    refine S_aast k dX1_nextSecret_30 rfl (by decide) rfl rfl (by decide) rfl (by rw [(show M.len (8, e) = some 12 from (hG e (by omega)).1)]) (by omega) (by omega) ?_
    refine Sf.nm (fun M1 hM1 => ?_)
    obtain ⟨ρ2, e2⟩ : ∃ x : RS, x = (σ.setA 13 ((12 * e + k)) (↑t1)) := ⟨_, rfl⟩
    have hCl2 : Cl (Y.1, Y.2, sc, kn) ρ2 M1 := (by rw [e2, hM1, ← qx_nat t1]; exact hCl.row e k (by omega) ↑t1 hb1)
    have hS2 : StpOK sc kn ρ2 := (by rw [e2]; exact hS1)
    have hF2 : Fr CLs M0 M1 := (by rw [hM1]; exact hF0.trans (Fr.pP 8 e (by decide)))
    have hB2 : Bg 0 0 M0 M1 := (by rw [hM1]; exact (hB0.trans (Bg.pP _ 8 e _ _ (by decide))).le (by omega) (by omega))
    have s4_2 : ρ2.1 4 = σ.1 4 := (by rw [e2, RS.setA_s])
    have s30_2 : ρ2.1 30 = σ.1 30 := (by rw [e2, RS.setA_s])
    have t_2 : thN ρ2 = thN σ := by rw [e2]; rfl
    obtain ⟨hA, hB, hC, hD, hE, hN, hG, hH, hI, hJ, hK, hL⟩ := id hCl2
    refine S_iinc dX1_nextSecret_31 rfl (by decide) ?_
    rw [show ((↑(k + 1)) + 1 : Int) = ↑(k + 1 + 1) from rfl]
    refine S_goto 9 dX1_nextSecret_34 (by decide) ?_
    have e9 : ρ2 = ρ.sh1 13 (12 * e) (12 * e + (k + 1)) := by
      rw [e2, ← ht1, hσ]
      exact RS.sh1_s ρ 13 (12 * e) (12 * e + k) (by omega)
    rw [e9] at hCl2
    exact ih (k + 1) _ (by omega) hCl2 hF2 hB2
set_option maxRecDepth 100000 in
theorem c_nextSecret {G : Ge} {M : Mem} {Y : (Nat → Bool) × (Nat → Bool)} {ρ : RS} (hCs : Cs Y ρ M) (e n t : Nat) (he : (e : Int) < 2 * ρ.1 4) (hn : n < 12) (h12 : ρ.2 12 e = ↑(n + 1)) (ht : ρ.2 13 (12 * e) = ↑t) (hb : ∀ e1 : Nat, (e1 : Int) < 2 * ρ.1 4 → ρ.2 12 e1 ≤ 12) (hrow : ∀ i, i < n + 1 → ∃ t : Nat, ρ.2 13 (12 * e + i) = ↑t) : Ct G mi_X1_nextSecret [vR ((7, e))] M (CP Y (nextR ρ e n) 0 0 (some (vR (18, t))) M) := by
  refine Ct.of pl_X1_nextSecret [some (vR ((7, e))), none, none] rfl (Nat.le_of_ble_eq_true rfl) ?_
  obtain ⟨sc, kn, hS, hCl⟩ := hCs
  have hF0 : Fr CLs M M := Fr.rf CLs M
  have hB0 : Bg 0 0 M M := Bg.rf M
  obtain ⟨hA, hB, hC, hD, hE, hN, hG, hH, hI, hJ, hK, hL⟩ := id hCl
  refine S_aload_n dX1_nextSecret_0 rfl ?_
  refine S_getP (o := some (8, e)) fl_X1_11 dX1_nextSecret_1 rfl rfl (by rw [(show M.P (7, e) 1 = some (8, e) from congrFun (hE.1 e (by omega)).2.2 1)]) ?_
  refine S_iconst dX1_nextSecret_4 ?_
  refine S_aald (o := some (18, t)) 0 dX1_nextSecret_5 rfl (by decide) rfl (by rw [(show M.len (8, e) = some 12 from (hG e (by omega)).1)]) (by omega) (by omega) (by rw [(show M.P (8, e) 0 = some (18, t) from ((hG e (by omega)).2 0 (by rw [h12]; omega)).trans (qx_of ht))]) ?_
  refine S_astore_n dX1_nextSecret_6 (by decide) ?_
  refine S_iconst dX1_nextSecret_7 ?_
  refine S_istore_n dX1_nextSecret_8 (by decide) ?_
  exact lp_nextS hS e n t he hn h12 hb hrow n 0 M (by omega) (by rw [Nat.add_zero, RS.sh1_0]; exact hCl) hF0 hB0
set_option maxRecDepth 100000 in
theorem lp_drop {G : Ge} {Y : (Nat → Bool) × (Nat → Bool)} {ρ : RS} {M0 : Mem} {sc : Nat → Int} {kn : Int} (hS : StpOK sc kn ρ) (e i n : Nat) (he : (e : Int) < 2 * ρ.1 4) (hn : n < 12) (hi : i ≤ n) (h25 : ρ.2 25 e = ↑(n + 1)) (hb : ∀ e1 : Nat, (e1 : Int) < 2 * ρ.1 4 → ρ.2 25 e1 ≤ 12) : ∀ (d : Nat) (k : Nat) (M : Mem), k + d = n → i ≤ k → Cl (Y.1, Y.2, sc, kn) (ρ.sh4 (12 * e + i) (12 * e + k)) M → Fr CLs M0 M → Bg 0 0 M0 M → Fr [7, 9] M0 M → Sf G mi_X1_drop (fun v' M' => CP Y (dropR ρ e i n) 0 0 none M0 v' M' ∧ Fr [7, 9] M0 M') 4 [some (vR ((7, e))), some (vI (↑i)), some (vI (↑(k + 1)))] [] M := by
  intro d
  induction d with
  | zero =>
    intro k M hk hik hCl hF0 hB0 hG0
    have hkn : k = n := by omega
    obtain ⟨σ, hσ⟩ : ∃ x : RS, x = ρ.sh4 (12 * e + i) (12 * e + k) := ⟨_, rfl⟩
    rw [← hσ] at hCl
    have b25 : σ.2 25 e = ↑(n + 1) := by rw [hσ, RS.sh4_at _ _ _ _ _ (by omega)]; exact h25
    have bp : σ.1 4 = ρ.1 4 := by rw [hσ]; rfl
    have hS1 : StpOK sc kn σ := by rw [hσ]; exact hS
    have hb1 : ∀ e1 : Nat, (e1 : Int) < 2 * σ.1 4 → σ.2 25 e1 ≤ 12 := by rw [hσ]; exact hb
    obtain ⟨hA, hB, hC, hD, hE, hN, hG, hH, hI, hJ, hK, hL⟩ := id hCl
    refine S_iload_n dX1_drop_4 rfl ?_
    refine S_aload_n dX1_drop_5 rfl ?_
    refine S_getI (v := ↑(n + 1)) fl_X1_40 dX1_drop_6 rfl rfl (by rw [(show M.I (7, e) 13 = ↑(n + 1) from (show M.I (7, e) 13 = σ.2 25 e from congrFun (hE.1 e (by omega)).2.1 13).trans b25)]) ?_
    refine S_icmp_ge 32 dX1_drop_9 (by decide) (by omega) (fun c_9 => ?_) (fun c_9 => absurd c_9 (by omega))
    refine S_aload_n dX1_drop_32 rfl ?_
    refine S_dup dX1_drop_33 ?_
    refine S_getI (v := ↑(n + 1)) fl_X1_40 dX1_drop_34 rfl rfl (by rw [(show M.I (7, e) 13 = ↑(n + 1) from (show M.I (7, e) 13 = σ.2 25 e from congrFun (hE.1 e (by omega)).2.1 13).trans b25)]) ?_
    refine S_iconst dX1_drop_37 ?_
    refine S_isub dX1_drop_38 ?_
    rw [show ((↑(n + 1) : Int) - 1) = ↑n from by omega]
    refine S_putI fl_X1_40 dX1_drop_39 rfl rfl rfl  (Or.inl rfl) ?_
    refine Sf.nm (fun M1 hM1 => ?_)
    obtain ⟨ρ2, e2⟩ : ∃ x : RS, x = (σ.setA 25 e (↑n)) := ⟨_, rfl⟩
    have hCl2 : Cl (Y.1, Y.2, sc, kn) ρ2 M1 := (by rw [e2, hM1]; exact hCl.e25 e (by omega) ↑n (fun i hi => (hH.1 e (by omega)).2 i (by rw [b25]; omega)))
    have hS2 : StpOK sc kn ρ2 := (by rw [e2]; exact hS1)
    have hF2 : Fr CLs M0 M1 := (by rw [hM1]; exact hF0.trans (Fr.pI 7 e (by decide)))
    have hB2 : Bg 0 0 M0 M1 := (by rw [hM1]; exact (hB0.trans (Bg.pI _ _ _ _)).le (by omega) (by omega))
    have s4_2 : ρ2.1 4 = σ.1 4 := (by rw [e2, RS.setA_s])
    have s30_2 : ρ2.1 30 = σ.1 30 := (by rw [e2, RS.setA_s])
    have t_2 : thN ρ2 = thN σ := by rw [e2]; rfl
    obtain ⟨hA, hB, hC, hD, hE, hN, hG, hH, hI, hJ, hK, hL⟩ := id hCl2
    have hG2 : Fr [7, 9] M0 M1 := (by rw [hM1]; exact hG0.trans (Fr.pI 7 e (by decide)))
    refine S_aload_n dX1_drop_42 rfl ?_
    refine S_getP (o := some (9, e)) fl_X1_23 dX1_drop_43 rfl rfl (by rw [(show M1.P (7, e) 12 = some (9, e) from congrFun (hE.1 e (by omega)).2.2 12)]) ?_
    refine S_aload_n dX1_drop_46 rfl ?_
    refine S_getI (v := ↑n) fl_X1_40 dX1_drop_47 rfl rfl (by rw [(show M1.I (7, e) 13 = ↑n from (show M1.I (7, e) 13 = ρ2.2 25 e from congrFun (hE.1 e (by omega)).2.1 13).trans (by rw [e2, RS.setA_eq]))]) ?_
    refine S_null dX1_drop_50 ?_
    refine S_aastN n dX1_drop_51 rfl (by decide) rfl (by rw [(show M1.len (9, e) = some 12 from (hH.1 e (by omega)).1)]) (by omega) (by omega) ?_
    refine Sf.nm (fun M3 hM3 => ?_)
    have hCl4 : Cl (Y.1, Y.2, sc, kn) ρ2 M3 := (by rw [hM3]; exact hCl2.kepJ e n none (by rw [e2, RS.setA_eq]; exact Int.le_refl _))
    have hS4 : StpOK sc kn ρ2 := hS2
    have hF4 : Fr CLs M0 M3 := (by rw [hM3]; exact hF2.trans (Fr.pP 9 e (by decide)))
    have hB4 : Bg 0 0 M0 M3 := (by rw [hM3]; exact (hB2.trans (Bg.pP _ 9 e _ _ (by decide))).le (by omega) (by omega))
    obtain ⟨hA, hB, hC, hD, hE, hN, hG, hH, hI, hJ, hK, hL⟩ := id hCl4
    have hG4 : Fr [7, 9] M0 M3 := (by rw [hM3]; exact hG2.trans (Fr.pP 9 e (by decide)))
    exact S_vret dX1_drop_52 rfl (by
      have e9 : ρ2 = dropR ρ e i n := by
        rw [e2, hσ, hkn]
        exact dr_comm ρ e i n
      rw [e9] at hCl4 hS4
      exact ⟨⟨rfl, ⟨sc, kn, hS4, hCl4⟩, hF4, hB4⟩, hG4⟩)
  | succ d ih =>
    intro k M hk hik hCl hF0 hB0 hG0
    obtain ⟨σ, hσ⟩ : ∃ x : RS, x = ρ.sh4 (12 * e + i) (12 * e + k) := ⟨_, rfl⟩
    rw [← hσ] at hCl
    have b25 : σ.2 25 e = ↑(n + 1) := by rw [hσ, RS.sh4_at _ _ _ _ _ (by omega)]; exact h25
    have bp : σ.1 4 = ρ.1 4 := by rw [hσ]; rfl
    have hS1 : StpOK sc kn σ := by rw [hσ]; exact hS
    have hb1 : ∀ e1 : Nat, (e1 : Int) < 2 * σ.1 4 → σ.2 25 e1 ≤ 12 := by rw [hσ]; exact hb
    obtain ⟨hA, hB, hC, hD, hE, hN, hG, hH, hI, hJ, hK, hL⟩ := id hCl
    obtain ⟨m1, kk, q1, q2, q3, q4⟩ := (hH.1 e (by omega)).2 (k + 1) (by rw [b25]; omega)
    refine S_iload_n dX1_drop_4 rfl ?_
    refine S_aload_n dX1_drop_5 rfl ?_
    refine S_getI (v := ↑(n + 1)) fl_X1_40 dX1_drop_6 rfl rfl (by rw [(show M.I (7, e) 13 = ↑(n + 1) from (show M.I (7, e) 13 = σ.2 25 e from congrFun (hE.1 e (by omega)).2.1 13).trans b25)]) ?_
    refine S_icmp_ge 32 dX1_drop_9 (by decide) (by omega) (fun c_9 => absurd c_9 (by omega)) (fun c_9 => ?_)
    refine S_aload_n dX1_drop_12 rfl ?_
    refine S_getP (o := some (9, e)) fl_X1_23 dX1_drop_13 rfl rfl (by rw [(show M.P (7, e) 12 = some (9, e) from congrFun (hE.1 e (by omega)).2.2 12)]) ?_
    refine S_iload_n dX1_drop_16 rfl ?_
    refine S_iconst dX1_drop_17 ?_
    refine S_isub dX1_drop_18 ?_
    rw [show ((↑(k + 1) : Int) - 1) = ↑k from by omega]
    refine S_aload_n dX1_drop_19 rfl ?_
    refine S_getP (o := some (9, e)) fl_X1_23 dX1_drop_20 rfl rfl (by rw [(show M.P (7, e) 12 = some (9, e) from congrFun (hE.1 e (by omega)).2.2 12)]) ?_
    refine S_iload_n dX1_drop_23 rfl ?_
    refine S_aald (o := some (19, m1)) ((k + 1)) dX1_drop_24 rfl (by decide) rfl (by rw [(show M.len (9, e) = some 12 from (hH.1 e (by omega)).1)]) (by omega) (by omega) (by rw [q1]) ?_
    refine S_aast k dX1_drop_25 rfl (by decide) rfl rfl (by decide) rfl (by rw [(show M.len (9, e) = some 12 from (hH.1 e (by omega)).1)]) (by omega) (by omega) ?_
    refine Sf.nm (fun M1 hM1 => ?_)
    obtain ⟨ρ2, e2⟩ : ∃ x : RS, x = ((((σ.setA 26 ((12 * e + k)) (σ.2 26 (12 * e + (k + 1)))).setA 27 ((12 * e + k)) (σ.2 27 (12 * e + (k + 1)))).setA 28 ((12 * e + k)) (↑kk)).setA 29 ((12 * e + k)) (σ.2 29 (12 * e + (k + 1)))) := ⟨_, rfl⟩
    have hCl2 : Cl (Y.1, Y.2, sc, kn) ρ2 M1 := (by rw [e2, hM1]; exact hCl.kep e k m1 kk (by omega) _ _ _ q3 q4 hb1)
    have hS2 : StpOK sc kn ρ2 := (by rw [e2]; exact hS1)
    have hF2 : Fr CLs M0 M1 := (by rw [hM1]; exact hF0.trans (Fr.pP 9 e (by decide)))
    have hB2 : Bg 0 0 M0 M1 := (by rw [hM1]; exact (hB0.trans (Bg.pP _ 9 e _ _ (by decide))).le (by omega) (by omega))
    have s4_2 : ρ2.1 4 = σ.1 4 := (by rw [e2, RS.setA_s, RS.setA_s, RS.setA_s, RS.setA_s])
    have s30_2 : ρ2.1 30 = σ.1 30 := (by rw [e2, RS.setA_s, RS.setA_s, RS.setA_s, RS.setA_s])
    have t_2 : thN ρ2 = thN σ := by rw [e2]; rfl
    obtain ⟨hA, hB, hC, hD, hE, hN, hG, hH, hI, hJ, hK, hL⟩ := id hCl2
    have hG2 : Fr [7, 9] M0 M1 := (by rw [hM1]; exact hG0.trans (Fr.pP 9 e (by decide)))
    refine S_iinc dX1_drop_26 rfl (by decide) ?_
    rw [show ((↑(k + 1)) + 1 : Int) = ↑(k + 1 + 1) from rfl]
    refine S_goto 4 dX1_drop_29 (by decide) ?_
    have e9 : ρ2 = ρ.sh4 (12 * e + i) (12 * e + (k + 1)) := by
      have c1 : ∀ f : Nat, σ.2 f (12 * e + (k + 1)) = ρ.2 f (12 * e + (k + 1)) := fun f => by rw [hσ, RS.sh4_at _ _ _ _ _ (by omega)]
      rw [e2, ← q2, c1 26, c1 27, c1 28, c1 29, hσ]
      exact RS.sh4_s ρ (12 * e + i) (12 * e + k) (by omega)
    rw [e9] at hCl2
    exact ih (k + 1) _ (by omega) (by omega) hCl2 hF2 hB2 hG2
set_option maxRecDepth 100000 in
theorem c_drop {G : Ge} {M : Mem} {Y : (Nat → Bool) × (Nat → Bool)} {ρ : RS} (hCs : Cs Y ρ M) (e i n : Nat) (he : (e : Int) < 2 * ρ.1 4) (hn : n < 12) (hi : i ≤ n) (h25 : ρ.2 25 e = ↑(n + 1)) (hb : ∀ e1 : Nat, (e1 : Int) < 2 * ρ.1 4 → ρ.2 25 e1 ≤ 12) : Ct G mi_X1_drop [vR ((7, e)), vI (↑i)] M (fun v' M' => CP Y (dropR ρ e i n) 0 0 none M v' M' ∧ Fr [7, 9] M M') := by
  refine Ct.of pl_X1_drop [some (vR ((7, e))), some (vI (↑i)), none] rfl (Nat.le_of_ble_eq_true rfl) ?_
  obtain ⟨sc, kn, hS, hCl⟩ := hCs
  have hF0 : Fr CLs M M := Fr.rf CLs M
  have hB0 : Bg 0 0 M M := Bg.rf M
  obtain ⟨hA, hB, hC, hD, hE, hN, hG, hH, hI, hJ, hK, hL⟩ := id hCl
  refine S_iload_n dX1_drop_0 rfl ?_
  refine S_iconst dX1_drop_1 ?_
  refine S_iadd dX1_drop_2 ?_
  rw [show ((↑i + 1 : Int)) = ↑(i + 1) from rfl]
  refine S_istore_n dX1_drop_3 (by decide) ?_
  exact lp_drop hS e i n he hn hi h25 hb (n - i) i M (by omega) (Nat.le_refl i) (by rw [RS.sh4_0]; exact hCl) hF0 hB0 (Fr.rf _ M)
