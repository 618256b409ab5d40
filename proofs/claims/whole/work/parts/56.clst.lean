/-! THE CLASS: keys are skipped -/
theorem Cl.sk {X : Gh} {ρ : RS} {M M' : Mem} {m : Nat} (h : Cl X ρ M) (hF : Fx (19, m) M M') (hfr : M.len (19, m) = none) (hns : ∀ n, m < n → M.len (19, n) = none) : Cl X ρ M' := by
  obtain ⟨hA, hB, hC, hD, hE, hN, hG, hH, hI, hJ, hK, hL⟩ := h
  have hR : Fr [19] M M' := hF.fr (by decide)
  have hs : ∀ {n : Nat} {a p k t w : Int}, Sk M n a p k t w → Sk M' n a p k t w := fun {n a p k t w} q => q.at (hF (19, n) (rni (fun e => by rw [e] at q; have := q.1; rw [hfr] at this; cases this)))
  refine ⟨hA.fr hR (by decide), hB.fr hR (by decide), hC.fr hR (by decide) (by decide) (by decide) (by decide), hD.fr hR (by decide), hE.fr hR (by decide) (by decide) (by decide) (by decide), hN.fr hR (by decide), hG.fr hR (by decide), ⟨fun e he => ⟨(hR (9, e) (show 9 ∉ [19] by decide)).1.trans (hH.1 e he).1, fun i hi => ?_⟩, m + 1, fun n hn => ?_⟩, hI.fr hR (by decide), hJ.fr hR (by decide) (by decide) (by decide), ⟨(hR (14, 0) (by decide)).1.trans hK.1, fun i hi => ?_⟩, hL.fr hR (by decide) (by decide)⟩
  · obtain ⟨n, k, q1, q2, q3, q4⟩ := (hH.1 e he).2 i hi
    exact ⟨n, k, (hR.P (9, e) (show 9 ∉ [19] by decide)).trans q1, q2, q3, hs q4⟩
  · exact (hF (19, n) (rni (by omega))).1.trans (hns n (by omega))
  · obtain ⟨q1, o1, o2, q2, q3⟩ := hK.2 i hi
    refine ⟨(hR.P (14, 0) (by decide)).trans q1, o1, o2, q2.fr hR (show 15 ∉ [19] by decide), ?_⟩
    rcases q3 with u | u | ⟨u1, u2, n, k, u3, u4, u5, a, p, u6⟩ | u
    · exact Or.inl u
    · exact Or.inr (Or.inl u)
    · exact Or.inr (Or.inr (Or.inl ⟨u1, u2, n, k, u3, u4, u5, a, p, hs u6⟩))
    · exact Or.inr (Or.inr (Or.inr u))
set_option maxRecDepth 100000 in
theorem c_skInit {G : Ge} {M : Mem} (m kk : Nat) (f p t w : Int) (hO : Obj M (19, m) [0, 0, 0, 0, 0, 0, 0, 0, 0, 0, 0, 0] [none, none, none, none, none, none, none, none, none]) (hw : M.I (18, kk) 1 = w) : Ct G mi_X3_init [vR ((19, m)), vR ((18, kk)), vI f, vI p, vI t] M (fun v' M' => v' = none ∧ Sk M' m f p ↑kk t w ∧ Fx (19, m) M M' ∧ Bg 0 0 M M') := by
  refine Ct.of pl_X3_init [some (vR ((19, m))), some (vR ((18, kk))), some (vI f), some (vI p), some (vI t)] rfl (Nat.le_of_ble_eq_true rfl) ?_
  refine S_aload_n dX3_init_0 rfl ?_
  refine S_iconst dX3_init_1 ?_
  refine S_aload_n dX3_init_2 rfl ?_
  refine S_getI (v := w) fl_X3_3 dX3_init_3 rfl rfl (by rw [hw]) ?_
  refine S_aload_n dX3_init_6 rfl ?_
  refine S_null dX3_init_7 ?_
  refine S_callI (mi := mi_X3_init) [vI 4, vI w, vR ((18, kk)), vN] ok_X4_init ml_X3_9 dX3_init_8 rfl rfl (by decide) rfl (Nat.le_of_ble_eq_true rfl) rfl (c_thingInitS m 4 w (some (18, kk)) none hO) ?_
  rintro v' M1 ⟨rfl, hO1, hX1, hB1⟩
  refine S_aload_n dX3_init_11 rfl ?_
  refine S_aload_n dX3_init_12 rfl ?_
  refine S_putPF fl_X3_13 dX3_init_13 rfl rfl rfl rfl rfl ?_
  refine Sf.nm (fun M2 hM2 => ?_)
  refine S_aload_n dX3_init_16 rfl ?_
  refine S_iload_n dX3_init_17 rfl ?_
  refine S_putIF fl_X3_19 dX3_init_18 rfl rfl rfl rfl rfl (Or.inl rfl) ?_
  refine Sf.nm (fun M3 hM3 => ?_)
  refine S_aload_n dX3_init_21 rfl ?_
  refine S_iload_n dX3_init_22 rfl ?_
  refine S_putIF fl_X3_22 dX3_init_23 rfl rfl rfl rfl rfl (Or.inl rfl) ?_
  refine Sf.nm (fun M4 hM4 => ?_)
  refine S_aload_n dX3_init_26 rfl ?_
  refine S_iload dX3_init_27 rfl ?_
  refine S_putIF fl_X3_25 dX3_init_29 rfl rfl rfl rfl rfl (Or.inl rfl) ?_
  refine Sf.nm (fun M5 hM5 => ?_)
  exact S_vret dX3_init_32 rfl (by
    have ok_0 : Obj M2 (19, m) [4, w, 0, 0, 0, 0, 0, -1, 0, 0, 0, 0] ([none, none, some (18, kk), none, none, none, none, none, none].set 8 (some (18, kk))) := by rw [hM2]; exact hO1.putP (k := 8) (show 8 < 9 by decide)
    have ok_1 : Obj M3 (19, m) ([4, w, 0, 0, 0, 0, 0, -1, 0, 0, 0, 0].set 9 f) ([none, none, some (18, kk), none, none, none, none, none, none].set 8 (some (18, kk))) := by rw [hM3]; exact ok_0.putI (k := 9) (show 9 < 12 by decide)
    have ok_2 : Obj M4 (19, m) (([4, w, 0, 0, 0, 0, 0, -1, 0, 0, 0, 0].set 9 f).set 10 p) ([none, none, some (18, kk), none, none, none, none, none, none].set 8 (some (18, kk))) := by rw [hM4]; exact ok_1.putI (k := 10) (show 10 < 12 by decide)
    have ok_3 : Obj M5 (19, m) ((([4, w, 0, 0, 0, 0, 0, -1, 0, 0, 0, 0].set 9 f).set 10 p).set 11 t) ([none, none, some (18, kk), none, none, none, none, none, none].set 8 (some (18, kk))) := by rw [hM5]; exact ok_2.putI (k := 11) (show 11 < 12 by decide)
    have hx_0 : Fx (19, m) M M2 := by rw [hM2]; exact hX1.trans Fx.pP
    have hb_0 : Bg 0 0 M M2 := by rw [hM2]; exact (hB1.trans (Bg.pP _ 19 m _ _ (by decide))).le (by decide) (by decide)
    have hx_1 : Fx (19, m) M M3 := by rw [hM3]; exact hx_0.trans Fx.pI
    have hb_1 : Bg 0 0 M M3 := by rw [hM3]; exact (hb_0.trans (Bg.pI _ _ _ _)).le (by decide) (by decide)
    have hx_2 : Fx (19, m) M M4 := by rw [hM4]; exact hx_1.trans Fx.pI
    have hb_2 : Bg 0 0 M M4 := by rw [hM4]; exact (hb_1.trans (Bg.pI _ _ _ _)).le (by decide) (by decide)
    have hx_3 : Fx (19, m) M M5 := by rw [hM5]; exact hx_2.trans Fx.pI
    have hb_3 : Bg 0 0 M M5 := by rw [hM5]; exact (hb_2.trans (Bg.pI _ _ _ _)).le (by decide) (by decide)
    refine ⟨rfl, ?_, hx_3, hb_3⟩
    unfold Sk
    rw [qx_nat]
    exact ok_3)
set_option maxRecDepth 100000 in
theorem c_keyOfF {G : Ge} {M : Mem} {Y : (Nat → Bool) × (Nat → Bool)} {ρ : RS} (hCs : Cs Y ρ M) (N : Nat) (hTI : TI Y.2 ρ N) (hNb : N < 7990) (c : Nat) (hc : c < thN ρ) (hRm : Rm 2 8 M) : Ct G mi_X5_keyOf [vR ((3, 0)), vR ((18, c))] M (fun v' M' => CP Y (kyR ρ c) 2 8 (some (vR (18, kyI ρ c))) M v' M' ∧ Fr [3, 4, 5, 18] M M') := by
  refine Ct.of pl_X5_keyOf [some (vR ((3, 0))), some (vR ((18, c)))] rfl (Nat.le_of_ble_eq_true rfl) ?_
  obtain ⟨sc, kn, hS, hCl⟩ := id hCs
  obtain ⟨hA, hB, hC, hD, hE, hN, hG, hH, hI, hJ, hK, hL⟩ := id hCl
  have hT := hTI.1
  have hq3 := hT.2.2.1
  have hl8 := hT.2.1
  have hcb := (hT.2.2.2.2 c hc).2.2.2
  refine S_aload_n dX5_keyOf_0 rfl ?_
  refine S_aload_n dX5_keyOf_1 rfl ?_
  refine S_iconst dX5_keyOf_2 ?_
  refine S_null dX5_keyOf_3 ?_
  refine S_aload_n dX5_keyOf_4 rfl ?_
  refine S_getP (o := some (2, 0)) fl_X5_12 dX5_keyOf_5 rfl rfl (by rw [(show M.P (3, 0) 0 = some (2, 0) from congrFun hC.1.2.2 0)]) ?_
  refine S_aload_n dX5_keyOf_8 rfl ?_
  refine S_getI (v := ρ.2 9 c) fl_X5_34 dX5_keyOf_9 rfl rfl (by rw [(show M.I (18, c) 1 = ρ.2 9 c from (show M.I (18, c) 1 = ρ.2 9 c from congrFun (hD.1 c (by omega)).2.1 1))]) ?_
  refine S_iconst dX5_keyOf_12 ?_
  refine S_callV (mi := mi_X5_keyOf) [vI (ρ.2 9 c), vI 1] ok_X0_mix ml_X5_50 dX5_keyOf_13 rfl (by decide) rfl (by decide) rfl (Nat.le_of_ble_eq_true rfl) rfl (c_X0_mix hB (ρ.2 9 c) 1 (by omega) (by omega) (by omega)) ?_
  rintro v' M1 ⟨rfl, hM1⟩
  rw [hM1]
  clear hM1
  have hco := c_comeOfF (G := G) (M := M) N hT hNb hTI.2.1 hTI.2.2.1 c (by omega) 0 ↑c (-1) (kyV ρ c) (-1) (kf_ky c) (by decide) (by omega) (by omega) (co_1 (Or.inl rfl) c).1 (co_1 (Or.inl rfl) c).2 hRm hCs
  rw [qx_no] at hco
  refine S_callV (mi := mi_X5_keyOf) [vR ((18, c)), vI 0, vN, vI (mixF (ρ.1 0) (ρ.2 9 c) 1)] ok_X5_comeOf ml_X5_46 dX5_keyOf_16 rfl (by decide) rfl (by decide) rfl (Nat.le_of_ble_eq_true rfl) rfl (hco) ?_
  rintro v' M2 hq2
  obtain rfl := hq2.1.1
  exact S_aret dX5_keyOf_19 rfl rfl ⟨⟨rfl, hq2.1.2⟩, hq2.2⟩
set_option maxRecDepth 100000 in
theorem c_passOne {G : Ge} {M : Mem} {Y : (Nat → Bool) × (Nat → Bool)} {ρ : RS} (hCs : Cs Y ρ M) (hp : 0 ≤ ρ.1 4 ∧ ρ.1 4 ≤ 6) (N : Nat) (hTI : TI Y.2 ρ N) (hNb : N < 7980) (e c : Nat) (he : (e : Int) < 2 * ρ.1 4) (hst : Y.1 e = true) (h18 : ρ.2 18 e = ↑c) (hc : c < thN ρ) (hck : ρ.2 6 c = 1) (hRm : Rm 4 16 M) : Ct G mi_X8_passOne [vR ((1, 0)), vR ((7, e))] M (CP Y (opR ρ e c) 4 16 none M) := by
  refine Ct.of pl_X8_passOne [some (vR ((1, 0))), some (vR ((7, e)))] rfl (Nat.le_of_ble_eq_true rfl) ?_
  obtain ⟨sc, kn, hS, hCl⟩ := hCs
  have hF0 : Fr CLs M M := Fr.rf CLs M
  have hB0 : Bg 0 0 M M := Bg.rf M
  obtain ⟨hA, hB, hC, hD, hE, hN, hG, hH, hI, hJ, hK, hL⟩ := id hCl
  have hl8 := hTI.1.2.1
  refine S_aload_n dX8_passOne_0 rfl ?_
  refine S_getP (o := some (3, 0)) fl_X8_10 dX8_passOne_1 rfl rfl (by rw [(show M.P (1, 0) 1 = some (3, 0) from congrFun hA.2.2 1)]) ?_
  refine S_aload_n dX8_passOne_4 rfl ?_
  refine S_getP (o := some (18, c)) fl_X8_192 dX8_passOne_5 rfl rfl (by rw [(show M.P (7, e) 7 = some (18, c) from (congrFun (hE.1 e (by omega)).2.2 7).trans ((if_pos hst).trans (qx_of h18)))]) ?_
  refine S_callV (mi := mi_X8_passOne) [vR ((18, c))] ok_X5_keyOf ml_X8_145 dX8_passOne_8 rfl (by decide) rfl (by decide) rfl (Nat.le_of_ble_eq_true rfl) rfl (c_keyOf (G := G) (show Cs Y ρ M from ⟨sc, kn, hS, hCl⟩) (N) hTI (by omega) c (by omega)  (hRm.sub hB0 (by omega) (by omega))) ?_
  rintro v' M2 ⟨rfl, hCs2, hF2', hB2'⟩
  obtain ⟨ρ3, e3⟩ : ∃ z9 : RS, z9 = (kyR ρ c) := ⟨_, rfl⟩
  rw [← e3] at hCs2
  obtain ⟨y1, ey1⟩ : ∃ z9 : Nat, z9 = kyI ρ c := ⟨_, rfl⟩
  rw [← ey1]
  have q3 : TI Y.2 (kyR ρ c) (N + 1) ∧ kyI ρ c < thN (kyR ρ c) ∧ thN ρ ≤ thN (kyR ρ c) := hTI.ky (by omega)
  have k3 : (kyR ρ c).2 6 (kyI ρ c) = 0 := th_kind (by decide)
  rw [← e3, ← ey1] at q3 k3
  obtain ⟨hTI3, hi3, g3⟩ := q3
  obtain ⟨sc, kn, hS3, hCl3⟩ := hCs2
  have hF3 : Fr CLs M M2 := hF0.trans hF2'
  have hB3 : Bg 2 8 M M2 := (hB0.trans hB2').le (by omega) (by omega)
  have s4_3 : ρ3.1 4 = ρ.1 4 := (by rw [e3, thR_s _ _ _ _ _ _ (by decide)])
  have s30_3 : ρ3.1 30 = ρ.1 30 := (by rw [e3, thR_s _ _ _ _ _ _ (by decide)])
  obtain ⟨hA, hB, hC, hD, hE, hN, hG, hH, hI, hJ, hK, hL⟩ := id hCl3
  refine S_pop dX8_passOne_11 ?_
  refine S_aload_n dX8_passOne_12 rfl ?_
  refine S_aload_n dX8_passOne_13 rfl ?_
  refine S_getP (o := some (3, 0)) fl_X8_10 dX8_passOne_14 rfl rfl (by rw [(show M2.P (1, 0) 1 = some (3, 0) from congrFun hA.2.2 1)]) ?_
  refine S_aload_n dX8_passOne_17 rfl ?_
  refine S_getP (o := some (18, c)) fl_X8_192 dX8_passOne_18 rfl rfl (by rw [(show M2.P (7, e) 7 = some (18, c) from (congrFun (hE.1 e (by omega)).2.2 7).trans ((if_pos hst).trans (qx_of (show ρ3.2 18 e = ↑c from (by rw [e3, thR_old_at _ _ _ _ _ _ _ (Or.inr (by decide)), h18])))))]) ?_
  refine S_callV (mi := mi_X8_passOne) [vR ((18, c))] ok_X5_nextOf ml_X8_165 dX8_passOne_21 rfl (by decide) rfl (by decide) rfl (Nat.le_of_ble_eq_true rfl) rfl (c_nextOf (G := G) (show Cs Y ρ3 M2 from ⟨sc, kn, hS3, hCl3⟩) (N + 1) hTI3 (by omega) c (by omega) (by rw [e3, thR_old_at _ _ _ _ _ _ _ (Or.inl (by omega))]; exact hck) (hRm.sub hB3 (by omega) (by omega))) ?_
  rintro v' M5 ⟨rfl, hCs5, hF5', hB5'⟩
  obtain ⟨ρ6, e6⟩ : ∃ z9 : RS, z9 = (chR ρ3 c) := ⟨_, rfl⟩
  rw [← e6] at hCs5
  obtain ⟨c4, ec4⟩ : ∃ z9 : Nat, z9 = chI ρ3 c := ⟨_, rfl⟩
  rw [← ec4]
  have q6 : TI Y.2 (chR ρ3 c) (N + 2) ∧ chI ρ3 c < thN (chR ρ3 c) ∧ thN ρ3 ≤ thN (chR ρ3 c) := hTI3.ch (by omega)
  have k6 : (chR ρ3 c).2 6 (chI ρ3 c) = 1 := th_kind (by decide)
  rw [← e6, ← ec4] at q6 k6
  obtain ⟨hTI6, hi6, g6⟩ := q6
  obtain ⟨sc, kn, hS6, hCl6⟩ := hCs5
  have hF6 : Fr CLs M M5 := hF3.trans hF5'
  have hB6 : Bg 4 16 M M5 := (hB3.trans hB5').le (by omega) (by omega)
  have s4_6 : ρ6.1 4 = ρ.1 4 := (by rw [e6, thR_s _ _ _ _ _ _ (by decide), e3, thR_s _ _ _ _ _ _ (by decide)])
  have s30_6 : ρ6.1 30 = ρ.1 30 := (by rw [e6, thR_s _ _ _ _ _ _ (by decide), e3, thR_s _ _ _ _ _ _ (by decide)])
  obtain ⟨hA, hB, hC, hD, hE, hN, hG, hH, hI, hJ, hK, hL⟩ := id hCl6
  refine S_putP fl_X8_192 dX8_passOne_24 rfl rfl rfl  ?_
  refine Sf.nm (fun M7 hM7 => ?_)
  obtain ⟨ρ8, e8⟩ : ∃ z9 : RS, z9 = (ρ6.setA 18 e (↑c4)) := ⟨_, rfl⟩
  have hCl8 : Cl (Y.1, Y.2, sc, kn) ρ8 M7 := (by rw [e8, hM7, ← (qx_nat c4)]; exact hCl6.e18 e (by omega) hst (↑c4))
  have hS8 : StpOK sc kn ρ8 := (by rw [e8]; exact hS6)
  have hF8 : Fr CLs M M7 := (by rw [hM7]; exact hF6.trans (Fr.pP 7 e (by decide)))
  have hB8 : Bg 4 16 M M7 := (by rw [hM7]; exact (hB6.trans (Bg.pP _ 7 e _ _ (by decide))).le (by omega) (by omega))
  have s4_8 : ρ8.1 4 = ρ.1 4 := (by rw [e8, RS.setA_s, e6, thR_s _ _ _ _ _ _ (by decide), e3, thR_s _ _ _ _ _ _ (by decide)])
  have s30_8 : ρ8.1 30 = ρ.1 30 := (by rw [e8, RS.setA_s, e6, thR_s _ _ _ _ _ _ (by decide), e3, thR_s _ _ _ _ _ _ (by decide)])
  have t_8 : thN ρ8 = thN ρ6 := by rw [e8]; rfl
  obtain ⟨hA, hB, hC, hD, hE, hN, hG, hH, hI, hJ, hK, hL⟩ := id hCl8
  refine S_aload_n dX8_passOne_27 rfl ?_
  refine S_dup dX8_passOne_28 ?_
  refine S_getI (v := ρ.2 22 e) fl_X8_231 dX8_passOne_29 rfl rfl (by rw [(show M7.I (7, e) 11 = ρ.2 22 e from (show M7.I (7, e) 11 = ρ8.2 22 e from congrFun (hE.1 e (by omega)).2.1 11).trans (show ρ8.2 22 e = ρ.2 22 e from (by rw [e8, RS.setA_ne (Or.inl (by decide)), e6, thR_old_at _ _ _ _ _ _ _ (Or.inr (by decide)), e3, thR_old_at _ _ _ _ _ _ _ (Or.inr (by decide))])))]) ?_
  refine S_iconst dX8_passOne_32 ?_
  refine S_iadd dX8_passOne_33 ?_
  refine S_putI fl_X8_231 dX8_passOne_34 rfl rfl rfl  (Or.inl rfl) ?_
  refine Sf.nm (fun M9 hM9 => ?_)
  obtain ⟨ρ10, e10⟩ : ∃ z9 : RS, z9 = (ρ8.setA 22 e (ρ.2 22 e + 1)) := ⟨_, rfl⟩
  have hCl10 : Cl (Y.1, Y.2, sc, kn) ρ10 M9 := (by rw [e10, hM9]; exact hCl8.e22 e (by omega) (ρ.2 22 e + 1))
  have hS10 : StpOK sc kn ρ10 := (by rw [e10]; exact hS8)
  have hF10 : Fr CLs M M9 := (by rw [hM9]; exact hF8.trans (Fr.pI 7 e (by decide)))
  have hB10 : Bg 4 16 M M9 := (by rw [hM9]; exact (hB8.trans (Bg.pI _ _ _ _)).le (by omega) (by omega))
  have s4_10 : ρ10.1 4 = ρ.1 4 := (by rw [e10, RS.setA_s, e8, RS.setA_s, e6, thR_s _ _ _ _ _ _ (by decide), e3, thR_s _ _ _ _ _ _ (by decide)])
  have s30_10 : ρ10.1 30 = ρ.1 30 := (by rw [e10, RS.setA_s, e8, RS.setA_s, e6, thR_s _ _ _ _ _ _ (by decide), e3, thR_s _ _ _ _ _ _ (by decide)])
  have t_10 : thN ρ10 = thN ρ8 := by rw [e10]; rfl
  obtain ⟨hA, hB, hC, hD, hE, hN, hG, hH, hI, hJ, hK, hL⟩ := id hCl10
  exact S_vret dX8_passOne_37 rfl (by
      have e9 : ρ10 = opR ρ e c := by
        subst_vars
        rfl
      rw [e9] at hCl10 hS10
      exact ⟨rfl, ⟨sc, kn, hS10, hCl10⟩, hF10, hB10.le (by omega) (by omega)⟩)
