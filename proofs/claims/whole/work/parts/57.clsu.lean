/-! THE CLASS: skipTo -/
theorem Fx.nw {r : Role} {M : Mem} {n c : Nat} : Fx r M (M.new r n c) := fun _ h => ⟨if_neg h, funext fun _ => if_neg h, funext fun _ => if_neg h⟩
def Un (ρ : RS) (m : Nat) (M : Mem) : Prop := (∀ e i : Nat, (e : Int) < 2 * ρ.1 4 → (i : Int) < ρ.2 25 e → M.P (9, e) i ≠ some (19, m)) ∧ ∀ i, i < 8 → M.P (15, i) 0 ≠ some (19, m)
theorem Un.fresh {X : Gh} {ρ : RS} {M : Mem} {m : Nat} (h : Cl X ρ M) (hfr : M.len (19, m) = none) : Un ρ m M := by
  obtain ⟨hA, hB, hC, hD, hE, hN, hG, hH, hI, hJ, hK, hL⟩ := h
  refine ⟨fun e i he hi hq => ?_, fun i hi hq => ?_⟩
  · obtain ⟨n, k, q1, q2, q3, q4⟩ := (hH.1 e he).2 i hi
    rw [q1] at hq
    cases hq
    have := q4.1
    rw [hfr] at this
    cases this
  · obtain ⟨q1, o1, o2, q2, q3⟩ := hK.2 i hi
    have e1 : M.P (15, i) 0 = o1 := congrFun q2.2.2 0
    rw [e1] at hq
    rcases q3 with ⟨u1, u2, _⟩ | ⟨u1, u2, _⟩ | ⟨u1, u2, n, k, u3, u4, u5, a, p, u6⟩ | ⟨u1, t, u2, _⟩
    · rw [u2] at hq; cases hq
    · rw [u2] at hq; cases hq
    · rw [u3] at hq
      cases hq
      have := u6.1
      rw [hfr] at this
      cases this
    · rw [u2] at hq; cases hq
theorem Un.fr {ρ ρ' : RS} {M M' : Mem} {m : Nat} {cs : List Nat} (h : Un ρ m M) (hF : Fr cs M M') (c9 : 9 ∉ cs) (c15 : 15 ∉ cs) (h4 : ρ'.1 4 = ρ.1 4) (h25 : ∀ e, ρ'.2 25 e = ρ.2 25 e) : Un ρ' m M' := ⟨fun e i he hi => by rw [hF.P (9, e) c9]; exact h.1 e i (by rw [← h4]; exact he) (by rw [← h25]; exact hi), fun i hi => by rw [hF.P (15, i) c15]; exact h.2 i hi⟩
theorem Cl.sk2 {X : Gh} {ρ : RS} {M M' : Mem} {m : Nat} (h : Cl X ρ M) (hu : Un ρ m M) (hF : Fx (19, m) M M') (hns : ∀ n, m < n → M.len (19, n) = none) : Cl X ρ M' := by
  obtain ⟨hA, hB, hC, hD, hE, hN, hG, hH, hI, hJ, hK, hL⟩ := h
  have hR : Fr [19] M M' := hF.fr (by decide)
  refine ⟨hA.fr hR (by decide), hB.fr hR (by decide), hC.fr hR (by decide) (by decide) (by decide) (by decide), hD.fr hR (by decide), hE.fr hR (by decide) (by decide) (by decide) (by decide), hN.fr hR (by decide), hG.fr hR (by decide), ⟨fun e he => ⟨(hR (9, e) (show 9 ∉ [19] by decide)).1.trans (hH.1 e he).1, fun i hi => ?_⟩, m + 1, fun n hn => ?_⟩, hI.fr hR (by decide), hJ.fr hR (by decide) (by decide) (by decide), ⟨(hR (14, 0) (by decide)).1.trans hK.1, fun i hi => ?_⟩, hL.fr hR (by decide) (by decide)⟩
  · obtain ⟨n, k, q1, q2, q3, q4⟩ := (hH.1 e he).2 i hi
    have hne : n ≠ m := fun e1 => hu.1 e i he hi (by rw [q1, e1])
    exact ⟨n, k, (hR.P (9, e) (show 9 ∉ [19] by decide)).trans q1, q2, q3, Obj.at q4 (hF (19, n) (rni hne))⟩
  · exact (hF (19, n) (rni (by omega))).1.trans (hns n (by omega))
  · obtain ⟨q1, o1, o2, q2, q3⟩ := hK.2 i hi
    refine ⟨(hR.P (14, 0) (by decide)).trans q1, o1, o2, q2.fr hR (show 15 ∉ [19] by decide), ?_⟩
    rcases q3 with u | u | ⟨u1, u2, n, k, u3, u4, u5, a, p, u6⟩ | u
    · exact Or.inl u
    · exact Or.inr (Or.inl u)
    · have hne : n ≠ m := fun e1 => hu.2 i hi (by rw [← e1, ← u3]; exact congrFun q2.2.2 0)
      exact Or.inr (Or.inr (Or.inl ⟨u1, u2, n, k, u3, u4, u5, a, p, Obj.at u6 (hF (19, n) (rni hne))⟩))
    · exact Or.inr (Or.inr (Or.inr u))
set_option maxRecDepth 100000 in
theorem lp_skipTo {G : Ge} {Y : (Nat → Bool) × (Nat → Bool)} {ρ : RS} {M0 : Mem} (e till D : Nat) (he : (e : Int) < 2 * ρ.1 4) (hp : 0 ≤ ρ.1 4 ∧ ρ.1 4 ≤ 6) (ht : till ≤ 500) (hst : Y.1 e = true) (hRm : Rm (5 * D) (28 * D) M0) : ∀ (d : Nat) (k p N : Nat) (σ : RS) (M : Mem), k + d = D → p + d = till → N + 2 * d < 7980 → SkOK σ e N p → TI Y.2 σ N → (∃ c : Nat, σ.2 18 e = ↑c ∧ c < thN σ ∧ σ.2 6 c = 1) → σ.1 4 = ρ.1 4 → skF ρ e D = skF σ e d → Cs Y σ M → Fr CLs M0 M → Bg (5 * k) (28 * k) M0 M → Sf G mi_X8_skipTo (CP Y (skF ρ e D) (5 * D) (28 * D) none M0) 5 [some (vR ((1, 0))), some (vR ((7, e))), some (vI (↑till)), some (vI (↑p))] [] M := by
  intro d
  induction d with
  | zero =>
    intro k p N σ M hk hpd hNd hO hTI hc hs4 hrel hCs hF0 hB0
    have hpt : p = till := by omega
    refine S_iload_n dX8_skipTo_5 rfl ?_
    refine S_iload_n dX8_skipTo_6 rfl ?_
    refine S_icmp_ge 72 dX8_skipTo_7 (by decide) (by omega) (fun c_7 => ?_) (fun c_7 => absurd c_7 (by omega))
    exact S_vret dX8_skipTo_72 rfl (by
      rw [hrel]
      exact ⟨rfl, hCs, hF0, hB0.le (by omega) (by omega)⟩)
  | succ d ih =>
    intro k p N σ M hk hpd hNd hO hTI hc hs4 hrel hCs hF0 hB0
    obtain ⟨sc, kn, hS, hCl⟩ := id hCs
    obtain ⟨hA, hB, hC, hD, hE, hN, hG, hH, hI, hJ, hK, hL⟩ := id hCl
    obtain ⟨c, h18, hcl, hck⟩ := hc
    obtain ⟨n, hn12, h25⟩ := hO.2.1.1 e (by omega)
    have h22 := hO.2.2.2.2.2
    have h30 := hO.2.2.2.2.1
    have h19 := hO.2.2.2.1
    have hl8 := hTI.1.2.1
    have hcap := capM_le hC.2.1
    obtain ⟨m, hns⟩ := hH.2
    have hU0 := Un.fresh hCl (hns m (Nat.le_refl m))
    refine S_iload_n dX8_skipTo_5 rfl ?_
    refine S_iload_n dX8_skipTo_6 rfl ?_
    refine S_icmp_ge 72 dX8_skipTo_7 (by decide) (by omega) (fun c_7 => absurd c_7 (by omega)) (fun c_7 => ?_)
    refine S_aload_n dX8_skipTo_10 rfl ?_
    refine S_new (19, m) nl_X8_214 dX8_skipTo_11 rfl (hns m (Nat.le_refl m)) (by have := hRm.1; have := hB0.1; omega) (by have := hRm.2; have := hB0.2; show 12 ≤ M.rs; omega) ?_
    refine Sf.nm (fun M1 hM1 => ?_)
    have hCl2 : Cl (Y.1, Y.2, sc, kn) σ M1 := (by rw [hM1]; exact hCl.sk2 hU0 Fx.nw (fun n1 h1 => hns n1 (by omega)))
    have hF2 : Fr CLs M0 M1 := (by rw [hM1]; exact hF0.trans (Fr.nw 19 m (by decide)))
    have hB2 : Bg (5 * k + 1) (28 * k + 12) M0 M1 := (by rw [hM1]; exact (hB0.trans (Bg.nw _ 19 m 0 12 (by decide) (hns m (Nat.le_refl m)))).le (by omega) (by omega))
    obtain ⟨hA, hB, hC, hD, hE, hN, hG, hH, hI, hJ, hK, hL⟩ := id hCl2
    have hO1 : Obj M1 (19, m) [0, 0, 0, 0, 0, 0, 0, 0, 0, 0, 0, 0] [none, none, none, none, none, none, none, none, none] := by rw [hM1]; exact Obj.nw M (19, m) 12 12 9
    have hU1 : Un σ m M1 := hU0.fr (cs := [19]) (by rw [hM1]; exact Fr.nw 19 m (by decide)) (by decide) (by decide) rfl (fun _ => rfl)
    have hns1 : ∀ n, m < n → M1.len (19, n) = none := fun n1 h1 => by rw [hM1, Mem.new_len_ne (rni (by omega))]; exact hns n1 (by omega)
    refine S_dup dX8_skipTo_14 ?_
    refine S_aload_n dX8_skipTo_15 rfl ?_
    refine S_getP (o := some (3, 0)) fl_X8_10 dX8_skipTo_16 rfl rfl (by rw [(show M1.P (1, 0) 1 = some (3, 0) from congrFun hA.2.2 1)]) ?_
    refine S_aload_n dX8_skipTo_19 rfl ?_
    refine S_getP (o := some (18, c)) fl_X8_192 dX8_skipTo_20 rfl rfl (by rw [(show M1.P (7, e) 7 = some (18, c) from (congrFun (hE.1 e (by omega)).2.2 7).trans ((if_pos hst).trans (qx_of h18)))]) ?_
    refine S_callV (mi := mi_X8_skipTo) [vR ((18, c))] ok_X5_keyOf ml_X8_145 dX8_skipTo_23 rfl (by decide) rfl (by decide) rfl (Nat.le_of_ble_eq_true rfl) rfl (c_keyOfF (G := G) (show Cs Y σ M1 from ⟨sc, kn, hS, hCl2⟩) (N) hTI (by omega) c (by omega)  (hRm.sub hB2 (by omega) (by omega))) ?_
    rintro v' M4 ⟨⟨rfl, hCs4, hF4', hB4'⟩, hFF⟩
    obtain ⟨ρ5, e5⟩ : ∃ z9 : RS, z9 = (kyR σ c) := ⟨_, rfl⟩
    rw [← e5] at hCs4
    obtain ⟨y3, ey3⟩ : ∃ z9 : Nat, z9 = kyI σ c := ⟨_, rfl⟩
    rw [← ey3]
    have q5 : TI Y.2 (kyR σ c) (N + 1) ∧ kyI σ c < thN (kyR σ c) ∧ thN σ ≤ thN (kyR σ c) := hTI.ky (by omega)
    have k5 : (kyR σ c).2 6 (kyI σ c) = 0 := th_kind (by decide)
    rw [← e5, ← ey3] at q5 k5
    obtain ⟨hTI5, hi5, g5⟩ := q5
    obtain ⟨sc, kn, hS5, hCl5⟩ := hCs4
    have hF5 : Fr CLs M0 M4 := hF2.trans hF4'
    have hB5 : Bg (5 * k + 1 + 2) (28 * k + 12 + 8) M0 M4 := (hB2.trans hB4').le (by omega) (by omega)
    have s4_5 : ρ5.1 4 = σ.1 4 := (by rw [e5, thR_s _ _ _ _ _ _ (by decide)])
    have s30_5 : ρ5.1 30 = σ.1 30 := (by rw [e5, thR_s _ _ _ _ _ _ (by decide)])
    obtain ⟨hA, hB, hC, hD, hE, hN, hG, hH, hI, hJ, hK, hL⟩ := id hCl5
    have hO2 := hO1.fr hFF (show 19 ∉ [3, 4, 5, 18] by decide)
    have hU2 : Un ρ5 m M4 := hU1.fr hFF (by decide) (by decide) (by rw [e5, thR_s _ _ _ _ _ _ (by decide)]) (fun e1 => by rw [e5, thR_old_at _ _ _ _ _ _ _ (Or.inr (by decide))])
    have hns2 : ∀ n, m < n → M4.len (19, n) = none := fun n1 h1 => (hFF (19, n1) (show 19 ∉ [3, 4, 5, 18] by decide)).1.trans (hns1 n1 h1)
    refine S_aload_n dX8_skipTo_26 rfl ?_
    refine S_getI (v := σ.2 19 e) fl_X8_139 dX8_skipTo_27 rfl rfl (by rw [(show M4.I (7, e) 8 = σ.2 19 e from (congrFun (hE.1 e (by omega)).2.1 8).trans ((if_pos hst).trans (show ρ5.2 19 e = σ.2 19 e from (by rw [e5, thR_old_at _ _ _ _ _ _ _ (Or.inr (by decide))]))))]) ?_
    refine S_iload_n dX8_skipTo_30 rfl ?_
    refine S_aload_n dX8_skipTo_31 rfl ?_
    refine S_getI (v := σ.1 30) fl_X8_142 dX8_skipTo_32 rfl rfl (by rw [(show M4.I (1, 0) 7 = σ.1 30 from (show M4.I (1, 0) 7 = ρ5.1 30 from congrFun hA.2.1 7).trans (by rw [e5, thR_s _ _ _ _ _ _ (by decide)]))]) ?_
    refine S_callI (mi := mi_X8_skipTo) [vR ((18, y3)), vI (σ.2 19 e), vI (↑p), vI (σ.1 30)] ok_X3_init ml_X8_355 dX8_skipTo_35 rfl rfl (by decide) rfl (Nat.le_of_ble_eq_true rfl) rfl (c_skInit m y3 (σ.2 19 e) (↑p) (σ.1 30) (ρ5.2 9 y3) hO2 (show M4.I (18, y3) 1 = ρ5.2 9 y3 from congrFun (hD.1 y3 (by omega)).2.1 1)) ?_
    rintro v' M6 ⟨rfl, hSk, hFx, hBx⟩
    have hCl7 : Cl (Y.1, Y.2, sc, kn) ρ5 M6 := hCl5.sk2 hU2 hFx hns2
    have hF7 : Fr CLs M0 M6 := hF5.trans (hFx.fr (by decide))
    have hB7 : Bg (5 * k + 1 + 2) (28 * k + 12 + 8) M0 M6 := (hB5.trans hBx).le (by omega) (by omega)
    obtain ⟨hA, hB, hC, hD, hE, hN, hG, hH, hI, hJ, hK, hL⟩ := id hCl7
    have q19 : ρ5.2 19 e = σ.2 19 e := (by rw [e5, thR_old_at _ _ _ _ _ _ _ (Or.inr (by decide))])
    have q30 : ρ5.1 30 = σ.1 30 := (by rw [e5, thR_s _ _ _ _ _ _ (by decide)])
    have hb1 : ∀ e1 : Nat, (e1 : Int) < 2 * ρ5.1 4 → ρ5.2 25 e1 ≤ 12 := fun e1 h1 => by
      rw [e5, thR_old_at _ _ _ _ _ _ _ (Or.inr (by decide))]
      obtain ⟨n1, z1, z2⟩ := hO.2.1.1 e1 (by omega)
      omega
    refine S_callV (mi := mi_X8_skipTo) [vR ((19, m))] ok_X1_keep ml_X8_358 dX8_skipTo_38 rfl (by decide) rfl (by decide) rfl (Nat.le_of_ble_eq_true rfl) rfl (c_keep (show Cs Y ρ5 M6 from ⟨sc, kn, hS5, hCl7⟩) e n m y3 ↑p (by omega) (by rw [e5, thR_old_at _ _ _ _ _ _ _ (Or.inr (by decide)), h25]) hn12 (by omega) (by rw [q19, q30]; exact hSk) hb1) ?_
    rintro v' M8 ⟨rfl, hCs8, hF8', hB8'⟩
    obtain ⟨ρ9, e9⟩ : ∃ z9 : RS, z9 = (keepR ρ5 e n (↑p) (↑y3)) := ⟨_, rfl⟩
    rw [← e9] at hCs8
    obtain ⟨sc, kn, hS9, hCl9⟩ := hCs8
    have hF9 : Fr CLs M0 M8 := hF7.trans hF8'
    have hB9 : Bg (5 * k + 1 + 2) (28 * k + 12 + 8) M0 M8 := (hB7.trans hB8').le (by omega) (by omega)
    have s4_9 : ρ9.1 4 = σ.1 4 := (by rw [e9, keepR_s _ _ _ _ _ _, e5, thR_s _ _ _ _ _ _ (by decide)])
    have s30_9 : ρ9.1 30 = σ.1 30 := (by rw [e9, keepR_s _ _ _ _ _ _, e5, thR_s _ _ _ _ _ _ (by decide)])
    have t_9 : thN ρ9 = thN ρ5 := thN_congr (by rw [e9, keepR_s _ _ _ _ _ _])
    obtain ⟨hA, hB, hC, hD, hE, hN, hG, hH, hI, hJ, hK, hL⟩ := id hCl9
    refine S_aload_n dX8_skipTo_41 rfl ?_
    refine S_aload_n dX8_skipTo_42 rfl ?_
    refine S_getP (o := some (3, 0)) fl_X8_10 dX8_skipTo_43 rfl rfl (by rw [(show M8.P (1, 0) 1 = some (3, 0) from congrFun hA.2.2 1)]) ?_
    refine S_aload_n dX8_skipTo_46 rfl ?_
    refine S_getP (o := some (18, c)) fl_X8_192 dX8_skipTo_47 rfl rfl (by rw [(show M8.P (7, e) 7 = some (18, c) from (congrFun (hE.1 e (by omega)).2.2 7).trans ((if_pos hst).trans (qx_of (show ρ9.2 18 e = ↑c from (by rw [e9, keepR_at _ _ _ _ _ _ _ (by omega), e5, thR_old_at _ _ _ _ _ _ _ (Or.inr (by decide)), h18])))))]) ?_
    have hTI10 : TI Y.2 ρ9 (N + 1) := hTI5.cg ⟨(by rw [e9, keepR_s _ _ _ _ _ _]), (by rw [e9, keepR_s _ _ _ _ _ _]), (by rw [e9, keepR_s _ _ _ _ _ _])⟩ (fun k j a1 a2 => (by rw [e9, keepR_at _ _ _ _ _ _ _ (by omega)]))
    refine S_callV (mi := mi_X8_skipTo) [vR ((18, c))] ok_X5_nextOf ml_X8_165 dX8_skipTo_50 rfl (by decide) rfl (by decide) rfl (Nat.le_of_ble_eq_true rfl) rfl (c_nextOf (G := G) (show Cs Y ρ9 M8 from ⟨sc, kn, hS9, hCl9⟩) (N + 1) hTI10 (by omega) c (by omega) (by rw [e9, keepR_at _ _ _ _ _ _ _ (by omega), e5, thR_old_at _ _ _ _ _ _ _ (Or.inl (by omega))]; exact hck) (hRm.sub hB9 (by omega) (by omega))) ?_
    rintro v' M12 ⟨rfl, hCs12, hF12', hB12'⟩
    obtain ⟨ρ13, e13⟩ : ∃ z9 : RS, z9 = (chR ρ9 c) := ⟨_, rfl⟩
    rw [← e13] at hCs12
    obtain ⟨c11, ec11⟩ : ∃ z9 : Nat, z9 = chI ρ9 c := ⟨_, rfl⟩
    rw [← ec11]
    have q13 : TI Y.2 (chR ρ9 c) (N + 2) ∧ chI ρ9 c < thN (chR ρ9 c) ∧ thN ρ9 ≤ thN (chR ρ9 c) := hTI10.ch (by omega)
    have k13 : (chR ρ9 c).2 6 (chI ρ9 c) = 1 := th_kind (by decide)
    rw [← e13, ← ec11] at q13 k13
    obtain ⟨hTI13, hi13, g13⟩ := q13
    obtain ⟨sc, kn, hS13, hCl13⟩ := hCs12
    have hF13 : Fr CLs M0 M12 := hF9.trans hF12'
    have hB13 : Bg (5 * k + 1 + 2 + 2) (28 * k + 12 + 8 + 8) M0 M12 := (hB9.trans hB12').le (by omega) (by omega)
    have s4_13 : ρ13.1 4 = σ.1 4 := (by rw [e13, thR_s _ _ _ _ _ _ (by decide), e9, keepR_s _ _ _ _ _ _, e5, thR_s _ _ _ _ _ _ (by decide)])
    have s30_13 : ρ13.1 30 = σ.1 30 := (by rw [e13, thR_s _ _ _ _ _ _ (by decide), e9, keepR_s _ _ _ _ _ _, e5, thR_s _ _ _ _ _ _ (by decide)])
    obtain ⟨hA, hB, hC, hD, hE, hN, hG, hH, hI, hJ, hK, hL⟩ := id hCl13
    refine S_putP fl_X8_192 dX8_skipTo_53 rfl rfl rfl  ?_
    refine Sf.nm (fun M14 hM14 => ?_)
    obtain ⟨ρ15, e15⟩ : ∃ z9 : RS, z9 = (ρ13.setA 18 e (↑c11)) := ⟨_, rfl⟩
    have hCl15 : Cl (Y.1, Y.2, sc, kn) ρ15 M14 := (by rw [e15, hM14, ← (qx_nat c11)]; exact hCl13.e18 e (by omega) hst (↑c11))
    have hS15 : StpOK sc kn ρ15 := (by rw [e15]; exact hS13)
    have hF15 : Fr CLs M0 M14 := (by rw [hM14]; exact hF13.trans (Fr.pP 7 e (by decide)))
    have hB15 : Bg (5 * k + 1 + 2 + 2) (28 * k + 12 + 8 + 8) M0 M14 := (by rw [hM14]; exact (hB13.trans (Bg.pP _ 7 e _ _ (by decide))).le (by omega) (by omega))
    have s4_15 : ρ15.1 4 = σ.1 4 := (by rw [e15, RS.setA_s, e13, thR_s _ _ _ _ _ _ (by decide), e9, keepR_s _ _ _ _ _ _, e5, thR_s _ _ _ _ _ _ (by decide)])
    have s30_15 : ρ15.1 30 = σ.1 30 := (by rw [e15, RS.setA_s, e13, thR_s _ _ _ _ _ _ (by decide), e9, keepR_s _ _ _ _ _ _, e5, thR_s _ _ _ _ _ _ (by decide)])
    have t_15 : thN ρ15 = thN ρ13 := by rw [e15]; rfl
    obtain ⟨hA, hB, hC, hD, hE, hN, hG, hH, hI, hJ, hK, hL⟩ := id hCl15
    refine S_aload_n dX8_skipTo_56 rfl ?_
    refine S_dup dX8_skipTo_57 ?_
    refine S_getI (v := ↑p) fl_X8_231 dX8_skipTo_58 rfl rfl (by rw [(show M14.I (7, e) 11 = ↑p from (show M14.I (7, e) 11 = ρ15.2 22 e from congrFun (hE.1 e (by omega)).2.1 11).trans (show ρ15.2 22 e = ↑p from (by rw [e15, RS.setA_ne (Or.inl (by decide)), e13, thR_old_at _ _ _ _ _ _ _ (Or.inr (by decide)), e9, keepR_at _ _ _ _ _ _ _ (by omega), e5, thR_old_at _ _ _ _ _ _ _ (Or.inr (by decide)), h22])))]) ?_
    refine S_iconst dX8_skipTo_61 ?_
    refine S_iadd dX8_skipTo_62 ?_
    refine S_putI fl_X8_231 dX8_skipTo_63 rfl rfl rfl  (Or.inl rfl) ?_
    refine Sf.nm (fun M16 hM16 => ?_)
    obtain ⟨ρ17, e17⟩ : ∃ z9 : RS, z9 = (ρ15.setA 22 e ((↑p + 1))) := ⟨_, rfl⟩
    have hCl17 : Cl (Y.1, Y.2, sc, kn) ρ17 M16 := (by rw [e17, hM16]; exact hCl15.e22 e (by omega) (↑p + 1))
    have hS17 : StpOK sc kn ρ17 := (by rw [e17]; exact hS15)
    have hF17 : Fr CLs M0 M16 := (by rw [hM16]; exact hF15.trans (Fr.pI 7 e (by decide)))
    have hB17 : Bg (5 * k + 1 + 2 + 2) (28 * k + 12 + 8 + 8) M0 M16 := (by rw [hM16]; exact (hB15.trans (Bg.pI _ _ _ _)).le (by omega) (by omega))
    have s4_17 : ρ17.1 4 = σ.1 4 := (by rw [e17, RS.setA_s, e15, RS.setA_s, e13, thR_s _ _ _ _ _ _ (by decide), e9, keepR_s _ _ _ _ _ _, e5, thR_s _ _ _ _ _ _ (by decide)])
    have s30_17 : ρ17.1 30 = σ.1 30 := (by rw [e17, RS.setA_s, e15, RS.setA_s, e13, thR_s _ _ _ _ _ _ (by decide), e9, keepR_s _ _ _ _ _ _, e5, thR_s _ _ _ _ _ _ (by decide)])
    have t_17 : thN ρ17 = thN ρ15 := by rw [e17]; rfl
    obtain ⟨hA, hB, hC, hD, hE, hN, hG, hH, hI, hJ, hK, hL⟩ := id hCl17
    refine S_iinc dX8_skipTo_66 rfl (by decide) ?_
    rw [show ((↑p) + 1 : Int) = ↑(p + 1) from rfl]
    refine S_goto 5 dX8_skipTo_69 (by decide) ?_
    have hTI18 : TI Y.2 ρ17 (N + 2) := hTI13.cg ⟨(by rw [e17, RS.setA_s, e15, RS.setA_s]), (by rw [e17, RS.setA_s, e15, RS.setA_s]), (by rw [e17, RS.setA_s, e15, RS.setA_s])⟩ (fun k j a1 a2 => (by rw [e17, RS.setA_ne (Or.inl (by omega)), e15, RS.setA_ne (Or.inl (by omega))]))
    have e9 : ρ17 = skS σ e c n := by
      have e22 : σ.2 22 e + 1 = ↑p + 1 := by rw [h22]
      unfold skS
      rw [e22, h22]
      subst_vars
      rfl
    have hOk := (skS_ok (e := e) (N := N) (p := p) (by omega) (by omega) (by omega) hO h18 hcl h25 hn12).1
    rw [← e9] at hOk
    have hrel1 : skF ρ e D = skF ρ17 e d := by
      rw [hrel, e9]
      show skF (skS σ e (σ.2 18 e).toNat (σ.2 25 e).toNat) e d = _
      rw [h18, h25, Int.toNat_natCast, Int.toNat_natCast]
    exact ih (k + 1) (p + 1) (N + 2) ρ17 _ (by omega) (by omega) (by omega) hOk hTI18 ⟨c11, (by rw [e17, RS.setA_ne (Or.inl (by decide)), e15, RS.setA_eq]), by omega, by rw [e17, RS.setA_ne (Or.inl (by decide)), e15, RS.setA_ne (Or.inl (by decide))]; exact k13⟩ (by omega) hrel1 ⟨sc, kn, hS17, hCl17⟩ hF17 (hB17.le (by omega) (by omega))
set_option maxRecDepth 100000 in
theorem c_skipTo {G : Ge} {M : Mem} {Y : (Nat → Bool) × (Nat → Bool)} {ρ : RS} (hCs : Cs Y ρ M) (e till D p N : Nat) (he : (e : Int) < 2 * ρ.1 4) (hp : 0 ≤ ρ.1 4 ∧ ρ.1 4 ≤ 6) (ht : till ≤ 500) (hst : Y.1 e = true) (hpd : p + D = till) (hNd : N + 2 * D < 7980) (hO : SkOK ρ e N p) (hTI : TI Y.2 ρ N) (hc : ∃ c : Nat, ρ.2 18 e = ↑c ∧ c < thN ρ ∧ ρ.2 6 c = 1) (hRm : Rm (5 * D) (28 * D) M) : Ct G mi_X8_skipTo [vR ((1, 0)), vR ((7, e)), vI (↑till)] M (CP Y (skF ρ e D) (5 * D) (28 * D) none M) := by
  refine Ct.of pl_X8_skipTo [some (vR ((1, 0))), some (vR ((7, e))), some (vI (↑till)), none] rfl (Nat.le_of_ble_eq_true rfl) ?_
  obtain ⟨sc, kn, hS, hCl⟩ := id hCs
  obtain ⟨hA, hB, hC, hD, hE, hN, hG, hH, hI, hJ, hK, hL⟩ := id hCl
  have h22 := hO.2.2.2.2.2
  refine S_aload_n dX8_skipTo_0 rfl ?_
  refine S_getI (v := ↑p) fl_X8_231 dX8_skipTo_1 rfl rfl (by rw [(show M.I (7, e) 11 = ↑p from (show M.I (7, e) 11 = ρ.2 22 e from congrFun (hE.1 e (by omega)).2.1 11).trans h22)]) ?_
  refine S_istore_n dX8_skipTo_4 (by decide) ?_
  exact lp_skipTo e till D he hp ht hst hRm D 0 p N ρ M (by omega) hpd hNd hO hTI hc rfl rfl hCs (Fr.rf _ M) (Bg.rf M)
