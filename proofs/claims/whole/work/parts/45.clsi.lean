/-! THE CLASS: what is kept, what is left -/
section
variable {X : Gh} {ρ : RS} {M : Mem}
theorem Cl.lef (h : Cl X ρ M) (e : Nat) (i : Nat) (hi : i < 600) (v : Int) (hb : ∀ e1 : Nat, (e1 : Int) < 2 * ρ.1 4 → ρ.2 23 e1 ≤ 600) : Cl X (ρ.setA 24 (600 * e + i) v) (M.putI (10, e) i v) := by
  obtain ⟨hA, hB, hC, hD, hE, hN, hG, hH, hI, hJ, hK, hL⟩ := h
  have hF : Fr [10] M (M.putI (10, e) i v) := Fr.pI 10 e (by decide)
  exact ⟨hA.fr hF (by decide), hB.fr hF (by decide), hC.fr hF (by decide) (by decide) (by decide) (by decide), hD.fr2 hF (by decide) rfl (fun _ => ⟨rfl, rfl, rfl, rfl, rfl⟩), hE.frL hF (by decide) rfl, hN.fr hF (by decide), hG.fr hF (by decide), hH.fr hF (by decide) (by decide), fun e1 he1 => ⟨(hI e1 he1).1, fun i1 hi1 => by
    have hi1' : (i1 : Int) < ρ.2 23 e1 := hi1
    have h12 := hb e1 he1
    by_cases h1 : e1 = e ∧ i1 = i
    · obtain ⟨rfl, rfl⟩ := h1
      rw [RS.setA_eq]
      exact Mem.putI_eq
    · rw [RS.setA_ne (Or.inr (by omega)), Mem.putI_at (by
        by_cases h2 : e1 = e
        · exact Or.inr (fun q => h1 ⟨h2, q⟩)
        · exact Or.inl (rni h2))]
      exact (hI e1 he1).2 i1 hi1'⟩, hJ.fr hF (by decide) (by decide) (by decide), hK.fr hF (by decide) (by decide) (by decide), hL.fr hF (by decide) (by decide)⟩
theorem Cl.kcg (h : Cl X ρ M) {ρ' : RS} (hs : ∀ k, ρ'.1 k = ρ.1 k) (ha : ∀ k j, k < 26 ∨ 29 < k → ρ'.2 k j = ρ.2 k j) (hk : ∀ e i : Nat, (e : Int) < 2 * ρ.1 4 → (i : Int) < ρ.2 25 e → ∀ k, 26 ≤ k → k ≤ 29 → ρ'.2 k (12 * e + i) = ρ.2 k (12 * e + i)) : Cl X ρ' M := by
  obtain ⟨ρ1, ρ2⟩ := ρ'
  have e1 : ρ1 = ρ.1 := funext hs
  obtain ⟨hA, hB, hC, hD, hE, hN, hG, hH, hI, hJ, hK, hL⟩ := h
  have hF : Fr [] M M := Fr.rf [] M
  have a : ∀ k j, k < 26 ∨ 29 < k → ρ2 k j = ρ.2 k j := ha
  have b : ∀ e i : Nat, (e : Int) < 2 * ρ.1 4 → (i : Int) < ρ.2 25 e → ∀ k, 26 ≤ k → k ≤ 29 → ρ2 k (12 * e + i) = ρ.2 k (12 * e + i) := hk
  subst e1
  refine ⟨hA, hB, hC, hD.fr2 hF (by decide) rfl (fun t => ⟨a 6 t (by omega), a 7 t (by omega), a 8 t (by omega), a 9 t (by omega), a 10 t (by omega)⟩), ⟨fun e he => ?_, hE.2⟩, hN, fun e he => ⟨(hG e he).1, fun i hi => ?_⟩, ⟨fun e he => ⟨(hH.1 e he).1, fun i hi => ?_⟩, hH.2⟩, fun e he => ⟨(hI e he).1, fun k hk2 => ?_⟩, ⟨hJ.1, fun l hl => ?_, hJ.2.2⟩, ⟨hK.1, fun i hi => ?_⟩, ⟨hL.1, hL.2.1, fun i hi => ?_⟩⟩
  · have q := hE.1 e he
    have e5 : eL (X.1 e) e (fun k => ρ2 k e) = eL (X.1 e) e (fun k => ρ.2 k e) := by
      show [_, 0, ρ2 12 e, _, 0, 0, 0, 0, (if X.1 e then ρ2 19 e else -1), ρ2 20 e, ρ2 21 e, ρ2 22 e, 0, ρ2 25 e, 0, ρ2 23 e] = _
      rw [a 12 e (by omega), a 19 e (by omega), a 20 e (by omega), a 21 e (by omega), a 22 e (by omega), a 25 e (by omega), a 23 e (by omega)]
      rfl
    have e6 : eQ (X.1 e) e (fun k => ρ2 k e) = eQ (X.1 e) e (fun k => ρ.2 k e) := by
      show [none, some (8, e), none, none, if X.1 e then qx (ρ2 15 e) else none, if X.1 e then qx (ρ2 16 e) else none, if X.1 e then qx (ρ2 17 e) else none, if X.1 e then qx (ρ2 18 e) else none, none, none, none, none, some (9, e), none, some (10, e), none] = _
      rw [a 15 e (by omega), a 16 e (by omega), a 17 e (by omega), a 18 e (by omega)]
      rfl
    exact q.cg e5.symm e6.symm
  · have hi' : (i : Int) < ρ.2 12 e := by rw [← a 12 e (by omega)]; exact hi
    rw [(hG e he).2 i hi']
    show qx (ρ.2 13 (12 * e + i)) = qx (ρ2 13 (12 * e + i))
    rw [a 13 _ (by omega)]
  · have hi' : (i : Int) < ρ.2 25 e := by rw [← a 25 e (by omega)]; exact hi
    obtain ⟨n, k, q1, q2, q3, q4⟩ := (hH.1 e he).2 i hi'
    refine ⟨n, k, q1, (b e i he hi' 28 (by decide) (by decide)).trans q2, q3, ?_⟩
    show Sk M n (ρ2 26 (12 * e + i)) (ρ2 27 (12 * e + i)) ↑k (ρ2 29 (12 * e + i)) (ρ2 9 k)
    rw [b e i he hi' 26 (by decide) (by decide), b e i he hi' 27 (by decide) (by decide), b e i he hi' 29 (by decide) (by decide), a 9 k (by omega)]
    exact q4
  · have hk3 : (k : Int) < ρ.2 23 e := by rw [← a 23 e (by omega)]; exact hk2
    rw [(hI e he).2 k hk3]
    exact (a 24 _ (by omega)).symm
  · obtain ⟨q1, q2, q3, q4⟩ := hJ.2.1 l hl
    refine ⟨q1, q2.cg ?_ ?_, q3, ?_⟩
    · show [ρ.2 31 l, 0, 0, 0, ρ.2 35 l, ρ.2 36 l] = [ρ2 31 l, 0, 0, 0, ρ2 35 l, ρ2 36 l]
      rw [a 31 l (by omega), a 35 l (by omega), a 36 l (by omega)]
    · show [none, qx (ρ.2 38 l), qx (ρ.2 37 l), some (13, l)] = [none, qx (ρ2 38 l), qx (ρ2 37 l), some (13, l)]
      rw [a 38 l (by omega), a 37 l (by omega)]
    · rw [q4]
      show lk [ρ.2 32 l, ρ.2 33 l, ρ.2 34 l] = lk [ρ2 32 l, ρ2 33 l, ρ2 34 l]
      rw [a 32 l (by omega), a 33 l (by omega), a 34 l (by omega)]
  · obtain ⟨q1, o1, o2, q2, q3⟩ := hK.2 i hi
    refine ⟨q1, o1, o2, q2, ?_⟩
    have c39 := a 39 i (by omega)
    have c40 := a 40 i (by omega)
    have c41 := a 41 i (by omega)
    rcases q3 with ⟨u1, u2, u3⟩ | ⟨u1, u2, l, u3, u4, u5⟩ | ⟨u1, u2, n, k, u3, u4, u5, f, p, u6⟩ | ⟨u1, t, u2, u3, u4, u5⟩
    · exact Or.inl ⟨c39.trans u1, u2, u3⟩
    · exact Or.inr (Or.inl ⟨c39.trans u1, u2, l, u3, c40.trans u4, u5⟩)
    · refine Or.inr (Or.inr (Or.inl ⟨c39.trans u1, u2, n, k, u3, c40.trans u4, u5, f, p, ?_⟩))
      show Sk M n f p ↑k (ρ2 41 i) (ρ2 9 k)
      rw [c41, a 9 k (by omega)]
      exact u6
    · refine Or.inr (Or.inr (Or.inr ⟨u1, t, u2, c40.trans u3, u4, ?_⟩))
      show ρ2 39 i = 2 + ρ2 6 t
      rw [c39, a 6 t (by omega)]
      exact u5
  · rw [hL.2.2 i hi]
    exact (a 43 i (by omega)).symm
end
set_option maxRecDepth 100000 in
theorem c_leave {G : Ge} {M : Mem} {Y : (Nat → Bool) × (Nat → Bool)} {ρ : RS} (hCs : Cs Y ρ M) (e lf : Nat) (he : (e : Int) < 2 * ρ.1 4) (hst : Y.1 e = true) (h23 : ρ.2 23 e = ↑lf) (hlf : lf < 300) (h19 : -1 ≤ ρ.2 19 e ∧ ρ.2 19 e ≤ 10007) (hb : ∀ e1 : Nat, (e1 : Int) < 2 * ρ.1 4 → ρ.2 23 e1 ≤ 600) : Ct G mi_X1_leave [vR ((7, e))] M (CP Y (leR ρ e) 0 0 none M) := by
  refine Ct.of pl_X1_leave [some (vR ((7, e)))] rfl (Nat.le_of_ble_eq_true rfl) ?_
  obtain ⟨sc, kn, hS, hCl⟩ := hCs
  have hF0 : Fr CLs M M := Fr.rf CLs M
  have hB0 : Bg 0 0 M M := Bg.rf M
  obtain ⟨hA, hB, hC, hD, hE, hN, hG, hH, hI, hJ, hK, hL⟩ := id hCl
  refine S_aload_n dX1_leave_0 rfl ?_
  refine S_getI (v := ρ.2 19 e) fl_X1_17 dX1_leave_1 rfl rfl (by rw [(show M.I (7, e) 8 = ρ.2 19 e from (congrFun (hE.1 e (by omega)).2.1 8).trans ((if_pos hst)))]) ?_
  refine S_iconst dX1_leave_4 ?_
  refine S_icmp_eq 43 dX1_leave_5 (by decide) (by omega) (fun c_5 => ?_) (fun c_5 => ?_)
  · exact S_vret dX1_leave_43 rfl (by have e9 : leR ρ e = ρ := (by unfold leR; rw [if_pos (by omega)]); rw [e9]; exact ⟨rfl, ⟨sc, kn, hS, hCl⟩, hF0, hB0⟩)
  · refine S_aload_n dX1_leave_8 rfl ?_
    refine S_getI (v := ↑lf) fl_X1_37 dX1_leave_9 rfl rfl (by rw [(show M.I (7, e) 15 = ↑lf from (show M.I (7, e) 15 = ρ.2 23 e from congrFun (hE.1 e (by omega)).2.1 15).trans h23)]) ?_
    refine S_aload_n dX1_leave_12 rfl ?_
    refine S_getP (o := some (10, e)) fl_X1_27 dX1_leave_13 rfl rfl (by rw [(show M.P (7, e) 14 = some (10, e) from congrFun (hE.1 e (by omega)).2.2 14)]) ?_
    refine S_alen dX1_leave_16 rfl (by decide) rfl (by rw [(show M.len (10, e) = some 300 from (hI e (by omega)).1)]) ?_
    refine S_icmp_ge 43 dX1_leave_17 (by decide) (by omega) (fun c_17 => absurd c_17 (by omega)) (fun c_17 => ?_)
    refine S_aload_n dX1_leave_20 rfl ?_
    refine S_getP (o := some (10, e)) fl_X1_27 dX1_leave_21 rfl rfl (by rw [(show M.P (7, e) 14 = some (10, e) from congrFun (hE.1 e (by omega)).2.2 14)]) ?_
    refine S_aload_n dX1_leave_24 rfl ?_
    refine S_getI (v := ↑lf) fl_X1_37 dX1_leave_25 rfl rfl (by rw [(show M.I (7, e) 15 = ↑lf from (show M.I (7, e) 15 = ρ.2 23 e from congrFun (hE.1 e (by omega)).2.1 15).trans h23)]) ?_
    refine S_aload_n dX1_leave_28 rfl ?_
    refine S_getI (v := ρ.2 19 e) fl_X1_17 dX1_leave_29 rfl rfl (by rw [(show M.I (7, e) 8 = ρ.2 19 e from (congrFun (hE.1 e (by omega)).2.1 8).trans ((if_pos hst)))]) ?_
    refine S_iast lf dX1_leave_32 rfl rfl (by rw [(show M.len (10, e) = some 300 from (hI e (by omega)).1)]) (by omega) (by omega) ?_
    refine Sf.nm (fun M1 hM1 => ?_)
    obtain ⟨ρ2, e2⟩ : ∃ x : RS, x = (ρ.setA 24 ((600 * e + lf)) (ρ.2 19 e)) := ⟨_, rfl⟩
    have hCl2 : Cl (Y.1, Y.2, sc, kn) ρ2 M1 := (by rw [e2, hM1]; exact hCl.lef e lf (by omega) (ρ.2 19 e) hb)
    have hS2 : StpOK sc kn ρ2 := (by rw [e2]; exact hS)
    have hF2 : Fr CLs M M1 := (by rw [hM1]; exact hF0.trans (Fr.pI 10 e (by decide)))
    have hB2 : Bg 0 0 M M1 := (by rw [hM1]; exact (hB0.trans (Bg.pI _ _ _ _)).le (by omega) (by omega))
    have s4_2 : ρ2.1 4 = ρ.1 4 := (by rw [e2, RS.setA_s])
    have s30_2 : ρ2.1 30 = ρ.1 30 := (by rw [e2, RS.setA_s])
    have t_2 : thN ρ2 = thN ρ := by rw [e2]; rfl
    obtain ⟨hA, hB, hC, hD, hE, hN, hG, hH, hI, hJ, hK, hL⟩ := id hCl2
    refine S_aload_n dX1_leave_33 rfl ?_
    refine S_dup dX1_leave_34 ?_
    refine S_getI (v := ↑lf) fl_X1_37 dX1_leave_35 rfl rfl (by rw [(show M1.I (7, e) 15 = ↑lf from (show M1.I (7, e) 15 = ρ2.2 23 e from congrFun (hE.1 e (by omega)).2.1 15).trans (by rw [e2, RS.setA_ne (Or.inl (by decide)), h23]))]) ?_
    refine S_iconst dX1_leave_38 ?_
    refine S_iadd dX1_leave_39 ?_
    rw [show ((↑lf + 1 : Int)) = ↑(lf + 1) from rfl]
    refine S_putI fl_X1_37 dX1_leave_40 rfl rfl rfl  (Or.inl rfl) ?_
    refine Sf.nm (fun M3 hM3 => ?_)
    obtain ⟨ρ4, e4⟩ : ∃ x : RS, x = (ρ2.setA 23 e (↑(lf + 1))) := ⟨_, rfl⟩
    have hCl4 : Cl (Y.1, Y.2, sc, kn) ρ4 M3 := (by rw [e4, hM3]; exact hCl2.e23 e (by omega) ↑(lf + 1) (fun i hi => by
          by_cases hil : i = lf
          · rw [hil, e2, RS.setA_eq, hM1]; exact Mem.putI_eq
          · exact (hI e (by omega)).2 i (by rw [e2, RS.setA_ne (Or.inl (by decide)), h23]; omega)))
    have hS4 : StpOK sc kn ρ4 := (by rw [e4]; exact hS2)
    have hF4 : Fr CLs M M3 := (by rw [hM3]; exact hF2.trans (Fr.pI 7 e (by decide)))
    have hB4 : Bg 0 0 M M3 := (by rw [hM3]; exact (hB2.trans (Bg.pI _ _ _ _)).le (by omega) (by omega))
    have s4_4 : ρ4.1 4 = ρ.1 4 := (by rw [e4, RS.setA_s, e2, RS.setA_s])
    have s30_4 : ρ4.1 30 = ρ.1 30 := (by rw [e4, RS.setA_s, e2, RS.setA_s])
    have t_4 : thN ρ4 = thN ρ2 := by rw [e4]; rfl
    obtain ⟨hA, hB, hC, hD, hE, hN, hG, hH, hI, hJ, hK, hL⟩ := id hCl4
    exact S_vret dX1_leave_43 rfl (by have e9 : leR ρ e = ρ4 := (by unfold leR; rw [if_neg (by omega), h23, Int.toNat_natCast]; subst_vars; rfl); rw [e9]; exact ⟨rfl, ⟨sc, kn, hS4, hCl4⟩, hF4, hB4⟩)
set_option maxRecDepth 100000 in
theorem lp_hasLeft {G : Ge} {X : Gh} {ρ : RS} {M : Mem} (hCl : Cl X ρ M) (e n : Nat) (p : Int) (he : (e : Int) < 2 * ρ.1 4) (h23 : ρ.2 23 e = ↑n) (hn : n ≤ 300) (hp : -2147483648 ≤ p ∧ p < 2147483648) (hr : ∀ k, k < n → -1 ≤ ρ.2 24 (600 * e + k) ∧ ρ.2 24 (600 * e + k) ≤ 10007) : ∀ (d : Nat) (k : Nat), k + d = n → (∀ j, j < k → ρ.2 24 (600 * e + j) ≠ p) → Sf G mi_X1_hasLeft (fun v' M' => (v' = some (vI 1) ∧ lefB ρ e p n = true ∨ v' = some (vI 0) ∧ lefB ρ e p n = false) ∧ M' = M) 2 [some (vR ((7, e))), some (vI p), some (vI (↑k))] [] M := by
  intro d
  induction d with
  | zero =>
    intro k hk hno
    obtain ⟨hA, hB, hC, hD, hE, hN, hG, hH, hI, hJ, hK, hL⟩ := id hCl
    refine S_iload_n dX1_hasLeft_2 rfl ?_
    refine S_aload_n dX1_hasLeft_3 rfl ?_
    refine S_getI (v := ↑n) fl_X1_37 dX1_hasLeft_4 rfl rfl (by rw [(show M.I (7, e) 15 = ↑n from (show M.I (7, e) 15 = ρ.2 23 e from congrFun (hE.1 e (by omega)).2.1 15).trans h23)]) ?_
    refine S_icmp_ge 28 dX1_hasLeft_7 (by decide) (by omega) (fun c_7 => ?_) (fun c_7 => absurd c_7 (by omega))
    refine S_iconst dX1_hasLeft_28 ?_
    exact S_iret dX1_hasLeft_29 rfl (Or.inr ⟨rfl, by omega⟩) ⟨Or.inr ⟨rfl, by
      cases hq : lefB ρ e p n with
      | false => rfl
      | true =>
        obtain ⟨j, hj1, hj2⟩ := (lefB_iff ρ e p n).mp hq
        exact absurd hj2 (hno j (by omega))⟩, rfl⟩
  | succ d ih =>
    intro k hk hno
    obtain ⟨hA, hB, hC, hD, hE, hN, hG, hH, hI, hJ, hK, hL⟩ := id hCl
    have hrk := hr k (by omega)
    refine S_iload_n dX1_hasLeft_2 rfl ?_
    refine S_aload_n dX1_hasLeft_3 rfl ?_
    refine S_getI (v := ↑n) fl_X1_37 dX1_hasLeft_4 rfl rfl (by rw [(show M.I (7, e) 15 = ↑n from (show M.I (7, e) 15 = ρ.2 23 e from congrFun (hE.1 e (by omega)).2.1 15).trans h23)]) ?_
    refine S_icmp_ge 28 dX1_hasLeft_7 (by decide) (by omega) (fun c_7 => absurd c_7 (by omega)) (fun c_7 => ?_)
    refine S_aload_n dX1_hasLeft_10 rfl ?_
    refine S_getP (o := some (10, e)) fl_X1_27 dX1_hasLeft_11 rfl rfl (by rw [(show M.P (7, e) 14 = some (10, e) from congrFun (hE.1 e (by omega)).2.2 14)]) ?_
    refine S_iload_n dX1_hasLeft_14 rfl ?_
    refine S_iald (v := ρ.2 24 ((600 * e + k))) k dX1_hasLeft_15 rfl rfl (by rw [(show M.len (10, e) = some 300 from (hI e (by omega)).1)]) (by omega) (by omega) (by rw [(show M.I (10, e) k = ρ.2 24 ((600 * e + k)) from ((hI e (by omega)).2 k (by rw [h23]; omega)))]) ?_
    refine S_iload_n dX1_hasLeft_16 rfl ?_
    refine S_icmp_ne 22 dX1_hasLeft_17 (by decide) (by omega) (fun c_17 => ?_) (fun c_17 => ?_)
    · refine S_iinc dX1_hasLeft_22 rfl (by decide) ?_
      rw [show ((↑k) + 1 : Int) = ↑(k + 1) from rfl]
      refine S_goto 2 dX1_hasLeft_25 (by decide) ?_
      exact ih (k + 1) (by omega) (fun j hj => by
        by_cases hjk : j = k
        · rw [hjk]; exact c_17
        · exact hno j (by omega))
    · refine S_iconst dX1_hasLeft_20 ?_
      exact S_iret dX1_hasLeft_21 rfl (Or.inr ⟨rfl, by omega⟩) ⟨Or.inl ⟨rfl, (lefB_iff ρ e p n).mpr ⟨k, by omega, by omega⟩⟩, rfl⟩
set_option maxRecDepth 100000 in
theorem c_hasLeft {G : Ge} {M : Mem} {X : Gh} {ρ : RS} (hCl : Cl X ρ M) (e n : Nat) (p : Int) (he : (e : Int) < 2 * ρ.1 4) (h23 : ρ.2 23 e = ↑n) (hn : n ≤ 300) (hp : -2147483648 ≤ p ∧ p < 2147483648) (hr : ∀ k, k < n → -1 ≤ ρ.2 24 (600 * e + k) ∧ ρ.2 24 (600 * e + k) ≤ 10007) : Ct G mi_X1_hasLeft [vR ((7, e)), vI p] M (fun v' M' => (v' = some (vI 1) ∧ lefB ρ e p n = true ∨ v' = some (vI 0) ∧ lefB ρ e p n = false) ∧ M' = M) := by
  refine Ct.of pl_X1_hasLeft [some (vR ((7, e))), some (vI p), none] rfl (Nat.le_of_ble_eq_true rfl) ?_
  refine S_iconst dX1_hasLeft_0 ?_
  refine S_istore_n dX1_hasLeft_1 (by decide) ?_
  exact lp_hasLeft hCl e n p he h23 hn hp hr n 0 (by omega) (fun j hj => absurd hj (by omega))
set_option maxRecDepth 100000 in
theorem lp_keptFor {G : Ge} {X : Gh} {ρ : RS} {M : Mem} (hCl : Cl X ρ M) (e l n : Nat) (he : (e : Int) < 2 * ρ.1 4) (he12 : e < 12) (hl : (l : Int) < ρ.1 30) (h25 : ρ.2 25 e = ↑n) (hn : n ≤ 12) (hKo : KOK ρ) (h32 : 0 ≤ ρ.2 32 l ∧ ρ.2 32 l ≤ 10007) (h34 : 0 ≤ ρ.2 34 l ∧ ρ.2 34 l ≤ 600) : ∀ (d : Nat) (i : Nat), i + d = n → Sf G mi_X1_keptFor (fun v' M' => v' = some (vI (kptF ρ e l d i)) ∧ M' = M) 2 [some (vR ((7, e))), some (vR ((12, l))), some (vI (↑i))] [] M := by
  intro d
  induction d with
  | zero =>
    intro i hi
    obtain ⟨hA, hB, hC, hD, hE, hN, hG, hH, hI, hJ, hK, hL⟩ := id hCl
    refine S_iload_n dX1_keptFor_2 rfl ?_
    refine S_aload_n dX1_keptFor_3 rfl ?_
    refine S_getI (v := ↑n) fl_X1_40 dX1_keptFor_4 rfl rfl (by rw [(show M.I (7, e) 13 = ↑n from (show M.I (7, e) 13 = ρ.2 25 e from congrFun (hE.1 e (by omega)).2.1 13).trans h25)]) ?_
    refine S_icmp_ge 50 dX1_keptFor_7 (by decide) (by omega) (fun c_7 => ?_) (fun c_7 => absurd c_7 (by omega))
    refine S_iconst dX1_keptFor_50 ?_
    exact S_iret dX1_keptFor_51 rfl (Or.inl rfl) ⟨rfl, rfl⟩
  | succ d ih =>
    intro i hi
    obtain ⟨hA, hB, hC, hD, hE, hN, hG, hH, hI, hJ, hK, hL⟩ := id hCl
    obtain ⟨m, kk, q1, q2, q3, q4⟩ := (hH.1 e he).2 i (by omega)
    have hKi := hKo.2 (12 * e + i) (by omega)
    refine S_iload_n dX1_keptFor_2 rfl ?_
    refine S_aload_n dX1_keptFor_3 rfl ?_
    refine S_getI (v := ↑n) fl_X1_40 dX1_keptFor_4 rfl rfl (by rw [(show M.I (7, e) 13 = ↑n from (show M.I (7, e) 13 = ρ.2 25 e from congrFun (hE.1 e (by omega)).2.1 13).trans h25)]) ?_
    refine S_icmp_ge 50 dX1_keptFor_7 (by decide) (by omega) (fun c_7 => absurd c_7 (by omega)) (fun c_7 => ?_)
    refine S_aload_n dX1_keptFor_10 rfl ?_
    refine S_getP (o := some (9, e)) fl_X1_23 dX1_keptFor_11 rfl rfl (by rw [(show M.P (7, e) 12 = some (9, e) from congrFun (hE.1 e (by omega)).2.2 12)]) ?_
    refine S_iload_n dX1_keptFor_14 rfl ?_
    refine S_aald (o := some (19, m)) i dX1_keptFor_15 rfl (by decide) rfl (by rw [(show M.len (9, e) = some 12 from (hH.1 e (by omega)).1)]) (by omega) (by omega) (by rw [q1]) ?_
    refine S_getI (v := ρ.2 26 (12 * e + i)) fl_X1_47 dX1_keptFor_16 rfl rfl (by rw [(show M.I (19, m) 9 = ρ.2 26 (12 * e + i) from congrFun q4.2.1 9)]) ?_
    refine S_aload_n dX1_keptFor_19 rfl ?_
    refine S_callV (mi := mi_X1_keptFor) [] ok_X2_from ml_X1_48 dX1_keptFor_20 rfl (by decide) rfl (by decide) rfl (Nat.le_of_ble_eq_true rfl) rfl (c_from hCl l hl) ?_
    rintro v' M1 ⟨rfl, hM1⟩
    rw [hM1]
    clear hM1
    refine S_icmp_ne 44 dX1_keptFor_23 (by decide) (by omega) (fun c_23 => ?_) (fun c_23 => ?_)
    · refine S_iinc dX1_keptFor_44 rfl (by decide) ?_
      rw [show ((↑i) + 1 : Int) = ↑(i + 1) from rfl]
      refine S_goto 2 dX1_keptFor_47 (by decide) ?_
      have e9 : kptF ρ e l (d + 1) i = kptF ρ e l d (i + 1) := if_neg (by omega)
      rw [e9]
      exact ih (i + 1) (by omega)
    · refine S_aload_n dX1_keptFor_26 rfl ?_
      refine S_getP (o := some (9, e)) fl_X1_23 dX1_keptFor_27 rfl rfl (by rw [(show M.P (7, e) 12 = some (9, e) from congrFun (hE.1 e (by omega)).2.2 12)]) ?_
      refine S_iload_n dX1_keptFor_30 rfl ?_
      refine S_aald (o := some (19, m)) i dX1_keptFor_31 rfl (by decide) rfl (by rw [(show M.len (9, e) = some 12 from (hH.1 e (by omega)).1)]) (by omega) (by omega) (by rw [q1]) ?_
      refine S_getI (v := ρ.2 27 (12 * e + i)) fl_X1_53 dX1_keptFor_32 rfl rfl (by rw [(show M.I (19, m) 10 = ρ.2 27 (12 * e + i) from congrFun q4.2.1 10)]) ?_
      refine S_aload_n dX1_keptFor_35 rfl ?_
      refine S_callV (mi := mi_X1_keptFor) [] ok_X2_place ml_X1_56 dX1_keptFor_36 rfl (by decide) rfl (by decide) rfl (Nat.le_of_ble_eq_true rfl) rfl (c_place hCl l hl) ?_
      rintro v' M2 ⟨rfl, hM2⟩
      rw [hM2]
      clear hM2
      refine S_icmp_ne 44 dX1_keptFor_39 (by decide) (by omega) (fun c_39 => ?_) (fun c_39 => ?_)
      · refine S_iinc dX1_keptFor_44 rfl (by decide) ?_
        rw [show ((↑i) + 1 : Int) = ↑(i + 1) from rfl]
        refine S_goto 2 dX1_keptFor_47 (by decide) ?_
        have e9 : kptF ρ e l (d + 1) i = kptF ρ e l d (i + 1) := if_neg (by omega)
        rw [e9]
        exact ih (i + 1) (by omega)
      · refine S_iload_n dX1_keptFor_42 rfl ?_
        exact S_iret dX1_keptFor_43 rfl (Or.inl rfl) (by have e9 : kptF ρ e l (d + 1) i = ↑i := if_pos (by omega); rw [e9]; exact ⟨rfl, rfl⟩)
set_option maxRecDepth 100000 in
theorem c_keptFor {G : Ge} {M : Mem} {X : Gh} {ρ : RS} (hCl : Cl X ρ M) (e l n : Nat) (he : (e : Int) < 2 * ρ.1 4) (he12 : e < 12) (hl : (l : Int) < ρ.1 30) (h25 : ρ.2 25 e = ↑n) (hn : n ≤ 12) (hKo : KOK ρ) (h32 : 0 ≤ ρ.2 32 l ∧ ρ.2 32 l ≤ 10007) (h34 : 0 ≤ ρ.2 34 l ∧ ρ.2 34 l ≤ 600) : Ct G mi_X1_keptFor [vR ((7, e)), vR ((12, l))] M (fun v' M' => v' = some (vI (kptF ρ e l n 0)) ∧ M' = M) := by
  refine Ct.of pl_X1_keptFor [some (vR ((7, e))), some (vR ((12, l))), none] rfl (Nat.le_of_ble_eq_true rfl) ?_
  refine S_iconst dX1_keptFor_0 ?_
  refine S_istore_n dX1_keptFor_1 (by decide) ?_
  exact lp_keptFor hCl e l n he he12 hl h25 hn hKo h32 h34 n 0 (by omega)
