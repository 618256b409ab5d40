/-! THE CLASS: what an end holds is seen -/
theorem Cl.same4 {X X' : Gh} {ρ σ : RS} {M M' : Mem} (h : Cl X ρ M) (hX : X'.1 = X.1) (hF : Fr [3, 18] M M') (s1 : ∀ k, k ≠ 45 → σ.1 k = ρ.1 k) (sa : ∀ k j, k ≠ 10 → k ≠ 11 → σ.2 k j = ρ.2 k j) (hC' : KC X' σ M') (hD' : KD X' σ M') : Cl X' σ M' := by
  obtain ⟨hA, hB, hC, hD, hE, hN, hG, hH, hI, hJ, hK, hL⟩ := h
  have e4 : σ.1 4 = ρ.1 4 := s1 4 (by decide)
  have e5 : thN σ = thN ρ := congrArg Int.toNat (s1 5 (by decide))
  refine ⟨?_, ?_, hC', hD', ?_, ?_, ?_, ?_, ?_, ?_, ?_, ?_⟩
  · show Obj M' (1, 0) [0, 0, 0, 0, 0, 0, 2 * σ.1 4, σ.1 30, σ.1 2, σ.1 3, σ.1 42] pQ
    rw [s1 4 (by decide), s1 30 (by decide), s1 2 (by decide), s1 3 (by decide), s1 42 (by decide)]
    exact hA.fr hF (by decide)
  · show Obj M' (2, 0) [σ.1 0, σ.1 1] []
    rw [s1 0 (by decide), s1 1 (by decide)]
    exact hB.fr hF (by decide)
  · have q := hE.fr hF (by decide) (by decide) (by decide) (by decide)
    refine ⟨fun e he => ?_, fun e he => q.2 e (by omega)⟩
    rw [hX]
    exact (q.1 e (by omega)).cg (eL_cg2 (fun k h1 h2 h3 => sa k e (by omega) (by omega))) (eQ_cg2 (fun k h1 h2 h3 => sa k e (by omega) (by omega)))
  · exact ⟨(hF (6, 0) (by decide)).1.trans hN.1, fun e he => (hF.P (6, 0) (by decide)).trans (hN.2 e (by omega))⟩
  · intro e he
    have q := hG.fr hF (by decide) e (by omega)
    exact ⟨q.1, fun i hi => by rw [sa 12 e (by decide) (by decide)] at hi; rw [sa 13 _ (by decide) (by decide)]; exact q.2 i hi⟩
  · have q := hH.fr hF (by decide) (by decide)
    refine ⟨fun e he => ⟨(q.1 e (by omega)).1, fun i hi => ?_⟩, q.2⟩
    rw [sa 25 e (by decide) (by decide)] at hi
    obtain ⟨n, kk, q1, q2, q3, q4⟩ := (q.1 e (by omega)).2 i hi
    refine ⟨n, kk, q1, by rw [sa 28 _ (by decide) (by decide)]; exact q2, by omega, ?_⟩
    rw [sa 26 _ (by decide) (by decide), sa 27 _ (by decide) (by decide), sa 29 _ (by decide) (by decide), sa 9 _ (by decide) (by decide)]
    exact q4
  · intro e he
    have q := hI.fr hF (by decide) e (by omega)
    exact ⟨q.1, fun i hi => by rw [sa 23 e (by decide) (by decide)] at hi; rw [sa 24 _ (by decide) (by decide)]; exact q.2 i hi⟩
  · have q := hJ.fr hF (by decide) (by decide) (by decide)
    refine ⟨q.1, fun l hl => ?_, fun l hl => q.2.2 l (by rw [← s1 30 (by decide)]; exact hl)⟩
    obtain ⟨q1, q2, q3, q4⟩ := q.2.1 l (by rw [← s1 30 (by decide)]; exact hl)
    refine ⟨q1, q2.cg ?_ ?_, q3, ?_⟩
    · show [ρ.2 31 l, 0, 0, 0, ρ.2 35 l, ρ.2 36 l] = [σ.2 31 l, 0, 0, 0, σ.2 35 l, σ.2 36 l]
      rw [sa 31 l (by decide) (by decide), sa 35 l (by decide) (by decide), sa 36 l (by decide) (by decide)]
    · show [none, qx (ρ.2 38 l), qx (ρ.2 37 l), some (13, l)] = [none, qx (σ.2 38 l), qx (σ.2 37 l), some (13, l)]
      rw [sa 38 l (by decide) (by decide), sa 37 l (by decide) (by decide)]
    · rw [sa 32 l (by decide) (by decide), sa 33 l (by decide) (by decide), sa 34 l (by decide) (by decide)]
      exact q4
  · have q := hK.fr hF (by decide) (by decide) (by decide)
    refine ⟨q.1, fun i hi => ?_⟩
    obtain ⟨q1, o1, o2, q2, q3⟩ := q.2 i hi
    refine ⟨q1, o1, o2, q2, ?_⟩
    rcases q3 with u | ⟨u1, u2, j, u3, u4, u5⟩ | ⟨u1, u2, n, kk, u3, u4, u5, fr, p, u6⟩ | ⟨u1, t9, u2, u3, u4, u5⟩
    · exact Or.inl (by rw [sa 39 i (by decide) (by decide)]; exact u)
    · exact Or.inr (Or.inl ⟨by rw [sa 39 i (by decide) (by decide)]; exact u1, u2, j, u3, by rw [sa 40 i (by decide) (by decide)]; exact u4, by rw [s1 30 (by decide)]; exact u5⟩)
    · refine Or.inr (Or.inr (Or.inl ⟨by rw [sa 39 i (by decide) (by decide)]; exact u1, u2, n, kk, u3, by rw [sa 40 i (by decide) (by decide)]; exact u4, by omega, fr, p, ?_⟩))
      rw [sa 41 i (by decide) (by decide), sa 9 kk (by decide) (by decide)]
      exact u6
    · exact Or.inr (Or.inr (Or.inr ⟨u1, t9, u2, by rw [sa 40 i (by decide) (by decide)]; exact u3, by omega, by rw [sa 39 i (by decide) (by decide), sa 6 t9 (by decide) (by decide)]; exact u5⟩))
  · have q := hL.fr hF (by decide) (by decide)
    refine ⟨?_, q.2.1, fun i hi => ?_⟩
    · rw [s1 44 (by decide)]; exact q.1
    · rw [s1 44 (by decide)] at hi
      rw [sa 43 i (by decide) (by decide)]
      exact q.2.2 i hi
theorem Cl.cg11 {X : Gh} {ρ σ : RS} {M : Mem} (h : Cl X ρ M) (s1 : ∀ k, k ≠ 45 → σ.1 k = ρ.1 k) (sa : ∀ k j, k ≠ 11 → σ.2 k j = ρ.2 k j) : Cl X σ M := by
  have e5 : thN σ = thN ρ := congrArg Int.toNat (s1 5 (by decide))
  have hC := h.2.2.1
  have hD := h.2.2.2.1
  refine h.same4 rfl (Fr.rf _ M) s1 (fun k j _ h2 => sa k j h2) ⟨hC.1, by rw [e5]; exact hC.2.1, hC.2.2⟩ ?_
  exact hD.fr2 (cs := []) (Fr.rf _ M) (by decide) (s1 5 (by decide)) (fun t => ⟨sa 6 t (by decide), sa 7 t (by decide), sa 8 t (by decide), sa 9 t (by decide), sa 10 t (by decide)⟩)
theorem Cl.show1 {st par : Nat → Bool} {sc : Nat → Int} {kn : Int} {ρ : RS} {M : Mem} (h : Cl (st, par, sc, kn) ρ M) (t : Nat) (ht : t < thN ρ) : Cl (st, par, sc, kn) (ρ.setA 10 t 1) (M.putI (18, t) 6 1) := by
  have hx : Fx (18, t) M (M.putI (18, t) 6 1) := Fx.pI
  have hF : Fr [18] M (M.putI (18, t) 6 1) := hx.fr (by decide)
  have hC := h.2.2.1
  have hD := h.2.2.2.1
  have sa : ∀ k j, k ≠ 10 → (ρ.setA 10 t 1).2 k j = ρ.2 k j := fun k j hk => RS.setA_ne (Or.inl hk)
  refine h.same4 rfl (hx.fr (by decide)) (fun _ _ => rfl) (fun k j hk _ => sa k j hk) (hC.fr hF (by decide) (by decide) (by decide) (by decide)) ⟨fun s hs => ?_, fun s hs => hD.2 s hs⟩
  have hc : ∀ s, cOf par (ρ.setA 10 t 1) s = cOf par ρ s := fun s => cOf_cg (sa 6 s (by decide)) (sa 7 s (by decide)) (sa 8 s (by decide))
  have hw : ∀ s, cWi par (ρ.setA 10 t 1) s = cWi par ρ s := fun s => cWi_cg (sa 6 s (by decide)) (sa 7 s (by decide)) (sa 8 s (by decide))
  have q := hD.1 s hs
  show Obj _ (18, s) (tL (fun k => (ρ.setA 10 t 1).2 k s) (sc s)) (tQ (qx (cOf par (ρ.setA 10 t 1) s)) (qx (cWi par (ρ.setA 10 t 1) s)) (qx (prC par (ρ.setA 10 t 1) (thN ρ) ↑s)) (bsC par (ρ.setA 10 t 1) s))
  rw [hc s, hw s, prC_cg (thN ρ) _ (fun s _ => hc s), bsC_cg (fun s _ => hc s)]
  by_cases hst : s = t
  · subst hst
    refine (q.putI (k := 6) (v := 1) (show 6 < 8 by decide)).cg ?_ rfl
    show [ρ.2 6 s, ρ.2 9 s, 0, 0, 0, 0, 1, sc s] = [(ρ.setA 10 s 1).2 6 s, (ρ.setA 10 s 1).2 9 s, 0, 0, 0, 0, (ρ.setA 10 s 1).2 10 s, sc s]
    rw [sa 6 s (by decide), sa 9 s (by decide), RS.setA_eq]
  · refine (q.at (hx (18, s) (rni hst))).cg ?_ rfl
    show [ρ.2 6 s, ρ.2 9 s, 0, 0, 0, 0, ρ.2 10 s, sc s] = [(ρ.setA 10 t 1).2 6 s, (ρ.setA 10 t 1).2 9 s, 0, 0, 0, 0, (ρ.setA 10 t 1).2 10 s, sc s]
    rw [sa 6 s (by decide), sa 9 s (by decide), RS.setA_ne (Or.inr hst)]
theorem Cl.step1 {st par : Nat → Bool} {sc : Nat → Int} {kn : Int} {ρ : RS} {M : Mem} (h : Cl (st, par, sc, kn) ρ M) (t : Nat) (ht : t < thN ρ) (s : Int) : Cl (st, par, updF sc t s, kn) ρ (M.putI (18, t) 7 s) := by
  have hx : Fx (18, t) M (M.putI (18, t) 7 s) := Fx.pI
  have hF : Fr [18] M (M.putI (18, t) 7 s) := hx.fr (by decide)
  have hC := h.2.2.1
  have hD := h.2.2.2.1
  refine h.same4 (X' := (st, par, updF sc t s, kn)) rfl (hx.fr (by decide)) (fun _ _ => rfl) (fun _ _ _ _ => rfl) (KC.fr (X := (st, par, sc, kn)) hC hF (by decide) (by decide) (by decide) (by decide)) ⟨fun j hj => ?_, fun j hj => hD.2 j hj⟩
  have q := hD.1 j hj
  by_cases hjt : j = t
  · subst hjt
    refine (q.putI (k := 7) (v := s) (show 7 < 8 by decide)).cg ?_ rfl
    show [ρ.2 6 j, ρ.2 9 j, 0, 0, 0, 0, ρ.2 10 j, s] = [ρ.2 6 j, ρ.2 9 j, 0, 0, 0, 0, ρ.2 10 j, updF sc j s j]
    rw [updF_eq]
  · refine (q.at (hx (18, j) (rni hjt))).cg ?_ rfl
    show [ρ.2 6 j, ρ.2 9 j, 0, 0, 0, 0, ρ.2 10 j, sc j] = [ρ.2 6 j, ρ.2 9 j, 0, 0, 0, 0, ρ.2 10 j, updF sc t s j]
    rw [updF_ne hjt]
theorem Cl.kn1 {st par : Nat → Bool} {sc : Nat → Int} {kn : Int} {ρ : RS} {M : Mem} (h : Cl (st, par, sc, kn) ρ M) (v : Int) : Cl (st, par, sc, v) ρ (M.putI (3, 0) 2 v) := by
  have hx : Fx (3, 0) M (M.putI (3, 0) 2 v) := Fx.pI
  have hF : Fr [3] M (M.putI (3, 0) 2 v) := hx.fr (by decide)
  have hC := h.2.2.1
  have hD := h.2.2.2.1
  refine h.same4 (X' := (st, par, sc, v)) rfl (hx.fr (by decide)) (fun _ _ => rfl) (fun _ _ _ _ => rfl) ⟨hC.1.putI (k := 2) (v := v) (show 2 < 3 by decide), hC.2.1.fr hF (by decide) (by decide) (by decide), hC.2.2⟩ ?_
  exact KD.fr (X := (st, par, sc, kn)) hD hF (by decide)
theorem ssT_lt {sc sc' : Nat → Int} {ρ : RS} {t : Nat} (h : ∀ s, s < t → sc' s = sc s) (hf : -1 ≤ ρ.2 7 t ∧ ρ.2 7 t < t) (hw : -1 ≤ ρ.2 8 t ∧ ρ.2 8 t < t) : ssT sc' ρ t = ssT sc ρ t := by
  have e : ∀ x : Int, -1 ≤ x → x < t → ssV sc' x = ssV sc x := fun x h1 h2 => by
    unfold ssV
    by_cases hx : x = -1
    · rw [if_pos hx, if_pos hx]
    · rw [if_neg hx, if_neg hx, h _ (by omega)]
  unfold ssT
  rw [e _ hf.1 hf.2, e _ hw.1 hw.2]
theorem ktS_lt {sc sc' : Nat → Int} : ∀ n, (∀ s, s < n → sc' s = sc s) → ktS sc' n = ktS sc n := by
  intro n
  induction n with
  | zero => intro _; rfl
  | succ n ih =>
    intro h
    show ktS sc' n + (if sc' n ≠ -1 then 1 else 0) = ktS sc n + (if sc n ≠ -1 then 1 else 0)
    rw [ih (fun s hs => h s (by omega)), h n (by omega)]
theorem stM_b2 {k f a b : Int} {n : Int} (ha : -1 ≤ a ∧ a ≤ n) (hb : -1 ≤ b ∧ b ≤ n) (hn : -1 ≤ n) : -1 ≤ stM k f a b ∧ stM k f a b ≤ n := by
  unfold stM
  repeat' split
  all_goals omega
theorem ssT_bd {sc : Nat → Int} {ρ : RS} {t : Nat} (h : ∀ s, s < t → -1 ≤ sc s ∧ sc s ≤ s) (hf : -1 ≤ ρ.2 7 t ∧ ρ.2 7 t < t) (hw : -1 ≤ ρ.2 8 t ∧ ρ.2 8 t < t) : -1 ≤ ssT sc ρ t ∧ ssT sc ρ t ≤ t := by
  have e : ∀ x : Int, -1 ≤ x → x < t → -1 ≤ ssV sc x ∧ ssV sc x ≤ (t : Int) - 1 := fun x h1 h2 => by
    unfold ssV
    by_cases hx : x = -1
    · rw [if_pos hx]; omega
    · rw [if_neg hx]
      have := h x.toNat (by omega)
      omega
  have q := stM_b2 (k := ρ.2 6 t) (f := ρ.2 7 t) (e _ hf.1 hf.2) (e _ hw.1 hw.2) (by omega)
  unfold ssT
  repeat' split
  all_goals omega
theorem cOf_bd {par : Nat → Bool} {ρ : RS} {N t : Nat} (hT : ThOK ρ N) (ht : t < thN ρ) : (-1 ≤ cOf par ρ t ∧ cOf par ρ t < t) ∧ -1 ≤ cWi par ρ t ∧ cWi par ρ t < t := by
  have hb := hT.2.2.2.2 t ht
  unfold cOf cWi
  constructor
  · repeat' split
    all_goals omega
  · repeat' split
    all_goals omega

set_option maxRecDepth 100000 in
theorem c_show0 {G : Ge} {M : Mem}  : Ct G mi_X5_show [vR ((3, 0)), vN] M (fun v' M' => v' = some (vI 0) ∧ M' = M) := by
  refine Ct.of pl_X5_show [some (vR ((3, 0))), some vN] rfl (Nat.le_of_ble_eq_true rfl) ?_
  refine S_aload_n dX5_show_0 rfl ?_
  refine S_ifnull 11 dX5_show_1 (by decide) (fun c_1 => ?_) (fun c_1 => absurd c_1 (by simp))
  refine S_iconst dX5_show_11 ?_
  exact S_iret dX5_show_12 rfl (Or.inl rfl) ⟨rfl, rfl⟩
set_option maxRecDepth 100000 in
theorem c_showY {G : Ge} {M : Mem} {st par : Nat → Bool} {sc : Nat → Int} {kn : Int} {ρ : RS} (hCl : Cl (st, par, sc, kn) ρ M) (t : Nat) (ht : t < thN ρ) (hsh : ρ.2 10 t = 1) : Ct G mi_X5_show [vR ((3, 0)), vR ((18, t))] M (fun v' M' => v' = some (vI 0) ∧ M' = M) := by
  refine Ct.of pl_X5_show [some (vR ((3, 0))), some (vR ((18, t)))] rfl (Nat.le_of_ble_eq_true rfl) ?_
  obtain ⟨hA, hB, hC, hD, hE, hN, hG, hH, hI, hJ, hK, hL⟩ := id hCl
  refine S_aload_n dX5_show_0 rfl ?_
  refine S_ifnull 11 dX5_show_1 (by decide) (fun c_1 => absurd c_1 (by simp)) (fun c_1 => ?_)
  refine S_aload_n dX5_show_4 rfl ?_
  refine S_getI (v := 1) fl_X5_76 dX5_show_5 rfl rfl (by rw [(show M.I (18, t) 6 = 1 from (congrFun (hD.1 t ht).2.1 6).trans hsh)]) ?_
  refine S_if_eq 13 dX5_show_8 (by decide) (by omega) (fun c_8 => absurd c_8 (by omega)) (fun c_8 => ?_)
  refine S_iconst dX5_show_11 ?_
  exact S_iret dX5_show_12 rfl (Or.inl rfl) ⟨rfl, rfl⟩
set_option maxRecDepth 100000 in
theorem c_showN {G : Ge} {M : Mem} {st par : Nat → Bool} {sc : Nat → Int} {kn : Int} {ρ : RS} (hCl : Cl (st, par, sc, kn) ρ M) (t : Nat) (ht : t < thN ρ) (hsh : ρ.2 10 t = 0) : Ct G mi_X5_show [vR ((3, 0)), vR ((18, t))] M (fun v' M' => v' = some (vI 1) ∧ M' = M.putI (18, t) 6 1) := by
  refine Ct.of pl_X5_show [some (vR ((3, 0))), some (vR ((18, t)))] rfl (Nat.le_of_ble_eq_true rfl) ?_
  obtain ⟨hA, hB, hC, hD, hE, hN, hG, hH, hI, hJ, hK, hL⟩ := id hCl
  refine S_aload_n dX5_show_0 rfl ?_
  refine S_ifnull 11 dX5_show_1 (by decide) (fun c_1 => absurd c_1 (by simp)) (fun c_1 => ?_)
  refine S_aload_n dX5_show_4 rfl ?_
  refine S_getI (v := 0) fl_X5_76 dX5_show_5 rfl rfl (by rw [(show M.I (18, t) 6 = 0 from (congrFun (hD.1 t ht).2.1 6).trans hsh)]) ?_
  refine S_if_eq 13 dX5_show_8 (by decide) (by omega) (fun c_8 => ?_) (fun c_8 => absurd c_8 (by omega))
  refine S_aload_n dX5_show_13 rfl ?_
  refine S_iconst dX5_show_14 ?_
  refine S_putI fl_X5_76 dX5_show_15 rfl rfl rfl  (Or.inr ⟨rfl, by omega⟩) ?_
  refine Sf.nm (fun M1 hM1 => ?_)
  refine S_iconst dX5_show_18 ?_
  exact S_iret dX5_show_19 rfl (Or.inl rfl) ⟨rfl, hM1⟩
theorem c_show {G : Ge} {M : Mem} {st par : Nat → Bool} {sc : Nat → Int} {kn : Int} {ρ : RS} (hCl : Cl (st, par, sc, kn) ρ M) (v : Int) (hv : v = -1 ∨ (0 ≤ v ∧ v < thN ρ)) (hsh : ShOK ρ (thN ρ)) : Ct G mi_X5_show [vR (3, 0), vQ (qx v)] M (fun v' M' => v' = some (vI ((shR ρ v).1 45 - ρ.1 45)) ∧ Cl (st, par, sc, kn) (shR ρ v) M' ∧ Fr CLs M M' ∧ Bg 0 0 M M') := by
  by_cases h1 : v = -1
  · have e1 : shR ρ v = ρ.setS 45 (ρ.1 45 + 0) := if_pos h1
    rw [e1, RS.setS_eq, h1, qx_no]
    refine Ct.imp (fun v' M' h => ?_) c_show0
    obtain ⟨rfl, rfl⟩ := h
    exact ⟨by rw [show ρ.1 45 + 0 - ρ.1 45 = 0 by omega], hCl.cg11 (fun k hk => RS.setS_ne hk) (fun _ _ _ => rfl), Fr.rf _ _, Bg.rf _⟩
  · obtain ⟨t, rfl⟩ : ∃ t : Nat, v = ↑t := ⟨v.toNat, by omega⟩
    have ht : t < thN ρ := by omega
    have e1 : shR ρ ↑t = (ρ.setS 45 (ρ.1 45 + (if ρ.2 10 t = 0 then 1 else 0))).setA 10 t 1 := by
      unfold shR
      rw [if_neg h1, Int.toNat_natCast]
    rw [qx_nat, e1]
    rcases hsh t ht with h0 | h0
    · rw [h0, if_pos rfl, show ((ρ.setS 45 (ρ.1 45 + 1)).setA 10 t 1).1 45 = ρ.1 45 + 1 from by rw [RS.setA_s, RS.setS_eq], show ρ.1 45 + 1 - ρ.1 45 = 1 by omega]
      refine Ct.imp (fun v' M' h => ?_) (c_showN hCl t ht h0)
      obtain ⟨rfl, rfl⟩ := h
      have q := hCl.show1 t ht
      exact ⟨rfl, q.cg11 (fun k hk => by rw [RS.setA_s, RS.setA_s]; exact RS.setS_ne hk) (fun k j _ => rfl), Fr.pI 18 t (by decide), Bg.pI _ _ _ _⟩
    · rw [h0, if_neg (by decide), show ((ρ.setS 45 (ρ.1 45 + 0)).setA 10 t 1).1 45 = ρ.1 45 + 0 from by rw [RS.setA_s, RS.setS_eq], show ρ.1 45 + 0 - ρ.1 45 = 0 by omega]
      refine Ct.imp (fun v' M' h => ?_) (c_showY hCl t ht h0)
      obtain ⟨rfl, rfl⟩ := h
      refine ⟨rfl, hCl.cg11 (fun k hk => by rw [RS.setA_s]; exact RS.setS_ne hk) (fun k j _ => ?_), Fr.rf _ _, Bg.rf _⟩
      by_cases hk : k = 10 ∧ j = t
      · obtain ⟨rfl, rfl⟩ := hk
        rw [RS.setA_eq, h0]
      · rw [RS.setA_ne (by omega)]
        rfl
set_option maxRecDepth 100000 in
theorem lp_settle {G : Ge} {st par : Nat → Bool} {ρ : RS} {M0 : Mem} {N : Nat} (hT : ThOK ρ N) (hNb : N < 8000) (hTK : ThK par ρ) (hShO : ShOK ρ (thN ρ)) : ∀ (d : Nat) (x2 : Option AVal) (i : Nat) (sc : Nat → Int) (kn : Int) (M : Mem), i + d = thN ρ → Cl (st, par, sc, kn) ρ M → ((∀ t, t < i → -1 ≤ sc t ∧ sc t ≤ t)) → ((∀ t, t < i → sc t = ssT sc ρ t)) → kn = ktS sc i → Fr CLs M0 M → Bg 0 0 M0 M → Sf G mi_X5_settle (fun v' M' => v' = none ∧ Cs (st, par) ρ M' ∧ Fr CLs M0 M' ∧ Bg 0 0 M0 M') 7 [some (vR ((3, 0))), some (vI (↑i)), x2] [] M := by
  intro d
  induction d with
  | zero =>
    intro x2 i sc kn M hid hCl hlo hok hkn hF0 hB0
    obtain ⟨hA, hB, hC, hD, hE, hN, hG, hH, hI, hJ, hK, hL⟩ := id hCl
    have hl8 := hT.2.1
    have hie : i = thN ρ := by omega
    refine S_iload_n dX5_settle_7 rfl ?_
    refine S_aload_n dX5_settle_8 rfl ?_
    refine S_getP (o := some (4, 0)) fl_X5_21 dX5_settle_9 rfl rfl (by rw [(show M.P (3, 0) 1 = some (4, 0) from congrFun hC.1.2.2 1)]) ?_
    refine S_callV (mi := mi_X5_settle) [] ok_Jx4a65c_size_8abf5 ml_X5_80 dX5_settle_12 rfl (by decide) rfl (by decide) rfl (Nat.le_of_ble_eq_true rfl) rfl (c_Jx4a65c_size_8abf5 (thN ρ) hC.2.1) ?_
    rintro v' M1 ⟨rfl, hM1⟩
    rw [hM1]
    clear hM1
    refine S_icmp_ge 62 dX5_settle_15 (by decide) (by omega) (fun c_15 => ?_) (fun c_15 => absurd c_15 (by omega))
    exact S_vret dX5_settle_62 rfl ⟨rfl, ⟨sc, kn, ⟨fun t ht => hok t (by omega), by rw [hkn, hie]⟩, hCl⟩, hF0, hB0⟩
  | succ d ih =>
    intro x2 i sc kn M hid hCl hlo hok hkn hF0 hB0
    obtain ⟨hA, hB, hC, hD, hE, hN, hG, hH, hI, hJ, hK, hL⟩ := id hCl
    have hl8 := hT.2.1
    refine S_iload_n dX5_settle_7 rfl ?_
    refine S_aload_n dX5_settle_8 rfl ?_
    refine S_getP (o := some (4, 0)) fl_X5_21 dX5_settle_9 rfl rfl (by rw [(show M.P (3, 0) 1 = some (4, 0) from congrFun hC.1.2.2 1)]) ?_
    refine S_callV (mi := mi_X5_settle) [] ok_Jx4a65c_size_8abf5 ml_X5_80 dX5_settle_12 rfl (by decide) rfl (by decide) rfl (Nat.le_of_ble_eq_true rfl) rfl (c_Jx4a65c_size_8abf5 (thN ρ) hC.2.1) ?_
    rintro v' M1 ⟨rfl, hM1⟩
    rw [hM1]
    clear hM1
    refine S_icmp_ge 62 dX5_settle_15 (by decide) (by omega) (fun c_15 => absurd c_15 (by omega)) (fun c_15 => ?_)
    refine S_aload_n dX5_settle_18 rfl ?_
    refine S_getP (o := some (4, 0)) fl_X5_21 dX5_settle_19 rfl rfl (by rw [(show M.P (3, 0) 1 = some (4, 0) from congrFun hC.1.2.2 1)]) ?_
    refine S_iload_n dX5_settle_22 rfl ?_
    refine S_callV (mi := mi_X5_settle) [vI (↑i)] ok_Jx4a65c_get_915e3 ml_X5_83 dX5_settle_23 rfl (by decide) rfl (by decide) rfl (Nat.le_of_ble_eq_true rfl) rfl (c_Jx4a65c_get_915e3 (thN ρ) i hC.2.1 (by omega) (by omega)) ?_
    rintro v' M2 ⟨rfl, hM2⟩
    rw [hM2]
    clear hM2
    refine S_castS (ci := 5) cl_X5_25 (by decide) dX5_settle_26 rfl ?_
    refine S_astore_n dX5_settle_29 (by decide) ?_
    refine S_aload_n dX5_settle_30 rfl ?_
    refine S_aload_n dX5_settle_31 rfl ?_
    have hti := hT.2.2.2.2 i (by omega)
    have hcb := cOf_bd (par := par) hT (show i < thN ρ by omega)
    have hfb : -1 ≤ ssV sc (ρ.2 7 i) := by
      unfold ssV
      split
      · omega
      · exact (hlo (ρ.2 7 i).toNat (by omega)).1
    have hwb : -1 ≤ ssV sc (ρ.2 8 i) := by
      unfold ssV
      split
      · omega
      · exact (hlo (ρ.2 8 i).toNat (by omega)).1
    have hss := sn_ss (par := par) (sc := sc) (hTK i (by omega)) hfb hwb
    have hsv : ∀ x : Int, -1 ≤ x → x < i → -1 ≤ ssV sc x ∧ ssV sc x ≤ 8000 := fun x h1 h2 => by
      unfold ssV
      split
      · omega
      · have := hlo x.toNat (by omega)
        omega
    have hsr : ∀ x : Int, x ≠ -1 → -1 ≤ x → x < i → M.I (18, x.toNat) 7 = ssV sc x := fun x h0 h1 h2 => by
      rw [show M.I (18, x.toNat) 7 = sc x.toNat from congrFun (hD.1 x.toNat (by omega)).2.1 7]
      unfold ssV
      rw [if_neg h0]
    refine S_callV (mi := mi_X5_settle) [] ok_X4_stepsNow ml_X5_66 dX5_settle_32 rfl (by decide) rfl (by decide) rfl (Nat.le_of_ble_eq_true rfl) rfl ((by have h := c_stepsNow (G := G) (M := M) i (ρ.2 10 i) (ρ.2 6 i) (cOf par ρ i) (cWi par ρ i) (ssV sc (cOf par ρ i)) (ssV sc (cWi par ρ i)) (congrFun (hD.1 i (by omega)).2.1 6) (congrFun (hD.1 i (by omega)).2.1 0) (congrFun (hD.1 i (by omega)).2.2 2) (congrFun (hD.1 i (by omega)).2.2 3) hcb.1.1 hcb.2.1 (fun h0 => hsr _ h0 hcb.1.1 hcb.1.2) (fun h0 => hsr _ h0 hcb.2.1 hcb.2.2) (by have := hShO i (by omega); omega) (by omega) (hsv _ hcb.1.1 hcb.1.2) (hsv _ hcb.2.1 hcb.2.2); rw [hss] at h; exact h)) ?_
    rintro v' M3 ⟨rfl, hM3⟩
    rw [hM3]
    clear hM3
    have hsb := ssT_bd (sc := sc) (ρ := ρ) (t := i) hlo hti.2.1 hti.2.2.1
    obtain ⟨s, hs9⟩ : ∃ z9 : Int, z9 = ssT sc ρ i := ⟨_, rfl⟩
    rw [← hs9] at hsb ⊢
    refine S_putI fl_X5_70 dX5_settle_35 rfl rfl rfl  (Or.inl rfl) ?_
    refine Sf.nm (fun M4 hM4 => ?_)
    have hClb : Cl (st, par, updF sc i s, kn) ρ M4 := by rw [hM4]; exact hCl.step1 i (by omega) s
    have hFb : Fr CLs M0 M4 := by rw [hM4]; exact hF0.trans (Fr.pI 18 i (by decide))
    have hBb : Bg 0 0 M0 M4 := by rw [hM4]; exact (hB0.trans (Bg.pI _ _ _ _)).le (by omega) (by omega)
    have h7 : M4.I (18, i) 7 = s := by rw [hM4]; exact Mem.putI_eq
    have h32 : M4.I (3, 0) 2 = kn := congrFun hClb.2.2.1.1.2.1 2
    refine S_aload_n dX5_settle_38 rfl ?_
    refine S_getI (v := s) fl_X5_70 dX5_settle_39 rfl rfl (by rw [h7]) ?_
    refine S_iconst dX5_settle_42 ?_
    refine S_icmp_eq 56 dX5_settle_43 (by decide) (by omega) (fun c_43 => ?_) (fun c_43 => ?_)
    · refine S_iinc dX5_settle_56 rfl (by decide) ?_
      rw [show ((↑i) + 1 : Int) = ↑(i + 1) from rfl]
      refine S_goto 7 dX5_settle_59 (by decide) ?_
      exact ih _ (i + 1) (updF sc i s) kn _ (by omega) hClb (fun t ht => (by
        by_cases hti2 : t = i
        · rw [hti2, updF_eq]; exact hsb
        · rw [updF_ne hti2]; exact hlo t (by omega))) (fun t ht => (by
        have htt := hT.2.2.2.2 t (by omega)
        rw [ssT_lt (sc := sc) (fun s2 h2 => updF_ne (by omega)) htt.2.1 htt.2.2.1]
        by_cases hti2 : t = i
        · rw [hti2, updF_eq]; exact hs9
        · rw [updF_ne hti2]; exact hok t (by omega))) (by
        show _ = ktS (updF sc i s) i + (if updF sc i s i ≠ -1 then 1 else 0)
        rw [ktS_lt (sc := sc) i (fun s2 h2 => updF_ne (by omega)), updF_eq, ← hkn]
        rw [if_neg (by omega), Int.add_zero]) hFb hBb
    · refine S_aload_n dX5_settle_46 rfl ?_
      refine S_dup dX5_settle_47 ?_
      refine S_getI (v := kn) fl_X5_73 dX5_settle_48 rfl rfl (by rw [h32]) ?_
      refine S_iconst dX5_settle_51 ?_
      refine S_iadd dX5_settle_52 ?_
      refine S_putI fl_X5_73 dX5_settle_53 rfl rfl rfl  (Or.inl rfl) ?_
      refine Sf.nm (fun M5 hM5 => ?_)
      have hClc : Cl (st, par, updF sc i s, kn + 1) ρ M5 := by rw [hM5]; exact hClb.kn1 (kn + 1)
      have hFc : Fr CLs M0 M5 := by rw [hM5]; exact hFb.trans (Fr.pI 3 0 (by decide))
      have hBc : Bg 0 0 M0 M5 := by rw [hM5]; exact (hBb.trans (Bg.pI _ _ _ _)).le (by omega) (by omega)
      refine S_iinc dX5_settle_56 rfl (by decide) ?_
      rw [show ((↑i) + 1 : Int) = ↑(i + 1) from rfl]
      refine S_goto 7 dX5_settle_59 (by decide) ?_
      exact ih _ (i + 1) (updF sc i s) (kn + 1) _ (by omega) hClc (fun t ht => (by
        by_cases hti2 : t = i
        · rw [hti2, updF_eq]; exact hsb
        · rw [updF_ne hti2]; exact hlo t (by omega))) (fun t ht => (by
        have htt := hT.2.2.2.2 t (by omega)
        rw [ssT_lt (sc := sc) (fun s2 h2 => updF_ne (by omega)) htt.2.1 htt.2.2.1]
        by_cases hti2 : t = i
        · rw [hti2, updF_eq]; exact hs9
        · rw [updF_ne hti2]; exact hok t (by omega))) (by
        show _ = ktS (updF sc i s) i + (if updF sc i s i ≠ -1 then 1 else 0)
        rw [ktS_lt (sc := sc) i (fun s2 h2 => updF_ne (by omega)), updF_eq, ← hkn]
        rw [if_pos (by omega)]) hFc hBc
set_option maxRecDepth 100000 in
theorem c_settle {G : Ge} {M : Mem} {st par : Nat → Bool} {ρ : RS} {sc : Nat → Int} {kn : Int} (hCl : Cl (st, par, sc, kn) ρ M) {N : Nat} (hT : ThOK ρ N) (hNb : N < 8000) (hTK : ThK par ρ) (hShO : ShOK ρ (thN ρ)) : Ct G mi_X5_settle [vR ((3, 0))] M (fun v' M' => v' = none ∧ Cs (st, par) ρ M' ∧ Fr CLs M M' ∧ Bg 0 0 M M') := by
  refine Ct.of pl_X5_settle [some (vR ((3, 0))), none, none] rfl (Nat.le_of_ble_eq_true rfl) ?_
  refine S_aload_n dX5_settle_0 rfl ?_
  refine S_iconst dX5_settle_1 ?_
  refine S_putI fl_X5_73 dX5_settle_2 rfl rfl rfl  (Or.inl rfl) ?_
  refine Sf.nm (fun M1 hM1 => ?_)
  have hCl0 : Cl (st, par, sc, 0) ρ M1 := by rw [hM1]; exact hCl.kn1 0
  have hF1 : Fr CLs M M1 := by rw [hM1]; exact Fr.pI 3 0 (by decide)
  have hB1 : Bg 0 0 M M1 := by rw [hM1]; exact Bg.pI _ _ _ _
  refine S_iconst dX5_settle_5 ?_
  refine S_istore_n dX5_settle_6 (by decide) ?_
  exact lp_settle hT hNb hTK hShO (thN ρ) none 0 sc 0 M1 (by omega) hCl0 (fun t ht => absurd ht (by omega)) (fun t ht => absurd ht (by omega)) rfl hF1 hB1
set_option maxRecDepth 100000 in
theorem lp_see {G : Ge} {Y : (Nat → Bool) × (Nat → Bool)} {sc : Nat → Int} {kn : Int} {M0 : Mem} {S : RS} {N : Nat} (hTI : TI Y.2 S N) (hNb : N < 8000) (e n : Nat) (he : (e : Int) < 2 * S.1 4) (hn : n ≤ 12) (h25 : S.2 25 e = ↑n) (hSh : ShOK S (thN S)) : ∀ (d : Nat) (i : Nat) (M : Mem), i + d = n → Cl (Y.1, Y.2, sc, kn) (shK S e i) M → Fr CLs M0 M → Bg 0 0 M0 M → Sf G mi_X8_see (CP Y ((shK S e n).setS 42 0) 0 0 (some (vI ((shK S e n).1 45))) M0) 80 [some (vR ((1, 0))), some (vI (↑e)), some (vR ((7, e))), some (vI ((shK S e i).1 45)), some (vI (↑i))] [] M := by
  intro d
  induction d with
  | zero =>
    intro i M hi hCl hF0 hB0
    obtain ⟨σ, hσ⟩ : ∃ z9 : RS, z9 = shK S e i := ⟨_, rfl⟩
    rw [← hσ] at hCl
    have b25 : σ.2 25 e = ↑n := by rw [hσ, shK_at _ _ _ _ (by decide)]; exact h25
    have b4 : σ.1 4 = S.1 4 := by rw [hσ, shK_s _ _ _ (by decide)]
    have tN : thN σ = thN S := thN_congr (by rw [hσ, shK_s _ _ _ (by decide)])
    have shσ : ShOK σ (thN S) := by rw [hσ]; exact hSh.shK e i
    have hl8 := hTI.1.2.1
    obtain ⟨hA, hB, hC, hD, hE, hN, hG, hH, hI, hJ, hK, hL⟩ := id hCl
    have hin : i = n := by omega
    refine S_iload dX8_see_80 rfl ?_
    refine S_aload_n dX8_see_82 rfl ?_
    refine S_getI (v := ↑n) fl_X8_206 dX8_see_83 rfl rfl (by rw [(show M.I (7, e) 13 = ↑n from (show M.I (7, e) 13 = σ.2 25 e from congrFun (hE.1 e (by omega)).2.1 13).trans b25)]) ?_
    refine S_icmp_ge 115 dX8_see_86 (by decide) (by omega) (fun c_86 => ?_) (fun c_86 => absurd c_86 (by omega))
    refine S_aload_n dX8_see_115 rfl ?_
    refine S_getP (o := some (3, 0)) fl_X8_10 dX8_see_116 rfl rfl (by rw [(show M.P (1, 0) 1 = some (3, 0) from congrFun hA.2.2 1)]) ?_
    have hTIs : TI Y.2 σ N := hTI.cg ⟨by rw [hσ, shK_s _ _ _ (by decide)], by rw [hσ, shK_s _ _ _ (by decide)], by rw [hσ, shK_s _ _ _ (by decide)]⟩ (fun k j a1 a2 => by rw [hσ, shK_at _ _ _ _ (by omega)])
    refine S_callV (mi := mi_X8_see) [] ok_X5_settle ml_X8_218 dX8_see_119 rfl (by decide) rfl (by decide) rfl (Nat.le_of_ble_eq_true rfl) rfl (c_settle (G := G) (st := Y.1) (par := Y.2) hCl hTIs.1 hNb hTIs.2.2.1 (by rw [tN]; exact shσ)) ?_
    rintro v' M1 ⟨rfl, hCs1, hF1', hB1'⟩
    obtain ⟨sc, kn, hS1, hCl1⟩ := hCs1
    have hF1 : Fr CLs M0 M1 := hF0.trans hF1'
    have hB1 : Bg 0 0 M0 M1 := (hB0.trans hB1').le (by omega) (by omega)
    clear hA hB hC hD hE hN hG hH hI hJ hK hL
    obtain ⟨hA, hB, hC, hD, hE, hN, hG, hH, hI, hJ, hK, hL⟩ := id hCl1
    rw [← hσ]
    refine S_aload_n dX8_see_122 rfl ?_
    refine S_iload_n dX8_see_123 rfl ?_
    refine S_callV (mi := mi_X8_see) [vI (σ.1 45)] ok_X8_done ml_X8_69 dX8_see_124 rfl (by decide) rfl (by decide) rfl (Nat.le_of_ble_eq_true rfl) rfl (c_done (show Cs Y σ M1 from ⟨sc, kn, hS1, hCl1⟩) (σ.1 45)) ?_
    rintro v' M2 ⟨rfl, hCs2, hF2', hB2'⟩
    obtain ⟨ρ3, e3⟩ : ∃ z9 : RS, z9 = (σ.setS 42 0) := ⟨_, rfl⟩
    rw [← e3] at hCs2
    obtain ⟨sc, kn, hS3, hCl3⟩ := hCs2
    have hF3 : Fr CLs M0 M2 := hF1.trans hF2'
    have hB3 : Bg 0 0 M0 M2 := (hB1.trans hB2').le (by omega) (by omega)
    have s4_3 : ρ3.1 4 = σ.1 4 := (by rw [e3, RS.setS_ne (by decide)])
    have s30_3 : ρ3.1 30 = σ.1 30 := (by rw [e3, RS.setS_ne (by decide)])
    have t_3 : thN ρ3 = thN σ := by rw [e3]; rfl
    clear hA hB hC hD hE hN hG hH hI hJ hK hL hCl1 hS1 hF1 hB1
    obtain ⟨hA, hB, hC, hD, hE, hN, hG, hH, hI, hJ, hK, hL⟩ := id hCl3
    exact S_iret dX8_see_127 rfl (Or.inl rfl) (by
      rw [show shK S e n = σ from by rw [hσ, hin], ← e3]
      exact ⟨rfl, ⟨sc, kn, hS3, hCl3⟩, hF3, hB3.le (by omega) (by omega)⟩)
  | succ d ih =>
    intro i M hi hCl hF0 hB0
    obtain ⟨σ, hσ⟩ : ∃ z9 : RS, z9 = shK S e i := ⟨_, rfl⟩
    rw [← hσ] at hCl
    have b25 : σ.2 25 e = ↑n := by rw [hσ, shK_at _ _ _ _ (by decide)]; exact h25
    have b4 : σ.1 4 = S.1 4 := by rw [hσ, shK_s _ _ _ (by decide)]
    have tN : thN σ = thN S := thN_congr (by rw [hσ, shK_s _ _ _ (by decide)])
    have shσ : ShOK σ (thN S) := by rw [hσ]; exact hSh.shK e i
    have hl8 := hTI.1.2.1
    obtain ⟨hA, hB, hC, hD, hE, hN, hG, hH, hI, hJ, hK, hL⟩ := id hCl
    refine S_iload dX8_see_80 rfl ?_
    refine S_aload_n dX8_see_82 rfl ?_
    refine S_getI (v := ↑n) fl_X8_206 dX8_see_83 rfl rfl (by rw [(show M.I (7, e) 13 = ↑n from (show M.I (7, e) 13 = σ.2 25 e from congrFun (hE.1 e (by omega)).2.1 13).trans b25)]) ?_
    refine S_icmp_ge 115 dX8_see_86 (by decide) (by omega) (fun c_86 => absurd c_86 (by omega)) (fun c_86 => ?_)
    refine S_iload_n dX8_see_89 rfl ?_
    refine S_aload_n dX8_see_90 rfl ?_
    refine S_getP (o := some (3, 0)) fl_X8_10 dX8_see_91 rfl rfl (by rw [(show M.P (1, 0) 1 = some (3, 0) from congrFun hA.2.2 1)]) ?_
    obtain ⟨m, kk, q1, q2, q3, q4⟩ := (hH.1 e (by omega)).2 i (by omega)
    refine S_aload_n dX8_see_94 rfl ?_
    refine S_getP (o := some (9, e)) fl_X8_209 dX8_see_95 rfl rfl (by rw [(show M.P (7, e) 12 = some (9, e) from congrFun (hE.1 e (by omega)).2.2 12)]) ?_
    refine S_iload dX8_see_98 rfl ?_
    refine S_aald (o := some (19, m)) i dX8_see_100 rfl (by decide) rfl (by rw [(show M.len (9, e) = some 12 from (hH.1 e (by omega)).1)]) (by omega) (by omega) (by rw [q1]) ?_
    refine S_getP (o := some (18, kk)) fl_X8_213 dX8_see_101 rfl rfl (by rw [(show M.P (19, m) 8 = some (18, kk) from (congrFun q4.2.2 8).trans (qx_nat kk))]) ?_
    refine S_callV (mi := mi_X8_see) [vR ((18, kk))] ok_X5_show ml_X8_202 dX8_see_104 rfl (by decide) rfl (by decide) rfl (Nat.le_of_ble_eq_true rfl) rfl ((by have h := c_show (G := G) hCl (↑kk) (by omega) (by rw [tN]; exact shσ); rw [qx_nat] at h; exact h)) ?_
    rintro v' M1 ⟨rfl, hCl1', hF1', hB1'⟩
    obtain ⟨ρ2, e2⟩ : ∃ z9 : RS, z9 = (shR σ ((↑kk))) := ⟨_, rfl⟩
    rw [← e2] at hCl1'
    rw [← e2]
    have hsh2 : ShOK ρ2 (thN S) := by rw [e2]; exact shσ.sh _
    have hCl2 : Cl (Y.1, Y.2, sc, kn) ρ2 M1 := hCl1'
    have hF2 : Fr CLs M0 M1 := hF0.trans hF1'
    have hB2 : Bg 0 0 M0 M1 := (hB0.trans hB1').le (by omega) (by omega)
    have s4_2 : ρ2.1 4 = σ.1 4 := (by rw [e2, shR_s _ _ _ (by decide)])
    have s30_2 : ρ2.1 30 = σ.1 30 := (by rw [e2, shR_s _ _ _ (by decide)])
    have t_2 : thN ρ2 = thN S := (thN_congr (by rw [e2, shR_s _ _ _ (by decide)])).trans tN
    clear hA hB hC hD hE hN hG hH hI hJ hK hL
    obtain ⟨hA, hB, hC, hD, hE, hN, hG, hH, hI, hJ, hK, hL⟩ := id hCl2
    refine S_iadd dX8_see_107 ?_
    refine S_istore_n dX8_see_108 (by decide) ?_
    refine S_iinc dX8_see_109 rfl (by decide) ?_
    rw [show ((↑i) + 1 : Int) = ↑(i + 1) from rfl]
    refine S_goto 80 dX8_see_112 (by decide) ?_
    have e9 : ρ2 = shK S e (i + 1) := by
      rw [e2]
      show shR σ _ = shR (shK S e i) (S.2 28 (12 * e + i))
      rw [hσ, ← shK_at S e 28 (12 * e + i) (by decide) i, ← hσ, q2]
    rw [e9] at hCl2
    rw [show ((shK S e i).1 45 + (ρ2.1 45 - σ.1 45)) = (shK S e (i + 1)).1 45 from by rw [e9, hσ]; omega]
    exact ih (i + 1) _ (by omega) hCl2 hF2 hB2
set_option maxHeartbeats 20000000 in
set_option maxRecDepth 100000 in
theorem c_see {G : Ge} {M : Mem} {Y : (Nat → Bool) × (Nat → Bool)} {ρ : RS} (hCs : Cs Y ρ M) (hIv : Iv Y ρ) (hNb : thN ρ < 7900) (e : Int) (e32 : -2147483648 ≤ e ∧ e < 2147483648) : Ct G mi_X8_see [vR ((1, 0)), vI e] M (CP Y ((seeF ρ e).2) 0 0 (some (vI (seeF ρ e).1)) M) := by
  refine Ct.of pl_X8_see [some (vR ((1, 0))), some (vI e), none, none, none] rfl (Nat.le_of_ble_eq_true rfl) ?_
  obtain ⟨sc, kn, hS, hCl⟩ := hCs
  have hF0 : Fr CLs M M := Fr.rf CLs M
  have hB0 : Bg 0 0 M M := Bg.rf M
  obtain ⟨hA, hB, hC, hD, hE, hN, hG, hH, hI, hJ, hK, hL⟩ := id hCl
  obtain ⟨⟨hp, hl, hm, hli, h44⟩, ⟨hTI, hSh⟩, ⟨hRo, hRp⟩, ⟨hEd, hOw, hYs, hSt⟩, hEn, hLf, ⟨hKo, hKy, hTs, hTl⟩, ⟨hLt, hLp⟩, hTr, hFe⟩ := hIv
  have hl8 := hTI.1.2.1
  obtain ⟨N, hNe⟩ : ∃ N : Nat, N = thN ρ := ⟨_, rfl⟩
  rw [← hNe] at hTI hNb hl8
  refine S_aload_n dX8_see_0 rfl ?_
  refine S_iload_n dX8_see_1 rfl ?_
  by_cases hve : 0 ≤ e ∧ e < 2 * ρ.1 4
  · obtain ⟨x, rfl⟩ : ∃ x : Nat, e = ↑x := ⟨e.toNat, by omega⟩
    refine S_callV (mi := mi_X8_see) [vI (↑x)] ok_X8_endAt ml_X8_78 dX8_see_2 rfl (by decide) rfl (by decide) rfl (Nat.le_of_ble_eq_true rfl) rfl (c_endAt hCl hp x (by omega)) ?_
    rintro v' M1 ⟨rfl, hM1⟩
    rw [hM1]
    clear hM1
    refine S_astore_n dX8_see_5 (by decide) ?_
    refine S_aload_n dX8_see_6 rfl ?_
    refine S_ifnonnull 16 dX8_see_7 (by decide) (fun c_7 => ?_) (fun c_7 => absurd c_7 (by simp))
    by_cases hst : Y.1 x = true
    · have h14 := (hYs x (by omega)).mp hst
      obtain ⟨⟨s, h15, hs, hks⟩, ⟨r, h16, hr, hkr⟩, hsc, htc⟩ := hEd x (by omega) h14
      obtain ⟨n, hn12, h25⟩ := hKo.1 x (by omega)
      refine S_aload_n dX8_see_16 rfl ?_
      refine S_getI (v := 1) fl_X8_99 dX8_see_17 rfl rfl (by rw [(show M.I (7, x) 3 = 1 from (congrFun (hE.1 x (by omega)).2.1 3).trans (if_pos hst))]) ?_
      refine S_if_ne 29 dX8_see_20 (by decide) (by omega) (fun c_20 => ?_) (fun c_20 => absurd c_20 (by omega))
      obtain ⟨ρ2, e2⟩ : ∃ z9 : RS, z9 = (ρ.setS 45 0) := ⟨_, rfl⟩
      have hCl2 : Cl (Y.1, Y.2, sc, kn) ρ2 M := (by rw [e2]; exact hCl.cg11 (fun k hk => RS.setS_ne hk) (fun _ _ _ => rfl))
      have hF2 : Fr CLs M M := hF0
      have hB2 : Bg 0 0 M M := hB0
      have s4_2 : ρ2.1 4 = ρ.1 4 := (by rw [e2, RS.setS_ne (by decide)])
      have s30_2 : ρ2.1 30 = ρ.1 30 := (by rw [e2, RS.setS_ne (by decide)])
      have t_2 : thN ρ2 = thN ρ := by rw [e2]; rfl
      clear hA hB hC hD hE hN hG hH hI hJ hK hL
      obtain ⟨hA, hB, hC, hD, hE, hN, hG, hH, hI, hJ, hK, hL⟩ := id hCl2
      have h045 : ρ2.1 45 = 0 := by rw [e2, RS.setS_eq]
      have hsh2 : ShOK ρ2 (thN ρ) := by rw [e2]; exact hSh
      refine S_aload_n dX8_see_29 rfl ?_
      refine S_getP (o := some (3, 0)) fl_X8_10 dX8_see_30 rfl rfl (by rw [(show M.P (1, 0) 1 = some (3, 0) from congrFun hA.2.2 1)]) ?_
      refine S_aload_n dX8_see_33 rfl ?_
      refine S_getP (o := some (18, s)) fl_X8_115 dX8_see_34 rfl rfl (by rw [(show M.P (7, x) 4 = some (18, s) from (congrFun (hE.1 x (by omega)).2.2 4).trans ((if_pos hst).trans (qx_of (show ρ2.2 15 x = ↑s from (by rw [e2, RS.setS_a, h15])))))]) ?_
      refine S_callV (mi := mi_X8_see) [vR ((18, s))] ok_X5_show ml_X8_202 dX8_see_37 rfl (by decide) rfl (by decide) rfl (Nat.le_of_ble_eq_true rfl) rfl ((by have h := c_show (G := G) hCl2 (↑s) (by omega) (by rw [t_2]; exact hsh2); rw [qx_nat] at h; exact h)) ?_
      rintro v' M3 ⟨rfl, hCl3', hF3', hB3'⟩
      obtain ⟨ρ4, e4⟩ : ∃ z9 : RS, z9 = (shR ρ2 ((↑s))) := ⟨_, rfl⟩
      rw [← e4] at hCl3'
      rw [← e4]
      have hsh4 : ShOK ρ4 (thN ρ) := by rw [e4]; exact hsh2.sh _
      have hCl4 : Cl (Y.1, Y.2, sc, kn) ρ4 M3 := hCl3'
      have hF4 : Fr CLs M M3 := hF2.trans hF3'
      have hB4 : Bg 0 0 M M3 := (hB2.trans hB3').le (by omega) (by omega)
      have s4_4 : ρ4.1 4 = ρ.1 4 := (by rw [e4, shR_s _ _ _ (by decide), s4_2])
      have s30_4 : ρ4.1 30 = ρ.1 30 := (by rw [e4, shR_s _ _ _ (by decide), s30_2])
      have t_4 : thN ρ4 = thN ρ := (thN_congr (by rw [e4, shR_s _ _ _ (by decide)])).trans t_2
      clear hA hB hC hD hE hN hG hH hI hJ hK hL hCl2 hF2 hB2
      obtain ⟨hA, hB, hC, hD, hE, hN, hG, hH, hI, hJ, hK, hL⟩ := id hCl4
      refine S_aload_n dX8_see_40 rfl ?_
      refine S_getP (o := some (3, 0)) fl_X8_10 dX8_see_41 rfl rfl (by rw [(show M3.P (1, 0) 1 = some (3, 0) from congrFun hA.2.2 1)]) ?_
      refine S_aload_n dX8_see_44 rfl ?_
      refine S_getP (o := some (18, r)) fl_X8_119 dX8_see_45 rfl rfl (by rw [(show M3.P (7, x) 5 = some (18, r) from (congrFun (hE.1 x (by omega)).2.2 5).trans ((if_pos hst).trans (qx_of (show ρ4.2 16 x = ↑r from (by rw [e4, shR_at _ _ _ _ (by decide), e2, RS.setS_a, h16])))))]) ?_
      refine S_callV (mi := mi_X8_see) [vR ((18, r))] ok_X5_show ml_X8_202 dX8_see_48 rfl (by decide) rfl (by decide) rfl (Nat.le_of_ble_eq_true rfl) rfl ((by have h := c_show (G := G) hCl4 (↑r) (by omega) (by rw [t_4]; exact hsh4); rw [qx_nat] at h; exact h)) ?_
      rintro v' M5 ⟨rfl, hCl5', hF5', hB5'⟩
      obtain ⟨ρ6, e6⟩ : ∃ z9 : RS, z9 = (shR ρ4 ((↑r))) := ⟨_, rfl⟩
      rw [← e6] at hCl5'
      rw [← e6]
      have hsh6 : ShOK ρ6 (thN ρ) := by rw [e6]; exact hsh4.sh _
      have hCl6 : Cl (Y.1, Y.2, sc, kn) ρ6 M5 := hCl5'
      have hF6 : Fr CLs M M5 := hF4.trans hF5'
      have hB6 : Bg 0 0 M M5 := (hB4.trans hB5').le (by omega) (by omega)
      have s4_6 : ρ6.1 4 = ρ.1 4 := (by rw [e6, shR_s _ _ _ (by decide), s4_4])
      have s30_6 : ρ6.1 30 = ρ.1 30 := (by rw [e6, shR_s _ _ _ (by decide), s30_4])
      have t_6 : thN ρ6 = thN ρ := (thN_congr (by rw [e6, shR_s _ _ _ (by decide)])).trans t_4
      clear hA hB hC hD hE hN hG hH hI hJ hK hL hCl4 hF4 hB4
      obtain ⟨hA, hB, hC, hD, hE, hN, hG, hH, hI, hJ, hK, hL⟩ := id hCl6
      refine S_iadd dX8_see_51 ?_
      refine S_aload_n dX8_see_52 rfl ?_
      refine S_getP (o := some (3, 0)) fl_X8_10 dX8_see_53 rfl rfl (by rw [(show M5.P (1, 0) 1 = some (3, 0) from congrFun hA.2.2 1)]) ?_
      rcases hsc with h17 | ⟨c, h17, cl, -⟩
      · refine S_aload_n dX8_see_56 rfl ?_
        refine S_getP (o := none) fl_X8_128 dX8_see_57 rfl rfl (by rw [(show M5.P (7, x) 6 = none from (congrFun (hE.1 x (by omega)).2.2 6).trans ((if_pos hst).trans ((congrArg qx (show ρ6.2 17 x = -1 from (by rw [e6, shR_at _ _ _ _ (by decide), e4, shR_at _ _ _ _ (by decide), e2, RS.setS_a, h17]))).trans qx_no)))]) ?_
        refine S_callV (mi := mi_X8_see) [vN] ok_X5_show ml_X8_202 dX8_see_60 rfl (by decide) rfl (by decide) rfl (Nat.le_of_ble_eq_true rfl) rfl ((by have h := c_show (G := G) hCl6 (-1) (by omega) (by rw [t_6]; exact hsh6); rw [qx_no] at h; exact h)) ?_
        rintro v' M7 ⟨rfl, hCl7', hF7', hB7'⟩
        obtain ⟨ρ8, e8⟩ : ∃ z9 : RS, z9 = (shR ρ6 ((-1))) := ⟨_, rfl⟩
        rw [← e8] at hCl7'
        rw [← e8]
        have hsh8 : ShOK ρ8 (thN ρ) := by rw [e8]; exact hsh6.sh _
        have hCl8 : Cl (Y.1, Y.2, sc, kn) ρ8 M7 := hCl7'
        have hF8 : Fr CLs M M7 := hF6.trans hF7'
        have hB8 : Bg 0 0 M M7 := (hB6.trans hB7').le (by omega) (by omega)
        have s4_8 : ρ8.1 4 = ρ.1 4 := (by rw [e8, shR_s _ _ _ (by decide), s4_6])
        have s30_8 : ρ8.1 30 = ρ.1 30 := (by rw [e8, shR_s _ _ _ (by decide), s30_6])
        have t_8 : thN ρ8 = thN ρ := (thN_congr (by rw [e8, shR_s _ _ _ (by decide)])).trans t_6
        clear hA hB hC hD hE hN hG hH hI hJ hK hL hCl6 hF6 hB6
        obtain ⟨hA, hB, hC, hD, hE, hN, hG, hH, hI, hJ, hK, hL⟩ := id hCl8
        refine S_iadd dX8_see_63 ?_
        refine S_aload_n dX8_see_64 rfl ?_
        refine S_getP (o := some (3, 0)) fl_X8_10 dX8_see_65 rfl rfl (by rw [(show M7.P (1, 0) 1 = some (3, 0) from congrFun hA.2.2 1)]) ?_
        rcases htc with h18 | ⟨d, h18, dl, -⟩
        · refine S_aload_n dX8_see_68 rfl ?_
          refine S_getP (o := none) fl_X8_192 dX8_see_69 rfl rfl (by rw [(show M7.P (7, x) 7 = none from (congrFun (hE.1 x (by omega)).2.2 7).trans ((if_pos hst).trans ((congrArg qx (show ρ8.2 18 x = -1 from (by rw [e8, shR_at _ _ _ _ (by decide), e6, shR_at _ _ _ _ (by decide), e4, shR_at _ _ _ _ (by decide), e2, RS.setS_a, h18]))).trans qx_no)))]) ?_
          refine S_callV (mi := mi_X8_see) [vN] ok_X5_show ml_X8_202 dX8_see_72 rfl (by decide) rfl (by decide) rfl (Nat.le_of_ble_eq_true rfl) rfl ((by have h := c_show (G := G) hCl8 (-1) (by omega) (by rw [t_8]; exact hsh8); rw [qx_no] at h; exact h)) ?_
          rintro v' M9 ⟨rfl, hCl9', hF9', hB9'⟩
          obtain ⟨ρ10, e10⟩ : ∃ z9 : RS, z9 = (shR ρ8 ((-1))) := ⟨_, rfl⟩
          rw [← e10] at hCl9'
          rw [← e10]
          have hsh10 : ShOK ρ10 (thN ρ) := by rw [e10]; exact hsh8.sh _
          have hCl10 : Cl (Y.1, Y.2, sc, kn) ρ10 M9 := hCl9'
          have hF10 : Fr CLs M M9 := hF8.trans hF9'
          have hB10 : Bg 0 0 M M9 := (hB8.trans hB9').le (by omega) (by omega)
          have s4_10 : ρ10.1 4 = ρ.1 4 := (by rw [e10, shR_s _ _ _ (by decide), s4_8])
          have s30_10 : ρ10.1 30 = ρ.1 30 := (by rw [e10, shR_s _ _ _ (by decide), s30_8])
          have t_10 : thN ρ10 = thN ρ := (thN_congr (by rw [e10, shR_s _ _ _ (by decide)])).trans t_8
          clear hA hB hC hD hE hN hG hH hI hJ hK hL hCl8 hF8 hB8
          obtain ⟨hA, hB, hC, hD, hE, hN, hG, hH, hI, hJ, hK, hL⟩ := id hCl10
          refine S_iadd dX8_see_75 ?_
          rw [show (((((ρ4.1 45 - ρ2.1 45)) + ((ρ6.1 45 - ρ4.1 45))) + ((ρ8.1 45 - ρ6.1 45))) + ((ρ10.1 45 - ρ8.1 45)) : Int) = ρ10.1 45 from by omega]
          refine S_istore_n dX8_see_76 (by decide) ?_
          refine S_iconst dX8_see_77 ?_
          refine S_istore dX8_see_78 (by decide) ?_
          have e9 : ρ10 = seeS ρ x := by
            unfold seeS
            rw [h15, h16, h17, h18]
            rw [e10, e8, e6, e4, e2]
          have hTIr : TI Y.2 ρ10 N := hTI.cg ⟨(by rw [e10, shR_s _ _ _ (by decide), e8, shR_s _ _ _ (by decide), e6, shR_s _ _ _ (by decide), e4, shR_s _ _ _ (by decide), e2, RS.setS_ne (by decide)]), (by rw [e10, shR_s _ _ _ (by decide), e8, shR_s _ _ _ (by decide), e6, shR_s _ _ _ (by decide), e4, shR_s _ _ _ (by decide), e2, RS.setS_ne (by decide)]), (by rw [e10, shR_s _ _ _ (by decide), e8, shR_s _ _ _ (by decide), e6, shR_s _ _ _ (by decide), e4, shR_s _ _ _ (by decide), e2, RS.setS_ne (by decide)])⟩ (fun k j a1 a2 => (by rw [e10, shR_at _ _ _ _ (by omega), e8, shR_at _ _ _ _ (by omega), e6, shR_at _ _ _ _ (by omega), e4, shR_at _ _ _ _ (by omega), e2, RS.setS_a]))
          have q := lp_see (G := G) (M0 := M) (sc := sc) (kn := kn) hTIr (by omega) x n (by omega) hn12 (by rw [e10, shR_at _ _ _ _ (by decide), e8, shR_at _ _ _ _ (by decide), e6, shR_at _ _ _ _ (by decide), e4, shR_at _ _ _ _ (by decide), e2, RS.setS_a, h25]) (by rw [t_10]; exact hsh10) n 0 M9 (by omega) hCl10 hF10 (hB10.le (by omega) (by omega))
          have e8 : seeF ρ ↑x = ((shK ρ10 x n).1 45, (shK ρ10 x n).setS 42 0) := by
            unfold seeF
            rw [if_neg (by omega), Int.toNat_natCast, if_neg h14, h25, Int.toNat_natCast, e9]
          rw [e8]
          exact q
        · refine S_aload_n dX8_see_68 rfl ?_
          refine S_getP (o := some (18, d)) fl_X8_192 dX8_see_69 rfl rfl (by rw [(show M7.P (7, x) 7 = some (18, d) from (congrFun (hE.1 x (by omega)).2.2 7).trans ((if_pos hst).trans (qx_of (show ρ8.2 18 x = ↑d from (by rw [e8, shR_at _ _ _ _ (by decide), e6, shR_at _ _ _ _ (by decide), e4, shR_at _ _ _ _ (by decide), e2, RS.setS_a, h18])))))]) ?_
          refine S_callV (mi := mi_X8_see) [vR ((18, d))] ok_X5_show ml_X8_202 dX8_see_72 rfl (by decide) rfl (by decide) rfl (Nat.le_of_ble_eq_true rfl) rfl ((by have h := c_show (G := G) hCl8 (↑d) (by omega) (by rw [t_8]; exact hsh8); rw [qx_nat] at h; exact h)) ?_
          rintro v' M11 ⟨rfl, hCl11', hF11', hB11'⟩
          obtain ⟨ρ12, e12⟩ : ∃ z9 : RS, z9 = (shR ρ8 ((↑d))) := ⟨_, rfl⟩
          rw [← e12] at hCl11'
          rw [← e12]
          have hsh12 : ShOK ρ12 (thN ρ) := by rw [e12]; exact hsh8.sh _
          have hCl12 : Cl (Y.1, Y.2, sc, kn) ρ12 M11 := hCl11'
          have hF12 : Fr CLs M M11 := hF8.trans hF11'
          have hB12 : Bg 0 0 M M11 := (hB8.trans hB11').le (by omega) (by omega)
          have s4_12 : ρ12.1 4 = ρ.1 4 := (by rw [e12, shR_s _ _ _ (by decide), s4_8])
          have s30_12 : ρ12.1 30 = ρ.1 30 := (by rw [e12, shR_s _ _ _ (by decide), s30_8])
          have t_12 : thN ρ12 = thN ρ := (thN_congr (by rw [e12, shR_s _ _ _ (by decide)])).trans t_8
          clear hA hB hC hD hE hN hG hH hI hJ hK hL hCl8 hF8 hB8
          obtain ⟨hA, hB, hC, hD, hE, hN, hG, hH, hI, hJ, hK, hL⟩ := id hCl12
          refine S_iadd dX8_see_75 ?_
          rw [show (((((ρ4.1 45 - ρ2.1 45)) + ((ρ6.1 45 - ρ4.1 45))) + ((ρ8.1 45 - ρ6.1 45))) + ((ρ12.1 45 - ρ8.1 45)) : Int) = ρ12.1 45 from by omega]
          refine S_istore_n dX8_see_76 (by decide) ?_
          refine S_iconst dX8_see_77 ?_
          refine S_istore dX8_see_78 (by decide) ?_
          have e9 : ρ12 = seeS ρ x := by
            unfold seeS
            rw [h15, h16, h17, h18]
            rw [e12, e8, e6, e4, e2]
          have hTIr : TI Y.2 ρ12 N := hTI.cg ⟨(by rw [e12, shR_s _ _ _ (by decide), e8, shR_s _ _ _ (by decide), e6, shR_s _ _ _ (by decide), e4, shR_s _ _ _ (by decide), e2, RS.setS_ne (by decide)]), (by rw [e12, shR_s _ _ _ (by decide), e8, shR_s _ _ _ (by decide), e6, shR_s _ _ _ (by decide), e4, shR_s _ _ _ (by decide), e2, RS.setS_ne (by decide)]), (by rw [e12, shR_s _ _ _ (by decide), e8, shR_s _ _ _ (by decide), e6, shR_s _ _ _ (by decide), e4, shR_s _ _ _ (by decide), e2, RS.setS_ne (by decide)])⟩ (fun k j a1 a2 => (by rw [e12, shR_at _ _ _ _ (by omega), e8, shR_at _ _ _ _ (by omega), e6, shR_at _ _ _ _ (by omega), e4, shR_at _ _ _ _ (by omega), e2, RS.setS_a]))
          have q := lp_see (G := G) (M0 := M) (sc := sc) (kn := kn) hTIr (by omega) x n (by omega) hn12 (by rw [e12, shR_at _ _ _ _ (by decide), e8, shR_at _ _ _ _ (by decide), e6, shR_at _ _ _ _ (by decide), e4, shR_at _ _ _ _ (by decide), e2, RS.setS_a, h25]) (by rw [t_12]; exact hsh12) n 0 M11 (by omega) hCl12 hF12 (hB12.le (by omega) (by omega))
          have e8 : seeF ρ ↑x = ((shK ρ12 x n).1 45, (shK ρ12 x n).setS 42 0) := by
            unfold seeF
            rw [if_neg (by omega), Int.toNat_natCast, if_neg h14, h25, Int.toNat_natCast, e9]
          rw [e8]
          exact q
      · refine S_aload_n dX8_see_56 rfl ?_
        refine S_getP (o := some (18, c)) fl_X8_128 dX8_see_57 rfl rfl (by rw [(show M5.P (7, x) 6 = some (18, c) from (congrFun (hE.1 x (by omega)).2.2 6).trans ((if_pos hst).trans (qx_of (show ρ6.2 17 x = ↑c from (by rw [e6, shR_at _ _ _ _ (by decide), e4, shR_at _ _ _ _ (by decide), e2, RS.setS_a, h17])))))]) ?_
        refine S_callV (mi := mi_X8_see) [vR ((18, c))] ok_X5_show ml_X8_202 dX8_see_60 rfl (by decide) rfl (by decide) rfl (Nat.le_of_ble_eq_true rfl) rfl ((by have h := c_show (G := G) hCl6 (↑c) (by omega) (by rw [t_6]; exact hsh6); rw [qx_nat] at h; exact h)) ?_
        rintro v' M13 ⟨rfl, hCl13', hF13', hB13'⟩
        obtain ⟨ρ14, e14⟩ : ∃ z9 : RS, z9 = (shR ρ6 ((↑c))) := ⟨_, rfl⟩
        rw [← e14] at hCl13'
        rw [← e14]
        have hsh14 : ShOK ρ14 (thN ρ) := by rw [e14]; exact hsh6.sh _
        have hCl14 : Cl (Y.1, Y.2, sc, kn) ρ14 M13 := hCl13'
        have hF14 : Fr CLs M M13 := hF6.trans hF13'
        have hB14 : Bg 0 0 M M13 := (hB6.trans hB13').le (by omega) (by omega)
        have s4_14 : ρ14.1 4 = ρ.1 4 := (by rw [e14, shR_s _ _ _ (by decide), s4_6])
        have s30_14 : ρ14.1 30 = ρ.1 30 := (by rw [e14, shR_s _ _ _ (by decide), s30_6])
        have t_14 : thN ρ14 = thN ρ := (thN_congr (by rw [e14, shR_s _ _ _ (by decide)])).trans t_6
        clear hA hB hC hD hE hN hG hH hI hJ hK hL hCl6 hF6 hB6
        obtain ⟨hA, hB, hC, hD, hE, hN, hG, hH, hI, hJ, hK, hL⟩ := id hCl14
        refine S_iadd dX8_see_63 ?_
        refine S_aload_n dX8_see_64 rfl ?_
        refine S_getP (o := some (3, 0)) fl_X8_10 dX8_see_65 rfl rfl (by rw [(show M13.P (1, 0) 1 = some (3, 0) from congrFun hA.2.2 1)]) ?_
        rcases htc with h18 | ⟨d, h18, dl, -⟩
        · refine S_aload_n dX8_see_68 rfl ?_
          refine S_getP (o := none) fl_X8_192 dX8_see_69 rfl rfl (by rw [(show M13.P (7, x) 7 = none from (congrFun (hE.1 x (by omega)).2.2 7).trans ((if_pos hst).trans ((congrArg qx (show ρ14.2 18 x = -1 from (by rw [e14, shR_at _ _ _ _ (by decide), e6, shR_at _ _ _ _ (by decide), e4, shR_at _ _ _ _ (by decide), e2, RS.setS_a, h18]))).trans qx_no)))]) ?_
          refine S_callV (mi := mi_X8_see) [vN] ok_X5_show ml_X8_202 dX8_see_72 rfl (by decide) rfl (by decide) rfl (Nat.le_of_ble_eq_true rfl) rfl ((by have h := c_show (G := G) hCl14 (-1) (by omega) (by rw [t_14]; exact hsh14); rw [qx_no] at h; exact h)) ?_
          rintro v' M15 ⟨rfl, hCl15', hF15', hB15'⟩
          obtain ⟨ρ16, e16⟩ : ∃ z9 : RS, z9 = (shR ρ14 ((-1))) := ⟨_, rfl⟩
          rw [← e16] at hCl15'
          rw [← e16]
          have hsh16 : ShOK ρ16 (thN ρ) := by rw [e16]; exact hsh14.sh _
          have hCl16 : Cl (Y.1, Y.2, sc, kn) ρ16 M15 := hCl15'
          have hF16 : Fr CLs M M15 := hF14.trans hF15'
          have hB16 : Bg 0 0 M M15 := (hB14.trans hB15').le (by omega) (by omega)
          have s4_16 : ρ16.1 4 = ρ.1 4 := (by rw [e16, shR_s _ _ _ (by decide), s4_14])
          have s30_16 : ρ16.1 30 = ρ.1 30 := (by rw [e16, shR_s _ _ _ (by decide), s30_14])
          have t_16 : thN ρ16 = thN ρ := (thN_congr (by rw [e16, shR_s _ _ _ (by decide)])).trans t_14
          clear hA hB hC hD hE hN hG hH hI hJ hK hL hCl14 hF14 hB14
          obtain ⟨hA, hB, hC, hD, hE, hN, hG, hH, hI, hJ, hK, hL⟩ := id hCl16
          refine S_iadd dX8_see_75 ?_
          rw [show (((((ρ4.1 45 - ρ2.1 45)) + ((ρ6.1 45 - ρ4.1 45))) + ((ρ14.1 45 - ρ6.1 45))) + ((ρ16.1 45 - ρ14.1 45)) : Int) = ρ16.1 45 from by omega]
          refine S_istore_n dX8_see_76 (by decide) ?_
          refine S_iconst dX8_see_77 ?_
          refine S_istore dX8_see_78 (by decide) ?_
          have e9 : ρ16 = seeS ρ x := by
            unfold seeS
            rw [h15, h16, h17, h18]
            rw [e16, e14, e6, e4, e2]
          have hTIr : TI Y.2 ρ16 N := hTI.cg ⟨(by rw [e16, shR_s _ _ _ (by decide), e14, shR_s _ _ _ (by decide), e6, shR_s _ _ _ (by decide), e4, shR_s _ _ _ (by decide), e2, RS.setS_ne (by decide)]), (by rw [e16, shR_s _ _ _ (by decide), e14, shR_s _ _ _ (by decide), e6, shR_s _ _ _ (by decide), e4, shR_s _ _ _ (by decide), e2, RS.setS_ne (by decide)]), (by rw [e16, shR_s _ _ _ (by decide), e14, shR_s _ _ _ (by decide), e6, shR_s _ _ _ (by decide), e4, shR_s _ _ _ (by decide), e2, RS.setS_ne (by decide)])⟩ (fun k j a1 a2 => (by rw [e16, shR_at _ _ _ _ (by omega), e14, shR_at _ _ _ _ (by omega), e6, shR_at _ _ _ _ (by omega), e4, shR_at _ _ _ _ (by omega), e2, RS.setS_a]))
          have q := lp_see (G := G) (M0 := M) (sc := sc) (kn := kn) hTIr (by omega) x n (by omega) hn12 (by rw [e16, shR_at _ _ _ _ (by decide), e14, shR_at _ _ _ _ (by decide), e6, shR_at _ _ _ _ (by decide), e4, shR_at _ _ _ _ (by decide), e2, RS.setS_a, h25]) (by rw [t_16]; exact hsh16) n 0 M15 (by omega) hCl16 hF16 (hB16.le (by omega) (by omega))
          have e8 : seeF ρ ↑x = ((shK ρ16 x n).1 45, (shK ρ16 x n).setS 42 0) := by
            unfold seeF
            rw [if_neg (by omega), Int.toNat_natCast, if_neg h14, h25, Int.toNat_natCast, e9]
          rw [e8]
          exact q
        · refine S_aload_n dX8_see_68 rfl ?_
          refine S_getP (o := some (18, d)) fl_X8_192 dX8_see_69 rfl rfl (by rw [(show M13.P (7, x) 7 = some (18, d) from (congrFun (hE.1 x (by omega)).2.2 7).trans ((if_pos hst).trans (qx_of (show ρ14.2 18 x = ↑d from (by rw [e14, shR_at _ _ _ _ (by decide), e6, shR_at _ _ _ _ (by decide), e4, shR_at _ _ _ _ (by decide), e2, RS.setS_a, h18])))))]) ?_
          refine S_callV (mi := mi_X8_see) [vR ((18, d))] ok_X5_show ml_X8_202 dX8_see_72 rfl (by decide) rfl (by decide) rfl (Nat.le_of_ble_eq_true rfl) rfl ((by have h := c_show (G := G) hCl14 (↑d) (by omega) (by rw [t_14]; exact hsh14); rw [qx_nat] at h; exact h)) ?_
          rintro v' M17 ⟨rfl, hCl17', hF17', hB17'⟩
          obtain ⟨ρ18, e18⟩ : ∃ z9 : RS, z9 = (shR ρ14 ((↑d))) := ⟨_, rfl⟩
          rw [← e18] at hCl17'
          rw [← e18]
          have hsh18 : ShOK ρ18 (thN ρ) := by rw [e18]; exact hsh14.sh _
          have hCl18 : Cl (Y.1, Y.2, sc, kn) ρ18 M17 := hCl17'
          have hF18 : Fr CLs M M17 := hF14.trans hF17'
          have hB18 : Bg 0 0 M M17 := (hB14.trans hB17').le (by omega) (by omega)
          have s4_18 : ρ18.1 4 = ρ.1 4 := (by rw [e18, shR_s _ _ _ (by decide), s4_14])
          have s30_18 : ρ18.1 30 = ρ.1 30 := (by rw [e18, shR_s _ _ _ (by decide), s30_14])
          have t_18 : thN ρ18 = thN ρ := (thN_congr (by rw [e18, shR_s _ _ _ (by decide)])).trans t_14
          clear hA hB hC hD hE hN hG hH hI hJ hK hL hCl14 hF14 hB14
          obtain ⟨hA, hB, hC, hD, hE, hN, hG, hH, hI, hJ, hK, hL⟩ := id hCl18
          refine S_iadd dX8_see_75 ?_
          rw [show (((((ρ4.1 45 - ρ2.1 45)) + ((ρ6.1 45 - ρ4.1 45))) + ((ρ14.1 45 - ρ6.1 45))) + ((ρ18.1 45 - ρ14.1 45)) : Int) = ρ18.1 45 from by omega]
          refine S_istore_n dX8_see_76 (by decide) ?_
          refine S_iconst dX8_see_77 ?_
          refine S_istore dX8_see_78 (by decide) ?_
          have e9 : ρ18 = seeS ρ x := by
            unfold seeS
            rw [h15, h16, h17, h18]
            rw [e18, e14, e6, e4, e2]
          have hTIr : TI Y.2 ρ18 N := hTI.cg ⟨(by rw [e18, shR_s _ _ _ (by decide), e14, shR_s _ _ _ (by decide), e6, shR_s _ _ _ (by decide), e4, shR_s _ _ _ (by decide), e2, RS.setS_ne (by decide)]), (by rw [e18, shR_s _ _ _ (by decide), e14, shR_s _ _ _ (by decide), e6, shR_s _ _ _ (by decide), e4, shR_s _ _ _ (by decide), e2, RS.setS_ne (by decide)]), (by rw [e18, shR_s _ _ _ (by decide), e14, shR_s _ _ _ (by decide), e6, shR_s _ _ _ (by decide), e4, shR_s _ _ _ (by decide), e2, RS.setS_ne (by decide)])⟩ (fun k j a1 a2 => (by rw [e18, shR_at _ _ _ _ (by omega), e14, shR_at _ _ _ _ (by omega), e6, shR_at _ _ _ _ (by omega), e4, shR_at _ _ _ _ (by omega), e2, RS.setS_a]))
          have q := lp_see (G := G) (M0 := M) (sc := sc) (kn := kn) hTIr (by omega) x n (by omega) hn12 (by rw [e18, shR_at _ _ _ _ (by decide), e14, shR_at _ _ _ _ (by decide), e6, shR_at _ _ _ _ (by decide), e4, shR_at _ _ _ _ (by decide), e2, RS.setS_a, h25]) (by rw [t_18]; exact hsh18) n 0 M17 (by omega) hCl18 hF18 (hB18.le (by omega) (by omega))
          have e8 : seeF ρ ↑x = ((shK ρ18 x n).1 45, (shK ρ18 x n).setS 42 0) := by
            unfold seeF
            rw [if_neg (by omega), Int.toNat_natCast, if_neg h14, h25, Int.toNat_natCast, e9]
          rw [e8]
          exact q
    · have h14 : ρ.2 14 (x / 2) = 0 := by
        by_cases h : ρ.2 14 (x / 2) = 0
        · exact h
        · exact absurd ((hYs x (by omega)).mpr h) hst
      refine S_aload_n dX8_see_16 rfl ?_
      refine S_getI (v := 0) fl_X8_99 dX8_see_17 rfl rfl (by rw [(show M.I (7, x) 3 = 0 from (congrFun (hE.1 x (by omega)).2.1 3).trans (if_neg hst))]) ?_
      refine S_if_ne 29 dX8_see_20 (by decide) (by omega) (fun c_20 => absurd c_20 (by omega)) (fun c_20 => ?_)
      refine S_aload_n dX8_see_23 rfl ?_
      refine S_iconst dX8_see_24 ?_
      refine S_callV (mi := mi_X8_see) [vI 3] ok_X8_refuse ml_X8_54 dX8_see_25 rfl (by decide) rfl (by decide) rfl (Nat.le_of_ble_eq_true rfl) rfl (c_refuse (show Cs Y ρ M from ⟨sc, kn, hS, hCl⟩) 3) ?_
      rintro v' M19 ⟨rfl, hCs19, hF19', hB19'⟩
      obtain ⟨ρ20, e20⟩ : ∃ z9 : RS, z9 = (ρ.setS 42 3) := ⟨_, rfl⟩
      rw [← e20] at hCs19
      obtain ⟨sc, kn, hS20, hCl20⟩ := hCs19
      have hF20 : Fr CLs M M19 := hF0.trans hF19'
      have hB20 : Bg 0 0 M M19 := (hB0.trans hB19').le (by omega) (by omega)
      have s4_20 : ρ20.1 4 = ρ.1 4 := (by rw [e20, RS.setS_ne (by decide)])
      have s30_20 : ρ20.1 30 = ρ.1 30 := (by rw [e20, RS.setS_ne (by decide)])
      have t_20 : thN ρ20 = thN ρ := by rw [e20]; rfl
      clear hA hB hC hD hE hN hG hH hI hJ hK hL
      obtain ⟨hA, hB, hC, hD, hE, hN, hG, hH, hI, hJ, hK, hL⟩ := id hCl20
      exact S_iret dX8_see_28 rfl (Or.inl rfl) (by
      have e9 : seeF ρ (↑x) = (((-1) : Int), ρ20) := by
        unfold seeF
        rw [if_neg (by omega), Int.toNat_natCast, if_pos h14, e20]
      rw [e9]
      exact ⟨rfl, ⟨sc, kn, hS20, hCl20⟩, hF20, hB20.le (by omega) (by omega)⟩)
  · refine S_callV (mi := mi_X8_see) [vI e] ok_X8_endAt ml_X8_78 dX8_see_2 rfl (by decide) rfl (by decide) rfl (Nat.le_of_ble_eq_true rfl) rfl (c_endAtN hCl hp e e32 hve) ?_
    rintro v' M21 ⟨rfl, hM21⟩
    rw [hM21]
    clear hM21
    refine S_astore_n dX8_see_5 (by decide) ?_
    refine S_aload_n dX8_see_6 rfl ?_
    refine S_ifnonnull 16 dX8_see_7 (by decide) (fun c_7 => absurd c_7 (by simp)) (fun c_7 => ?_)
    refine S_aload_n dX8_see_10 rfl ?_
    refine S_iconst dX8_see_11 ?_
    refine S_callV (mi := mi_X8_see) [vI 1] ok_X8_refuse ml_X8_54 dX8_see_12 rfl (by decide) rfl (by decide) rfl (Nat.le_of_ble_eq_true rfl) rfl (c_refuse (show Cs Y ρ M from ⟨sc, kn, hS, hCl⟩) 1) ?_
    rintro v' M22 ⟨rfl, hCs22, hF22', hB22'⟩
    obtain ⟨ρ23, e23⟩ : ∃ z9 : RS, z9 = (ρ.setS 42 1) := ⟨_, rfl⟩
    rw [← e23] at hCs22
    obtain ⟨sc, kn, hS23, hCl23⟩ := hCs22
    have hF23 : Fr CLs M M22 := hF0.trans hF22'
    have hB23 : Bg 0 0 M M22 := (hB0.trans hB22').le (by omega) (by omega)
    have s4_23 : ρ23.1 4 = ρ.1 4 := (by rw [e23, RS.setS_ne (by decide)])
    have s30_23 : ρ23.1 30 = ρ.1 30 := (by rw [e23, RS.setS_ne (by decide)])
    have t_23 : thN ρ23 = thN ρ := by rw [e23]; rfl
    clear hA hB hC hD hE hN hG hH hI hJ hK hL
    obtain ⟨hA, hB, hC, hD, hE, hN, hG, hH, hI, hJ, hK, hL⟩ := id hCl23
    exact S_iret dX8_see_15 rfl (Or.inl rfl) (by
      have e9 : seeF ρ e = (((-1) : Int), ρ23) := by
        unfold seeF
        rw [if_pos (by omega), e23]
      rw [e9]
      exact ⟨rfl, ⟨sc, kn, hS23, hCl23⟩, hF23, hB23.le (by omega) (by omega)⟩)
