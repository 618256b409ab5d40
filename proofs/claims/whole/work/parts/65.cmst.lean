/-! THE CLASS: a pair begins -/
def stU (f : Nat → Bool) (e : Nat) : Nat → Bool := fun t => if t = e then true else f t
theorem stU_self {f : Nat → Bool} {e : Nat} : stU f e e = true := if_pos rfl
theorem stU_ne {f : Nat → Bool} {e t : Nat} (h : t ≠ e) : stU f e t = f t := if_neg h
def bgR (ρ : RS) (e : Nat) : RS := ((((ρ.setA 15 e (-1)).setA 16 e (-1)).setA 17 e (-1)).setA 18 e (-1)).setA 19 e (-1)
theorem bgR_s {ρ : RS} {e k : Nat} : (bgR ρ e).1 k = ρ.1 k := rfl
theorem bgR_at {ρ : RS} {e k j : Nat} (h : k < 15 ∨ 19 < k ∨ j ≠ e) : (bgR ρ e).2 k j = ρ.2 k j := by
  unfold bgR
  repeat rw [RS.setA_ne (by omega)]
theorem bgR_e {ρ : RS} {e k : Nat} (h : 15 ≤ k ∧ k ≤ 19) : (bgR ρ e).2 k e = -1 := by
  unfold bgR
  by_cases h19 : k = 19
  · subst h19; rw [RS.setA_eq]
  · rw [RS.setA_ne (by omega)]
    by_cases h18 : k = 18
    · subst h18; rw [RS.setA_eq]
    · rw [RS.setA_ne (by omega)]
      by_cases h17 : k = 17
      · subst h17; rw [RS.setA_eq]
      · rw [RS.setA_ne (by omega)]
        by_cases h16 : k = 16
        · subst h16; rw [RS.setA_eq]
        · rw [RS.setA_ne (by omega)]
          obtain rfl : k = 15 := by omega
          rw [RS.setA_eq]
theorem Cl.same2 {X X' : Gh} {ρ σ : RS} {M M' : Mem} (h : Cl X ρ M) (hX : X'.2 = X.2) (hF : Fr [7] M M') (s1 : ∀ k, σ.1 k = ρ.1 k) (sa : ∀ k j, k < 14 ∨ 19 < k → σ.2 k j = ρ.2 k j) (hE : KE X' σ M') : Cl X' σ M' := by
  obtain ⟨hA, hB, hC, hD, hE0, hN, hG, hH, hI, hJ, hK, hL⟩ := h
  have e4 : σ.1 4 = ρ.1 4 := s1 4
  have e5 : thN σ = thN ρ := congrArg Int.toNat (s1 5)
  refine ⟨?_, ?_, ?_, ?_, hE, ?_, ?_, ?_, ?_, ?_, ?_, ?_⟩
  · show Obj M' (1, 0) [0, 0, 0, 0, 0, 0, 2 * σ.1 4, σ.1 30, σ.1 2, σ.1 3, σ.1 42] pQ
    rw [s1 4, s1 30, s1 2, s1 3, s1 42]
    exact hA.fr hF (by decide)
  · show Obj M' (2, 0) [σ.1 0, σ.1 1] []
    rw [s1 0, s1 1]
    exact hB.fr hF (by decide)
  · have q := hC.fr hF (by decide) (by decide) (by decide) (by decide)
    refine ⟨by rw [hX]; exact q.1, ?_, q.2.2⟩
    rw [e5]
    exact q.2.1
  · have q := hD.fr2 (ρ' := σ) hF (by decide) (s1 5) (fun t => ⟨sa 6 t (by omega), sa 7 t (by omega), sa 8 t (by omega), sa 9 t (by omega), sa 10 t (by omega)⟩)
    unfold KD at q ⊢
    rw [hX]
    exact q
  · exact ⟨(hF (6, 0) (by decide)).1.trans hN.1, fun e he => (hF.P (6, 0) (by decide)).trans (hN.2 e (by omega))⟩
  · intro e he
    have q := hG.fr hF (by decide) e (by omega)
    exact ⟨q.1, fun i hi => by rw [sa 12 e (by omega)] at hi; rw [sa 13 _ (by omega)]; exact q.2 i hi⟩
  · have q := hH.fr hF (by decide) (by decide)
    refine ⟨fun e he => ⟨(q.1 e (by omega)).1, fun i hi => ?_⟩, q.2⟩
    rw [sa 25 e (by omega)] at hi
    obtain ⟨n, kk, q1, q2, q3, q4⟩ := (q.1 e (by omega)).2 i hi
    refine ⟨n, kk, q1, by rw [sa 28 _ (by omega)]; exact q2, by omega, ?_⟩
    rw [sa 26 _ (by omega), sa 27 _ (by omega), sa 29 _ (by omega), sa 9 _ (by omega)]
    exact q4
  · intro e he
    have q := hI.fr hF (by decide) e (by omega)
    exact ⟨q.1, fun i hi => by rw [sa 23 e (by omega)] at hi; rw [sa 24 _ (by omega)]; exact q.2 i hi⟩
  · have q := hJ.fr hF (by decide) (by decide) (by decide)
    refine ⟨q.1, fun l hl => ?_, fun l hl => q.2.2 l (by rw [← s1 30]; exact hl)⟩
    obtain ⟨q1, q2, q3, q4⟩ := q.2.1 l (by rw [← s1 30]; exact hl)
    refine ⟨q1, q2.cg ?_ ?_, q3, ?_⟩
    · show [ρ.2 31 l, 0, 0, 0, ρ.2 35 l, ρ.2 36 l] = [σ.2 31 l, 0, 0, 0, σ.2 35 l, σ.2 36 l]
      rw [sa 31 l (by omega), sa 35 l (by omega), sa 36 l (by omega)]
    · show [none, qx (ρ.2 38 l), qx (ρ.2 37 l), some (13, l)] = [none, qx (σ.2 38 l), qx (σ.2 37 l), some (13, l)]
      rw [sa 38 l (by omega), sa 37 l (by omega)]
    · rw [sa 32 l (by omega), sa 33 l (by omega), sa 34 l (by omega)]
      exact q4
  · have q := hK.fr hF (by decide) (by decide) (by decide)
    refine ⟨q.1, fun i hi => ?_⟩
    obtain ⟨q1, o1, o2, q2, q3⟩ := q.2 i hi
    refine ⟨q1, o1, o2, q2, ?_⟩
    rcases q3 with u | ⟨u1, u2, j, u3, u4, u5⟩ | ⟨u1, u2, n, kk, u3, u4, u5, fr, p, u6⟩ | ⟨u1, t9, u2, u3, u4, u5⟩
    · exact Or.inl (by rw [sa 39 i (by omega)]; exact u)
    · exact Or.inr (Or.inl ⟨by rw [sa 39 i (by omega)]; exact u1, u2, j, u3, by rw [sa 40 i (by omega)]; exact u4, by rw [s1 30]; exact u5⟩)
    · refine Or.inr (Or.inr (Or.inl ⟨by rw [sa 39 i (by omega)]; exact u1, u2, n, kk, u3, by rw [sa 40 i (by omega)]; exact u4, by omega, fr, p, ?_⟩))
      rw [sa 41 i (by omega), sa 9 kk (by omega)]
      exact u6
    · exact Or.inr (Or.inr (Or.inr ⟨u1, t9, u2, by rw [sa 40 i (by omega)]; exact u3, by omega, by rw [sa 39 i (by omega), sa 6 t9 (by omega)]; exact u5⟩))
  · have q := hL.fr hF (by decide) (by decide)
    refine ⟨?_, q.2.1, fun i hi => ?_⟩
    · rw [s1 44]; exact q.1
    · rw [s1 44] at hi
      rw [sa 43 i (by omega)]
      exact q.2.2 i hi
theorem eL_cg2 {b : Bool} {e : Nat} {f g : Nat → Int} (h : ∀ k, 12 ≤ k → k < 31 → k ≠ 14 → g k = f k) : eL b e f = eL b e g := by
  unfold eL
  rw [h 12 (by decide) (by decide) (by decide), h 19 (by decide) (by decide) (by decide), h 20 (by decide) (by decide) (by decide), h 21 (by decide) (by decide) (by decide), h 22 (by decide) (by decide) (by decide), h 25 (by decide) (by decide) (by decide), h 23 (by decide) (by decide) (by decide)]
theorem eQ_cg2 {b : Bool} {e : Nat} {f g : Nat → Int} (h : ∀ k, 12 ≤ k → k < 31 → k ≠ 14 → g k = f k) : eQ b e f = eQ b e g := by
  unfold eQ
  rw [h 15 (by decide) (by decide) (by decide), h 16 (by decide) (by decide) (by decide), h 17 (by decide) (by decide) (by decide), h 18 (by decide) (by decide) (by decide)]
theorem Cl.s14 {X : Gh} {ρ : RS} {M : Mem} (h : Cl X ρ M) (i : Nat) (v : Int) : Cl X (ρ.setA 14 i v) M := by
  have hE := h.2.2.2.2.1
  refine h.same2 rfl (Fr.rf _ M) (fun _ => rfl) (fun k j hk => RS.setA_ne (by omega)) ⟨fun e he => (hE.1 e he).cg (eL_cg2 (fun k _ _ h3 => RS.setA_ne (Or.inl h3))) (eQ_cg2 (fun k _ _ h3 => RS.setA_ne (Or.inl h3))), hE.2⟩
theorem eL_b {e : Nat} {f g : Nat → Int} (h19 : g 19 = -1) (h : ∀ k, k = 12 ∨ k = 20 ∨ k = 21 ∨ k = 22 ∨ k = 23 ∨ k = 25 → g k = f k) : (eL false e f).set 3 1 = eL true e g := by
  unfold eL
  rw [h19, h 12 (by decide), h 20 (by decide), h 21 (by decide), h 22 (by decide), h 25 (by decide), h 23 (by decide)]
  rfl
theorem eQ_b {e : Nat} {f g : Nat → Int} (h15 : g 15 = -1) (h16 : g 16 = -1) (h17 : g 17 = -1) (h18 : g 18 = -1) : eQ false e f = eQ true e g := by
  unfold eQ
  rw [h15, h16, h17, h18]
  rfl
theorem Cl.begin {st par : Nat → Bool} {sc : Nat → Int} {kn : Int} {ρ : RS} {M : Mem} (h : Cl (st, par, sc, kn) ρ M) (e : Nat) (he : (e : Int) < 2 * ρ.1 4) (hx : st e = false) : Cl (stU st e, par, sc, kn) (bgR ρ e) (M.putI (7, e) 3 1) := by
  have hE := h.2.2.2.2.1
  have hF : Fx (7, e) M (M.putI (7, e) 3 1) := Fx.pI
  refine h.same2 (X' := (stU st e, par, sc, kn)) rfl (hF.fr (by decide)) (fun _ => rfl) (fun k j hk => bgR_at (by omega)) ⟨fun e1 he1 => ?_, fun e1 he1 => ?_⟩
  · by_cases h1 : e1 = e
    · subst h1
      have q := hE.1 e1 he
      have q2 := q.putI (k := 3) (v := 1) (show 3 < 16 by decide)
      refine q2.cg ?_ ?_
      · show (eL (st e1) e1 (fun k => ρ.2 k e1)).set 3 1 = eL (stU st e1 e1) e1 (fun k => (bgR ρ e1).2 k e1)
        rw [hx, stU_self]
        exact eL_b (f := fun k => ρ.2 k e1) (g := fun k => (bgR ρ e1).2 k e1) (bgR_e (by decide)) (fun k hk => bgR_at (by omega))
      · show eQ (st e1) e1 (fun k => ρ.2 k e1) = eQ (stU st e1 e1) e1 (fun k => (bgR ρ e1).2 k e1)
        rw [hx, stU_self]
        exact eQ_b (f := fun k => ρ.2 k e1) (g := fun k => (bgR ρ e1).2 k e1) (bgR_e (by decide)) (bgR_e (by decide)) (bgR_e (by decide)) (bgR_e (by decide))
    · have q := (hE.1 e1 he1).at (hF (7, e1) (rni h1))
      refine q.cg ?_ ?_
      · show eL (st e1) e1 (fun k => ρ.2 k e1) = eL (stU st e e1) e1 (fun k => (bgR ρ e).2 k e1)
        rw [stU_ne h1]
        exact eL_cg2 (fun k _ _ _ => bgR_at (Or.inr (Or.inr h1)))
      · show eQ (st e1) e1 (fun k => ρ.2 k e1) = eQ (stU st e e1) e1 (fun k => (bgR ρ e).2 k e1)
        rw [stU_ne h1]
        exact eQ_cg2 (fun k _ _ _ => bgR_at (Or.inr (Or.inr h1)))
  · have q := hE.2 e1 he1
    exact q
theorem rs_ext {σ τ : RS} (h1 : ∀ k, σ.1 k = τ.1 k) (h2 : ∀ k j, σ.2 k j = τ.2 k j) : σ = τ := Prod.ext (funext h1) (funext fun k => funext (h2 k))
section
variable {σ : RS} {f j : Nat} {v : Int}
theorem meR_A {a b : Nat} (hf : 10 < f) : meI (σ.setA f j v) a b = meI σ a b ∧ meR (σ.setA f j v) a b = (meR σ a b).setA f j v := by
  have hv : meV (σ.setA f j v) a b = meV σ a b := by
    unfold meV
    rw [RS.setA_ne (Or.inl (by omega)), RS.setA_ne (Or.inl (by omega))]
    rfl
  refine ⟨(thR_setA (w := 0) hf).1, ?_⟩
  show thR (σ.setA f j v) 5 (meLo a b) (meHi a b) (meV (σ.setA f j v) a b) = _
  rw [hv]
  exact (thR_setA hf).2
theorem rtR_A {r : Int} {m : Nat} (hf : 10 < f) : rtI (σ.setA f j v) r m = rtI σ r m ∧ rtR (σ.setA f j v) r m = (rtR σ r m).setA f j v := by
  have hv : rtV (σ.setA f j v) r m = rtV σ r m := by
    unfold rtV
    rw [RS.setA_ne (Or.inl (by omega)), RS.setA_ne (Or.inl (by omega))]
    rfl
  refine ⟨(thR_setA (w := 0) hf).1, ?_⟩
  show thR (σ.setA f j v) 2 r m (rtV (σ.setA f j v) r m) = _
  rw [hv]
  exact (thR_setA hf).2
theorem chR_A {t : Nat} (hf : 10 < f) : chI (σ.setA f j v) t = chI σ t ∧ chR (σ.setA f j v) t = (chR σ t).setA f j v := by
  have hv : chV (σ.setA f j v) t = chV σ t := by
    unfold chV
    rw [RS.setA_ne (Or.inl (by omega)), RS.setA_ne (Or.inl (by omega))]
    rfl
  refine ⟨(thR_setA (w := 0) hf).1, ?_⟩
  show thR (σ.setA f j v) 1 t (-1) (chV (σ.setA f j v) t) = _
  rw [hv]
  exact (thR_setA hf).2
theorem rmR_A {r : Int} {a b : Nat} (hf : 10 < f) : rmI (σ.setA f j v) r a b = rmI σ r a b ∧ rmR (σ.setA f j v) r a b = (rmR σ r a b).setA f j v := by
  unfold rmI rmR
  rw [(meR_A hf).1, (meR_A hf).2, (rtR_A hf).1, (rtR_A hf).2]
  exact ⟨rfl, rfl⟩
theorem nextR_A {e n : Nat} (hf : 13 < f) : nextR (σ.setA f j v) e n = (nextR σ e n).setA f j v := by
  refine rs_ext (fun k => rfl) (fun k i => ?_)
  by_cases h12 : k = 12
  · subst h12
    rw [RS.setA_ne (by omega)]
    by_cases hi : i = e
    · subst hi; rw [nextR_12, nextR_12]
    · rw [nextR_12ne hi, nextR_12ne hi, RS.setA_ne (by omega)]
  · by_cases h13 : k = 13
    · subst h13
      rw [RS.setA_ne (by omega)]
      by_cases hi : 12 * e ≤ i ∧ i < 12 * e + n
      · rw [nextR_13s hi, nextR_13s hi, RS.setA_ne (by omega)]
      · rw [nextR_13 (by omega), nextR_13 (by omega), RS.setA_ne (by omega)]
    · rw [nextR_at ⟨h12, h13⟩]
      by_cases hk : k = f ∧ i = j
      · obtain ⟨rfl, rfl⟩ := hk
        rw [RS.setA_eq, RS.setA_eq]
      · rw [RS.setA_ne (by omega), RS.setA_ne (by omega), nextR_at ⟨h12, h13⟩]
end
theorem st_o (S : RS) (o n b r : Nat) : ((bgR S o).setA 15 o ↑b).setA 16 o ↑r = st2 S o n b r := by
  unfold bgR st2
  refine rs_ext (fun k => rfl) (fun k j => ?_)
  by_cases h : j = o ∧ 15 ≤ k ∧ k ≤ 19
  · obtain ⟨rfl, h1, h2⟩ := h
    have hk : k = 15 ∨ k = 16 ∨ k = 17 ∨ k = 18 ∨ k = 19 := by omega
    rcases hk with rfl | rfl | rfl | rfl | rfl <;> (repeat (first | rw [RS.setA_eq] | rw [RS.setA_ne (by omega)]))
  · repeat rw [RS.setA_ne (by omega)]
theorem st_e (Q : RS) (e : Nat) (c : Int) : (bgR Q e).setA 15 e c = ((((Q.setA 15 e c).setA 16 e (-1)).setA 17 e (-1)).setA 18 e (-1)).setA 19 e (-1) := by
  unfold bgR
  refine rs_ext (fun k => rfl) (fun k j => ?_)
  by_cases h : j = e ∧ 15 ≤ k ∧ k ≤ 19
  · obtain ⟨rfl, h1, h2⟩ := h
    have hk : k = 15 ∨ k = 16 ∨ k = 17 ∨ k = 18 ∨ k = 19 := by omega
    rcases hk with rfl | rfl | rfl | rfl | rfl <;> (repeat (first | rw [RS.setA_eq] | rw [RS.setA_ne (by omega)]))
  · repeat rw [RS.setA_ne (by omega)]
theorem st_f (W : RS) (e : Nat) (r : Int) : ((((W.setA 16 e (-1)).setA 17 e (-1)).setA 18 e (-1)).setA 19 e (-1)).setA 16 e r = (((W.setA 16 e r).setA 17 e (-1)).setA 18 e (-1)).setA 19 e (-1) := by
  refine rs_ext (fun k => rfl) (fun k j => ?_)
  by_cases h : j = e ∧ 15 ≤ k ∧ k ≤ 19
  · obtain ⟨rfl, h1, h2⟩ := h
    have hk : k = 15 ∨ k = 16 ∨ k = 17 ∨ k = 18 ∨ k = 19 := by omega
    rcases hk with rfl | rfl | rfl | rfl | rfl <;> (repeat (first | rw [RS.setA_eq] | rw [RS.setA_ne (by omega)]))
  · repeat rw [RS.setA_ne (by omega)]
theorem st_g (T : RS) (e : Nat) (c v : Int) : ((((T.setA 17 e (-1)).setA 18 e (-1)).setA 19 e (-1)).setA 17 e c).setA 19 e v = ((T.setA 17 e c).setA 18 e (-1)).setA 19 e v := by
  refine rs_ext (fun k => rfl) (fun k j => ?_)
  by_cases h : j = e ∧ 15 ≤ k ∧ k ≤ 19
  · obtain ⟨rfl, h1, h2⟩ := h
    have hk : k = 15 ∨ k = 16 ∨ k = 17 ∨ k = 18 ∨ k = 19 := by omega
    rcases hk with rfl | rfl | rfl | rfl | rfl <;> (repeat (first | rw [RS.setA_eq] | rw [RS.setA_ne (by omega)]))
  · repeat rw [RS.setA_ne (by omega)]
theorem bgR_n (P : RS) (e n : Nat) : nextR (bgR P e) e n = bgR (nextR P e n) e := by
  unfold bgR
  rw [nextR_A (by decide), nextR_A (by decide), nextR_A (by decide), nextR_A (by decide), nextR_A (by decide)]
theorem rm_b4 (R : RS) (e : Nat) (r : Int) (a b : Nat) : rmI ((((R.setA 16 e (-1)).setA 17 e (-1)).setA 18 e (-1)).setA 19 e (-1)) r a b = rmI R r a b ∧ rmR ((((R.setA 16 e (-1)).setA 17 e (-1)).setA 18 e (-1)).setA 19 e (-1)) r a b = ((((rmR R r a b).setA 16 e (-1)).setA 17 e (-1)).setA 18 e (-1)).setA 19 e (-1) := by
  rw [(rmR_A (by decide)).1, (rmR_A (by decide)).1, (rmR_A (by decide)).1, (rmR_A (by decide)).1, (rmR_A (by decide)).2, (rmR_A (by decide)).2, (rmR_A (by decide)).2, (rmR_A (by decide)).2]
  exact ⟨rfl, rfl⟩
theorem ch_b3 (R : RS) (e t : Nat) : chI (((R.setA 17 e (-1)).setA 18 e (-1)).setA 19 e (-1)) t = chI R t ∧ chR (((R.setA 17 e (-1)).setA 18 e (-1)).setA 19 e (-1)) t = (((chR R t).setA 17 e (-1)).setA 18 e (-1)).setA 19 e (-1) := by
  rw [(chR_A (by decide)).1, (chR_A (by decide)).1, (chR_A (by decide)).1, (chR_A (by decide)).2, (chR_A (by decide)).2, (chR_A (by decide)).2]
  exact ⟨rfl, rfl⟩
def startY (Y : (Nat → Bool) × (Nat → Bool)) (ρ : RS) (p : Int) : (Nat → Bool) × (Nat → Bool) := if (startF ρ p).1 = 1 then (stU (stU Y.1 (2 * p.toNat + 1)) (2 * p.toNat), Y.2) else Y
