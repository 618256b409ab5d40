/-! WHAT HOLDS BETWEEN THE CALLS IS KEPT: group by group -/
def Gr (ρ σ : RS) : Prop := thN ρ ≤ thN σ ∧ ∀ k t, 6 ≤ k → k ≤ 9 → t < thN ρ → σ.2 k t = ρ.2 k t
theorem Gr.rf (ρ : RS) : Gr ρ ρ := ⟨Nat.le_refl _, fun _ _ _ _ _ => rfl⟩
theorem Gr.of {ρ σ : RS} (h5 : σ.1 5 = ρ.1 5) (h : ∀ k j, 6 ≤ k → k ≤ 9 → σ.2 k j = ρ.2 k j) : Gr ρ σ := ⟨by rw [thN_congr h5]; exact Nat.le_refl _, fun k t a b _ => h k t a b⟩
theorem Gr.gx {ρ σ : RS} (h : Gx ρ σ) : Gr ρ σ := ⟨h.1, fun k t a b c => h.2 k t a (by omega) c⟩
theorem Gr.k {ρ σ : RS} (g : Gr ρ σ) {t : Nat} {v : Int} (ht : t < thN ρ) (h : ρ.2 6 t = v) : t < thN σ ∧ σ.2 6 t = v := ⟨Nat.lt_of_lt_of_le ht g.1, (g.2 6 t (by decide) (by decide) ht).trans h⟩
section
variable {st par : Nat → Bool} {ρ σ : RS}
theorem ivR.g (h : ivR par ρ) (g : Gr ρ σ) (ha : ∀ k j, k = 12 ∨ k = 13 → σ.2 k j = ρ.2 k j) : ivR par σ := by
  refine ⟨fun e he => ?_, fun e i n he hn hi => ?_⟩
  · obtain ⟨n, q1, q2, q3⟩ := h.1 e he
    refine ⟨n, q1, by rw [ha 12 e (by omega)]; exact q2, fun i hi => ?_⟩
    obtain ⟨t, u1, u2, u3⟩ := q3 i hi
    exact ⟨t, by rw [ha 13 _ (by omega)]; exact u1, (g.k u2 u3).1, (g.k u2 u3).2⟩
  · rw [ha 13 _ (by omega)]
    exact h.2 e i n he (by rw [← ha 12 e (by omega)]; exact hn) hi
theorem EndOK.g {e : Nat} (h : EndOK ρ e) (g : Gr ρ σ) (ha : ∀ k, 15 ≤ k → k ≤ 18 → σ.2 k e = ρ.2 k e) : EndOK σ e := by
  obtain ⟨⟨s, a1, a2, a3⟩, ⟨r, b1, b2, b3⟩, c, d⟩ := h
  refine ⟨⟨s, (ha 15 (by decide) (by decide)).trans a1, (g.k a2 a3).1, (g.k a2 a3).2⟩, ⟨r, (ha 16 (by decide) (by decide)).trans b1, (g.k b2 b3).1, (g.k b2 b3).2⟩, ?_, ?_⟩
  · rcases c with c | ⟨c, c1, c2, c3⟩
    · exact Or.inl ((ha 17 (by decide) (by decide)).trans c)
    · exact Or.inr ⟨c, (ha 17 (by decide) (by decide)).trans c1, (g.k c2 c3).1, (g.k c2 c3).2⟩
  · rcases d with c | ⟨c, c1, c2, c3⟩
    · exact Or.inl ((ha 18 (by decide) (by decide)).trans c)
    · exact Or.inr ⟨c, (ha 18 (by decide) (by decide)).trans c1, (g.k c2 c3).1, (g.k c2 c3).2⟩
theorem ivE.g (h : ivE st par ρ) (g : Gr ρ σ) (s4 : σ.1 4 = ρ.1 4) (ha : ∀ k j, 14 ≤ k → k ≤ 18 → σ.2 k j = ρ.2 k j) : ivE st par σ := by
  refine ⟨fun e he h14 => ?_, fun e he h14 => ?_, fun e he => ?_, fun p hp => ?_⟩
  · rw [ha 14 _ (by decide) (by decide)] at h14
    exact (h.1 e he h14).g g (fun k a b => ha k e (by omega) b)
  · rw [ha 14 _ (by decide) (by decide)] at h14
    rw [ha 15 _ (by decide) (by decide)]
    exact h.2.1 e he h14
  · rw [ha 14 _ (by decide) (by decide)]
    exact h.2.2.1 e he
  · rw [ha 14 _ (by decide) (by decide), s4]
    exact h.2.2.2 p hp
theorem EnN.g (h : EnN ρ) (s30 : ρ.1 30 ≤ σ.1 30) (ha : ∀ k j, k = 14 ∨ (19 ≤ k ∧ k ≤ 22) → σ.2 k j = ρ.2 k j) : EnN σ := fun e he h14 => by
  rw [ha 14 _ (by omega)] at h14
  obtain ⟨a, ⟨p, b1, b2⟩, c, d⟩ := h e he h14
  rw [ha 19 e (by omega), ha 20 e (by omega), ha 21 e (by omega), ha 22 e (by omega)]
  exact ⟨a, ⟨p, b1, by omega⟩, c, d⟩
theorem LfOK.g (h : LfOK ρ) (ha : ∀ k j, k = 23 ∨ k = 24 → σ.2 k j = ρ.2 k j) : LfOK σ := ⟨fun e he => by rw [ha 23 e (by omega)]; exact h.1 e he, fun j hj => by rw [ha 24 j (by omega)]; exact h.2 j hj⟩
theorem KyOK.g (h : KyOK ρ) (g : Gr ρ σ) (ha : ∀ k j, k = 25 ∨ k = 28 → σ.2 k j = ρ.2 k j) : KyOK σ := fun e j n he hn hj => by
  rw [ha 25 e (by omega)] at hn
  obtain ⟨k, q1, q2, q3⟩ := h e j n he hn hj
  exact ⟨k, by rw [ha 28 _ (by omega)]; exact q1, (g.k q2 q3).1, (g.k q2 q3).2⟩
theorem ivK.g (h : ivK ρ) (g : Gr ρ σ) (s30 : ρ.1 30 ≤ σ.1 30) (ha : ∀ k j, 25 ≤ k → k ≤ 29 → σ.2 k j = ρ.2 k j) : ivK σ := by
  refine ⟨h.1.congr ha, h.2.1.g g (fun k j hk => ha k j (by omega) (by omega)), h.2.2.1.cg ha, fun e n i he hn hi => ?_⟩
  rw [ha 25 e (by decide) (by decide)] at hn
  rw [ha 29 _ (by decide) (by decide)]
  have := h.2.2.2 e n i he hn hi
  omega
theorem ivL.g (h : ivL par ρ) (g : Gr ρ σ) (s0 : σ.1 0 = ρ.1 0) (s1 : σ.1 1 = ρ.1 1) (s30 : σ.1 30 = ρ.1 30) (ha : ∀ k j, k = 14 ∨ (31 ≤ k ∧ k ≤ 38) → σ.2 k j = ρ.2 k j) : ivL par σ := by
  refine ⟨fun l hl => ?_, fun l hl => ?_⟩
  · rw [s30] at hl
    obtain ⟨⟨x, a1, a2, a3⟩, b, c, d, f, i, ⟨k, k1, k2, k3⟩, z, z1, z2, z3⟩ := h.1 l hl
    rw [ha 31 l (by omega), ha 32 l (by omega), ha 33 l (by omega), ha 34 l (by omega), ha 35 l (by omega), ha 36 l (by omega), ha 37 l (by omega), ha 38 l (by omega)]
    exact ⟨⟨x, a1, a2, by rw [ha 14 _ (by omega)]; exact a3⟩, b, c, d, f, i, ⟨k, k1, (g.k k2 k3).1, (g.k k2 k3).2⟩, z, z1, (g.k z2 z3).1, (g.k z2 z3).2⟩
  · rw [s30] at hl
    obtain ⟨z, z1, z2, z3⟩ := (h.1 l hl).2.2.2.2.2.2.2
    have q := h.2 l hl
    rw [ha 31 l (by omega), ha 32 l (by omega), ha 38 l (by omega), s0, s1]
    rw [z1, Int.toNat_natCast] at q ⊢
    rw [g.2 9 z (by decide) (by decide) z2]
    exact q
theorem TrOK.g (h : TrOK ρ) (g : Gr ρ σ) (s30 : ρ.1 30 ≤ σ.1 30) (ha : ∀ k j, k = 39 ∨ k = 40 → σ.2 k j = ρ.2 k j) : TrOK σ := fun i hi => by
  have q := h i hi
  have q1 := g.1
  rw [ha 39 i (by omega), ha 40 i (by omega)]
  exact ⟨q.1, fun h1 => by have := q.2.1 h1; omega, fun h2 => by have := q.2.2 h2; omega⟩
theorem FrE.g (h : FrE ρ) (s4 : ρ.1 4 ≤ σ.1 4) (ha : ∀ k j, k = 12 ∨ (20 ≤ k ∧ k ≤ 23) ∨ k = 25 → σ.2 k j = ρ.2 k j) : FrE σ := fun e he h4 => by
  rw [ha 12 e (by omega), ha 20 e (by omega), ha 21 e (by omega), ha 22 e (by omega), ha 23 e (by omega), ha 25 e (by omega)]
  exact h e he (by omega)
theorem bnd.g (h : bnd ρ) (s : ∀ k, k = 2 ∨ k = 3 ∨ k = 4 ∨ k = 30 ∨ k = 44 → σ.1 k = ρ.1 k) : bnd σ := by
  unfold bnd
  rw [s 2 (by omega), s 3 (by omega), s 4 (by omega), s 30 (by omega), s 44 (by omega)]
  exact h
theorem TI.own {N : Nat} (h : TI par σ N) : TI par σ (thN σ) := ⟨⟨h.1.1, Nat.le_refl _, h.1.2.2⟩, h.2⟩
end
section
variable {Y : (Nat → Bool) × (Nat → Bool)} {ρ σ : RS}
theorem Iv.grow (h : Iv Y ρ) {N : Nat} (hT : TI Y.2 σ N) (hS : ShOK σ (thN σ)) (g : Gr ρ σ) (s : ∀ k, k ≠ 5 → σ.1 k = ρ.1 k) (a : ∀ k j, 10 < k → σ.2 k j = ρ.2 k j) : Iv Y σ := by
  obtain ⟨b, t, r, e, n, lf, k, l, tr, f⟩ := h
  exact ⟨b.g (fun k hk => s k (by omega)), ⟨hT.own, hS⟩, r.g g (fun k j hk => a k j (by omega)), e.g g (s 4 (by decide)) (fun k j h1 h2 => a k j (by omega)), n.g (by rw [s 30 (by decide)]; exact Int.le_refl _) (fun k j hk => a k j (by omega)), lf.g (fun k j hk => a k j (by omega)),
    k.g g (by rw [s 30 (by decide)]; exact Int.le_refl _) (fun k j h1 h2 => a k j (by omega)), l.g g (s 0 (by decide)) (s 1 (by decide)) (s 30 (by decide)) (fun k j hk => a k j (by omega)), tr.g g (by rw [s 30 (by decide)]; exact Int.le_refl _) (fun k j hk => a k j (by omega)), f.g (by rw [s 4 (by decide)]; exact Int.le_refl _) (fun k j hk => a k j (by omega))⟩
theorem ShOK.thR {N : Nat} (h : ShOK ρ (thN ρ)) (hT : ThOK ρ N) (k a b v : Int) : ShOK (thR ρ k a b v) (thN (thR ρ k a b v)) := by
  rcases thR_cases ρ k a b v with ⟨-, q⟩ | ⟨-, q⟩
  · rw [q]; exact h
  · rw [q, thN_new hT]
    intro t ht
    by_cases hn : t = thN ρ
    · subst hn
      exact Or.inl (by unfold newT; rw [RS.setS_a, RS.setA_eq])
    · rw [show (newT ρ k a b v).2 10 t = ρ.2 10 t from by unfold newT; rw [RS.setS_a, RS.setA_ne (by omega), RS.setA_ne (by omega), RS.setA_ne (by omega), RS.setA_ne (by omega), RS.setA_ne (by omega)]]
      exact h t (by omega)
theorem Iv.comes {N : Nat} (h : Iv Y ρ) {k a b v : Int} (hT : TI Y.2 (thR ρ k a b v) N) (hle : thN ρ ≤ thN (thR ρ k a b v)) : Iv Y (thR ρ k a b v) :=
  h.grow hT (ShOK.thR h.2.1.2 h.2.1.1.1 k a b v) ⟨hle, fun i t _ h2 ht => thR_old_at _ _ _ _ _ _ _ (Or.inl ht)⟩ (fun i hi => thR_s _ _ _ _ _ _ hi) (fun i j hi => thR_old_at _ _ _ _ _ _ _ (Or.inr (Or.inr hi)))
theorem Iv.ky {c : Nat} (h : Iv Y ρ) (hc : c < thN ρ) : Iv Y (kyR ρ c) := h.comes (h.2.1.1.ky hc).1 (h.2.1.1.ky hc).2.2
theorem Iv.ch {c : Nat} (h : Iv Y ρ) (hc : c < thN ρ) : Iv Y (chR ρ c) := h.comes (h.2.1.1.ch hc).1 (h.2.1.1.ch hc).2.2
theorem Iv.rt {r : Int} {m : Nat} (h : Iv Y ρ) (hr : r = -1 ∨ (0 ≤ r ∧ r < thN ρ)) (hm : m < thN ρ) : Iv Y (rtR ρ r m) := h.comes (h.2.1.1.rt hr hm).1 (h.2.1.1.rt hr hm).2.2
theorem Iv.me {x y : Nat} (h : Iv Y ρ) (hx : x < thN ρ) (hy : y < thN ρ) (hp : Y.2 x ≠ Y.2 y) : Iv Y (meR ρ x y) := h.comes (h.2.1.1.me hx hy hp).1 (h.2.1.1.me hx hy hp).2.2
theorem Iv.a15 (h : Iv Y ρ) (e s : Nat) (hs : s < thN ρ) (hk : ρ.2 6 s = 3) (hp : Y.2 s = decide (e % 2 = 1)) : Iv Y (ρ.setA 15 e ↑s) := by
  have g : Gr ρ (ρ.setA 15 e ↑s) := Gr.of rfl (fun k j h1 h2 => RS.setA_ne (Or.inl (by omega)))
  obtain ⟨b, ⟨t1, t2⟩, r, ee, nn, lf, kk, ll, tr, ff⟩ := h
  refine ⟨b, ⟨t1.cg ⟨rfl, rfl, rfl⟩ (fun k j h1 h2 => RS.setA_ne (Or.inl (by omega))), fun t ht => ?_⟩, r.g g (fun k j hk => RS.setA_ne (Or.inl (by omega))), ?_, nn.g (Int.le_refl _) (fun k j hk => RS.setA_ne (Or.inl (by omega))), lf.g (fun k j hk => RS.setA_ne (Or.inl (by omega))), kk.g g (Int.le_refl _) (fun k j h1 h2 => RS.setA_ne (Or.inl (by omega))), ll.g g rfl rfl rfl (fun k j hk => RS.setA_ne (Or.inl (by omega))), tr.g g (Int.le_refl _) (fun k j hk => RS.setA_ne (Or.inl (by omega))), ff.g (Int.le_refl _) (fun k j hk => RS.setA_ne (Or.inl (by omega)))⟩
  · rw [RS.setA_ne (Or.inl (by decide))]; exact t2 t ht
  · refine ⟨fun e1 h1 h14 => ?_, fun e1 h1 h14 => ?_, fun e1 h1 => ?_, fun p hp => ?_⟩
    · rw [RS.setA_ne (Or.inl (by decide))] at h14
      have q := ee.1 e1 h1 h14
      by_cases hx : e1 = e
      · subst hx
        exact ⟨⟨s, RS.setA_eq _ _ _ _, (g.k hs hk).1, (g.k hs hk).2⟩, by
          obtain ⟨s1, u1, u2, u3⟩ := q.2.1
          exact ⟨s1, (RS.setA_ne (Or.inl (by decide))).trans u1, (g.k u2 u3).1, (g.k u2 u3).2⟩, by
          rcases q.2.2.1 with u | ⟨c1, u1, u2, u3⟩
          · exact Or.inl ((RS.setA_ne (Or.inl (by decide))).trans u)
          · exact Or.inr ⟨c1, (RS.setA_ne (Or.inl (by decide))).trans u1, (g.k u2 u3).1, (g.k u2 u3).2⟩, by
          rcases q.2.2.2 with u | ⟨c1, u1, u2, u3⟩
          · exact Or.inl ((RS.setA_ne (Or.inl (by decide))).trans u)
          · exact Or.inr ⟨c1, (RS.setA_ne (Or.inl (by decide))).trans u1, (g.k u2 u3).1, (g.k u2 u3).2⟩⟩
      · exact (ee.1 e1 h1 h14).g g (fun k _ _ => RS.setA_ne (Or.inr hx))
    · rw [RS.setA_ne (Or.inl (by decide))] at h14
      by_cases hx : e1 = e
      · subst hx; rw [RS.setA_eq, Int.toNat_natCast]; exact hp
      · rw [RS.setA_ne (Or.inr hx)]; exact ee.2.1 e1 h1 h14
    · rw [RS.setA_ne (Or.inl (by decide))]; exact ee.2.2.1 e1 h1
    · rw [RS.setA_ne (Or.inl (by decide))]; exact ee.2.2.2 p hp
theorem Iv.a16 (h : Iv Y ρ) (e s : Nat) (hs : s < thN ρ) (hk : ρ.2 6 s = 2) : Iv Y (ρ.setA 16 e ↑s) := by
  have g : Gr ρ (ρ.setA 16 e ↑s) := Gr.of rfl (fun k j h1 h2 => RS.setA_ne (Or.inl (by omega)))
  obtain ⟨b, ⟨t1, t2⟩, r, ee, nn, lf, kk, ll, tr, ff⟩ := h
  refine ⟨b, ⟨t1.cg ⟨rfl, rfl, rfl⟩ (fun k j h1 h2 => RS.setA_ne (Or.inl (by omega))), fun t ht => ?_⟩, r.g g (fun k j hk => RS.setA_ne (Or.inl (by omega))), ?_, nn.g (Int.le_refl _) (fun k j hk => RS.setA_ne (Or.inl (by omega))), lf.g (fun k j hk => RS.setA_ne (Or.inl (by omega))), kk.g g (Int.le_refl _) (fun k j h1 h2 => RS.setA_ne (Or.inl (by omega))), ll.g g rfl rfl rfl (fun k j hk => RS.setA_ne (Or.inl (by omega))), tr.g g (Int.le_refl _) (fun k j hk => RS.setA_ne (Or.inl (by omega))), ff.g (Int.le_refl _) (fun k j hk => RS.setA_ne (Or.inl (by omega)))⟩
  · rw [RS.setA_ne (Or.inl (by decide))]; exact t2 t ht
  · refine ⟨fun e1 h1 h14 => ?_, fun e1 h1 h14 => ?_, fun e1 h1 => ?_, fun p hp => ?_⟩
    · rw [RS.setA_ne (Or.inl (by decide))] at h14
      have q := ee.1 e1 h1 h14
      by_cases hx : e1 = e
      · subst hx
        exact ⟨by
          obtain ⟨s1, u1, u2, u3⟩ := q.1
          exact ⟨s1, (RS.setA_ne (Or.inl (by decide))).trans u1, (g.k u2 u3).1, (g.k u2 u3).2⟩, ⟨s, RS.setA_eq _ _ _ _, (g.k hs hk).1, (g.k hs hk).2⟩, by
          rcases q.2.2.1 with u | ⟨c1, u1, u2, u3⟩
          · exact Or.inl ((RS.setA_ne (Or.inl (by decide))).trans u)
          · exact Or.inr ⟨c1, (RS.setA_ne (Or.inl (by decide))).trans u1, (g.k u2 u3).1, (g.k u2 u3).2⟩, by
          rcases q.2.2.2 with u | ⟨c1, u1, u2, u3⟩
          · exact Or.inl ((RS.setA_ne (Or.inl (by decide))).trans u)
          · exact Or.inr ⟨c1, (RS.setA_ne (Or.inl (by decide))).trans u1, (g.k u2 u3).1, (g.k u2 u3).2⟩⟩
      · exact (ee.1 e1 h1 h14).g g (fun k _ _ => RS.setA_ne (Or.inr hx))
    · rw [RS.setA_ne (Or.inl (by decide))] at h14
      rw [RS.setA_ne (Or.inl (by decide))]
      exact ee.2.1 e1 h1 h14
    · rw [RS.setA_ne (Or.inl (by decide))]; exact ee.2.2.1 e1 h1
    · rw [RS.setA_ne (Or.inl (by decide))]; exact ee.2.2.2 p hp
theorem Iv.a17 (h : Iv Y ρ) (e s : Nat) (hs : s < thN ρ) (hk : ρ.2 6 s = 1) : Iv Y (ρ.setA 17 e ↑s) := by
  have g : Gr ρ (ρ.setA 17 e ↑s) := Gr.of rfl (fun k j h1 h2 => RS.setA_ne (Or.inl (by omega)))
  obtain ⟨b, ⟨t1, t2⟩, r, ee, nn, lf, kk, ll, tr, ff⟩ := h
  refine ⟨b, ⟨t1.cg ⟨rfl, rfl, rfl⟩ (fun k j h1 h2 => RS.setA_ne (Or.inl (by omega))), fun t ht => ?_⟩, r.g g (fun k j hk => RS.setA_ne (Or.inl (by omega))), ?_, nn.g (Int.le_refl _) (fun k j hk => RS.setA_ne (Or.inl (by omega))), lf.g (fun k j hk => RS.setA_ne (Or.inl (by omega))), kk.g g (Int.le_refl _) (fun k j h1 h2 => RS.setA_ne (Or.inl (by omega))), ll.g g rfl rfl rfl (fun k j hk => RS.setA_ne (Or.inl (by omega))), tr.g g (Int.le_refl _) (fun k j hk => RS.setA_ne (Or.inl (by omega))), ff.g (Int.le_refl _) (fun k j hk => RS.setA_ne (Or.inl (by omega)))⟩
  · rw [RS.setA_ne (Or.inl (by decide))]; exact t2 t ht
  · refine ⟨fun e1 h1 h14 => ?_, fun e1 h1 h14 => ?_, fun e1 h1 => ?_, fun p hp => ?_⟩
    · rw [RS.setA_ne (Or.inl (by decide))] at h14
      have q := ee.1 e1 h1 h14
      by_cases hx : e1 = e
      · subst hx
        exact ⟨by
          obtain ⟨s1, u1, u2, u3⟩ := q.1
          exact ⟨s1, (RS.setA_ne (Or.inl (by decide))).trans u1, (g.k u2 u3).1, (g.k u2 u3).2⟩, by
          obtain ⟨s1, u1, u2, u3⟩ := q.2.1
          exact ⟨s1, (RS.setA_ne (Or.inl (by decide))).trans u1, (g.k u2 u3).1, (g.k u2 u3).2⟩, Or.inr ⟨s, RS.setA_eq _ _ _ _, (g.k hs hk).1, (g.k hs hk).2⟩, by
          rcases q.2.2.2 with u | ⟨c1, u1, u2, u3⟩
          · exact Or.inl ((RS.setA_ne (Or.inl (by decide))).trans u)
          · exact Or.inr ⟨c1, (RS.setA_ne (Or.inl (by decide))).trans u1, (g.k u2 u3).1, (g.k u2 u3).2⟩⟩
      · exact (ee.1 e1 h1 h14).g g (fun k _ _ => RS.setA_ne (Or.inr hx))
    · rw [RS.setA_ne (Or.inl (by decide))] at h14
      rw [RS.setA_ne (Or.inl (by decide))]
      exact ee.2.1 e1 h1 h14
    · rw [RS.setA_ne (Or.inl (by decide))]; exact ee.2.2.1 e1 h1
    · rw [RS.setA_ne (Or.inl (by decide))]; exact ee.2.2.2 p hp
theorem Iv.a18 (h : Iv Y ρ) (e s : Nat) (hs : s < thN ρ) (hk : ρ.2 6 s = 1) : Iv Y (ρ.setA 18 e ↑s) := by
  have g : Gr ρ (ρ.setA 18 e ↑s) := Gr.of rfl (fun k j h1 h2 => RS.setA_ne (Or.inl (by omega)))
  obtain ⟨b, ⟨t1, t2⟩, r, ee, nn, lf, kk, ll, tr, ff⟩ := h
  refine ⟨b, ⟨t1.cg ⟨rfl, rfl, rfl⟩ (fun k j h1 h2 => RS.setA_ne (Or.inl (by omega))), fun t ht => ?_⟩, r.g g (fun k j hk => RS.setA_ne (Or.inl (by omega))), ?_, nn.g (Int.le_refl _) (fun k j hk => RS.setA_ne (Or.inl (by omega))), lf.g (fun k j hk => RS.setA_ne (Or.inl (by omega))), kk.g g (Int.le_refl _) (fun k j h1 h2 => RS.setA_ne (Or.inl (by omega))), ll.g g rfl rfl rfl (fun k j hk => RS.setA_ne (Or.inl (by omega))), tr.g g (Int.le_refl _) (fun k j hk => RS.setA_ne (Or.inl (by omega))), ff.g (Int.le_refl _) (fun k j hk => RS.setA_ne (Or.inl (by omega)))⟩
  · rw [RS.setA_ne (Or.inl (by decide))]; exact t2 t ht
  · refine ⟨fun e1 h1 h14 => ?_, fun e1 h1 h14 => ?_, fun e1 h1 => ?_, fun p hp => ?_⟩
    · rw [RS.setA_ne (Or.inl (by decide))] at h14
      have q := ee.1 e1 h1 h14
      by_cases hx : e1 = e
      · subst hx
        exact ⟨by
          obtain ⟨s1, u1, u2, u3⟩ := q.1
          exact ⟨s1, (RS.setA_ne (Or.inl (by decide))).trans u1, (g.k u2 u3).1, (g.k u2 u3).2⟩, by
          obtain ⟨s1, u1, u2, u3⟩ := q.2.1
          exact ⟨s1, (RS.setA_ne (Or.inl (by decide))).trans u1, (g.k u2 u3).1, (g.k u2 u3).2⟩, by
          rcases q.2.2.1 with u | ⟨c1, u1, u2, u3⟩
          · exact Or.inl ((RS.setA_ne (Or.inl (by decide))).trans u)
          · exact Or.inr ⟨c1, (RS.setA_ne (Or.inl (by decide))).trans u1, (g.k u2 u3).1, (g.k u2 u3).2⟩, Or.inr ⟨s, RS.setA_eq _ _ _ _, (g.k hs hk).1, (g.k hs hk).2⟩⟩
      · exact (ee.1 e1 h1 h14).g g (fun k _ _ => RS.setA_ne (Or.inr hx))
    · rw [RS.setA_ne (Or.inl (by decide))] at h14
      rw [RS.setA_ne (Or.inl (by decide))]
      exact ee.2.1 e1 h1 h14
    · rw [RS.setA_ne (Or.inl (by decide))]; exact ee.2.2.1 e1 h1
    · rw [RS.setA_ne (Or.inl (by decide))]; exact ee.2.2.2 p hp
theorem Iv.a17n (h : Iv Y ρ) (e : Nat) : Iv Y (ρ.setA 17 e (-1)) := by
  have g : Gr ρ (ρ.setA 17 e (-1)) := Gr.of rfl (fun k j h1 h2 => RS.setA_ne (Or.inl (by omega)))
  obtain ⟨b, ⟨t1, t2⟩, r, ee, nn, lf, kk, ll, tr, ff⟩ := h
  refine ⟨b, ⟨t1.cg ⟨rfl, rfl, rfl⟩ (fun k j h1 h2 => RS.setA_ne (Or.inl (by omega))), fun t ht => ?_⟩, r.g g (fun k j hk => RS.setA_ne (Or.inl (by omega))), ?_, nn.g (Int.le_refl _) (fun k j hk => RS.setA_ne (Or.inl (by omega))), lf.g (fun k j hk => RS.setA_ne (Or.inl (by omega))), kk.g g (Int.le_refl _) (fun k j h1 h2 => RS.setA_ne (Or.inl (by omega))), ll.g g rfl rfl rfl (fun k j hk => RS.setA_ne (Or.inl (by omega))), tr.g g (Int.le_refl _) (fun k j hk => RS.setA_ne (Or.inl (by omega))), ff.g (Int.le_refl _) (fun k j hk => RS.setA_ne (Or.inl (by omega)))⟩
  · rw [RS.setA_ne (Or.inl (by decide))]; exact t2 t ht
  · refine ⟨fun e1 h1 h14 => ?_, fun e1 h1 h14 => ?_, fun e1 h1 => ?_, fun p hp => ?_⟩
    · rw [RS.setA_ne (Or.inl (by decide))] at h14
      have q := ee.1 e1 h1 h14
      by_cases hx : e1 = e
      · subst hx
        exact ⟨by
          obtain ⟨s1, u1, u2, u3⟩ := q.1
          exact ⟨s1, (RS.setA_ne (Or.inl (by decide))).trans u1, (g.k u2 u3).1, (g.k u2 u3).2⟩, by
          obtain ⟨s1, u1, u2, u3⟩ := q.2.1
          exact ⟨s1, (RS.setA_ne (Or.inl (by decide))).trans u1, (g.k u2 u3).1, (g.k u2 u3).2⟩, Or.inl (RS.setA_eq _ _ _ _), by
          rcases q.2.2.2 with u | ⟨c1, u1, u2, u3⟩
          · exact Or.inl ((RS.setA_ne (Or.inl (by decide))).trans u)
          · exact Or.inr ⟨c1, (RS.setA_ne (Or.inl (by decide))).trans u1, (g.k u2 u3).1, (g.k u2 u3).2⟩⟩
      · exact (ee.1 e1 h1 h14).g g (fun k _ _ => RS.setA_ne (Or.inr hx))
    · rw [RS.setA_ne (Or.inl (by decide))] at h14
      rw [RS.setA_ne (Or.inl (by decide))]
      exact ee.2.1 e1 h1 h14
    · rw [RS.setA_ne (Or.inl (by decide))]; exact ee.2.2.1 e1 h1
    · rw [RS.setA_ne (Or.inl (by decide))]; exact ee.2.2.2 p hp
theorem Iv.a18n (h : Iv Y ρ) (e : Nat) : Iv Y (ρ.setA 18 e (-1)) := by
  have g : Gr ρ (ρ.setA 18 e (-1)) := Gr.of rfl (fun k j h1 h2 => RS.setA_ne (Or.inl (by omega)))
  obtain ⟨b, ⟨t1, t2⟩, r, ee, nn, lf, kk, ll, tr, ff⟩ := h
  refine ⟨b, ⟨t1.cg ⟨rfl, rfl, rfl⟩ (fun k j h1 h2 => RS.setA_ne (Or.inl (by omega))), fun t ht => ?_⟩, r.g g (fun k j hk => RS.setA_ne (Or.inl (by omega))), ?_, nn.g (Int.le_refl _) (fun k j hk => RS.setA_ne (Or.inl (by omega))), lf.g (fun k j hk => RS.setA_ne (Or.inl (by omega))), kk.g g (Int.le_refl _) (fun k j h1 h2 => RS.setA_ne (Or.inl (by omega))), ll.g g rfl rfl rfl (fun k j hk => RS.setA_ne (Or.inl (by omega))), tr.g g (Int.le_refl _) (fun k j hk => RS.setA_ne (Or.inl (by omega))), ff.g (Int.le_refl _) (fun k j hk => RS.setA_ne (Or.inl (by omega)))⟩
  · rw [RS.setA_ne (Or.inl (by decide))]; exact t2 t ht
  · refine ⟨fun e1 h1 h14 => ?_, fun e1 h1 h14 => ?_, fun e1 h1 => ?_, fun p hp => ?_⟩
    · rw [RS.setA_ne (Or.inl (by decide))] at h14
      have q := ee.1 e1 h1 h14
      by_cases hx : e1 = e
      · subst hx
        exact ⟨by
          obtain ⟨s1, u1, u2, u3⟩ := q.1
          exact ⟨s1, (RS.setA_ne (Or.inl (by decide))).trans u1, (g.k u2 u3).1, (g.k u2 u3).2⟩, by
          obtain ⟨s1, u1, u2, u3⟩ := q.2.1
          exact ⟨s1, (RS.setA_ne (Or.inl (by decide))).trans u1, (g.k u2 u3).1, (g.k u2 u3).2⟩, by
          rcases q.2.2.1 with u | ⟨c1, u1, u2, u3⟩
          · exact Or.inl ((RS.setA_ne (Or.inl (by decide))).trans u)
          · exact Or.inr ⟨c1, (RS.setA_ne (Or.inl (by decide))).trans u1, (g.k u2 u3).1, (g.k u2 u3).2⟩, Or.inl (RS.setA_eq _ _ _ _)⟩
      · exact (ee.1 e1 h1 h14).g g (fun k _ _ => RS.setA_ne (Or.inr hx))
    · rw [RS.setA_ne (Or.inl (by decide))] at h14
      rw [RS.setA_ne (Or.inl (by decide))]
      exact ee.2.1 e1 h1 h14
    · rw [RS.setA_ne (Or.inl (by decide))]; exact ee.2.2.1 e1 h1
    · rw [RS.setA_ne (Or.inl (by decide))]; exact ee.2.2.2 p hp
theorem Iv.a19 (h : Iv Y ρ) (e : Nat) (v : Int) (hv : -1 ≤ v ∧ v ≤ 10007) : Iv Y (ρ.setA 19 e v) := by
  have g : Gr ρ (ρ.setA 19 e v) := Gr.of rfl (fun k j h1 h2 => RS.setA_ne (Or.inl (by omega)))
  obtain ⟨b, ⟨t1, t2⟩, r, ee, nn, lf, kk, ll, tr, ff⟩ := h
  refine ⟨b, ⟨t1.cg ⟨rfl, rfl, rfl⟩ (fun k j h1 h2 => RS.setA_ne (Or.inl (by omega))), fun t ht => ?_⟩, r.g g (fun k j hk => RS.setA_ne (Or.inl (by omega))), ee.g g rfl (fun k j h1 h2 => RS.setA_ne (Or.inl (by omega))), ?_, lf.g (fun k j hk => RS.setA_ne (Or.inl (by omega))), kk.g g (Int.le_refl _) (fun k j h1 h2 => RS.setA_ne (Or.inl (by omega))), ll.g g rfl rfl rfl (fun k j hk => RS.setA_ne (Or.inl (by omega))), tr.g g (Int.le_refl _) (fun k j hk => RS.setA_ne (Or.inl (by omega))), ff.g (Int.le_refl _) (fun k j hk => RS.setA_ne (Or.inl (by omega)))⟩
  · rw [RS.setA_ne (Or.inl (by decide))]; exact t2 t ht
  · intro e1 h1 h14
    rw [RS.setA_ne (Or.inl (by decide))] at h14
    obtain ⟨q19, q20, q21, q22⟩ := nn e1 h1 h14
    by_cases hx : e1 = e
    · subst hx
      refine ⟨?_, ?_, ?_, ?_⟩
      · rw [RS.setA_eq]; exact hv
      · rw [RS.setA_ne (Or.inl (by decide))]; exact q20
      · rw [RS.setA_ne (Or.inl (by decide))]; exact q21
      · rw [RS.setA_ne (Or.inl (by decide))]; exact q22
    · rw [RS.setA_ne (Or.inr hx), RS.setA_ne (Or.inr hx), RS.setA_ne (Or.inr hx), RS.setA_ne (Or.inr hx)]
      exact ⟨q19, q20, q21, q22⟩
theorem Iv.a20 (h : Iv Y ρ) (e p : Nat) (he : (e : Int) < 2 * ρ.1 4) (hv : (p : Int) ≤ ρ.1 30) : Iv Y (ρ.setA 20 e ↑p) := by
  have g : Gr ρ (ρ.setA 20 e ↑p) := Gr.of rfl (fun k j h1 h2 => RS.setA_ne (Or.inl (by omega)))
  obtain ⟨b, ⟨t1, t2⟩, r, ee, nn, lf, kk, ll, tr, ff⟩ := h
  refine ⟨b, ⟨t1.cg ⟨rfl, rfl, rfl⟩ (fun k j h1 h2 => RS.setA_ne (Or.inl (by omega))), fun t ht => ?_⟩, r.g g (fun k j hk => RS.setA_ne (Or.inl (by omega))), ee.g g rfl (fun k j h1 h2 => RS.setA_ne (Or.inl (by omega))), ?_, lf.g (fun k j hk => RS.setA_ne (Or.inl (by omega))), kk.g g (Int.le_refl _) (fun k j h1 h2 => RS.setA_ne (Or.inl (by omega))), ll.g g rfl rfl rfl (fun k j hk => RS.setA_ne (Or.inl (by omega))), tr.g g (Int.le_refl _) (fun k j hk => RS.setA_ne (Or.inl (by omega))), ?_⟩
  · rw [RS.setA_ne (Or.inl (by decide))]; exact t2 t ht
  · intro e1 h1 h14
    rw [RS.setA_ne (Or.inl (by decide))] at h14
    obtain ⟨q19, q20, q21, q22⟩ := nn e1 h1 h14
    by_cases hx : e1 = e
    · subst hx
      refine ⟨?_, ?_, ?_, ?_⟩
      · rw [RS.setA_ne (Or.inl (by decide))]; exact q19
      · rw [RS.setA_eq]; exact ⟨p, rfl, hv⟩
      · rw [RS.setA_ne (Or.inl (by decide))]; exact q21
      · rw [RS.setA_ne (Or.inl (by decide))]; exact q22
    · rw [RS.setA_ne (Or.inr hx), RS.setA_ne (Or.inr hx), RS.setA_ne (Or.inr hx), RS.setA_ne (Or.inr hx)]
      exact ⟨q19, q20, q21, q22⟩
  · intro e1 h1 h4
    have hx : e1 ≠ e := fun z => by subst z; have h5 : 2 * ρ.1 4 ≤ (e1 : Int) := h4; omega
    rw [RS.setA_ne (Or.inr hx), RS.setA_ne (Or.inr hx), RS.setA_ne (Or.inr hx), RS.setA_ne (Or.inr hx), RS.setA_ne (Or.inr hx), RS.setA_ne (Or.inr hx)]
    exact ff e1 h1 h4
theorem Iv.a21 (h : Iv Y ρ) (e : Nat) (v : Int) (he : (e : Int) < 2 * ρ.1 4) (hv : 0 ≤ v ∧ v ≤ 300) : Iv Y (ρ.setA 21 e v) := by
  have g : Gr ρ (ρ.setA 21 e v) := Gr.of rfl (fun k j h1 h2 => RS.setA_ne (Or.inl (by omega)))
  obtain ⟨b, ⟨t1, t2⟩, r, ee, nn, lf, kk, ll, tr, ff⟩ := h
  refine ⟨b, ⟨t1.cg ⟨rfl, rfl, rfl⟩ (fun k j h1 h2 => RS.setA_ne (Or.inl (by omega))), fun t ht => ?_⟩, r.g g (fun k j hk => RS.setA_ne (Or.inl (by omega))), ee.g g rfl (fun k j h1 h2 => RS.setA_ne (Or.inl (by omega))), ?_, lf.g (fun k j hk => RS.setA_ne (Or.inl (by omega))), kk.g g (Int.le_refl _) (fun k j h1 h2 => RS.setA_ne (Or.inl (by omega))), ll.g g rfl rfl rfl (fun k j hk => RS.setA_ne (Or.inl (by omega))), tr.g g (Int.le_refl _) (fun k j hk => RS.setA_ne (Or.inl (by omega))), ?_⟩
  · rw [RS.setA_ne (Or.inl (by decide))]; exact t2 t ht
  · intro e1 h1 h14
    rw [RS.setA_ne (Or.inl (by decide))] at h14
    obtain ⟨q19, q20, q21, q22⟩ := nn e1 h1 h14
    by_cases hx : e1 = e
    · subst hx
      refine ⟨?_, ?_, ?_, ?_⟩
      · rw [RS.setA_ne (Or.inl (by decide))]; exact q19
      · rw [RS.setA_ne (Or.inl (by decide))]; exact q20
      · rw [RS.setA_eq]; exact hv
      · rw [RS.setA_ne (Or.inl (by decide))]; exact q22
    · rw [RS.setA_ne (Or.inr hx), RS.setA_ne (Or.inr hx), RS.setA_ne (Or.inr hx), RS.setA_ne (Or.inr hx)]
      exact ⟨q19, q20, q21, q22⟩
  · intro e1 h1 h4
    have hx : e1 ≠ e := fun z => by subst z; have h5 : 2 * ρ.1 4 ≤ (e1 : Int) := h4; omega
    rw [RS.setA_ne (Or.inr hx), RS.setA_ne (Or.inr hx), RS.setA_ne (Or.inr hx), RS.setA_ne (Or.inr hx), RS.setA_ne (Or.inr hx), RS.setA_ne (Or.inr hx)]
    exact ff e1 h1 h4
theorem Iv.a22 (h : Iv Y ρ) (e p : Nat) (he : (e : Int) < 2 * ρ.1 4) (hv : p ≤ 301) : Iv Y (ρ.setA 22 e ↑p) := by
  have g : Gr ρ (ρ.setA 22 e ↑p) := Gr.of rfl (fun k j h1 h2 => RS.setA_ne (Or.inl (by omega)))
  obtain ⟨b, ⟨t1, t2⟩, r, ee, nn, lf, kk, ll, tr, ff⟩ := h
  refine ⟨b, ⟨t1.cg ⟨rfl, rfl, rfl⟩ (fun k j h1 h2 => RS.setA_ne (Or.inl (by omega))), fun t ht => ?_⟩, r.g g (fun k j hk => RS.setA_ne (Or.inl (by omega))), ee.g g rfl (fun k j h1 h2 => RS.setA_ne (Or.inl (by omega))), ?_, lf.g (fun k j hk => RS.setA_ne (Or.inl (by omega))), kk.g g (Int.le_refl _) (fun k j h1 h2 => RS.setA_ne (Or.inl (by omega))), ll.g g rfl rfl rfl (fun k j hk => RS.setA_ne (Or.inl (by omega))), tr.g g (Int.le_refl _) (fun k j hk => RS.setA_ne (Or.inl (by omega))), ?_⟩
  · rw [RS.setA_ne (Or.inl (by decide))]; exact t2 t ht
  · intro e1 h1 h14
    rw [RS.setA_ne (Or.inl (by decide))] at h14
    obtain ⟨q19, q20, q21, q22⟩ := nn e1 h1 h14
    by_cases hx : e1 = e
    · subst hx
      refine ⟨?_, ?_, ?_, ?_⟩
      · rw [RS.setA_ne (Or.inl (by decide))]; exact q19
      · rw [RS.setA_ne (Or.inl (by decide))]; exact q20
      · rw [RS.setA_ne (Or.inl (by decide))]; exact q21
      · rw [RS.setA_eq]; exact ⟨p, rfl, hv⟩
    · rw [RS.setA_ne (Or.inr hx), RS.setA_ne (Or.inr hx), RS.setA_ne (Or.inr hx), RS.setA_ne (Or.inr hx)]
      exact ⟨q19, q20, q21, q22⟩
  · intro e1 h1 h4
    have hx : e1 ≠ e := fun z => by subst z; have h5 : 2 * ρ.1 4 ≤ (e1 : Int) := h4; omega
    rw [RS.setA_ne (Or.inr hx), RS.setA_ne (Or.inr hx), RS.setA_ne (Or.inr hx), RS.setA_ne (Or.inr hx), RS.setA_ne (Or.inr hx), RS.setA_ne (Or.inr hx)]
    exact ff e1 h1 h4
theorem Iv.scal (h : Iv Y ρ) (hb : bnd σ) (s : ∀ k, k = 0 ∨ k = 1 ∨ k = 4 ∨ k = 5 ∨ k = 30 → σ.1 k = ρ.1 k) (ha : ∀ k j, k ≠ 11 → k ≠ 43 → k ≠ 41 → σ.2 k j = ρ.2 k j) : Iv Y σ := by
  have g : Gr ρ σ := Gr.of (s 5 (by omega)) (fun k j h1 h2 => ha k j (by omega) (by omega) (by omega))
  obtain ⟨b, ⟨t1, t2⟩, r, ee, nn, lf, kk, ll, tr, ff⟩ := h
  refine ⟨hb, ⟨(t1.cg ⟨s 5 (by omega), s 0 (by omega), s 1 (by omega)⟩ (fun k j h1 h2 => ha k j (by omega) (by omega) (by omega))).own, fun t ht => ?_⟩, r.g g (fun k j hk => ha k j (by omega) (by omega) (by omega)), ee.g g (s 4 (by omega)) (fun k j h1 h2 => ha k j (by omega) (by omega) (by omega)), nn.g (by rw [s 30 (by omega)]; exact Int.le_refl _) (fun k j hk => ha k j (by omega) (by omega) (by omega)), lf.g (fun k j hk => ha k j (by omega) (by omega) (by omega)), kk.g g (by rw [s 30 (by omega)]; exact Int.le_refl _) (fun k j h1 h2 => ha k j (by omega) (by omega) (by omega)), ll.g g (s 0 (by omega)) (s 1 (by omega)) (s 30 (by omega)) (fun k j hk => ha k j (by omega) (by omega) (by omega)), tr.g g (by rw [s 30 (by omega)]; exact Int.le_refl _) (fun k j hk => ha k j (by omega) (by omega) (by omega)), ff.g (by rw [s 4 (by omega)]; exact Int.le_refl _) (fun k j hk => ha k j (by omega) (by omega) (by omega))⟩
  rw [ha 10 t (by decide) (by decide) (by decide)]
  exact t2 t (by rw [← thN_congr (s 5 (by omega))]; exact ht)
theorem Iv.s42 (h : Iv Y ρ) (v : Int) : Iv Y (ρ.setS 42 v) := h.scal (h.1.g (fun k hk => RS.setS_ne (by omega))) (fun k hk => RS.setS_ne (by omega)) (fun _ _ _ _ _ => rfl)
end
