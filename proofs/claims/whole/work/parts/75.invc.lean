/-! WHAT HOLDS BETWEEN THE CALLS IS KEPT: the calls, but start, send and take -/
section
variable {Y : (Nat → Bool) × (Nat → Bool)} {ρ σ : RS}
theorem Iv.prime (h : Iv Y ρ) (q g : Int) : Iv Y (primeF ρ q g).2 := by
  unfold primeF
  split
  · exact h.s42 1
  · next h1 =>
    split
    · exact h.s42 3
    · next h2 =>
      obtain ⟨b, ⟨t1, t2⟩, r, ee, nn, lf, kk, ll, tr, ff⟩ := h
      have hb := b.1
      obtain ⟨σ, hσ⟩ : ∃ x : RS, x = (ρ.setS 0 q).setS 1 g := ⟨_, rfl⟩
      have s0 : σ.1 0 = q := by rw [hσ, RS.setS_ne (by decide), RS.setS_eq]
      have s1 : σ.1 1 = g := by rw [hσ, RS.setS_eq]
      have s2 : ∀ k, k ≠ 0 → k ≠ 1 → σ.1 k = ρ.1 k := fun k a b => by rw [hσ, RS.setS_ne b, RS.setS_ne a]
      have sa : ∀ k j, σ.2 k j = ρ.2 k j := fun k j => by rw [hσ]; rfl
      have e5 : thN σ = thN ρ := thN_congr (s2 5 (by decide) (by decide))
      have g0 : Gr ρ σ := Gr.of (s2 5 (by decide) (by decide)) (fun k j _ _ => sa k j)
      have hno : ∀ l : Nat, (l : Int) < ρ.1 30 → False := fun l hl => by
        obtain ⟨x, a1, a2, a3⟩ := (ll.1 l hl).1
        have := (ee.2.2.2 (x / 2) (by omega)).2 a3
        omega
      show Iv Y (((ρ.setS 0 q).setS 1 g).setS 42 0)
      rw [← hσ]
      refine Iv.s42 ⟨b.g (fun k hk => s2 k (by omega) (by omega)), ⟨⟨⟨?_, Nat.le_refl _, by rw [s0]; omega, by rw [s1]; omega, fun t ht => ?_⟩, fun s t a1 a2 a3 a4 a5 a6 => ?_, fun t ht => ?_, fun t ht h3 => ?_⟩, fun t ht => ?_⟩, r.g g0 (fun k j _ => sa k j), ee.g g0 (s2 4 (by decide) (by decide)) (fun k j _ _ => sa k j), nn.g (by rw [s2 30 (by decide) (by decide)]; exact Int.le_refl _) (fun k j _ => sa k j), lf.g (fun k j _ => sa k j), kk.g g0 (by rw [s2 30 (by decide) (by decide)]; exact Int.le_refl _) (fun k j _ _ => sa k j), ⟨fun l hl => ?_, fun l hl => ?_⟩, tr.g g0 (by rw [s2 30 (by decide) (by decide)]; exact Int.le_refl _) (fun k j _ => sa k j), ff.g (by rw [s2 4 (by decide) (by decide)]; exact Int.le_refl _) (fun k j _ => sa k j)⟩ 0
      · rw [s2 5 (by decide) (by decide), e5]; exact t1.1.1
      · rw [sa, sa, sa, sa]; exact t1.1.2.2.2.2 t (by omega)
      · rw [sa] at a3
        rw [sa, sa] at a4 a5 a6
        exact t1.2.1 s t (by omega) (by omega) a3 a4 a5 a6
      · rw [sa, sa, sa]; exact t1.2.2.1 t (by omega)
      · rw [sa] at h3
        rw [sa]; exact t1.2.2.2 t (by omega) h3
      · rw [sa]; exact t2 t (by omega)
      · rw [s2 30 (by decide) (by decide)] at hl
        exact (hno l hl).elim
      · rw [s2 30 (by decide) (by decide)] at hl
        exact (hno l hl).elim
theorem Iv.limits (h : Iv Y ρ) (m li : Int) : Iv Y (limitsF ρ m li).2 := by
  unfold limitsF
  split
  · exact h.s42 1
  · next h1 =>
    have q : Iv Y ((ρ.setS 2 m).setS 3 li) := by
      refine h.scal ?_ (fun k hk => by rw [RS.setS_ne (by omega), RS.setS_ne (by omega)]) (fun _ _ _ _ _ => rfl)
      have b := h.1
      have e2 : ((ρ.setS 2 m).setS 3 li).1 2 = m := by rw [RS.setS_ne (by decide), RS.setS_eq]
      have e3 : ((ρ.setS 2 m).setS 3 li).1 3 = li := by rw [RS.setS_eq]
      have e4 : ((ρ.setS 2 m).setS 3 li).1 4 = ρ.1 4 := by rw [RS.setS_ne (by decide), RS.setS_ne (by decide)]
      have e30 : ((ρ.setS 2 m).setS 3 li).1 30 = ρ.1 30 := by rw [RS.setS_ne (by decide), RS.setS_ne (by decide)]
      have e44 : ((ρ.setS 2 m).setS 3 li).1 44 = ρ.1 44 := by rw [RS.setS_ne (by decide), RS.setS_ne (by decide)]
      unfold bnd at b ⊢
      rw [e4, e30, e2, e3, e44]
      omega
    exact q.exp.s42 0
theorem Iv.pair (h : Iv Y ρ) : Iv Y (pairF ρ).2 := by
  unfold pairF
  split
  · exact h.s42 2
  · next h1 =>
    obtain ⟨b, ⟨t1, t2⟩, r, ee, nn, lf, kk, ll, tr, ff⟩ := h
    obtain ⟨σ, hσ⟩ : ∃ x : RS, x = ρ.setS 4 (ρ.1 4 + 1) := ⟨_, rfl⟩
    have s4 : σ.1 4 = ρ.1 4 + 1 := by rw [hσ, RS.setS_eq]
    have s2 : ∀ k, k ≠ 4 → σ.1 k = ρ.1 k := fun k a => by rw [hσ, RS.setS_ne a]
    have sa : ∀ k j, σ.2 k j = ρ.2 k j := fun k j => by rw [hσ]; rfl
    have e5 : thN σ = thN ρ := thN_congr (s2 5 (by decide))
    have g0 : Gr ρ σ := Gr.of (s2 5 (by decide)) (fun k j _ _ => sa k j)
    show Iv Y ((ρ.setS 4 (ρ.1 4 + 1)).setS 42 0)
    rw [← hσ]
    refine Iv.s42 ⟨?_, ⟨(t1.cg ⟨s2 5 (by decide), s2 0 (by decide), s2 1 (by decide)⟩ (fun k j _ _ => sa k j)).own, fun t ht => by rw [sa]; exact t2 t (by omega)⟩, r.g g0 (fun k j _ => sa k j), ⟨fun e he h14 => ?_, fun e he h14 => ?_, fun e he => ?_, fun p hp => ?_⟩, nn.g (by rw [s2 30 (by decide)]; exact Int.le_refl _) (fun k j _ => sa k j), lf.g (fun k j _ => sa k j), kk.g g0 (by rw [s2 30 (by decide)]; exact Int.le_refl _) (fun k j _ _ => sa k j), ll.g g0 (s2 0 (by decide)) (s2 1 (by decide)) (s2 30 (by decide)) (fun k j _ => sa k j), tr.g g0 (by rw [s2 30 (by decide)]; exact Int.le_refl _) (fun k j _ => sa k j), ff.g (by rw [s4]; omega) (fun k j _ => sa k j)⟩ 0
    · unfold bnd at b ⊢
      rw [s4, s2 30 (by decide), s2 2 (by decide), s2 3 (by decide), s2 44 (by decide)]
      omega
    · rw [sa] at h14
      exact (ee.1 e he h14).g g0 (fun k _ _ => sa k e)
    · rw [sa] at h14
      rw [sa]; exact ee.2.1 e he h14
    · rw [sa]; exact ee.2.2.1 e he
    · rw [sa, s4]
      exact ⟨(ee.2.2.2 p hp).1, fun q => by have := (ee.2.2.2 p hp).2 q; omega⟩
theorem Iv.par (h : Iv Y ρ) {par' : Nat → Bool} (hp : ∀ s, s < thN ρ → par' s = Y.2 s) : Iv (Y.1, par') ρ := by
  obtain ⟨b, ⟨t1, t2⟩, r, ee, nn, lf, kk, ll, tr, ff⟩ := h
  refine ⟨b, ⟨⟨t1.1, t1.2.1, fun t ht => ?_, t1.2.2.2⟩, t2⟩, ⟨r.1, fun e i n he hn hi => ?_⟩, ⟨ee.1, fun e he h14 => ?_, ee.2.2⟩, nn, lf, kk, ⟨ll.1, fun l hl => ?_⟩, tr, ff⟩
  · have q := t1.2.2.1 t ht
    have hb := t1.1.2.2.2.2 t ht
    unfold Kfm at q ⊢
    rcases q with q | q | q | ⟨q1, q2, q3, q4⟩
    · exact Or.inl q
    · exact Or.inr (Or.inl q)
    · exact Or.inr (Or.inr (Or.inl q))
    · refine Or.inr (Or.inr (Or.inr ⟨q1, q2, q3, ?_⟩))
      show par' (ρ.2 7 t).toNat ≠ par' (ρ.2 8 t).toNat
      rw [hp _ (by omega), hp _ (by omega)]
      exact q4
  · obtain ⟨n1, u1, u2, u3⟩ := r.1 e he
    have hnn : n = n1 := by
      have : (n : Int) = ↑n1 := hn.symm.trans u2
      omega
    obtain ⟨t, v1, v2, v3⟩ := u3 i (by omega)
    have q := r.2 e i n he hn hi
    rw [v1, Int.toNat_natCast] at q ⊢
    exact (hp t v2).trans q
  · obtain ⟨s, u1, u2, u3⟩ := (ee.1 e he h14).1
    have q := ee.2.1 e he h14
    rw [u1, Int.toNat_natCast] at q ⊢
    exact (hp s u2).trans q
  · obtain ⟨z, u1, u2, u3⟩ := (ll.1 l hl).2.2.2.2.2.2.2
    have q := ll.2 l hl
    rw [u1, Int.toNat_natCast] at q ⊢
    exact ⟨(hp z u2).trans q.1, q.2⟩
theorem Iv.newS (h : Iv Y ρ) (s : Int) (hs : 1 ≤ s ∧ s ≤ 10000) : Iv Y (newT ρ 3 (-1) (-1) s) ∧ (newT ρ 3 (-1) (-1) s).2 6 (thN ρ) = 3 ∧ thN (newT ρ 3 (-1) (-1) s) = thN ρ + 1 := by
  have hT := h.2.1.1
  have hI : thI ρ 3 (-1) (-1) = thN ρ := if_pos rfl
  have eR : thR ρ 3 (-1) (-1) s = newT ρ 3 (-1) (-1) s := thR_new hI
  have hn := thN_new hT.1 3 (-1) (-1) s
  have old : ∀ k t, t < thN ρ → (newT ρ 3 (-1) (-1) s).2 k t = ρ.2 k t := fun k t ht => by
    rw [← eR]; exact thR_old_at _ _ _ _ _ _ _ (Or.inl ht)
  have n6 : (newT ρ 3 (-1) (-1) s).2 6 (thN ρ) = 3 := by
    unfold newT
    rw [RS.setS_a, RS.setA_ne (by omega), RS.setA_ne (by omega), RS.setA_ne (by omega), RS.setA_ne (by omega), RS.setA_eq]
  have n7 : (newT ρ 3 (-1) (-1) s).2 7 (thN ρ) = -1 := by
    unfold newT
    rw [RS.setS_a, RS.setA_ne (by omega), RS.setA_ne (by omega), RS.setA_ne (by omega), RS.setA_eq]
  have n8 : (newT ρ 3 (-1) (-1) s).2 8 (thN ρ) = -1 := by
    unfold newT
    rw [RS.setS_a, RS.setA_ne (by omega), RS.setA_ne (by omega), RS.setA_eq]
  have n9 : (newT ρ 3 (-1) (-1) s).2 9 (thN ρ) = s := by
    unfold newT
    rw [RS.setS_a, RS.setA_ne (by omega), RS.setA_eq]
  refine ⟨?_, n6, hn⟩
  have tOK := hT.1.new (k := 3) (a := -1) (b := -1) (v := s) (by decide) (by omega) (by omega) (by omega)
  have hTI : TI Y.2 (newT ρ 3 (-1) (-1) s) (thN ρ + 1) := by
    refine ⟨tOK, fun a b h1 h2 h3 h4 h5 h6 => ?_, fun t ht => ?_, fun t ht h3 => ?_⟩
    · have ha : a < thN ρ := by
        by_cases q : a = thN ρ
        · subst q; exact absurd n6 h3
        · omega
      have hb : b < thN ρ := by
        by_cases q : b = thN ρ
        · subst q; rw [n6] at h4; exact absurd h4 h3
        · omega
      rw [old 6 a ha] at h3
      rw [old 6 a ha, old 6 b hb] at h4
      rw [old 7 a ha, old 7 b hb] at h5
      rw [old 8 a ha, old 8 b hb] at h6
      exact hT.2.1 a b ha hb h3 h4 h5 h6
    · by_cases q : t = thN ρ
      · subst q
        rw [n6, n7, n8]
        exact Or.inr (Or.inr (Or.inl ⟨rfl, rfl, rfl⟩))
      · rw [old 6 t (by omega), old 7 t (by omega), old 8 t (by omega)]
        exact hT.2.2.1 t (by omega)
    · by_cases q : t = thN ρ
      · subst q
        rw [n9]; exact hs
      · rw [old 6 t (by omega)] at h3
        rw [old 9 t (by omega)]
        exact hT.2.2.2 t (by omega) h3
  rw [← eR] at hTI ⊢
  exact h.comes hTI (by rw [eR, hn]; omega)
theorem Iv.row (h : Iv Y ρ) {e n t : Nat} (he : (e : Int) < 2 * ρ.1 4) (hn : ρ.2 12 e = ↑n) (hn12 : n < 12) (ht : t < thN ρ) (hk : ρ.2 6 t = 3) (hp : Y.2 t = decide (e % 2 = 1)) : Iv Y ((ρ.setA 13 (12 * e + n) ↑t).setA 12 e (↑n + 1)) := by
  obtain ⟨σ, hσ⟩ : ∃ x : RS, x = (ρ.setA 13 (12 * e + n) ↑t).setA 12 e (↑n + 1) := ⟨_, rfl⟩
  have a : ∀ k j, k ≠ 12 ∧ k ≠ 13 → σ.2 k j = ρ.2 k j := fun k j hk => by rw [hσ, RS.setA_ne (Or.inl hk.1), RS.setA_ne (Or.inl hk.2)]
  have s : ∀ k, σ.1 k = ρ.1 k := fun k => by rw [hσ]; rfl
  have r12 : ∀ e1, σ.2 12 e1 = if e1 = e then ((n : Int) + 1) else ρ.2 12 e1 := fun e1 => by
    rw [hσ]
    by_cases hx : e1 = e
    · subst hx; rw [if_pos rfl, RS.setA_eq]
    · rw [if_neg hx, RS.setA_ne (Or.inr hx), RS.setA_ne (Or.inl (by decide))]
  have r13 : ∀ j, σ.2 13 j = if j = 12 * e + n then (t : Int) else ρ.2 13 j := fun j => by
    rw [hσ, RS.setA_ne (Or.inl (by decide))]
    by_cases hx : j = 12 * e + n
    · subst hx; rw [if_pos rfl, RS.setA_eq]
    · rw [if_neg hx, RS.setA_ne (Or.inr hx)]
  have g : Gr ρ σ := Gr.of (s 5) (fun k j h1 h2 => a k j (by omega))
  have hb := h.1.1
  rw [← hσ]
  clear hσ
  obtain ⟨b, ⟨t1, t2⟩, r, ee, nn, lf, kk, ll, tr, ff⟩ := h
  refine ⟨b.g (fun k _ => s k), ⟨(t1.cg ⟨s 5, s 0, s 1⟩ (fun k j h1 h2 => a k j (by omega))).own, fun t ht => by rw [a 10 t (by decide)]; exact t2 t (by rw [← thN_congr (s 5)]; exact ht)⟩, ⟨fun e1 he1 => ?_, fun e1 i n1 he1 hn1 hi => ?_⟩, ee.g g (s 4) (fun k j h1 h2 => a k j (by omega)), nn.g (by rw [s 30]; exact Int.le_refl _) (fun k j hk => a k j (by omega)), lf.g (fun k j hk => a k j (by omega)), kk.g g (by rw [s 30]; exact Int.le_refl _) (fun k j h1 h2 => a k j (by omega)), ll.g g (s 0) (s 1) (s 30) (fun k j hk => a k j (by omega)), tr.g g (by rw [s 30]; exact Int.le_refl _) (fun k j hk => a k j (by omega)), fun e1 h1 h4 => ?_⟩
  · obtain ⟨n1, u1, u2, u3⟩ := r.1 e1 he1
    by_cases hx : e1 = e
    · subst hx
      refine ⟨n + 1, by omega, by rw [r12, if_pos rfl]; rfl, fun i hi => ?_⟩
      rw [r13]
      by_cases hin : i = n
      · subst hin
        rw [if_pos rfl]
        exact ⟨t, rfl, (g.k ht hk).1, (g.k ht hk).2⟩
      · rw [if_neg (by omega)]
        have hnn : n1 = n := by
          have : (n1 : Int) = ↑n := u2.symm.trans hn
          omega
        obtain ⟨t3, v1, v2, v3⟩ := u3 i (by omega)
        exact ⟨t3, v1, (g.k v2 v3).1, (g.k v2 v3).2⟩
    · refine ⟨n1, u1, by rw [r12, if_neg hx]; exact u2, fun i hi => ?_⟩
      rw [r13, if_neg (by omega)]
      obtain ⟨t3, v1, v2, v3⟩ := u3 i hi
      exact ⟨t3, v1, (g.k v2 v3).1, (g.k v2 v3).2⟩
  · rw [r12] at hn1
    rw [r13]
    by_cases hx : e1 = e
    · subst hx
      rw [if_pos rfl] at hn1
      by_cases hin : i = n
      · subst hin
        rw [if_pos rfl, Int.toNat_natCast]
        exact hp
      · rw [if_neg (by omega)]
        exact r.2 e1 i n he1 hn (by omega)
    · rw [if_neg hx] at hn1
      obtain ⟨n9, u1, u2, u3⟩ := r.1 e1 he1
      rw [if_neg (by omega)]
      exact r.2 e1 i n1 he1 hn1 hi
  · rw [s 4] at h4
    have hx : e1 ≠ e := fun z => by subst z; omega
    rw [r12, if_neg hx, a 20 e1 (by decide), a 21 e1 (by decide), a 22 e1 (by decide), a 23 e1 (by decide), a 25 e1 (by decide)]
    exact ff e1 h1 h4
theorem Iv.secret (h : Iv Y ρ) (e s : Int) : Iv (Y.1, spF Y.2 ρ e.toNat) (secretF ρ e s).2 := by
  have hp : ∀ t, t < thN ρ → spF Y.2 ρ e.toNat t = Y.2 t := fun t ht => if_neg (by omega)
  have h' := h.par hp
  unfold secretF
  split
  · exact h'.s42 1
  · next h1 =>
    split
    · exact h'.s42 2
    · next h2 =>
      obtain ⟨x, rfl⟩ : ∃ x : Nat, e = ↑x := ⟨e.toNat, by omega⟩
      rw [Int.toNat_natCast] at h2 h' ⊢
      obtain ⟨n, q1, q2, q3⟩ := h'.2.2.1.1 x (by have := h.1.1; omega)
      obtain ⟨i1, k1, n1⟩ := h'.newS s (by omega)
      have a12 : (newT ρ 3 (-1) (-1) s).2 12 x = ↑n := q2
      have i2 := i1.row (e := x) (n := n) (t := thN ρ) (by show (x : Int) < 2 * ρ.1 4; omega) a12 (by omega) (by omega) k1 (if_pos rfl)
      rw [q2, Int.toNat_natCast]
      exact i2.s42 0
theorem ior_bd {v m : Int} (hv : 0 ≤ v ∧ v ≤ 255) (hm : 1 ≤ m ∧ m ≤ 255) : 0 ≤ (jI v ^^^ jI m).toInt ∧ (jI v ^^^ jI m).toInt ≤ 255 := by
  have ea : ∀ x : Int, 0 ≤ x ∧ x ≤ 255 → (jI x).toBitVec.toNat = x.toNat := fun x hx => by
    show (BitVec.ofInt 32 x).toNat = _
    rw [BitVec.toNat_ofInt]
    omega
  have e2 : (jI v ^^^ jI m).toBitVec.toNat = v.toNat ^^^ m.toNat := by
    show ((jI v).toBitVec ^^^ (jI m).toBitVec).toNat = _
    rw [BitVec.toNat_xor, ea v hv, ea m (by omega)]
  have hlt : v.toNat ^^^ m.toNat < 2 ^ 8 := Nat.xor_lt_two_pow (by omega) (by omega)
  have e3 : (jI v ^^^ jI m).toInt = ((jI v ^^^ jI m).toBitVec.toNat : Int) := by
    show (jI v ^^^ jI m).toBitVec.toInt = _
    exact BitVec.toInt_eq_toNat_of_lt (by rw [e2]; omega)
  rw [e3, e2]
  omega
theorem Iv.alter (h : Iv Y ρ) (l m : Int) : Iv Y (alterF ρ l m).2 := by
  unfold alterF
  split
  · exact h.s42 1
  · next h1 =>
    obtain ⟨x, rfl⟩ : ∃ x : Nat, l = ↑x := ⟨l.toNat, by omega⟩
    rw [Int.toNat_natCast]
    have hv := (h.2.2.2.2.2.2.2.1.1 x (by omega)).2.2.2.2.1
    have hw := ior_bd (m := m) hv (by omega)
    generalize (jI (ρ.2 35 x) ^^^ jI m).toInt = w at hw
    have g : Gr ρ (ρ.setA 35 x w) := Gr.of rfl (fun k j h1 h2 => RS.setA_ne (Or.inl (by omega)))
    obtain ⟨b, ⟨t1, t2⟩, r, ee, nn, lf, kk, ll, tr, ff⟩ := h
    show Iv Y ((ρ.setA 35 x w).setS 42 0)
    refine Iv.s42 (ρ := ρ.setA 35 x w) ⟨b, ⟨t1.cg ⟨rfl, rfl, rfl⟩ (fun k j h1 h2 => RS.setA_ne (Or.inl (by omega))), fun t ht => by rw [RS.setA_ne (Or.inl (by decide))]; exact t2 t ht⟩, r.g g (fun k j hk => RS.setA_ne (Or.inl (by omega))), ee.g g rfl (fun k j h1 h2 => RS.setA_ne (Or.inl (by omega))), nn.g (Int.le_refl _) (fun k j hk => RS.setA_ne (Or.inl (by omega))), lf.g (fun k j hk => RS.setA_ne (Or.inl (by omega))), kk.g g (Int.le_refl _) (fun k j h1 h2 => RS.setA_ne (Or.inl (by omega))), ⟨fun j hj => ?_, fun j hj => ?_⟩, tr.g g (Int.le_refl _) (fun k j hk => RS.setA_ne (Or.inl (by omega))), ff.g (Int.le_refl _) (fun k j hk => RS.setA_ne (Or.inl (by omega)))⟩ 0
    · have q := ll.1 j hj
      have a : ∀ k i, k ≠ 35 → (ρ.setA 35 x w).2 k i = ρ.2 k i := fun k i hk => RS.setA_ne (Or.inl hk)
      rw [a 31 j (by decide), a 32 j (by decide), a 33 j (by decide), a 34 j (by decide), a 36 j (by decide), a 37 j (by decide), a 38 j (by decide)]
      obtain ⟨⟨y, y1, y2, y3⟩, q2, q3, q4, q5, q6, ⟨k, k1, k2, k3⟩, z, z1, z2, z3⟩ := q
      refine ⟨⟨y, y1, y2, by rw [a 14 _ (by decide)]; exact y3⟩, q2, q3, q4, ?_, q6, ⟨k, k1, k2, (a 6 k (by decide)).trans k3⟩, z, z1, z2, (a 6 z (by decide)).trans z3⟩
      by_cases hx : j = x
      · subst hx; rw [RS.setA_eq]; exact hw
      · rw [RS.setA_ne (Or.inr hx)]; exact q5
    · have q := ll.2 j hj
      have a : ∀ k i, k ≠ 35 → (ρ.setA 35 x w).2 k i = ρ.2 k i := fun k i hk => RS.setA_ne (Or.inl hk)
      rw [a 31 j (by decide), a 32 j (by decide), a 38 j (by decide), a 9 _ (by decide)]
      exact q
theorem Iv.s10 (h : Iv Y ρ) (hs : ShOK σ (thN ρ)) (s : ∀ k, k ≠ 45 → σ.1 k = ρ.1 k) (ha : ∀ k j, k ≠ 10 → σ.2 k j = ρ.2 k j) : Iv Y σ := by
  have g : Gr ρ σ := Gr.of (s 5 (by decide)) (fun k j h1 h2 => ha k j (by omega))
  obtain ⟨b, ⟨t1, t2⟩, r, ee, nn, lf, kk, ll, tr, ff⟩ := h
  exact ⟨b.g (fun k hk => s k (by omega)), ⟨(t1.cg ⟨s 5 (by decide), s 0 (by decide), s 1 (by decide)⟩ (fun k j h1 h2 => ha k j (by omega))).own, by rw [thN_congr (s 5 (by decide))]; exact hs⟩, r.g g (fun k j hk => ha k j (by omega)), ee.g g (s 4 (by decide)) (fun k j h1 h2 => ha k j (by omega)), nn.g (by rw [s 30 (by decide)]; exact Int.le_refl _) (fun k j hk => ha k j (by omega)), lf.g (fun k j hk => ha k j (by omega)), kk.g g (by rw [s 30 (by decide)]; exact Int.le_refl _) (fun k j h1 h2 => ha k j (by omega)), ll.g g (s 0 (by decide)) (s 1 (by decide)) (s 30 (by decide)) (fun k j hk => ha k j (by omega)), tr.g g (by rw [s 30 (by decide)]; exact Int.le_refl _) (fun k j hk => ha k j (by omega)), ff.g (by rw [s 4 (by decide)]; exact Int.le_refl _) (fun k j hk => ha k j (by omega))⟩
theorem seeS_at {e k j : Nat} (h : k ≠ 10) : (seeS ρ e).2 k j = ρ.2 k j := by
  unfold seeS
  rw [shR_at _ _ _ _ h, shR_at _ _ _ _ h, shR_at _ _ _ _ h, shR_at _ _ _ _ h]
  rfl
theorem seeS_s {e k : Nat} (h : k ≠ 45) : (seeS ρ e).1 k = ρ.1 k := by
  unfold seeS
  rw [shR_s _ _ _ h, shR_s _ _ _ h, shR_s _ _ _ h, shR_s _ _ _ h, RS.setS_ne h]
theorem Iv.see (h : Iv Y ρ) (e : Int) : Iv Y (seeF ρ e).2 := by
  unfold seeF
  split
  · exact h.s42 1
  · split
    · exact h.s42 3
    · have hs : ShOK (seeS ρ e.toNat) (thN ρ) := by
        have h0 : ShOK (ρ.setS 45 0) (thN ρ) := fun t ht => h.2.1.2 t ht
        exact (((h0.sh (ρ.2 15 e.toNat)).sh (ρ.2 16 e.toNat)).sh (ρ.2 17 e.toNat)).sh (ρ.2 18 e.toNat)
      refine Iv.s42 (ρ := shK (seeS ρ e.toNat) e.toNat (ρ.2 25 e.toNat).toNat) (h.s10 (hs.shK _ _) (fun k hk => by rw [shK_s _ _ _ hk, seeS_s hk]) (fun k j hk => by rw [shK_at _ _ _ _ hk, seeS_at hk])) 0
theorem Iv.know (h : Iv Y ρ) : Iv Y (knR ρ) := h.scal (h.1.g (fun k _ => knR_s ρ k)) (fun k _ => knR_s ρ k) (fun k j h11 _ _ => knR_at ρ k j (Or.inl h11))
theorem ranL_s (k : Nat) (hk : k ≠ 44) : ∀ (l : List Int) (ρ : RS) (n : Nat), (ranL ρ n l).1 k = ρ.1 k := by
  intro l
  induction l with
  | nil => intro ρ n; rfl
  | cons b l ih => intro ρ n; exact (ih _ _).trans (ranR_s ρ n b k hk)
theorem ranL_a (k j : Nat) (hk : k ≠ 43) : ∀ (l : List Int) (ρ : RS) (n : Nat), (ranL ρ n l).2 k j = ρ.2 k j := by
  intro l
  induction l with
  | nil => intro ρ n; rfl
  | cons b l ih => intro ρ n; exact (ih _ _).trans (ranR_a ρ n b k j hk)
theorem Iv.ran (h : Iv Y ρ) (l : List Int) (hl : l.length ≤ 40) : Iv Y (ranL (ρ.setS 44 0) 0 l) := by
  have e44 : (ranL (ρ.setS 44 0) 0 l).1 44 = ↑(0 + l.length) := ranL_44 l _ 0 (by rw [RS.setS_eq]; rfl)
  refine h.scal ?_ (fun k hk => by rw [ranL_s k (by omega), RS.setS_ne (by omega)]) (fun k j _ h43 _ => by rw [ranL_a k j h43]; rfl)
  have b := h.1
  unfold bnd at b ⊢
  rw [e44, ranL_s 4 (by decide), ranL_s 30 (by decide), ranL_s 2 (by decide), ranL_s 3 (by decide), RS.setS_ne (by decide), RS.setS_ne (by decide), RS.setS_ne (by decide), RS.setS_ne (by decide)]
  omega
theorem actL_len (k : Int) : (moveL k).length ≤ 2 ∧ (mixedL k).length ≤ 4 ∧ (tellL k).length ≤ 2 ∧ (kendL k).length ≤ 8 ∧ (endedL k).length ≤ 9 := by
  have h1 : (moveL k).length ≤ 2 := by unfold moveL; split <;> decide
  have h3 : (tellL k).length ≤ 2 := by unfold tellL; split <;> decide
  have h2 : (mixedL k).length ≤ 4 := by
    unfold mixedL
    rw [List.length_append]
    have : (if k = 3 then ([40, 11] : List Int) else [11]).length ≤ 2 := by split <;> decide
    omega
  have h4 : (kendL k).length ≤ 8 := by
    unfold kendL
    rw [List.length_append, List.length_append]
    have : ([12] : List Int).length = 1 := rfl
    omega
  refine ⟨h1, h2, h3, h4, ?_⟩
  unfold endedL
  split
  · rw [List.length_append]; have : ([21] : List Int).length = 1 := rfl; omega
  · split
    · rw [List.length_append]; have : ([50] : List Int).length = 1 := rfl; omega
    · omega
theorem Iv.act (h : Iv Y ρ) (t a x : Int) : Iv Y (actF ρ t a x).2 := by
  have q := actL_len (ρ.2 39 t.toNat - 2)
  unfold actF
  split
  · exact h.s42 1
  · split
    · exact h.s42 3
    · split
      · exact (h.ran _ (by omega)).s42 0
      · split
        · exact (h.ran _ (by omega)).s42 0
        · split
          · exact (h.ran _ (by omega)).s42 0
          · exact (h.ran _ (by omega)).s42 0
theorem Iv.forge (h : Iv Y ρ) (t w n : Int) : Iv Y (forgeF ρ t w n).2 := by
  unfold forgeF
  repeat' split
  all_goals exact h.s42 _
theorem Iv.pt (h : Iv Y ρ) (i : Nat) (how t : Int) (hh : 0 ≤ how ∧ how ≤ 6) (ht : -1 ≤ t) (h1 : how = 1 → t < ρ.1 30) (h2 : 2 ≤ how → t < thN ρ) (h0 : how = 0 → t = -1) : Iv Y (ptR ρ i how t) := by
  unfold ptR
  obtain ⟨w, hw⟩ : ∃ w : Int, w = if t = -1 then 0 else how := ⟨_, rfl⟩
  rw [← hw]
  have hw2 : (w = 0 ∧ t = -1) ∨ (w = how ∧ 0 ≤ t) := by
    rw [hw]
    by_cases q : t = -1
    · rw [if_pos q]; exact Or.inl ⟨rfl, q⟩
    · rw [if_neg q]; exact Or.inr ⟨rfl, by omega⟩
  have a : ∀ k j, k ≠ 39 → k ≠ 40 → ((ρ.setA 39 i w).setA 40 i t).2 k j = ρ.2 k j := fun k j k1 k2 => by rw [RS.setA_ne (Or.inl k2), RS.setA_ne (Or.inl k1)]
  have g : Gr ρ ((ρ.setA 39 i w).setA 40 i t) := Gr.of rfl (fun k j h1 h2 => a k j (by omega) (by omega))
  obtain ⟨b, ⟨t1, t2⟩, r, ee, nn, lf, kk, ll, tr, ff⟩ := h
  refine Iv.s42 (ρ := (ρ.setA 39 i w).setA 40 i t) ⟨b, ⟨t1.cg ⟨rfl, rfl, rfl⟩ (fun k j h1 h2 => a k j (by omega) (by omega)), fun s hs => by rw [a 10 s (by decide) (by decide)]; exact t2 s hs⟩, r.g g (fun k j hk => a k j (by omega) (by omega)), ee.g g rfl (fun k j h1 h2 => a k j (by omega) (by omega)), nn.g (Int.le_refl _) (fun k j hk => a k j (by omega) (by omega)), lf.g (fun k j hk => a k j (by omega) (by omega)), kk.g g (Int.le_refl _) (fun k j h1 h2 => a k j (by omega) (by omega)), ll.g g rfl rfl rfl (fun k j hk => a k j (by omega) (by omega)), fun j hj => ?_, ff.g (Int.le_refl _) (fun k j hk => a k j (by omega) (by omega))⟩ 0
  show (0 ≤ ((ρ.setA 39 i w).setA 40 i t).2 39 j ∧ ((ρ.setA 39 i w).setA 40 i t).2 39 j ≤ 6) ∧ (((ρ.setA 39 i w).setA 40 i t).2 39 j = 1 → 0 ≤ ((ρ.setA 39 i w).setA 40 i t).2 40 j ∧ ((ρ.setA 39 i w).setA 40 i t).2 40 j < ρ.1 30) ∧ (2 ≤ ((ρ.setA 39 i w).setA 40 i t).2 39 j → 0 ≤ ((ρ.setA 39 i w).setA 40 i t).2 40 j ∧ ((ρ.setA 39 i w).setA 40 i t).2 40 j < ↑(thN ρ))
  by_cases hx : j = i
  · subst hx
    rw [RS.setA_ne (Or.inl (by decide)), RS.setA_eq, RS.setA_eq]
    rcases hw2 with ⟨q1, q2⟩ | ⟨q1, q2⟩
    · omega
    · rw [q1]
      exact ⟨hh, fun z => ⟨q2, h1 z⟩, fun z => ⟨q2, h2 z⟩⟩
  · rw [RS.setA_ne (Or.inr hx), RS.setA_ne (Or.inr hx), RS.setA_ne (Or.inr hx)]
    exact tr j hj
theorem Iv.s41 (h : Iv Y ρ) (i : Nat) (v : Int) : Iv Y (ρ.setA 41 i v) := h.scal (h.1.g (fun _ _ => rfl)) (fun _ _ => rfl) (fun k j _ _ h41 => RS.setA_ne (Or.inl h41))
theorem Iv.hold (h : Iv Y ρ) (t w n : Int) : Iv Y (holdF ρ t w n).2 := by
  have hE : ∀ e : Nat, (e : Int) < 2 * ρ.1 4 → ρ.2 14 (e / 2) ≠ 0 → EndOK ρ e := fun e he h14 => h.2.2.2.1.1 e (by have := h.1.1; omega) h14
  unfold holdF
  split
  · exact h.s42 1
  · next h1 =>
    split
    · exact h.s42 3
    · next h2 =>
      split
      · exact h.pt _ 0 (-1) (by decide) (by decide) (fun z => absurd z (by decide)) (fun z => absurd z (by decide)) (fun _ => rfl)
      · next w0 =>
        split
        · next w1 =>
          obtain ⟨x, rfl⟩ : ∃ x : Nat, n = ↑x := ⟨n.toNat, by omega⟩
          rw [Int.toNat_natCast]
          obtain ⟨k, k1, k2, k3⟩ := (h.2.2.2.2.2.2.2.1.1 x (by omega)).2.2.2.2.2.2.1
          exact h.pt _ 2 _ (by decide) (by omega) (fun z => absurd z (by decide)) (fun _ => by omega) (fun z => absurd z (by decide))
        · next w1 =>
          split
          · next w2 => exact h.pt _ 1 n (by decide) (by omega) (fun _ => by omega) (fun z => absurd z (by decide)) (fun z => absurd z (by decide))
          · next w2 =>
            obtain ⟨x, rfl⟩ : ∃ x : Nat, n = ↑x := ⟨n.toNat, by omega⟩
            rw [Int.toNat_natCast] at h2 ⊢
            have hx12 : x < 12 := by have := h.1.1; omega
            obtain ⟨⟨s, s1, s2, s3⟩, ⟨r, r1, r2, r3⟩, c, d⟩ := hE x (by omega) (fun z => h2 ⟨by omega, z⟩)
            have hc : -1 ≤ ρ.2 17 x ∧ ρ.2 17 x < thN ρ := by
              rcases c with c | ⟨c, c1, c2, c3⟩ <;> omega
            have hd : -1 ≤ ρ.2 18 x ∧ ρ.2 18 x < thN ρ := by
              rcases d with c | ⟨c, c1, c2, c3⟩ <;> omega
            clear c d
            split
            · exact h.pt _ 4 _ (by decide) (by omega) (fun z => absurd z (by decide)) (fun _ => by omega) (fun z => absurd z (by decide))
            · split
              · exact h.pt _ 3 _ (by decide) (by omega) (fun z => absurd z (by decide)) (fun _ => by omega) (fun z => absurd z (by decide))
              · split
                · exact h.pt _ 3 _ (by decide) (by omega) (fun z => absurd z (by decide)) (fun _ => by omega) (fun z => absurd z (by decide))
                · split
                  · exact h.pt _ 5 _ (by decide) (by omega) (fun z => absurd z (by decide)) (fun _ => by omega) (fun z => absurd z (by decide))
                  · have hk := h.2.2.2.2.2.2.1
                    obtain ⟨m, m1, m2⟩ := hk.1.1 x hx12
                    by_cases hm : ρ.2 25 x = 0
                    · rw [if_pos hm]
                      exact (h.s41 _ _).pt _ 6 (-1) (by decide) (by decide) (fun z => absurd z (by decide)) (fun _ => by show (-1 : Int) < ↑(thN ρ); omega) (fun z => absurd z (by decide))
                    · rw [if_neg hm]
                      obtain ⟨k, k1, k2, k3⟩ := hk.2.1 x 0 m hx12 m2 (by omega)
                      rw [Nat.add_zero] at k1
                      exact (h.s41 _ _).pt _ 6 _ (by decide) (by omega) (fun z => absurd z (by decide)) (fun _ => by show ρ.2 28 (12 * x) < ↑(thN ρ); omega) (fun z => absurd z (by decide))
end
