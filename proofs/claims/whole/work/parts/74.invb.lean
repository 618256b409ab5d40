/-! WHAT HOLDS BETWEEN THE CALLS IS KEPT: what is kept, rows, lefts -/
section
variable {Y : (Nat → Bool) × (Nat → Bool)} {ρ σ : RS}
theorem Iv.kep (h : Iv Y ρ) (s : ∀ k, σ.1 k = ρ.1 k) (a : ∀ k j, k < 25 ∨ 29 < k → σ.2 k j = ρ.2 k j) (hk : ivK σ) (h25 : ∀ e : Nat, e < 12 → 2 * ρ.1 4 ≤ (e : Int) → σ.2 25 e = 0) : Iv Y σ := by
  have g : Gr ρ σ := Gr.of (s 5) (fun k j h1 h2 => a k j (by omega))
  obtain ⟨b, ⟨t1, t2⟩, r, ee, nn, lf, kk, ll, tr, ff⟩ := h
  refine ⟨b.g (fun k _ => s k), ⟨(t1.cg ⟨s 5, s 0, s 1⟩ (fun k j h1 h2 => a k j (by omega))).own, fun t ht => ?_⟩, r.g g (fun k j hk => a k j (by omega)), ee.g g (s 4) (fun k j h1 h2 => a k j (by omega)), nn.g (by rw [s 30]; exact Int.le_refl _) (fun k j hk => a k j (by omega)), lf.g (fun k j hk => a k j (by omega)), hk, ll.g g (s 0) (s 1) (s 30) (fun k j hk => a k j (by omega)), tr.g g (by rw [s 30]; exact Int.le_refl _) (fun k j hk => a k j (by omega)), fun e he h4 => ?_⟩
  · rw [a 10 t (by decide)]
    exact t2 t (by rw [← thN_congr (s 5)]; exact ht)
  · rw [s 4] at h4
    have q := ff e he h4
    rw [a 12 e (by decide), a 20 e (by decide), a 21 e (by decide), a 22 e (by decide), a 23 e (by decide)]
    exact ⟨q.1, q.2.1, q.2.2.1, q.2.2.2.1, q.2.2.2.2.1, h25 e he h4⟩
theorem ivK.drop (h : ivK ρ) {e i m : Nat} (he : e < 12) (hm : ρ.2 25 e = ↑(m + 1)) (hm12 : m < 12) (hi : i ≤ m) : ivK (dropR ρ e i m) := by
  obtain ⟨hK, hKy, hTs, hTl⟩ := h
  have cell : ∀ f e1 n1 j : Nat, 26 ≤ f → f ≤ 29 → e1 < 12 → (dropR ρ e i m).2 25 e1 = ↑n1 → j < n1 → ∃ j1 n2 : Nat, ρ.2 25 e1 = ↑n2 ∧ j1 < n2 ∧ j ≤ j1 ∧ j1 ≤ j + 1 ∧ (e1 = e → (j < i → j1 = j) ∧ (i ≤ j → j1 = j + 1)) ∧ (e1 ≠ e → j1 = j) ∧ (dropR ρ e i m).2 f (12 * e1 + j) = ρ.2 f (12 * e1 + j1) := fun f e1 n1 j f1 f2 he1 hn1 hj => by
    by_cases hx : e1 = e
    · subst hx
      rw [dropR_25] at hn1
      by_cases hji : j < i
      · exact ⟨j, m + 1, hm, by omega, by omega, by omega, fun _ => ⟨fun _ => rfl, fun q => by omega⟩, fun q => absurd rfl q, dropR_out (by omega) (by omega)⟩
      · exact ⟨j + 1, m + 1, hm, by omega, by omega, by omega, fun _ => ⟨fun q => by omega, fun _ => rfl⟩, fun q => absurd rfl q, dropR_in (by omega) ⟨f1, f2⟩⟩
    · rw [dropR_25n hx] at hn1
      obtain ⟨n9, n91, n92⟩ := hK.1 e1 he1
      exact ⟨j, n1, hn1, hj, by omega, by omega, fun q => absurd q hx, fun _ => rfl, dropR_out (by omega) (by omega)⟩
  refine ⟨hK.drop he hm12, fun e1 j n1 he1 hn1 hj => ?_, fun e1 n1 he1 hn1 a b hab hb => ?_, fun e1 n1 j he1 hn1 hj => ?_⟩
  · obtain ⟨j1, n2, q1, q2, -, -, -, -, q3⟩ := cell 28 e1 n1 j (by decide) (by decide) he1 hn1 hj
    rw [q3]
    exact hKy e1 j1 n2 he1 q1 q2
  · obtain ⟨a1, n2, q1, q2, u1, u2, u3, u4, q3⟩ := cell 29 e1 n1 a (by decide) (by decide) he1 hn1 (by omega)
    obtain ⟨b1, n3, r1, r2, v1, v2, v3, v4, r3⟩ := cell 29 e1 n1 b (by decide) (by decide) he1 hn1 hb
    rw [q3, r3]
    refine hTs e1 n3 he1 r1 a1 b1 ?_ r2
    by_cases hx : e1 = e
    · have w1 := u3 hx
      have w2 := v3 hx
      by_cases hai : a < i
      · have := w1.1 hai
        omega
      · have := w1.2 (by omega)
        have := w2.2 (by omega)
        omega
    · have := u4 hx
      have := v4 hx
      omega
  · obtain ⟨j1, n2, q1, q2, -, -, -, -, q3⟩ := cell 29 e1 n1 j (by decide) (by decide) he1 hn1 hj
    rw [q3]
    exact hTl e1 n2 j1 he1 q1 q2
theorem Iv.drop (h : Iv Y ρ) {e i m : Nat} (he : e < 12) (hm : ρ.2 25 e = ↑(m + 1)) (hm12 : m < 12) (hi : i ≤ m) : Iv Y (dropR ρ e i m) := by
  refine h.kep (fun _ => rfl) (fun k j hk => dropR_at _ _ _ _ _ _ hk) (ivK.drop h.2.2.2.2.2.2.1 he hm hm12 hi) (fun e1 h1 h4 => ?_)
  have q := (h.2.2.2.2.2.2.2.2.2 e1 h1 h4).2.2.2.2.2
  by_cases hx : e1 = e
  · subst hx; omega
  · rw [dropR_25n hx]; exact q
theorem ivK.kp (h : ivK ρ) {e m kk : Nat} {pl : Int} (he : e < 12) (hm : ρ.2 25 e = ↑m) (hm12 : m < 12) (h19 : -1 ≤ ρ.2 19 e ∧ ρ.2 19 e ≤ 10007) (hp : 0 ≤ pl ∧ pl ≤ 600) (hk : kk < thN ρ) (hk0 : ρ.2 6 kk = 0) (hN : thN ρ ≤ 8000) (hl : 0 ≤ ρ.1 30 ∧ ρ.1 30 ≤ 300) : ivK (kp1 ρ e m pl ↑kk) := by
  obtain ⟨hK, hKy, hTs, hTl⟩ := h
  have c25 : ∀ e1, (kp1 ρ e m pl ↑kk).2 25 e1 = if e1 = e then (m : Int) + 1 else ρ.2 25 e1 := kp1_25 ρ e m pl ↑kk
  have old : ∀ f j, f ≠ 25 → j ≠ 12 * e + m → (kp1 ρ e m pl ↑kk).2 f j = ρ.2 f j := fun f j h1 h2 => by
    unfold kp1
    rw [RS.setA_ne (Or.inl h1), RS.setA_ne (Or.inr h2), RS.setA_ne (Or.inr h2), RS.setA_ne (Or.inr h2), RS.setA_ne (Or.inr h2)]
  have n28 : (kp1 ρ e m pl ↑kk).2 28 (12 * e + m) = ↑kk := by
    unfold kp1
    rw [RS.setA_ne (Or.inl (by decide)), RS.setA_ne (Or.inl (by decide)), RS.setA_eq]
  have n29 : (kp1 ρ e m pl ↑kk).2 29 (12 * e + m) = ρ.1 30 := by
    unfold kp1
    rw [RS.setA_ne (Or.inl (by decide)), RS.setA_eq]
  have n6 : ∀ t, (kp1 ρ e m pl ↑kk).2 6 t = ρ.2 6 t := fun t => kp1_at _ _ _ _ _ _ _ (by decide)
  have cell : ∀ e1 n1 j : Nat, e1 < 12 → (kp1 ρ e m pl ↑kk).2 25 e1 = ↑n1 → j < n1 → (e1 = e ∧ j = m) ∨ (12 * e1 + j ≠ 12 * e + m ∧ ∃ n2 : Nat, ρ.2 25 e1 = ↑n2 ∧ j < n2) := fun e1 n1 j he1 hn1 hj => by
    rw [c25] at hn1
    by_cases hx : e1 = e
    · subst hx
      rw [if_pos rfl] at hn1
      by_cases hjm : j = m
      · exact Or.inl ⟨rfl, hjm⟩
      · exact Or.inr ⟨by omega, m, hm, by omega⟩
    · rw [if_neg hx] at hn1
      obtain ⟨n9, n91, n92⟩ := hK.1 e1 he1
      exact Or.inr ⟨by omega, n1, hn1, hj⟩
  refine ⟨hK.kpp he hm12 h19 hp (by omega) hl, fun e1 j n1 he1 hn1 hj => ?_, fun e1 n1 he1 hn1 a b hab hb => ?_, fun e1 n1 j he1 hn1 hj => ?_⟩
  · rcases cell e1 n1 j he1 hn1 hj with ⟨rfl, rfl⟩ | ⟨h1, n2, h2, h3⟩
    · exact ⟨kk, n28, hk, (n6 kk).trans hk0⟩
    · obtain ⟨k1, q1, q2, q3⟩ := hKy e1 j n2 he1 h2 h3
      exact ⟨k1, (old 28 _ (by decide) h1).trans q1, q2, (n6 k1).trans q3⟩
  · rcases cell e1 n1 b he1 hn1 hb with ⟨rfl, rfl⟩ | ⟨h1, n2, h2, h3⟩
    · rw [n29]
      rcases cell e1 n1 a he1 hn1 (by omega) with ⟨-, rfl⟩ | ⟨h1, n2, h2, h3⟩
      · rw [n29]; exact Int.le_refl _
      · rw [old 29 _ (by decide) h1]
        exact hTl e1 n2 a he1 h2 h3
    · rw [old 29 _ (by decide) h1]
      rcases cell e1 n1 a he1 hn1 (by omega) with ⟨rfl, rfl⟩ | ⟨u1, n3, u2, u3⟩
      · omega
      · rw [old 29 _ (by decide) u1]
        exact hTs e1 n2 he1 h2 a b hab h3
  · show (kp1 ρ e m pl ↑kk).2 29 (12 * e1 + j) ≤ ρ.1 30
    rcases cell e1 n1 j he1 hn1 hj with ⟨rfl, rfl⟩ | ⟨h1, n2, h2, h3⟩
    · rw [n29]; exact Int.le_refl _
    · rw [old 29 _ (by decide) h1]
      exact hTl e1 n2 j he1 h2 h3
theorem Iv.kp (h : Iv Y ρ) {e m kk : Nat} {pl : Int} (he : (e : Int) < 2 * ρ.1 4) (hm : ρ.2 25 e = ↑m) (hm12 : m < 12) (h19 : -1 ≤ ρ.2 19 e ∧ ρ.2 19 e ≤ 10007) (hp : 0 ≤ pl ∧ pl ≤ 600) (hk : kk < thN ρ) (hk0 : ρ.2 6 kk = 0) (hN : thN ρ ≤ 8000) : Iv Y (kp1 ρ e m pl ↑kk) := by
  have hb := h.1
  refine h.kep (fun _ => rfl) (fun k j hk => kp1_at _ _ _ _ _ _ _ hk) (ivK.kp h.2.2.2.2.2.2.1 (by have := hb.1; omega) hm hm12 h19 hp hk hk0 hN hb.2.1) (fun e1 h1 h4 => ?_)
  have q := (h.2.2.2.2.2.2.2.2.2 e1 h1 h4).2.2.2.2.2
  rw [kp1_25, if_neg (by omega)]
  exact q
theorem Iv.keep (h : Iv Y ρ) {e n kk : Nat} {pl : Int} (he : (e : Int) < 2 * ρ.1 4) (hn : ρ.2 25 e = ↑n) (hn12 : n ≤ 12) (h19 : -1 ≤ ρ.2 19 e ∧ ρ.2 19 e ≤ 10007) (hp : 0 ≤ pl ∧ pl ≤ 600) (hk : kk < thN ρ) (hk0 : ρ.2 6 kk = 0) (hN : thN ρ ≤ 8000) : Iv Y (keepR ρ e n pl ↑kk) := by
  have hb := h.1.1
  unfold keepR
  by_cases h12 : n = 12
  · rw [if_pos h12]
    have q := h.drop (e := e) (i := 0) (m := 11) (by omega) (by rw [hn, h12]) (by decide) (by decide)
    exact q.kp he dropR_25 (by decide) (by rw [dropR_at _ _ _ _ _ _ (by decide)]; exact h19) hp hk (by rw [dropR_at _ _ _ _ _ _ (by decide)]; exact hk0) hN
  · rw [if_neg h12]
    exact h.kp he hn (by omega) h19 hp hk hk0 hN
theorem KOK.exp (h : KOK ρ) : KOK (expR ρ) := by
  have h1 : ∀ (d e : Nat) (ρ : RS), e + d = 12 → KOK ρ → KOK (expA d e ρ) := by
    intro d
    induction d with
    | zero => intro e ρ _ hK; exact hK
    | succ d ih =>
      intro e ρ he hK
      exact ih (e + 1) _ (by omega) (expE_ok (ρ.2 25 e).toNat hK (e := e) (by omega)).1
  exact h1 12 0 ρ rfl h
theorem Iv.exp (h : Iv Y ρ) : Iv Y (expR ρ) := by
  have hk := h.2.2.2.2.2.2.1
  have F : FAll ρ (expR ρ) 12 := expA_F hk.2.2.1 hk.1.1 12 0 ρ rfl (FAll.rf ρ)
  obtain ⟨f1, f2, f3, f4⟩ := F
  have cell : ∀ f e1 n1 j : Nat, 26 ≤ f → f ≤ 29 → e1 < 12 → (expR ρ).2 25 e1 = ↑n1 → j < n1 → ∃ p n2 : Nat, ρ.2 25 e1 = ↑n2 ∧ j + p < n2 ∧ n1 = n2 - p ∧ (expR ρ).2 f (12 * e1 + j) = ρ.2 f (12 * e1 + (j + p)) := fun f e1 n1 j h1 h2 he1 hn1 hj => by
    obtain ⟨n2, q1, q2⟩ := hk.1.1 e1 he1
    obtain ⟨p, r1, r2, r3⟩ := (f4 e1 n2 he1 q2).1 he1
    have e1' : n1 = n2 - p := by
      have : ((n2 - p : Nat) : Int) = ↑n1 := r2.symm.trans hn1
      omega
    exact ⟨p, n2, q2, by omega, e1', (r3 f j h1 h2 (by omega)).trans (by rw [Nat.add_assoc])⟩
  refine h.kep f1 f2 ⟨hk.1.exp, fun e1 j n1 he1 hn1 hj => ?_, fun e1 n1 he1 hn1 a b hab hb => ?_, fun e1 n1 j he1 hn1 hj => ?_⟩ (fun e1 h1 h4 => ?_)
  · obtain ⟨p, n2, q1, q2, q3, q4⟩ := cell 28 e1 n1 j (by decide) (by decide) he1 hn1 hj
    rw [q4]
    obtain ⟨k, u1, u2, u3⟩ := hk.2.1 e1 (j + p) n2 he1 q1 q2
    exact ⟨k, u1, by rw [thN_congr (f1 5)]; exact u2, (f2 6 k (by decide)).trans u3⟩
  · obtain ⟨p, n2, q1, q2, q3, q4⟩ := cell 29 e1 n1 a (by decide) (by decide) he1 hn1 (by omega)
    obtain ⟨p', n2', r1, r2, r3, r4⟩ := cell 29 e1 n1 b (by decide) (by decide) he1 hn1 hb
    have hnn : n2 = n2' := by
      have : (n2 : Int) = ↑n2' := q1.symm.trans r1
      omega
    rw [q4, r4]
    exact hk.2.2.1 e1 n2' he1 r1 (a + p) (b + p') (by omega) r2
  · obtain ⟨p, n2, q1, q2, q3, q4⟩ := cell 29 e1 n1 j (by decide) (by decide) he1 hn1 hj
    rw [q4, f1 30]
    exact hk.2.2.2 e1 n2 (j + p) he1 q1 q2
  · have q := (h.2.2.2.2.2.2.2.2.2 e1 h1 h4).2.2.2.2.2
    obtain ⟨p, r1, r2, r3⟩ := (f4 e1 0 h1 q).1 h1
    exact r2.trans (by rw [Nat.zero_sub]; rfl)
-- rows
theorem Iv.next (h : Iv Y ρ) {e n : Nat} (he : (e : Int) < 2 * ρ.1 4) (hn : ρ.2 12 e = ↑(n + 1)) : Iv Y (nextR ρ e n) := by
  have a : ∀ k j, k ≠ 12 ∧ k ≠ 13 → (nextR ρ e n).2 k j = ρ.2 k j := fun k j hk => nextR_at hk
  have g : Gr ρ (nextR ρ e n) := Gr.of rfl (fun k j h1 h2 => a k j (by omega))
  have hb := h.1.1
  obtain ⟨b, ⟨t1, t2⟩, r, ee, nn, lf, kk, ll, tr, ff⟩ := h
  have row : ∀ e1 n1 i : Nat, e1 < 12 → (nextR ρ e n).2 12 e1 = ↑n1 → i < n1 → ∃ n2 i1 : Nat, ρ.2 12 e1 = ↑n2 ∧ i1 < n2 ∧ (nextR ρ e n).2 13 (12 * e1 + i) = ρ.2 13 (12 * e1 + i1) := fun e1 n1 i he1 hn1 hi => by
    by_cases hx : e1 = e
    · subst hx
      rw [nextR_12] at hn1
      exact ⟨n + 1, i + 1, hn, by omega, nextR_13s (by omega)⟩
    · rw [nextR_12ne hx] at hn1
      obtain ⟨n9, n91, n92, -⟩ := r.1 e1 he1
      obtain ⟨n8, n81, n82, -⟩ := r.1 e (by omega)
      exact ⟨n1, i, hn1, hi, nextR_13 (by omega)⟩
  refine ⟨b, ⟨t1.cg ⟨rfl, rfl, rfl⟩ (fun k j h1 h2 => a k j (by omega)), fun t ht => by rw [a 10 t (by decide)]; exact t2 t ht⟩, ⟨fun e1 he1 => ?_, fun e1 i n1 he1 hn1 hi => ?_⟩, ee.g g rfl (fun k j h1 h2 => a k j (by omega)), nn.g (Int.le_refl _) (fun k j hk => a k j (by omega)), lf.g (fun k j hk => a k j (by omega)), kk.g g (Int.le_refl _) (fun k j h1 h2 => a k j (by omega)), ll.g g rfl rfl rfl (fun k j hk => a k j (by omega)), tr.g g (Int.le_refl _) (fun k j hk => a k j (by omega)), fun e1 h1 h4 => ?_⟩
  · obtain ⟨n9, n91, n92, n93⟩ := r.1 e1 he1
    obtain ⟨n8, n81, n82, -⟩ := r.1 e (by omega)
    obtain ⟨n1, u1, u2⟩ : ∃ n1 : Nat, n1 ≤ 12 ∧ (nextR ρ e n).2 12 e1 = ↑n1 := by
      by_cases hx : e1 = e
      · subst hx; exact ⟨n, by omega, nextR_12⟩
      · exact ⟨n9, n91, (nextR_12ne hx).trans n92⟩
    refine ⟨n1, u1, u2, fun i hi => ?_⟩
    obtain ⟨n2, i1, q1, q2, q3⟩ := row e1 n1 i he1 u2 hi
    rw [n92] at q1
    obtain ⟨t, v1, v2, v3⟩ := n93 i1 (by omega)
    exact ⟨t, q3.trans v1, v2, (a 6 t (by decide)).trans v3⟩
  · obtain ⟨n2, i1, q1, q2, q3⟩ := row e1 n1 i he1 hn1 hi
    rw [q3]
    exact r.2 e1 i1 n2 he1 q1 q2
  · have hx : e1 ≠ e := fun z => by subst z; have h5 : 2 * ρ.1 4 ≤ (e1 : Int) := h4; omega
    rw [nextR_12ne hx, a 20 e1 (by decide), a 21 e1 (by decide), a 22 e1 (by decide), a 23 e1 (by decide), a 25 e1 (by decide)]
    exact ff e1 h1 h4
-- lefts
theorem leR_23 {e j : Nat} : (leR ρ e).2 23 j = if j = e ∧ ρ.2 19 e ≠ -1 then ρ.2 23 e + 1 else ρ.2 23 j := by
  unfold leR
  by_cases h : ρ.2 19 e = -1
  · rw [if_pos h, if_neg (fun z => z.2 h)]
  · rw [if_neg h]
    by_cases hj : j = e
    · subst hj; rw [if_pos ⟨rfl, h⟩, RS.setA_eq]
    · rw [if_neg (fun z => hj z.1), RS.setA_ne (Or.inr hj), RS.setA_ne (Or.inl (by decide))]
theorem leR_24 {e j : Nat} : (leR ρ e).2 24 j = if j = 600 * e + (ρ.2 23 e).toNat ∧ ρ.2 19 e ≠ -1 then ρ.2 19 e else ρ.2 24 j := by
  unfold leR
  by_cases h : ρ.2 19 e = -1
  · rw [if_pos h, if_neg (fun z => z.2 h)]
  · rw [if_neg h, RS.setA_ne (Or.inl (by decide))]
    by_cases hj : j = 600 * e + (ρ.2 23 e).toNat
    · subst hj; rw [if_pos ⟨rfl, h⟩, RS.setA_eq]
    · rw [if_neg (fun z => hj z.1), RS.setA_ne (Or.inr hj)]
theorem Iv.left (h : Iv Y ρ) {e : Nat} (he : (e : Int) < 2 * ρ.1 4) (hl : ρ.2 23 e < 300) (h19 : -1 ≤ ρ.2 19 e ∧ ρ.2 19 e ≤ 10007) : Iv Y (leR ρ e) := by
  have a : ∀ k j, k ≠ 23 ∧ k ≠ 24 → (leR ρ e).2 k j = ρ.2 k j := fun k j hk => leR_at hk
  have s : ∀ k, (leR ρ e).1 k = ρ.1 k := fun k => leR_s
  have g : Gr ρ (leR ρ e) := Gr.of (s 5) (fun k j h1 h2 => a k j (by omega))
  have hb := h.1.1
  obtain ⟨b, ⟨t1, t2⟩, r, ee, nn, lf, kk, ll, tr, ff⟩ := h
  refine ⟨b.g (fun k _ => s k), ⟨(t1.cg ⟨s 5, s 0, s 1⟩ (fun k j h1 h2 => a k j (by omega))).own, fun t ht => by rw [a 10 t (by decide)]; exact t2 t (by rw [← thN_congr (s 5)]; exact ht)⟩, r.g g (fun k j hk => a k j (by omega)), ee.g g (s 4) (fun k j h1 h2 => a k j (by omega)), nn.g (by rw [s 30]; exact Int.le_refl _) (fun k j hk => a k j (by omega)), ⟨fun e1 h1 => ?_, fun j hj => ?_⟩, kk.g g (by rw [s 30]; exact Int.le_refl _) (fun k j h1 h2 => a k j (by omega)), ll.g g (s 0) (s 1) (s 30) (fun k j hk => a k j (by omega)), tr.g g (by rw [s 30]; exact Int.le_refl _) (fun k j hk => a k j (by omega)), fun e1 h1 h4 => ?_⟩
  · obtain ⟨n, q1, q2⟩ := lf.1 e1 h1
    rw [leR_23]
    split
    · next hz =>
      obtain ⟨rfl, -⟩ := hz
      exact ⟨n + 1, by rw [q1]; rfl, by omega⟩
    · exact ⟨n, q1, q2⟩
  · rw [leR_24]
    split
    · exact h19
    · exact lf.2 j hj
  · rw [s 4] at h4
    have hx : e1 ≠ e := fun z => by subst z; omega
    rw [leR_23, if_neg (fun z => hx z.1), a 12 e1 (by decide), a 20 e1 (by decide), a 21 e1 (by decide), a 22 e1 (by decide), a 25 e1 (by decide)]
    exact ff e1 h1 h4
-- a key is skipped, keys are skipped, one opens
theorem thR_le1 {N : Nat} (hT : ThOK ρ N) (k a b v : Int) : thN (thR ρ k a b v) ≤ thN ρ + 1 := by
  rcases thR_cases ρ k a b v with ⟨-, q⟩ | ⟨-, q⟩
  · rw [q]; omega
  · rw [q, thN_new hT]; omega
theorem Iv.sk1 (h : Iv Y ρ) {e c n p : Nat} (he : (e : Int) < 2 * ρ.1 4) (h18 : ρ.2 18 e = ↑c) (hc : c < thN ρ) (hck : ρ.2 6 c = 1) (h25 : ρ.2 25 e = ↑n) (h22 : ρ.2 22 e = ↑p) (hp : p ≤ 300) (hN : thN ρ < 7990) (h19 : -1 ≤ ρ.2 19 e ∧ ρ.2 19 e ≤ 10007) :
    Iv Y (skS ρ e c n) ∧ (∃ c' : Nat, (skS ρ e c n).2 18 e = ↑c' ∧ c' < thN (skS ρ e c n) ∧ (skS ρ e c n).2 6 c' = 1) ∧ (skS ρ e c n).2 22 e = ↑(p + 1) ∧ thN (skS ρ e c n) ≤ thN ρ + 2 := by
  have hb := h.1.1
  have hT := h.2.1.1
  obtain ⟨n9, n91, n92⟩ := h.2.2.2.2.2.2.1.1.1 e (by omega)
  have hnn : n = n9 := by
    have : (n : Int) = ↑n9 := h25.symm.trans n92
    omega
  have i1 := h.ky hc
  obtain ⟨y1, y2, y3⟩ := hT.ky hc
  have yk : (kyR ρ c).2 6 (kyI ρ c) = 0 := th_kind (by decide)
  have l1 : thN (kyR ρ c) ≤ thN ρ + 1 := thR_le1 hT.1 0 ↑c (-1) (kyV ρ c)
  have a1 : ∀ k j, 10 < k → (kyR ρ c).2 k j = ρ.2 k j := fun k j hk => thR_old_at _ _ _ _ _ _ _ (Or.inr (Or.inr hk))
  have s1 : ∀ k, k ≠ 5 → (kyR ρ c).1 k = ρ.1 k := fun k hk => thR_s _ _ _ _ _ _ hk
  have i2 := i1.keep (e := e) (n := n) (kk := kyI ρ c) (pl := ρ.2 22 e) (by rw [s1 4 (by decide)]; exact he) (by rw [a1 25 e (by decide)]; exact h25) (by omega) (by rw [a1 19 e (by decide)]; exact h19) (by omega) y2 yk (by omega)
  obtain ⟨τ, hτ⟩ : ∃ x : RS, x = keepR (kyR ρ c) e n (ρ.2 22 e) ↑(kyI ρ c) := ⟨_, rfl⟩
  have nτ : thN τ = thN (kyR ρ c) := thN_congr (by rw [hτ, keepR_s])
  have k6 : τ.2 6 c = 1 := by rw [hτ, keepR_at _ _ _ _ _ _ _ (by decide), thR_old_at _ _ _ _ _ _ _ (Or.inl hc)]; exact hck
  have s4 : τ.1 4 = ρ.1 4 := by rw [hτ, keepR_s, s1 4 (by decide)]
  rw [← hτ] at i2
  have hcτ : c < thN τ := by omega
  have i3 := i2.ch hcτ
  obtain ⟨z1, z2, z3⟩ := i2.2.1.1.ch hcτ
  have zk : (chR τ c).2 6 (chI τ c) = 1 := th_kind (by decide)
  have l2 : thN (chR τ c) ≤ thN τ + 1 := thR_le1 i2.2.1.1.1 1 ↑c (-1) (chV τ c)
  have i4 := i3.a18 e (chI τ c) z2 zk
  have i5 := i4.a22 e (p + 1) (by rw [RS.setA_s, thR_s _ _ _ _ _ _ (by decide), s4]; exact he) (by omega)
  have e9 : skS ρ e c n = ((chR τ c).setA 18 e ↑(chI τ c)).setA 22 e ↑(p + 1) := by
    unfold skS
    rw [← hτ, h22]
    rfl
  rw [e9]
  refine ⟨i5, ⟨chI τ c, by rw [RS.setA_ne (Or.inl (by decide)), RS.setA_eq], z2, ?_⟩, by rw [RS.setA_eq], ?_⟩
  · rw [RS.setA_ne (Or.inl (by decide)), RS.setA_ne (Or.inl (by decide))]
    exact zk
  · show thN (chR τ c) ≤ thN ρ + 2
    omega
theorem Iv.sk : ∀ (d : Nat) {ρ : RS} {e p : Nat}, Iv Y ρ → (e : Int) < 2 * ρ.1 4 → (∃ c : Nat, ρ.2 18 e = ↑c ∧ c < thN ρ ∧ ρ.2 6 c = 1) → ρ.2 22 e = ↑p → p + d ≤ 301 → thN ρ + 2 * d < 7990 → (-1 ≤ ρ.2 19 e ∧ ρ.2 19 e ≤ 10007) →
    Iv Y (skF ρ e d) ∧ (∃ c' : Nat, (skF ρ e d).2 18 e = ↑c' ∧ c' < thN (skF ρ e d) ∧ (skF ρ e d).2 6 c' = 1) ∧ (skF ρ e d).2 22 e = ↑(p + d) ∧ thN (skF ρ e d) ≤ thN ρ + 2 * d := by
  intro d
  induction d with
  | zero => intro ρ e p h _ hc h22 _ _ _; exact ⟨h, hc, h22, Nat.le_refl _⟩
  | succ d ih =>
    intro ρ e p h he hc h22 hp hN h19
    obtain ⟨c, h18, hcl, hck⟩ := hc
    have hb := h.1.1
    obtain ⟨n, n91, h25⟩ := h.2.2.2.2.2.2.1.1.1 e (by omega)
    obtain ⟨i1, c1, p1, l1⟩ := h.sk1 he h18 hcl hck h25 h22 (by omega) (by omega) h19
    have e9 : skF ρ e (d + 1) = skF (skS ρ e c n) e d := by
      show skF (skS ρ e (ρ.2 18 e).toNat (ρ.2 25 e).toNat) e d = _
      rw [h18, h25, Int.toNat_natCast, Int.toNat_natCast]
    obtain ⟨j1, j2, j3, j4⟩ := ih i1 (by rw [skS_s (by decide)]; exact he) c1 p1 (by omega) (by omega) (by rw [skS_at (by omega)]; exact h19)
    rw [e9]
    exact ⟨j1, j2, by rw [j3]; congr 1; omega, by omega⟩
theorem Iv.op (h : Iv Y ρ) {e c p : Nat} (he : (e : Int) < 2 * ρ.1 4) (hc : c < thN ρ) (hck : ρ.2 6 c = 1) (h22 : ρ.2 22 e = ↑p) (hp : p ≤ 300) : Iv Y (opR ρ e c) ∧ (opR ρ e c).2 22 e = ↑(p + 1) ∧ thN (opR ρ e c) ≤ thN ρ + 2 ∧ Gr ρ (opR ρ e c) := by
  have i1 := h.ky hc
  obtain ⟨y1, y2, y3⟩ := h.2.1.1.ky hc
  have l1 : thN (kyR ρ c) ≤ thN ρ + 1 := thR_le1 h.2.1.1.1 0 ↑c (-1) (kyV ρ c)
  have hc1 : c < thN (kyR ρ c) := by omega
  have k6 : (kyR ρ c).2 6 c = 1 := by rw [thR_old_at _ _ _ _ _ _ _ (Or.inl hc)]; exact hck
  have i2 := i1.ch hc1
  obtain ⟨z1, z2, z3⟩ := i1.2.1.1.ch hc1
  have l2 : thN (chR (kyR ρ c) c) ≤ thN (kyR ρ c) + 1 := thR_le1 i1.2.1.1.1 1 ↑c (-1) (chV (kyR ρ c) c)
  have zk : (chR (kyR ρ c) c).2 6 (chI (kyR ρ c) c) = 1 := th_kind (by decide)
  have i3 := i2.a18 e (chI (kyR ρ c) c) z2 zk
  have i4 := i3.a22 e (p + 1) (by rw [RS.setA_s, thR_s _ _ _ _ _ _ (by decide), thR_s _ _ _ _ _ _ (by decide)]; exact he) (by omega)
  have e9 : opR ρ e c = ((chR (kyR ρ c) c).setA 18 e ↑(chI (kyR ρ c) c)).setA 22 e ↑(p + 1) := by
    unfold opR
    rw [h22]
    rfl
  rw [e9]
  refine ⟨i4, by rw [RS.setA_eq], ?_, ⟨?_, fun k t h1 h2 ht => ?_⟩⟩
  · show thN (chR (kyR ρ c) c) ≤ thN ρ + 2
    omega
  · show thN ρ ≤ thN (chR (kyR ρ c) c)
    omega
  · rw [RS.setA_ne (Or.inl (by omega)), RS.setA_ne (Or.inl (by omega)), thR_old_at _ _ _ _ _ _ _ (Or.inl (by omega)), thR_old_at _ _ _ _ _ _ _ (Or.inl ht)]
end
