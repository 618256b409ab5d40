/-! WHAT HOLDS BETWEEN THE CALLS IS KEPT: a pair begins -/
def ZU (ρ : RS) : Prop := ∀ e : Nat, e < 12 → ρ.2 14 (e / 2) = 0 → ρ.2 20 e = 0 ∧ ρ.2 21 e = 0 ∧ ρ.2 22 e = 0
section
variable {Y : (Nat → Bool) × (Nat → Bool)} {ρ σ : RS}
theorem Iv.b14 (h : Iv Y ρ) {i : Nat} (hi : (i : Int) < ρ.1 4) (hE : ∀ e, e < 12 → e / 2 = i → EndOK ρ e ∧ Y.2 (ρ.2 15 e).toNat = decide (e % 2 = 1) ∧ (-1 ≤ ρ.2 19 e ∧ ρ.2 19 e ≤ 10007) ∧ ρ.2 20 e = 0 ∧ ρ.2 21 e = 0 ∧ ρ.2 22 e = 0) : Iv (stU (stU Y.1 (2 * i + 1)) (2 * i), Y.2) (ρ.setA 14 i 1) := by
  have a : ∀ k j, k ≠ 14 → (ρ.setA 14 i 1).2 k j = ρ.2 k j := fun k j hk => RS.setA_ne (Or.inl hk)
  have a14 : ∀ j, (ρ.setA 14 i 1).2 14 j = if j = i then 1 else ρ.2 14 j := fun j => by
    by_cases hj : j = i
    · subst hj; rw [if_pos rfl, RS.setA_eq]
    · rw [if_neg hj, RS.setA_ne (Or.inr hj)]
  have g : Gr ρ (ρ.setA 14 i 1) := Gr.of rfl (fun k j h1 h2 => a k j (by omega))
  obtain ⟨b, ⟨t1, t2⟩, r, ee, nn, lf, kk, ll, tr, ff⟩ := h
  have hb := b.1
  have hb30 := b.2.1
  have i6 : i < 6 := by omega
  refine ⟨b, ⟨t1.cg ⟨rfl, rfl, rfl⟩ (fun k j h1 h2 => a k j (by omega)), fun t ht => by rw [a 10 t (by decide)]; exact t2 t ht⟩, r.g g (fun k j hk => a k j (by omega)), ⟨fun e he h14 => ?_, fun e he h14 => ?_, fun e he => ?_, fun p hp => ?_⟩, fun e he h14 => ?_, lf.g (fun k j hk => a k j (by omega)), kk.g g (Int.le_refl _) (fun k j h1 h2 => a k j (by omega)), ⟨fun l hl => ?_, fun l hl => ?_⟩, tr.g g (Int.le_refl _) (fun k j hk => a k j (by omega)), ff.g (Int.le_refl _) (fun k j hk => a k j (by omega))⟩
  · by_cases hx : e / 2 = i
    · exact (hE e he hx).1.g g (fun k h1 h2 => a k e (by omega))
    · rw [a14, if_neg hx] at h14
      exact (ee.1 e he h14).g g (fun k h1 h2 => a k e (by omega))
  · rw [a 15 e (by decide)]
    by_cases hx : e / 2 = i
    · exact (hE e he hx).2.1
    · rw [a14, if_neg hx] at h14
      exact ee.2.1 e he h14
  · rw [a14]
    show stU (stU Y.1 (2 * i + 1)) (2 * i) e = true ↔ _
    by_cases hx : e / 2 = i
    · rw [if_pos hx]
      refine ⟨fun _ => by decide, fun _ => ?_⟩
      by_cases h2 : e = 2 * i
      · rw [h2]; exact stU_self
      · rw [stU_ne h2, show e = 2 * i + 1 by omega]; exact stU_self
    · rw [if_neg hx, stU_ne (by omega), stU_ne (by omega)]
      exact ee.2.2.1 e he
  · rw [a14]
    by_cases hx : p = i
    · rw [if_pos hx]
      exact ⟨Or.inr rfl, fun _ => by rw [hx]; exact hi⟩
    · rw [if_neg hx]
      exact ee.2.2.2 p hp
  · rw [a 19 e (by decide), a 20 e (by decide), a 21 e (by decide), a 22 e (by decide)]
    by_cases hx : e / 2 = i
    · obtain ⟨-, -, q19, q20, q21, q22⟩ := hE e he hx
      rw [q20, q21, q22]
      exact ⟨q19, ⟨0, rfl, hb30.1⟩, by decide, ⟨0, rfl, by decide⟩⟩
    · rw [a14, if_neg hx] at h14
      exact nn e he h14
  · obtain ⟨⟨x, x1, x2, x3⟩, q2, q3, q4, q5, q6, ⟨k, k1, k2, k3⟩, z, z1, z2, z3⟩ := ll.1 l hl
    rw [a 31 l (by decide), a 32 l (by decide), a 33 l (by decide), a 34 l (by decide), a 35 l (by decide), a 36 l (by decide), a 37 l (by decide), a 38 l (by decide)]
    refine ⟨⟨x, x1, x2, ?_⟩, q2, q3, q4, q5, q6, ⟨k, k1, (g.k k2 k3).1, (g.k k2 k3).2⟩, z, z1, (g.k z2 z3).1, (g.k z2 z3).2⟩
    rw [a14]
    by_cases hx : x / 2 = i
    · rw [if_pos hx]; decide
    · rw [if_neg hx]; exact x3
  · rw [a 31 l (by decide), a 32 l (by decide), a 38 l (by decide), a 9 _ (by decide)]
    exact ll.2 l hl
theorem st_14 (S0 : RS) (i e o n a b c : Nat) : ∀ {r1 : Nat} {S1 S2 S3 S4 : RS} {r2 : Nat} {v : Int}, r1 = rmI S0 (-1) a b → S1 = rmR S0 (-1) a b → S2 = st2 S1 o n b r1 → S3 = (nextR S2 e n).setA 15 e ↑c → r2 = rmI S3 ↑r1 c b → S4 = (rmR S3 ↑r1 c b).setA 16 e ↑r2 →
    st4 (st6 (st5 (S0.setA 14 i 1) e o n a b c) (rmI (S0.setA 14 i 1) (-1) a b) e b c) e (rmI (st5 (S0.setA 14 i 1) e o n a b c) ↑(rmI (S0.setA 14 i 1) (-1) a b) c b) v = ((((((chR S4 r2).setA 17 e ↑(chI S4 r2)).setA 18 e (-1)).setA 19 e v).setA 14 i 1).setS 42 0) := by
  intro r1 S1 S2 S3 S4 r2 v h1 h2 h3 h4 h5 h6
  have q1 : rmI (S0.setA 14 i 1) (-1) a b = r1 := (rmR_A (by decide)).1.trans h1.symm
  have q2 : rmR (S0.setA 14 i 1) (-1) a b = S1.setA 14 i 1 := by rw [h2]; exact (rmR_A (by decide)).2
  have q3 : st2 (S1.setA 14 i 1) o n b r1 = S2.setA 14 i 1 := by
    rw [h3]
    unfold st2
    rw [RS.setA_comm (k := 14) (by decide), RS.setA_comm (k := 14) (by decide), RS.setA_comm (k := 14) (by decide), RS.setA_comm (k := 14) (by decide), RS.setA_comm (k := 14) (by decide)]
  have q4 : st5 (S0.setA 14 i 1) e o n a b c = S3.setA 14 i 1 := by
    unfold st5 st3
    rw [q1, q2, q3, nextR_A (by decide), RS.setA_comm (k := 14) (by decide), h4]
  have q5 : rmI (S3.setA 14 i 1) ↑r1 c b = r2 := (rmR_A (by decide)).1.trans h5.symm
  have q6 : st6 (S3.setA 14 i 1) r1 e b c = S4.setA 14 i 1 := by
    unfold st6
    rw [q5, (rmR_A (by decide)).2, RS.setA_comm (k := 14) (by decide), h6]
  rw [q1, q4, q5, q6]
  unfold st4
  rw [(chR_A (by decide)).1, (chR_A (by decide)).2, RS.setA_comm (k := 14) (by decide), RS.setA_comm (k := 14) (by decide), RS.setA_comm (k := 14) (by decide)]
theorem Iv.start (h : Iv Y ρ) (hz : ZU ρ) (p : Int) : Iv (startY Y ρ p) (startF ρ p).2 := by
  by_cases h1 : ¬ (0 ≤ p ∧ p ≤ ρ.1 4 - 1)
  · have e9 : startF ρ p = (-1, ρ.setS 42 1) := if_pos h1
    rw [show startY Y ρ p = Y from by unfold startY; rw [e9]; exact if_neg (show ¬ ((-1 : Int) = 1) by decide), e9]
    exact h.s42 1
  · by_cases h2 : ρ.2 14 p.toNat ≠ 0 ∨ ρ.2 12 (2 * p.toNat) < 2 ∨ ρ.2 12 (2 * p.toNat + 1) < 1
    · have e9 : startF ρ p = (-1, ρ.setS 42 3) := (if_neg h1).trans (if_pos h2)
      rw [show startY Y ρ p = Y from by unfold startY; rw [e9]; exact if_neg (show ¬ ((-1 : Int) = 1) by decide), e9]
      exact h.s42 3
    · have e9 := (if_neg h1).trans (if_neg h2) |> (show startF ρ p = _ from ·)
      obtain ⟨i, rfl⟩ : ∃ i : Nat, p = ↑i := ⟨p.toNat, by omega⟩
      rw [show startY Y ρ ↑i = (stU (stU Y.1 (2 * i + 1)) (2 * i), Y.2) from by unfold startY; rw [e9, Int.toNat_natCast]; exact if_pos rfl, e9]
      rw [Int.toNat_natCast] at h2 ⊢
      have hb := h.1
      have hb4 := hb.1
      have i6 : i < 6 := by omega
      obtain ⟨e, hee⟩ : ∃ e : Nat, e = 2 * i := ⟨_, rfl⟩
      obtain ⟨o, hoo⟩ : ∃ o : Nat, o = 2 * i + 1 := ⟨_, rfl⟩
      rw [← hoo, ← hee] at h2 ⊢
      obtain ⟨ne, ne1, ne2, ne3⟩ := h.2.2.1.1 e (by omega)
      obtain ⟨no, no1, no2, no3⟩ := h.2.2.1.1 o (by omega)
      obtain ⟨n, rfl⟩ : ∃ n : Nat, ne = n + 2 := ⟨ne - 2, by omega⟩
      obtain ⟨m, rfl⟩ : ∃ m : Nat, no = m + 1 := ⟨no - 1, by omega⟩
      obtain ⟨a, a1, a2, a3⟩ := ne3 0 (by omega)
      obtain ⟨c, c1, c2, c3⟩ := ne3 1 (by omega)
      obtain ⟨b, b1, b2, b3⟩ := no3 0 (by omega)
      have pa := h.2.2.1.2 e 0 (n + 2) (by omega) ne2 (by omega)
      have pc := h.2.2.1.2 e 1 (n + 2) (by omega) ne2 (by omega)
      have pb := h.2.2.1.2 o 0 (m + 1) (by omega) no2 (by omega)
      rw [a1, Int.toNat_natCast, decide_eq_false (by omega)] at pa
      rw [c1, Int.toNat_natCast] at pc
      rw [b1, Int.toNat_natCast] at pb
      have pb' := pb
      have pc' := pc
      rw [decide_eq_true (by omega)] at pb'
      rw [decide_eq_false (by omega)] at pc'
      rw [Nat.add_zero] at a1 b1
      rw [ne2, no2, a1, b1, c1, Int.toNat_natCast, Int.toNat_natCast, Int.toNat_natCast, Int.toNat_natCast, Int.toNat_natCast, show n + 2 - 2 = n from rfl, show m + 1 - 1 = m from rfl]
      show Iv _ (stG ρ i e o n m a b c)
      -- the states
      have i1 := h.next (e := e) (n := n + 1) (by omega) ne2
      have i2 := i1.next (e := o) (n := m) (by rw [nextR_s]; omega) (by rw [nextR_12ne (by omega)]; exact no2)
      obtain ⟨S0, hS0⟩ : ∃ x : RS, x = nextR (nextR ρ e (n + 1)) o m := ⟨_, rfl⟩
      rw [← hS0] at i2
      have S0s : ∀ k, S0.1 k = ρ.1 k := fun k => by rw [hS0]; rfl
      have S0a : ∀ k j, k ≠ 12 ∧ k ≠ 13 → S0.2 k j = ρ.2 k j := fun k j hk => by rw [hS0, nextR_at hk, nextR_at hk]
      have S0e : S0.2 12 e = ↑(n + 1) := by rw [hS0, nextR_12ne (by omega), nextR_12]
      have n0 : thN S0 = thN ρ := thN_congr (S0s 5)
      obtain ⟨i3, r1l, r1k, g1a, g1b, g1⟩ := i2.rm (r := -1) (x := a) (y := b) (Or.inl rfl) (by omega) (by omega) (by rw [pa, pb']; decide)
      obtain ⟨r1, hr1⟩ : ∃ x : Nat, x = rmI S0 (-1) a b := ⟨_, rfl⟩
      obtain ⟨S1, hS1⟩ : ∃ x : RS, x = rmR S0 (-1) a b := ⟨_, rfl⟩
      rw [← hr1, ← hS1] at r1k r1l
      rw [← hS1] at i3 g1a g1b g1
      have S1s : ∀ k, k ≠ 5 → S1.1 k = ρ.1 k := fun k hk => by rw [hS1]; unfold rmR; rw [thR_s _ _ _ _ _ _ hk, thR_s _ _ _ _ _ _ hk]; exact S0s k
      have S1a : ∀ k j, 10 < k → k ≠ 12 ∧ k ≠ 13 → S1.2 k j = ρ.2 k j := fun k j h10 hk => by rw [hS1, rmR_at (Or.inr h10)]; exact S0a k j hk
      have S1e : S1.2 12 e = ↑(n + 1) := by rw [hS1, rmR_at (Or.inr (by decide))]; exact S0e
      have b6 : S1.2 6 b = 3 := (g1.k (t := b) (by omega) ((S0a 6 b (by decide)).trans b3)).2
      have i4 := ((((i3.a15 o b (by omega) b6 pb).a16 o r1 r1l (by rw [RS.setA_ne (Or.inl (by decide))]; exact r1k)).a17n o).a18n o).a19 o (-1) (by decide)
      obtain ⟨S2, hS2⟩ : ∃ x : RS, x = st2 S1 o n b r1 := ⟨_, rfl⟩
      have i4' : Iv Y S2 := by rw [hS2]; exact i4
      have S2s : ∀ k, S2.1 k = S1.1 k := fun k => by rw [hS2]; rfl
      have S2a : ∀ k j, (k < 15 ∨ 19 < k ∨ j ≠ o) → S2.2 k j = S1.2 k j := fun k j hk => by
        rw [hS2]
        unfold st2
        rw [RS.setA_ne (by omega), RS.setA_ne (by omega), RS.setA_ne (by omega), RS.setA_ne (by omega), RS.setA_ne (by omega)]
      have S2o : S2.2 15 o = ↑b ∧ S2.2 16 o = ↑r1 ∧ S2.2 17 o = -1 ∧ S2.2 18 o = -1 ∧ S2.2 19 o = -1 := by
        rw [hS2]
        unfold st2
        refine ⟨?_, ?_, ?_, ?_, ?_⟩ <;> (repeat (first | rw [RS.setA_eq] | rw [RS.setA_ne (by omega)]))
      have n2 : thN S2 = thN S1 := thN_congr (S2s 5)
      have i5 := i4'.next (e := e) (n := n) (by rw [S2s, S1s 4 (by decide)]; omega) (by rw [S2a 12 e (Or.inl (by decide))]; exact S1e)
      have c6' : (nextR S2 e n).2 6 c = 3 := by rw [nextR_at (by decide), S2a 6 c (Or.inl (by decide))]; exact (g1.k (t := c) (by omega) ((S0a 6 c (by decide)).trans c3)).2
      have i6' := i5.a15 e c (by show c < thN S2; omega) c6' pc
      obtain ⟨S3, hS3⟩ : ∃ x : RS, x = (nextR S2 e n).setA 15 e ↑c := ⟨_, rfl⟩
      rw [← hS3] at i6'
      have S3s : ∀ k, S3.1 k = S2.1 k := fun k => by rw [hS3]; rfl
      have S3a : ∀ k j, k ≠ 12 ∧ k ≠ 13 → (k ≠ 15 ∨ j ≠ e) → S3.2 k j = S2.2 k j := fun k j hk h15 => by rw [hS3, RS.setA_ne h15, nextR_at hk]
      have S3e : S3.2 15 e = ↑c := by rw [hS3, RS.setA_eq]
      have n3 : thN S3 = thN S2 := thN_congr (S3s 5)
      obtain ⟨i7, r2l, r2k, g2a, g2b, g2⟩ := i6'.rm (r := ↑r1) (x := c) (y := b) (by omega) (by omega) (by omega) (by rw [pc', pb']; decide)
      obtain ⟨r2, hr2⟩ : ∃ x : Nat, x = rmI S3 ↑r1 c b := ⟨_, rfl⟩
      obtain ⟨W, hW⟩ : ∃ x : RS, x = rmR S3 ↑r1 c b := ⟨_, rfl⟩
      rw [← hr2, ← hW] at r2k r2l
      rw [← hW] at i7 g2a g2b g2
      have i8 := i7.a16 e r2 r2l r2k
      obtain ⟨S4, hS4⟩ : ∃ x : RS, x = W.setA 16 e ↑r2 := ⟨_, rfl⟩
      rw [← hS4] at i8
      have Wa : ∀ k j, 10 < k → W.2 k j = S3.2 k j := fun k j hk => by rw [hW, rmR_at (Or.inr hk)]
      have Ws : ∀ k, k ≠ 5 → W.1 k = S3.1 k := fun k hk => by rw [hW]; unfold rmR; rw [thR_s _ _ _ _ _ _ hk, thR_s _ _ _ _ _ _ hk]
      have n4 : thN S4 = thN W := by rw [hS4]; rfl
      have r26 : S4.2 6 r2 = 2 := by rw [hS4, RS.setA_ne (Or.inl (by decide))]; exact r2k
      have i9 := i8.ch (c := r2) (by omega)
      obtain ⟨z1, z2, z3⟩ := i8.2.1.1.ch (c := r2) (by omega)
      have zk : (chR S4 r2).2 6 (chI S4 r2) = 1 := th_kind (by decide)
      obtain ⟨ch, hch⟩ : ∃ x : Nat, x = chI S4 r2 := ⟨_, rfl⟩
      obtain ⟨T, hT⟩ : ∃ x : RS, x = chR S4 r2 := ⟨_, rfl⟩
      rw [← hch, ← hT] at zk z2
      rw [← hT] at i9 z3
      have Ta : ∀ k j, 10 < k → T.2 k j = S4.2 k j := fun k j hk => by rw [hT]; exact thR_old_at _ _ _ _ _ _ _ (Or.inr (Or.inr hk))
      have hq := h.2.1.1.1.2.2.1
      have hg := h.2.1.1.1.2.2.2.1
      have hv : 0 ≤ powF (ρ.1 0) (ρ.1 1) (ρ.2 9 b).toNat ∧ powF (ρ.1 0) (ρ.1 1) (ρ.2 9 b).toNat ≤ 10007 := powv hq hg.1 _
      generalize hvv : powF (ρ.1 0) (ρ.1 1) (ρ.2 9 b).toNat = v at hv
      have i10 := ((i9.a17 e ch z2 zk).a18n e).a19 e v (by omega)
      obtain ⟨S5, hS5⟩ : ∃ x : RS, x = ((T.setA 17 e ↑ch).setA 18 e (-1)).setA 19 e v := ⟨_, rfl⟩
      rw [← hS5] at i10
      have S5a : ∀ k j, (k ≠ 17 ∧ k ≠ 18 ∧ k ≠ 19 ∨ j ≠ e) → S5.2 k j = T.2 k j := fun k j hk => by rw [hS5, RS.setA_ne (by omega), RS.setA_ne (by omega), RS.setA_ne (by omega)]
      have S5e : S5.2 17 e = ↑ch ∧ S5.2 18 e = -1 ∧ S5.2 19 e = v := by
        rw [hS5]
        refine ⟨?_, ?_, ?_⟩ <;> (repeat (first | rw [RS.setA_eq] | rw [RS.setA_ne (by omega)]))
      have n5 : thN S5 = thN T := by rw [hS5]; rfl
      have S4a : ∀ k j, (k ≠ 16 ∨ j ≠ e) → S4.2 k j = W.2 k j := fun k j hk => by rw [hS4, RS.setA_ne hk]
      -- reads at the end
      have rd : ∀ k j, 10 < k → k ≠ 12 ∧ k ≠ 13 → (j ≠ e ∨ (k ≠ 15 ∧ k ≠ 16 ∧ k ≠ 17 ∧ k ≠ 18 ∧ k ≠ 19)) → S5.2 k j = S2.2 k j := fun k j h10 hk hj => by
        rw [S5a k j (by omega), Ta k j h10, S4a k j (by omega), Wa k j h10, S3a k j hk (by omega)]
      have gr3 : Gr S3 S5 := ⟨by omega, fun k t h1 h2 ht => by
        rw [S5a k t (by omega), hT, thR_old_at _ _ _ _ _ _ _ (Or.inl (by omega)), S4a k t (by omega)]
        exact g2.2 k t h1 h2 ht⟩
      have k3 : ∀ {t v1}, t < thN S1 → S1.2 6 t = v1 → t < thN S5 ∧ S5.2 6 t = v1 := fun {t v1} ht hv1 => gr3.k (t := t) (by omega) ((S3a 6 t (by decide) (Or.inl (by decide))).trans ((S2a 6 t (Or.inl (by decide))).trans hv1))
      have i11 := Iv.b14 i10 (i := i) (by rw [hS5]; show T.1 4 > _; rw [hT, thR_s _ _ _ _ _ _ (by decide), hS4]; show W.1 4 > _; rw [Ws 4 (by decide), S3s, S2s, S1s 4 (by decide)]; omega) (fun e1 he1 hx => by
        have hz1 := hz e1 he1 (by rw [hx]; omega)
        have q20 : S5.2 20 e1 = 0 := by rw [rd 20 e1 (by decide) (by decide) (by omega), S2a 20 e1 (by omega), S1a 20 e1 (by decide) (by decide)]; exact hz1.1
        have q21 : S5.2 21 e1 = 0 := by rw [rd 21 e1 (by decide) (by decide) (by omega), S2a 21 e1 (by omega), S1a 21 e1 (by decide) (by decide)]; exact hz1.2.1
        have q22 : S5.2 22 e1 = 0 := by rw [rd 22 e1 (by decide) (by decide) (by omega), S2a 22 e1 (by omega), S1a 22 e1 (by decide) (by decide)]; exact hz1.2.2
        by_cases he2 : e1 = e
        · subst he2
          have q15 : S5.2 15 e1 = ↑c := by rw [S5a 15 e1 (by omega), Ta 15 e1 (by decide), S4a 15 e1 (by omega), Wa 15 e1 (by decide)]; exact S3e
          have q16 : S5.2 16 e1 = ↑r2 := by rw [S5a 16 e1 (by omega), Ta 16 e1 (by decide), hS4, RS.setA_eq]
          have c6 : S1.2 6 c = 3 := (g1.k (t := c) (by omega) ((S0a 6 c (by decide)).trans c3)).2
          refine ⟨⟨⟨c, q15, (k3 (t := c) (by omega) c6).1, (k3 (t := c) (by omega) c6).2⟩, ⟨r2, q16, by omega, ?_⟩, Or.inr ⟨ch, S5e.1, by omega, ?_⟩, Or.inl S5e.2.1⟩, by rw [q15, Int.toNat_natCast]; exact pc, by rw [S5e.2.2]; omega, q20, q21, q22⟩
          · rw [S5a 6 r2 (by omega), hT, thR_old_at _ _ _ _ _ _ _ (Or.inl (by omega))]; exact r26
          · rw [S5a 6 ch (by omega)]; exact zk
        · obtain rfl : e1 = o := by omega
          have ro : ∀ k, 15 ≤ k → k ≤ 19 → S5.2 k e1 = S2.2 k e1 := fun k h1 h2 => rd k e1 (by omega) (by omega) (by omega)
          refine ⟨⟨⟨b, (ro 15 (by decide) (by decide)).trans S2o.1, (k3 (t := b) (by omega) b6).1, (k3 (t := b) (by omega) b6).2⟩, ⟨r1, (ro 16 (by decide) (by decide)).trans S2o.2.1, (k3 r1l r1k).1, (k3 r1l r1k).2⟩, Or.inl ((ro 17 (by decide) (by decide)).trans S2o.2.2.1), Or.inl ((ro 18 (by decide) (by decide)).trans S2o.2.2.2.1)⟩, by rw [ro 15 (by decide) (by decide), S2o.1, Int.toNat_natCast]; exact pb, by rw [ro 19 (by decide) (by decide), S2o.2.2.2.2]; decide, q20, q21, q22⟩)
      rw [← hoo, ← hee] at i11
      have eG : stG ρ i e o n m a b c = (S5.setA 14 i 1).setS 42 0 := by
        unfold stG
        have e1 : st1 ρ i e o n m = S0.setA 14 i 1 := by
          unfold st1
          rw [nextR_A (by decide), nextR_A (by decide), hS0]
        have hS4' : S4 = (rmR S3 ↑r1 c b).setA 16 e ↑r2 := by rw [hS4, hW]
        rw [e1, hvv, st_14 S0 i e o n a b c hr1 hS1 hS2 hS3 hr2 hS4', ← hch, ← hT, hS5]
      rw [eG]
      exact i11.s42 0
end
