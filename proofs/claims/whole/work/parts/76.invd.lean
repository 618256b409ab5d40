/-! WHAT HOLDS BETWEEN THE CALLS IS KEPT: send and start -/
section
variable {Y : (Nat → Bool) × (Nat → Bool)} {ρ σ : RS}
theorem Iv.letter (h : Iv Y ρ) {l x s key p : Nat} {v b21 t chk : Int} (h30 : ρ.1 30 = ↑l) (hl : l < 300) (hx : x < 12) (hst : ρ.2 14 (x / 2) ≠ 0) (hv : 0 ≤ v ∧ v ≤ 10007) (hb : 0 ≤ b21 ∧ b21 ≤ 300) (hp : p ≤ 300) (ht : 0 ≤ t ∧ t ≤ 255) (hc : 0 ≤ chk ∧ chk ≤ 10007) (hk : key < thN ρ) (hk0 : ρ.2 6 key = 0) (hs : s < thN ρ) (hs3 : ρ.2 6 s = 3) (hpar : Y.2 s = decide (x % 2 = 1)) (hpub : v = powF (ρ.1 0) (ρ.1 1) (ρ.2 9 s).toNat) :
    Iv Y ((ltR ρ l ↑x v b21 ↑p t chk ↑key ↑s).setS 30 (↑l + 1)) := by
  obtain ⟨σ, hσ⟩ : ∃ y : RS, y = (ltR ρ l ↑x v b21 ↑p t chk ↑key ↑s).setS 30 (↑l + 1) := ⟨_, rfl⟩
  have s1 : ∀ j, j ≠ 30 → σ.1 j = ρ.1 j := fun j hj => by rw [hσ, RS.setS_ne hj]; rfl
  have s30 : σ.1 30 = ↑l + 1 := by rw [hσ, RS.setS_eq]
  have sa : ∀ f j, f < 31 ∨ 38 < f ∨ j ≠ l → σ.2 f j = ρ.2 f j := fun f j hf => by rw [hσ, RS.setS_a, ltR_at hf]
  have sl : σ.2 31 l = ↑x ∧ σ.2 32 l = v ∧ σ.2 33 l = b21 ∧ σ.2 34 l = ↑p ∧ σ.2 35 l = t ∧ σ.2 36 l = chk ∧ σ.2 37 l = ↑key ∧ σ.2 38 l = ↑s := by
    rw [hσ]
    unfold ltR
    refine ⟨?_, ?_, ?_, ?_, ?_, ?_, ?_, ?_⟩ <;> (simp only [RS.setS_a]; repeat (first | rw [RS.setA_eq] | rw [RS.setA_ne (by omega)]))
  rw [← hσ]
  clear hσ
  have g : Gr ρ σ := Gr.of (s1 5 (by decide)) (fun k j h1 h2 => sa k j (by omega))
  have le30 : ρ.1 30 ≤ σ.1 30 := by omega
  obtain ⟨b, ⟨t1, t2⟩, r, ee, nn, lf, kk, ll, tr, ff⟩ := h
  refine ⟨?_, ⟨(t1.cg ⟨s1 5 (by decide), s1 0 (by decide), s1 1 (by decide)⟩ (fun k j h1 h2 => sa k j (by omega))).own, fun u hu => by rw [sa 10 u (by omega)]; exact t2 u (by rw [← thN_congr (s1 5 (by decide))]; exact hu)⟩, r.g g (fun k j hk => sa k j (by omega)), ee.g g (s1 4 (by decide)) (fun k j h1 h2 => sa k j (by omega)), nn.g le30 (fun k j hk => sa k j (by omega)), lf.g (fun k j hk => sa k j (by omega)), kk.g g le30 (fun k j h1 h2 => sa k j (by omega)), ⟨fun j hj => ?_, fun j hj => ?_⟩, tr.g g le30 (fun k j hk => sa k j (by omega)), ff.g (by rw [s1 4 (by decide)]; exact Int.le_refl _) (fun k j hk => sa k j (by omega))⟩
  · unfold bnd at b ⊢
    rw [s1 4 (by decide), s30, s1 2 (by decide), s1 3 (by decide), s1 44 (by decide)]
    omega
  · by_cases hjl : j = l
    · subst hjl
      rw [sl.1, sl.2.1, sl.2.2.1, sl.2.2.2.1, sl.2.2.2.2.1, sl.2.2.2.2.2.1, sl.2.2.2.2.2.2.1, sl.2.2.2.2.2.2.2]
      exact ⟨⟨x, rfl, hx, by rw [sa 14 _ (by omega)]; exact hst⟩, hv, hb, ⟨p, rfl, hp⟩, ht, hc, ⟨key, rfl, (g.k hk hk0).1, (g.k hk hk0).2⟩, s, rfl, (g.k hs hs3).1, (g.k hs hs3).2⟩
    · obtain ⟨⟨x2, a1, a2, a3⟩, q2, q3, q4, q5, q6, ⟨k, k1, k2, k3⟩, z, z1, z2, z3⟩ := ll.1 j (by omega)
      rw [sa 31 j (by omega), sa 32 j (by omega), sa 33 j (by omega), sa 34 j (by omega), sa 35 j (by omega), sa 36 j (by omega), sa 37 j (by omega), sa 38 j (by omega)]
      exact ⟨⟨x2, a1, a2, by rw [sa 14 _ (by omega)]; exact a3⟩, q2, q3, q4, q5, q6, ⟨k, k1, (g.k k2 k3).1, (g.k k2 k3).2⟩, z, z1, (g.k z2 z3).1, (g.k z2 z3).2⟩
  · by_cases hjl : j = l
    · subst hjl
      rw [sl.1, sl.2.1, sl.2.2.2.2.2.2.2, Int.toNat_natCast, Int.toNat_natCast, s1 0 (by decide), s1 1 (by decide), g.2 9 s (by decide) (by decide) hs]
      exact ⟨hpar, hpub⟩
    · obtain ⟨z, z1, z2, z3⟩ := (ll.1 j (by omega)).2.2.2.2.2.2.2
      have q := ll.2 j (by omega)
      rw [sa 31 j (by omega), sa 32 j (by omega), sa 38 j (by omega), s1 0 (by decide), s1 1 (by decide)]
      rw [z1, Int.toNat_natCast] at q ⊢
      rw [g.2 9 z (by decide) (by decide) z2]
      exact q
theorem tmd256 (x : Int) (h : 0 ≤ x) : 0 ≤ x.tmod 256 ∧ x.tmod 256 ≤ 255 := by rw [tmod256 h]; omega
theorem Iv.send (h : Iv Y ρ) (e b : Int) : Iv Y (sendF ρ e b).2 := by
  unfold sendF
  split
  · exact h.s42 1
  · next h1 =>
    split
    · exact h.s42 2
    · next h2 =>
      split
      · exact h.s42 3
      · next h3 =>
        obtain ⟨x, rfl⟩ : ∃ x : Nat, e = ↑x := ⟨e.toNat, by omega⟩
        rw [Int.toNat_natCast] at h3 ⊢
        have hb := h.1
        have hb4 := hb.1
        have hb30 := hb.2.1
        have h14 : ρ.2 14 (x / 2) ≠ 0 := fun z => h3 (Or.inl z)
        have hx12 : x < 12 := by omega
        obtain ⟨⟨s, s1, s2, s3⟩, -, cc, -⟩ := h.2.2.2.1.1 x hx12 h14
        obtain ⟨c, c1, c2, c3⟩ : ∃ c : Nat, ρ.2 17 x = ↑c ∧ c < thN ρ ∧ ρ.2 6 c = 1 := by
          rcases cc with z | z
          · exact absurd (Or.inr z) h3
          · exact z
        obtain ⟨-, ⟨p, p1, p2⟩, n21, -⟩ := h.2.2.2.2.1 x hx12 h14
        obtain ⟨l, l1⟩ : ∃ l : Nat, ρ.1 30 = ↑l := ⟨(ρ.1 30).toNat, by omega⟩
        have hown := h.2.2.2.1.2.1 x hx12 h14
        rw [s1, Int.toNat_natCast] at hown
        have hT := h.2.1.1
        have hq := hT.1.2.2.1
        have hg := hT.1.2.2.2.1
        rw [c1, l1, s1, Int.toNat_natCast, Int.toNat_natCast, Int.toNat_natCast]
        show Iv Y (snG ρ x c l s b)
        have i1 := h.ky c2
        obtain ⟨y1, y2, y3⟩ := hT.ky c2
        have yk : (kyR ρ c).2 6 (kyI ρ c) = 0 := th_kind (by decide)
        have a1 : ∀ k j, 10 < k → (kyR ρ c).2 k j = ρ.2 k j := fun k j hk => thR_old_at _ _ _ _ _ _ _ (Or.inr (Or.inr hk))
        have sc1 : ∀ k, k ≠ 5 → (kyR ρ c).1 k = ρ.1 k := fun k hk => thR_s _ _ _ _ _ _ hk
        have o1 : ∀ k t, t < thN ρ → (kyR ρ c).2 k t = ρ.2 k t := fun k t ht => thR_old_at _ _ _ _ _ _ _ (Or.inl ht)
        have wv := (y1.1.2.2.2.2 _ y2).2.2.2
        obtain ⟨τ0, hτ0⟩ : ∃ y : RS, y = kyR ρ c := ⟨_, rfl⟩
        obtain ⟨k, hk⟩ : ∃ y : Nat, y = kyI ρ c := ⟨_, rfl⟩
        rw [← hτ0] at i1 y2 y3 yk a1 sc1 o1 wv
        rw [← hk] at y2 yk wv
        have i2 := i1.letter (l := l) (x := x) (s := s) (key := k) (p := p) (v := powF (ρ.1 0) (ρ.1 1) (ρ.2 9 s).toNat) (b21 := ρ.2 21 x) (t := (b + τ0.2 9 k).tmod 256) (chk := mixF (ρ.1 0) (τ0.2 9 k) b) (by rw [sc1 30 (by decide)]; exact l1) (by omega) hx12 (by rw [a1 14 _ (by decide)]; exact h14) (powv hq hg.1 _) n21 (by omega) (tmd256 _ (by omega)) (mixv hq (by omega) (by omega)) y2 yk (by omega) (by rw [o1 6 s s2]; exact s3) hown (by rw [sc1 0 (by decide), sc1 1 (by decide), o1 9 s s2])
        obtain ⟨τ, hτ⟩ : ∃ y : RS, y = ltR τ0 l ↑x (powF (ρ.1 0) (ρ.1 1) (ρ.2 9 s).toNat) (ρ.2 21 x) ↑p ((b + τ0.2 9 k).tmod 256) (mixF (ρ.1 0) (τ0.2 9 k) b) ↑k ↑s := ⟨_, rfl⟩
        rw [← hτ] at i2
        have nτ : thN (τ.setS 30 (↑l + 1)) = thN τ0 := by rw [hτ]; rfl
        have k6 : (τ.setS 30 (↑l + 1)).2 6 c = 1 := by rw [RS.setS_a, hτ, ltR_at (by omega), o1 6 c c2]; exact c3
        have i3 := i2.ch (c := c) (by omega)
        obtain ⟨z1, z2, z3⟩ := i2.2.1.1.ch (c := c) (by omega)
        have zk : (chR (τ.setS 30 (↑l + 1)) c).2 6 (chI (τ.setS 30 (↑l + 1)) c) = 1 := th_kind (by decide)
        have i4 := i3.a17 x (chI (τ.setS 30 (↑l + 1)) c) z2 zk
        have q4 : (chR (τ.setS 30 (↑l + 1)) c).1 4 = ρ.1 4 := by rw [thR_s _ _ _ _ _ _ (by decide), RS.setS_ne (by decide), hτ, ltR_s, sc1 4 (by decide)]
        have q30 : (chR (τ.setS 30 (↑l + 1)) c).1 30 = ↑l + 1 := by rw [thR_s _ _ _ _ _ _ (by decide), RS.setS_eq]
        have i5 := i4.a20 x (p + 1) (by rw [RS.setA_s, q4]; omega) (by rw [RS.setA_s, q30]; omega)
        have e9 : snG ρ x c l s b = (expR (((chR (τ.setS 30 (↑l + 1)) c).setA 17 x ↑(chI (τ.setS 30 (↑l + 1)) c)).setA 20 x ↑(p + 1))).setS 42 0 := by
          unfold snG sn3
          rw [← hτ0, ← hk]
          have e7 : sn1 ρ τ0 x l k s (powF (ρ.1 0) (ρ.1 1) (ρ.2 9 s).toNat) b = τ := by
            rw [hτ, ← p1]
            rfl
          rw [e7]
          unfold sn2
          rw [(chR_S30 τ (↑l + 1) c).1, (chR_S30 τ (↑l + 1) c).2, p1]
          rfl
        rw [e9]
        exact i5.exp.s42 0
-- start
theorem RS.setA_comm {k j k' j' : Nat} {v v' : Int} (h : k ≠ k') : (ρ.setA k j v).setA k' j' v' = (ρ.setA k' j' v').setA k j v := by
  refine rs_ext (fun _ => rfl) (fun f i => ?_)
  by_cases h1 : f = k ∧ i = j
  · obtain ⟨rfl, rfl⟩ := h1
    rw [RS.setA_ne (Or.inl h), RS.setA_eq, RS.setA_eq]
  · rw [RS.setA_ne (ρ := ρ.setA k' j' v') (by omega)]
    by_cases h2 : f = k' ∧ i = j'
    · obtain ⟨rfl, rfl⟩ := h2
      rw [RS.setA_eq, RS.setA_eq]
    · rw [RS.setA_ne (by omega), RS.setA_ne (by omega), RS.setA_ne (by omega)]
theorem Iv.rm (h : Iv Y ρ) {r : Int} {x y : Nat} (hr : r = -1 ∨ (0 ≤ r ∧ r < thN ρ)) (hx : x < thN ρ) (hy : y < thN ρ) (hp : Y.2 x ≠ Y.2 y) : Iv Y (rmR ρ r x y) ∧ rmI ρ r x y < thN (rmR ρ r x y) ∧ (rmR ρ r x y).2 6 (rmI ρ r x y) = 2 ∧ thN ρ ≤ thN (rmR ρ r x y) ∧ thN (rmR ρ r x y) ≤ thN ρ + 2 ∧ Gr ρ (rmR ρ r x y) := by
  have i1 := h.me hx hy hp
  obtain ⟨y1, y2, y3⟩ := h.2.1.1.me hx hy hp
  have l1 : thN (meR ρ x y) ≤ thN ρ + 1 := thR_le1 h.2.1.1.1 5 (meLo x y) (meHi x y) (meV ρ x y)
  have i2 := i1.rt (r := r) (m := meI ρ x y) (by omega) y2
  obtain ⟨z1, z2, z3⟩ := i1.2.1.1.rt (r := r) (m := meI ρ x y) (by omega) y2
  have l2 : thN (rtR (meR ρ x y) r (meI ρ x y)) ≤ thN (meR ρ x y) + 1 := thR_le1 i1.2.1.1.1 2 r (meI ρ x y) (rtV (meR ρ x y) r (meI ρ x y))
  have zk : (rtR (meR ρ x y) r (meI ρ x y)).2 6 (rtI (meR ρ x y) r (meI ρ x y)) = 2 := th_kind (by decide)
  unfold rmR rmI
  refine ⟨i2, z2, zk, by omega, by omega, by omega, fun k t h1 h2 ht => ?_⟩
  rw [thR_old_at _ _ _ _ _ _ _ (Or.inl (by omega)), thR_old_at _ _ _ _ _ _ _ (Or.inl ht)]
end
