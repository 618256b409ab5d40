/-! WHAT HOLDS BETWEEN THE CALLS IS KEPT: take -/
section
variable {Y : (Nat → Bool) × (Nat → Bool)} {ρ σ : RS}
theorem fuG_at {e d k j : Nat} (h : (k < 6 ∨ 10 < k) ∧ (k < 25 ∨ 29 < k) ∧ (k ≠ 18 ∧ k ≠ 22 ∨ j ≠ e)) : (fuG ρ e d).2 k j = ρ.2 k j := by
  unfold fuG
  rw [opR_at ⟨h.1, h.2.2⟩, skF_at h]
theorem fuG_s {e d k : Nat} (h : k ≠ 5) : (fuG ρ e d).1 k = ρ.1 k := by
  unfold fuG
  rw [opR_s h, skF_s h]
theorem Iv.sko (h : Iv Y ρ) {e p : Nat} (he : (e : Int) < 2 * ρ.1 4) (hc : ∃ c : Nat, ρ.2 18 e = ↑c ∧ c < thN ρ ∧ ρ.2 6 c = 1) (h22 : ρ.2 22 e = ↑p) (h19 : -1 ≤ ρ.2 19 e ∧ ρ.2 19 e ≤ 10007) : SkOK ρ e (thN ρ) p := by
  obtain ⟨c, c1, c2, -⟩ := hc
  exact ⟨h.2.1.1.1, h.2.2.2.2.2.2.1.1, ⟨c, c1, c2⟩, h19, h.1.2.1, h22⟩
theorem Iv.fu (h : Iv Y ρ) {e p d : Nat} (he : (e : Int) < 2 * ρ.1 4) (hc : ∃ c : Nat, ρ.2 18 e = ↑c ∧ c < thN ρ ∧ ρ.2 6 c = 1) (h22 : ρ.2 22 e = ↑p) (hp : p + d ≤ 300) (hN : thN ρ + 2 * d < 7980) (h19 : -1 ≤ ρ.2 19 e ∧ ρ.2 19 e ≤ 10007) :
    Iv Y (fuG ρ e d) ∧ (fuG ρ e d).2 22 e = ↑(p + d + 1) ∧ thN (fuG ρ e d) ≤ thN ρ + 2 * (d + 1) ∧ Gr ρ (fuG ρ e d) := by
  have hb := h.1.1
  have gx := (skF_ok (e := e) (by omega) d (N := thN ρ) (p := p) (by omega) (by omega) (h.sko he hc h22 h19)).2
  obtain ⟨i1, ⟨c', c1, c2, c3⟩, p1, l1⟩ := Iv.sk d h he hc h22 (by omega) (by omega) h19
  obtain ⟨j1, j2, j3, j4⟩ := i1.op (e := e) (c := c') (by rw [skF_s (by decide)]; exact he) c2 c3 p1 (by omega)
  have e9 : fuG ρ e d = opR (skF ρ e d) e c' := by
    unfold fuG
    rw [c1, Int.toNat_natCast]
  rw [e9]
  exact ⟨j1, j2, by omega, Nat.le_trans gx.1 j4.1, fun k t h1 h2 ht => (j4.2 k t h1 h2 (Nat.lt_of_lt_of_le ht gx.1)).trans (gx.2 k t h1 (by omega) ht)⟩
theorem anB1_at {e r k j : Nat} {P : Int} (h : 10 < k) (hk : (k ≠ 18 ∧ k ≠ 19 ∧ k ≠ 22) ∨ j ≠ e) : (anB1 ρ e r P).2 k j = ρ.2 k j := by
  unfold anB1
  rw [RS.setA_ne (by omega), RS.setA_ne (by omega), thR_old_at _ _ _ _ _ _ _ (Or.inr (by omega)), RS.setA_ne (by omega)]
theorem anB1_19 {e r : Nat} {P : Int} : (anB1 ρ e r P).2 19 e = P := by
  unfold anB1
  rw [RS.setA_ne (by omega), RS.setA_ne (by omega), thR_old_at _ _ _ _ _ _ _ (Or.inr (by omega)), RS.setA_eq]
theorem anB1_s {e r k : Nat} {P : Int} (h : k ≠ 5) : (anB1 ρ e r P).1 k = ρ.1 k := by
  unfold anB1
  rw [RS.setA_s, RS.setA_s, thR_s _ _ _ _ _ _ h, RS.setA_s]
theorem rmR_s {r : Int} {a b k : Nat} (h : k ≠ 5) : (rmR ρ r a b).1 k = ρ.1 k := by
  unfold rmR
  rw [thR_s _ _ _ _ _ _ h, thR_s _ _ _ _ _ _ h]
theorem anB6_at {e r n t z k j : Nat} {v : Int} (h : 10 < k) (h2 : k ≠ 12 ∧ k ≠ 13) (hk : (k ≠ 15 ∧ k ≠ 16 ∧ k ≠ 17 ∧ k ≠ 20 ∧ k ≠ 21) ∨ j ≠ e) : (anB6 ρ e r n t z v).2 k j = ρ.2 k j := by
  unfold anB6 anB5 anB4 anB3
  rw [RS.setA_ne (by omega), RS.setA_ne (by omega), RS.setA_ne (by omega), thR_old_at _ _ _ _ _ _ _ (Or.inr (by omega)), RS.setA_ne (by omega), rmR_at (by omega), RS.setA_ne (by omega), nextR_at h2]
theorem anB6_12 {e r n t z j : Nat} {v : Int} : (anB6 ρ e r n t z v).2 12 j = if j = e then ↑n else ρ.2 12 j := by
  unfold anB6 anB5 anB4 anB3
  rw [RS.setA_ne (by omega), RS.setA_ne (by omega), RS.setA_ne (by omega), thR_old_at _ _ _ _ _ _ _ (Or.inr (by omega)), RS.setA_ne (by omega), rmR_at (by omega), RS.setA_ne (by omega)]
  by_cases hj : j = e
  · subst hj; rw [if_pos rfl, nextR_12]
  · rw [if_neg hj, nextR_12ne hj]
theorem anB6_15 {e r n t z : Nat} {v : Int} : (anB6 ρ e r n t z v).2 15 e = ↑t := by
  unfold anB6 anB5 anB4 anB3
  rw [RS.setA_ne (by omega), RS.setA_ne (by omega), RS.setA_ne (by omega), thR_old_at _ _ _ _ _ _ _ (Or.inr (by omega)), RS.setA_ne (by omega), rmR_at (by omega), RS.setA_eq]
theorem anB6_20 {e r n t z : Nat} {v : Int} : (anB6 ρ e r n t z v).2 20 e = 0 := by
  unfold anB6 anB5
  rw [RS.setA_eq]
theorem anB6_s {e r n t z k : Nat} {v : Int} (h : k ≠ 5) : (anB6 ρ e r n t z v).1 k = ρ.1 k := by
  unfold anB6 anB5 anB4 anB3
  rw [RS.setA_s, RS.setA_s, RS.setA_s, thR_s _ _ _ _ _ _ h, RS.setA_s, rmR_s h, RS.setA_s, nextR_s]
theorem anD_at {e r0 s z pl n t k j : Nat} {P : Int} (h : 10 < k) (hk : k ≠ 12 ∧ k ≠ 13 ∧ k ≠ 23 ∧ k ≠ 24 ∧ (k < 25 ∨ 29 < k)) (hj : (k < 15 ∨ 22 < k) ∨ j ≠ e) : (anD2 σ e r0 s z pl n t P).2 k j = σ.2 k j := by
  unfold anD2 anC
  rw [anB6_at h ⟨hk.1, hk.2.1⟩ (by omega), fuG_at (by omega), anB1_at h (by omega), leR_at ⟨hk.2.2.1, hk.2.2.2.1⟩, rmR_at (by omega)]
theorem anD_12 {e r0 s z pl n t j : Nat} {P : Int} : (anD2 σ e r0 s z pl n t P).2 12 j = if j = e then ↑n else σ.2 12 j := by
  unfold anD2 anC
  rw [anB6_12, fuG_at (by omega), anB1_at (by decide) (by omega), leR_at (by decide), rmR_at (by omega)]
theorem anD_15 {e r0 s z pl n t : Nat} {P : Int} : (anD2 σ e r0 s z pl n t P).2 15 e = ↑t := by
  unfold anD2 anC
  exact anB6_15
theorem anD_19 {e r0 s z pl n t : Nat} {P : Int} : (anD2 σ e r0 s z pl n t P).2 19 e = P := by
  unfold anD2 anC
  rw [anB6_at (by decide) (by decide) (by omega), fuG_at (by omega), anB1_19]
theorem anD_20 {e r0 s z pl n t : Nat} {P : Int} : (anD2 σ e r0 s z pl n t P).2 20 e = 0 := by
  unfold anD2 anC
  exact anB6_20
theorem anD_23 {e r0 s z pl n t j : Nat} {P : Int} : (anD2 σ e r0 s z pl n t P).2 23 j = if j = e ∧ σ.2 19 e ≠ -1 then σ.2 23 e + 1 else σ.2 23 j := by
  unfold anD2 anC
  rw [anB6_at (by decide) (by decide) (by omega), fuG_at (by omega), anB1_at (by decide) (by omega), leR_23, rmR_at (by omega), rmR_at (by omega), rmR_at (by omega)]
theorem anD_24 {e r0 s z pl n t j : Nat} {P : Int} : (anD2 σ e r0 s z pl n t P).2 24 j = if j = 600 * e + (σ.2 23 e).toNat ∧ σ.2 19 e ≠ -1 then σ.2 19 e else σ.2 24 j := by
  unfold anD2 anC
  rw [anB6_at (by decide) (by decide) (by omega), fuG_at (by omega), anB1_at (by decide) (by omega), leR_24, rmR_at (by omega), rmR_at (by omega), rmR_at (by omega)]
theorem anD_s {e r0 s z pl n t k : Nat} {P : Int} (h : k ≠ 5) : (anD2 σ e r0 s z pl n t P).1 k = σ.1 k := by
  unfold anD2 anC
  rw [anB6_s h, fuG_s h, anB1_s h, leR_s, rmR_s h]
theorem Iv.an (h : Iv Y σ) {e r0 s z pl n t : Nat} {P : Int} (he : (e : Int) < 2 * σ.1 4) (hr0 : r0 < thN σ) (hs : s < thN σ) (hz : z < thN σ) (ht : t < thN σ) (ht3 : σ.2 6 t = 3) (ps : Y.2 s = decide (e % 2 = 1)) (pz : Y.2 z = !decide (e % 2 = 1)) (pt : Y.2 t = decide (e % 2 = 1)) (h12 : σ.2 12 e = ↑(n + 1)) (hlf : σ.2 23 e < 300) (h19 : -1 ≤ σ.2 19 e ∧ σ.2 19 e ≤ 10007) (hP : 0 ≤ P ∧ P ≤ 10007) (hpl : pl ≤ 300) (hN : thN σ + 2 * pl < 7960) (h20 : 0 ≤ σ.2 20 e ∧ σ.2 20 e ≤ 300) :
    Iv Y (anD2 σ e r0 s z pl n t P) ∧ thN (anD2 σ e r0 s z pl n t P) ≤ thN σ + 2 * pl + 8 ∧ (anD2 σ e r0 s z pl n t P).2 22 e = ↑(pl + 1) ∧ Gr σ (anD2 σ e r0 s z pl n t P) := by
  have hsz : Y.2 s ≠ Y.2 z := by rw [ps, pz]; cases decide (e % 2 = 1) <;> decide
  have htz : Y.2 t ≠ Y.2 z := by rw [pt, pz]; cases decide (e % 2 = 1) <;> decide
  -- the first root and meeting
  obtain ⟨iA, rl, rk, ga, gb, gA⟩ := h.rm (r := ↑r0) (x := s) (y := z) (by omega) hs hz hsz
  obtain ⟨r, hr⟩ : ∃ x : Nat, x = rmI σ ↑r0 s z := ⟨_, rfl⟩
  obtain ⟨A, hA⟩ : ∃ x : RS, x = rmR σ ↑r0 s z := ⟨_, rfl⟩
  rw [← hr, ← hA] at rl rk
  rw [← hA] at iA ga gb gA
  have Aa : ∀ k j, 10 < k → A.2 k j = σ.2 k j := fun k j hk => by rw [hA, rmR_at (Or.inr hk)]
  have As : ∀ k, k ≠ 5 → A.1 k = σ.1 k := fun k hk => by rw [hA, rmR_s hk]
  -- left
  have iB := iA.left (e := e) (by rw [As 4 (by decide)]; exact he) (by rw [Aa 23 e (by decide)]; exact hlf) (by rw [Aa 19 e (by decide)]; exact h19)
  obtain ⟨B, hB⟩ : ∃ x : RS, x = leR A e := ⟨_, rfl⟩
  rw [← hB] at iB
  have Ba : ∀ k j, k ≠ 23 ∧ k ≠ 24 → B.2 k j = A.2 k j := fun k j hk => by rw [hB, leR_at hk]
  have Bs : ∀ k, B.1 k = A.1 k := fun k => by rw [hB, leR_s]
  have nB : thN B = thN A := thN_congr (Bs 5)
  -- the new public, its chain
  have i1 := iB.a19 e P (by omega)
  have rk1 : (B.setA 19 e P).2 6 r = 2 := by rw [RS.setA_ne (Or.inl (by decide)), Ba 6 r (by decide)]; exact rk
  have i2 := i1.ch (c := r) (by show r < thN B; omega)
  obtain ⟨z1, z2, z3⟩ := i1.2.1.1.ch (c := r) (by show r < thN B; omega)
  have l1 : thN (chR (B.setA 19 e P) r) ≤ thN B + 1 := thR_le1 i1.2.1.1.1 1 ↑r (-1) (chV (B.setA 19 e P) r)
  have zk : (chR (B.setA 19 e P) r).2 6 (chI (B.setA 19 e P) r) = 1 := th_kind (by decide)
  have z3' : thN B ≤ thN (chR (B.setA 19 e P) r) := z3
  have q4 : (chR (B.setA 19 e P) r).1 4 = σ.1 4 := by rw [thR_s _ _ _ _ _ _ (by decide), RS.setA_s, Bs 4, As 4 (by decide)]
  have i3 := (i2.a18 e (chI (B.setA 19 e P) r) z2 zk).a22 e 0 (by rw [RS.setA_s, q4]; exact he) (by decide)
  obtain ⟨C, hC⟩ : ∃ x : RS, x = anB1 B e r P := ⟨_, rfl⟩
  have iC : Iv Y C := by rw [hC]; exact i3
  have nC : thN C = thN (chR (B.setA 19 e P) r) := by rw [hC]; rfl
  have C18 : ∃ c : Nat, C.2 18 e = ↑c ∧ c < thN C ∧ C.2 6 c = 1 := by
    refine ⟨chI (B.setA 19 e P) r, ?_, by rw [nC]; exact z2, ?_⟩
    · rw [hC]; unfold anB1; rw [RS.setA_ne (Or.inl (by decide)), RS.setA_eq]
    · rw [hC]; unfold anB1; rw [RS.setA_ne (Or.inl (by decide)), RS.setA_ne (Or.inl (by decide))]; exact zk
  have C22 : C.2 22 e = ↑(0 : Nat) := by rw [hC]; unfold anB1; rw [RS.setA_eq]; rfl
  have C19 : C.2 19 e = P := by rw [hC]; exact anB1_19
  have Ca : ∀ k j, 10 < k → ((k ≠ 18 ∧ k ≠ 19 ∧ k ≠ 22) ∨ j ≠ e) → C.2 k j = B.2 k j := fun k j h1 h2 => by rw [hC, anB1_at h1 h2]
  have Cs4 : C.1 4 = σ.1 4 := by rw [hC, anB1_s (by decide), Bs 4, As 4 (by decide)]
  have gBC : Gr B C := ⟨by omega, fun k u h1 h2 hu => by
    rw [hC]
    unfold anB1
    rw [RS.setA_ne (Or.inl (by omega)), RS.setA_ne (Or.inl (by omega)), thR_old_at _ _ _ _ _ _ _ (Or.inl (show u < thN (B.setA 19 e P) from hu)), RS.setA_ne (Or.inl (by omega))]⟩
  -- the keys
  obtain ⟨iD, D22, lD, gD⟩ := iC.fu (e := e) (p := 0) (d := pl) (by rw [Cs4]; exact he) C18 C22 (by omega) (by omega) (by rw [C19]; omega)
  obtain ⟨D, hD⟩ : ∃ x : RS, x = fuG C e pl := ⟨_, rfl⟩
  rw [← hD] at iD D22 lD gD
  have Da : ∀ k j, (k < 6 ∨ 10 < k) ∧ (k < 25 ∨ 29 < k) ∧ (k ≠ 18 ∧ k ≠ 22 ∨ j ≠ e) → D.2 k j = C.2 k j := fun k j hk => by rw [hD, fuG_at hk]
  have Ds4 : D.1 4 = σ.1 4 := by rw [hD, fuG_s (by decide), Cs4]
  have gσD : Gr σ D := ⟨by have := gBC.1; have := gD.1; omega, fun k u h1 h2 hu => by
    rw [gD.2 k u h1 h2 (by have := gBC.1; omega), gBC.2 k u h1 h2 (by omega), Ba k u (by omega), gA.2 k u h1 h2 hu]⟩
  have D12 : D.2 12 e = ↑(n + 1) := by rw [Da 12 e (by omega), Ca 12 e (by decide) (by omega), Ba 12 e (by decide), Aa 12 e (by decide)]; exact h12
  have D20 : D.2 20 e = σ.2 20 e := by rw [Da 20 e (by omega), Ca 20 e (by decide) (by omega), Ba 20 e (by decide), Aa 20 e (by decide)]
  have rD : r < thN D ∧ D.2 6 r = 2 := by
    have q := gBC.k (t := r) (by omega) ((Ba 6 r (by decide)).trans rk)
    exact gD.k q.1 q.2
  -- the next secret
  have i4 := iD.next (e := e) (n := n) (by rw [Ds4]; exact he) D12
  have t6 := gσD.k ht ht3
  have i5 := i4.a15 e t (by show t < thN D; exact t6.1) (by rw [nextR_at (by decide)]; exact t6.2) pt
  obtain ⟨E, hE⟩ : ∃ x : RS, x = anB3 D e n t := ⟨_, rfl⟩
  have iE : Iv Y E := by rw [hE]; exact i5
  have nE : thN E = thN D := by rw [hE]; rfl
  have Es4 : E.1 4 = σ.1 4 := by rw [hE]; unfold anB3; rw [RS.setA_s, nextR_s]; exact Ds4
  have Ea : ∀ k j, k ≠ 12 ∧ k ≠ 13 → k ≠ 15 → E.2 k j = D.2 k j := fun k j h1 h2 => by rw [hE]; unfold anB3; rw [RS.setA_ne (Or.inl h2), nextR_at h1]
  have zD := gσD.1
  obtain ⟨iF, r2l, r2k, ga2, gb2, gF⟩ := iE.rm (r := ↑r) (x := t) (y := z) (by omega) (by omega) (by omega) htz
  obtain ⟨r2, hr2⟩ : ∃ x : Nat, x = rmI E ↑r t z := ⟨_, rfl⟩
  obtain ⟨W, hW⟩ : ∃ x : RS, x = rmR E ↑r t z := ⟨_, rfl⟩
  rw [← hr2, ← hW] at r2l r2k
  rw [← hW] at iF ga2 gb2 gF
  have i6 := iF.a16 e r2 r2l r2k
  have r26 : (W.setA 16 e ↑r2).2 6 r2 = 2 := by rw [RS.setA_ne (Or.inl (by decide))]; exact r2k
  obtain ⟨F, hF⟩ : ∃ x : RS, x = W.setA 16 e ↑r2 := ⟨_, rfl⟩
  rw [← hF] at i6 r26
  have nF : thN F = thN W := by rw [hF]; rfl
  have i7 := i6.ch (c := r2) (by omega)
  obtain ⟨y1, y2, y3⟩ := i6.2.1.1.ch (c := r2) (by omega)
  have l2 : thN (chR F r2) ≤ thN F + 1 := thR_le1 i6.2.1.1.1 1 ↑r2 (-1) (chV F r2)
  have yk : (chR F r2).2 6 (chI F r2) = 1 := th_kind (by decide)
  have Fs : ∀ k, k ≠ 5 → F.1 k = E.1 k := fun k hk => by rw [hF, RS.setA_s, hW, rmR_s hk]
  have q42 : (chR F r2).1 4 = σ.1 4 := by rw [thR_s _ _ _ _ _ _ (by decide), Fs 4 (by decide), Es4]
  have i8 := (((i7.a17 e (chI F r2) y2 yk).a21 e (σ.2 20 e) (by rw [RS.setA_s, q42]; exact he) h20)).a20 e 0 (by rw [RS.setA_s, RS.setA_s, q42]; exact he) (i7.1.2.1.1)
  have e9 : anD2 σ e r0 s z pl n t P = (((chR F r2).setA 17 e ↑(chI F r2)).setA 21 e (σ.2 20 e)).setA 20 e ↑(0 : Nat) := by
    unfold anD2 anC
    rw [← hA, ← hr, ← hB, ← hC, ← hD]
    unfold anB6
    rw [← hE]
    unfold anB4
    rw [← hW, ← hr2, ← hF]
    unfold anB5
    rw [show B.2 20 e = σ.2 20 e from by rw [Ba 20 e (by decide), Aa 20 e (by decide)]]
    rfl
  rw [e9]
  refine ⟨i8, ?_, ?_, ⟨?_, fun k u h1 h2 hu => ?_⟩⟩
  · show thN (chR F r2) ≤ thN σ + 2 * pl + 8
    omega
  · rw [RS.setA_ne (Or.inl (by decide)), RS.setA_ne (Or.inl (by decide)), RS.setA_ne (Or.inl (by decide)), thR_old_at _ _ _ _ _ _ _ (Or.inr (by omega)), hF, RS.setA_ne (Or.inl (by decide)), hW, rmR_at (by omega), Ea 22 e (by decide) (by decide), D22]
    congr 1
    omega
  · show thN σ ≤ thN (chR F r2)
    have := gσD.1
    omega
  · rw [RS.setA_ne (Or.inl (by omega)), RS.setA_ne (Or.inl (by omega)), RS.setA_ne (Or.inl (by omega)), thR_old_at _ _ _ _ _ _ _ (Or.inl (by have := gσD.1; omega)), hF, RS.setA_ne (Or.inl (by omega)), gF.2 k u h1 h2 (by have := gσD.1; omega), Ea k u (by omega) (by omega)]
    exact gσD.2 k u h1 h2 hu
end
