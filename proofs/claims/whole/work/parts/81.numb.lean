/-! THE NUMBERS: the calls but send and start -/
section
variable {Y : (Nat → Bool) × (Nat → Bool)} {ρ σ : RS} {c : Nat}
theorem Qn.none (h : Qn c ρ) (hI : Iv Y ρ) : Qn (c + 1) ρ := h.q hI (fun _ _ => rfl) (fun _ _ _ => rfl)
theorem Qn.prime (h : Qn c ρ) (hI : Iv Y ρ) (q g : Int) : Qn (c + 1) (primeF ρ q g).2 := by
  unfold primeF
  split
  · exact h.s42 hI 1
  · split
    · exact h.s42 hI 3
    · next h2 =>
      refine h.same rfl (fun _ _ _ => rfl) (fun e he h14 => ?_) (Nat.le_add_right _ _)
      have := (hI.2.2.2.1.2.2.2 (e / 2) (by omega)).2 h14
      omega
theorem exp_rd (hK : ivK ρ) (a : ∀ k j, 25 ≤ k → k ≤ 29 → σ.2 k j = ρ.2 k j) : (∀ f, (expR σ).1 f = σ.1 f) ∧ ∀ f j, f < 25 ∨ 29 < f → (expR σ).2 f j = σ.2 f j := by
  have F : FAll σ (expR σ) 12 := expA_F (fun e n he hn i j hi hj => by
    rw [a 25 e (by decide) (by decide)] at hn
    rw [a 29 _ (by decide) (by decide), a 29 _ (by decide) (by decide)]
    exact hK.2.2.1 e n he hn i j hi hj) (fun e he => by rw [a 25 e (by decide) (by decide)]; exact hK.1.1 e he) 12 0 σ rfl (FAll.rf σ)
  exact ⟨F.1, F.2.1⟩
theorem Qn.limits (h : Qn c ρ) (hI : Iv Y ρ) (m li : Int) : Qn (c + 1) (limitsF ρ m li).2 := by
  unfold limitsF
  split
  · exact h.s42 hI 1
  · obtain ⟨q1, q2⟩ := exp_rd (σ := (ρ.setS 2 m).setS 3 li) hI.2.2.2.2.2.2.1 (fun _ _ _ _ => rfl)
    refine h.q hI (fun k hk => ?_) (fun k j hk => ?_)
    · rw [RS.setS_ne (by omega), q1, RS.setS_ne (by omega), RS.setS_ne (by omega)]
    · rw [RS.setS_a, q2 k j (by omega)]
      rfl
theorem Qn.pair (h : Qn c ρ) (hI : Iv Y ρ) : Qn (c + 1) (pairF ρ).2 := by
  unfold pairF
  split
  · exact h.s42 hI 2
  · exact h.q hI (fun k hk => by rw [RS.setS_ne (by omega), RS.setS_ne (by omega)]) (fun _ _ _ => rfl)
theorem Qn.alter (h : Qn c ρ) (hI : Iv Y ρ) (l m : Int) : Qn (c + 1) (alterF ρ l m).2 := by
  unfold alterF
  split
  · exact h.s42 hI 1
  · exact h.q hI (fun k hk => by rw [RS.setS_ne (by omega), RS.setA_s]) (fun k j hk => by rw [RS.setS_a, RS.setA_ne (by omega)])
theorem Qn.see (h : Qn c ρ) (hI : Iv Y ρ) (e : Int) : Qn (c + 1) (seeF ρ e).2 := by
  unfold seeF
  split
  · exact h.s42 hI 1
  · split
    · exact h.s42 hI 3
    · exact h.q hI (fun k hk => by rw [RS.setS_ne (by omega), shK_s _ _ _ (by omega), seeS_s (by omega)]) (fun k j hk => by rw [RS.setS_a, shK_at _ _ _ _ (by omega), seeS_at (by omega)])
theorem Qn.know (h : Qn c ρ) (hI : Iv Y ρ) : Qn (c + 1) (knR ρ) := h.q hI (fun k _ => knR_s ρ k) (fun k j hk => knR_at ρ k j (Or.inl (by omega)))
theorem Qn.ran (h : Qn c ρ) (hI : Iv Y ρ) (l : List Int) : Qn (c + 1) ((ranL (ρ.setS 44 0) 0 l).setS 42 0) := h.q hI (fun k hk => by rw [RS.setS_ne (by omega), ranL_s k (by omega), RS.setS_ne (by omega)]) (fun k j hk => by rw [RS.setS_a, ranL_a k j (by omega)]; rfl)
theorem Qn.act (h : Qn c ρ) (hI : Iv Y ρ) (t a x : Int) : Qn (c + 1) (actF ρ t a x).2 := by
  unfold actF
  split
  · exact h.s42 hI 1
  · split
    · exact h.s42 hI 3
    · split
      · exact h.ran hI _
      · split
        · exact h.ran hI _
        · split
          · exact h.ran hI _
          · exact h.ran hI _
theorem Qn.forge (h : Qn c ρ) (hI : Iv Y ρ) (t w n : Int) : Qn (c + 1) (forgeF ρ t w n).2 := by
  unfold forgeF
  repeat' split
  all_goals exact h.s42 hI _
theorem Qn.pt (h : Qn c ρ) (hI : Iv Y ρ) (i : Nat) (how t : Int) : Qn (c + 1) (ptR ρ i how t) := by
  unfold ptR
  exact h.q hI (fun k hk => by rw [RS.setS_ne (by omega), RS.setA_s, RS.setA_s]) (fun k j hk => by rw [RS.setS_a, RS.setA_ne (by omega), RS.setA_ne (by omega)])
theorem Qn.pt41 (h : Qn c ρ) (hI : Iv Y ρ) (j : Nat) (v : Int) (i : Nat) (how t : Int) : Qn (c + 1) (ptR (ρ.setA 41 j v) i how t) := by
  unfold ptR
  exact h.q hI (fun k hk => by rw [RS.setS_ne (by omega), RS.setA_s, RS.setA_s, RS.setA_s]) (fun k j hk => by rw [RS.setS_a, RS.setA_ne (by omega), RS.setA_ne (by omega), RS.setA_ne (by omega)])
theorem Qn.hold (h : Qn c ρ) (hI : Iv Y ρ) (t w n : Int) : Qn (c + 1) (holdF ρ t w n).2 := by
  unfold holdF
  split
  · exact h.s42 hI 1
  · split
    · exact h.s42 hI 3
    · split
      · exact h.pt hI _ _ _
      · split
        · exact h.pt hI _ _ _
        · split
          · exact h.pt hI _ _ _
          · split
            · exact h.pt hI _ _ _
            · split
              · exact h.pt hI _ _ _
              · split
                · exact h.pt hI _ _ _
                · split
                  · exact h.pt hI _ _ _
                  · exact h.pt41 hI _ _ _ _ _
-- a secret more
theorem Qn.row {x : Nat} (h : Qn c ρ) (s30 : σ.1 30 = ρ.1 30) (a : ∀ k j, (k = 14 ∨ (18 < k ∧ k < 25) ∨ k = 31 ∨ k = 32 ∨ k = 34) → σ.2 k j = ρ.2 k j) (a12 : ∀ j, j ≠ x → σ.2 12 j = ρ.2 12 j) (b12 : σ.2 12 x = ρ.2 12 x + 1) (ow : ∀ e, e < 12 → ρ.2 14 (e / 2) ≠ 0 → ownI σ e = ownI ρ e) (n : thN σ ≤ thN ρ + 1) : Qn (c + 1) σ := by
  obtain ⟨h1, h2, h3, h4, h5, h6⟩ := h
  have cn : ∀ x P, cntN σ x P = cntN ρ x P := cntN_congr s30 (fun l => a 31 l (by omega)) (fun l => a 32 l (by omega))
  refine ⟨fun e he => ?_, fun e he h14 => ?_, fun l x hl hx => ?_, fun e he => ?_, fun e he h14 => ?_, ?_⟩
  · have := h1 e he
    rw [a 23 e (by omega)]
    by_cases hx : e = x
    · subst hx
      omega
    · rw [a12 e hx]
      omega
  · rw [a 14 _ (by omega)] at h14
    rw [a 20 e (by omega), ow e he h14, cn]
    exact h2 e he h14
  · rw [a 31 l (by omega)] at hx
    rw [s30] at hl
    rw [a 34 l (by omega), a 32 l (by omega), cn]
    exact h3 l x hl hx
  · rw [a 22 e (by omega), a 19 e (by omega), cn]
    exact h4 e he
  · rw [a 14 _ (by omega)] at h14
    rw [a 20 e (by omega), a 21 e (by omega), a 22 e (by omega)]
    exact h5 e he h14
  · have w : ∀ e, wtN σ e = wtN ρ e := fun e => wtN_congr s30 (fun l => a 31 l (by omega)) (fun l => a 32 l (by omega)) (a 19 e (by omega)) (a 23 e (by omega)) (fun k _ => a 24 _ (by omega))
    have q : smI σ ≤ smI ρ + 6 := siu_one (e := x) 12 (fun e he hx => by
      unfold potI
      rw [a12 e hx, a 22 e (by omega), w]
      exact Int.le_refl _) (by
      unfold potI
      rw [b12, a 22 x (by omega), w]
      omega) (by decide)
    omega
theorem Qn.secret (h : Qn c ρ) (hI : Iv Y ρ) (e s : Int) : Qn (c + 1) (secretF ρ e s).2 := by
  unfold secretF
  split
  · exact h.s42 hI 1
  · split
    · exact h.s42 hI 2
    · have hT := hI.2.1.1.1
      have nn : thN (newT ρ 3 (-1) (-1) s) = thN ρ + 1 := thN_new hT 3 (-1) (-1) s
      have na : ∀ k j, 10 < k → (newT ρ 3 (-1) (-1) s).2 k j = ρ.2 k j := fun k j hk => by
        unfold newT
        rw [RS.setS_a, RS.setA_ne (by omega), RS.setA_ne (by omega), RS.setA_ne (by omega), RS.setA_ne (by omega), RS.setA_ne (by omega)]
      have nt : ∀ k j, j < thN ρ → (newT ρ 3 (-1) (-1) s).2 k j = ρ.2 k j := fun k j hk => by
        unfold newT
        rw [RS.setS_a, RS.setA_ne (by omega), RS.setA_ne (by omega), RS.setA_ne (by omega), RS.setA_ne (by omega), RS.setA_ne (by omega)]
      have ns : ∀ k, k ≠ 5 → (newT ρ 3 (-1) (-1) s).1 k = ρ.1 k := fun k hk => by
        unfold newT
        rw [RS.setS_ne hk]
        rfl
      obtain ⟨μ, hμ⟩ : ∃ x : RS, x = newT ρ 3 (-1) (-1) s := ⟨_, rfl⟩
      rw [← hμ] at nn na nt ns
      rw [← hμ]
      show Qn (c + 1) (((μ.setA 13 (12 * e.toNat + (ρ.2 12 e.toNat).toNat) ↑(thN ρ)).setA 12 e.toNat (ρ.2 12 e.toNat + 1)).setS 42 0)
      refine h.row (x := e.toNat) ?_ (fun k j hk => ?_) (fun j hj => ?_) ?_ (fun e1 he h14 => ?_) ?_
      · rw [RS.setS_ne (by decide), RS.setA_s, RS.setA_s, ns 30 (by decide)]
      · rw [RS.setS_a, RS.setA_ne (by omega), RS.setA_ne (by omega), na k j (by omega)]
      · rw [RS.setS_a, RS.setA_ne (Or.inr hj), RS.setA_ne (Or.inl (by decide)), na 12 j (by decide)]
      · rw [RS.setS_a, RS.setA_eq]
      · refine own_g hI ⟨?_, fun k t h1 h2 ht => ?_⟩ ?_ ?_ he h14 ?_
        · show thN ρ ≤ thN μ
          omega
        · rw [RS.setS_a, RS.setA_ne (by omega), RS.setA_ne (by omega), nt k t ht]
        · rw [RS.setS_ne (by decide), RS.setA_s, RS.setA_s, ns 0 (by decide)]
        · rw [RS.setS_ne (by decide), RS.setA_s, RS.setA_s, ns 1 (by decide)]
        · rw [RS.setS_a, RS.setA_ne (Or.inl (by decide)), RS.setA_ne (Or.inl (by decide)), na 15 e1 (by decide)]
      · show thN μ ≤ thN ρ + 1
        omega
-- a letter by the chain
theorem Qn.tkB {τ : RS} {x y : Nat} (h : Qn c ρ) (hI : Iv Y ρ) (hx : (x : Int) < 2 * ρ.1 4) (hy : (y : Int) < ρ.1 30) (h14 : ρ.2 14 (x / 2) ≠ 0) (h31 : ρ.2 31 y = ↑(pe x)) (hN : thN ρ < 7800) (hB : TkB ρ x y τ) : Qn (c + 1) τ := by
  have hb := hI.1.1
  obtain ⟨-, pa, d, h22, h34, h32, hτ, hn, g22, g⟩ := hI.tkB hx h14 hN hB
  obtain ⟨h1, h2, h3, h4, h5, h6⟩ := h
  have a : ∀ k j, (k < 6 ∨ 10 < k) → (k < 25 ∨ 29 < k) → (k ≠ 18 ∧ k ≠ 22 ∨ j ≠ x) → τ.2 k j = ρ.2 k j := fun k j q1 q2 q3 => by rw [hτ, RS.setS_a, fuG_at ⟨q1, q2, q3⟩]
  have s : ∀ k, k ≠ 5 → k ≠ 42 → τ.1 k = ρ.1 k := fun k q1 q2 => by rw [hτ, RS.setS_ne q2, fuG_s q1]
  have s30 := s 30 (by decide) (by decide)
  have cn : ∀ x P, cntN τ x P = cntN ρ x P := cntN_congr s30 (fun l => a 31 l (by omega) (by omega) (by omega)) (fun l => a 32 l (by omega) (by omega) (by omega))
  have hc := h3 y (pe x) hy h31
  rw [h32, h34] at hc
  refine ⟨fun e he => ?_, fun e he q14 => ?_, fun l x1 hl hx1 => ?_, fun e he => ?_, fun e he q14 => ?_, ?_⟩
  · have := h1 e he
    rw [a 23 e (by omega) (by omega) (by omega), a 12 e (by omega) (by omega) (by omega)]
    omega
  · rw [a 14 _ (by omega) (by omega) (by omega)] at q14
    rw [a 20 e (by omega) (by omega) (by omega), own_g hI g (s 0 (by decide) (by decide)) (s 1 (by decide) (by decide)) he q14 (a 15 e (by omega) (by omega) (by omega)), cn]
    exact h2 e he q14
  · rw [a 31 l (by omega) (by omega) (by omega)] at hx1
    rw [s30] at hl
    rw [a 34 l (by omega) (by omega) (by omega), a 32 l (by omega) (by omega) (by omega), cn]
    exact h3 l x1 hl hx1
  · rw [a 19 e (by omega) (by omega) (by omega), cn]
    by_cases hex : e = x
    · subst hex
      rw [g22]
      omega
    · rw [a 22 e (by omega) (by omega) (by omega)]
      exact h4 e he
  · rw [a 14 _ (by omega) (by omega) (by omega)] at q14
    have hex : e ≠ x := fun z => h14 (z ▸ q14)
    rw [a 20 e (by omega) (by omega) (by omega), a 21 e (by omega) (by omega) (by omega), a 22 e (by omega) (by omega) (by omega)]
    exact h5 e he q14
  · have w : ∀ e, wtN τ e = wtN ρ e := fun e => wtN_congr s30 (fun l => a 31 l (by omega) (by omega) (by omega)) (fun l => a 32 l (by omega) (by omega) (by omega)) (a 19 e (by omega) (by omega) (by omega)) (a 23 e (by omega) (by omega) (by omega)) (fun k _ => a 24 _ (by omega) (by omega) (by omega))
    have q : smI τ ≤ smI ρ - 2 * (↑d + 1) := siu_dn (e := x) 12 (fun e he hex => by
      unfold potI
      rw [a 12 e (by omega) (by omega) (by omega), a 22 e (by omega) (by omega) (by omega), w]
      exact Int.le_refl _) (by
      unfold potI
      rw [a 12 x (by omega) (by omega) (by omega), g22, h22, w]
      omega) (by omega)
    omega
end
