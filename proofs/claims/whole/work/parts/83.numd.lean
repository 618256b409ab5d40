/-! THE NUMBERS: send, start -/
section
variable {Y : (Nat → Bool) × (Nat → Bool)} {ρ σ τ : RS} {c : Nat}
def Gw (ρ σ : RS) (d : Nat) : Prop := Gr ρ σ ∧ thN σ ≤ thN ρ + d
theorem Gw.trans {a b : Nat} (h1 : Gw ρ σ a) (h2 : Gw σ τ b) : Gw ρ τ (a + b) := by
  obtain ⟨⟨p1, p2⟩, p3⟩ := h1
  obtain ⟨⟨q1, q2⟩, q3⟩ := h2
  exact ⟨⟨by omega, fun k t u1 u2 ht => (q2 k t u1 u2 (by omega)).trans (p2 k t u1 u2 ht)⟩, by omega⟩
theorem Gw.fr (h5 : σ.1 5 = ρ.1 5) (h : ∀ k j, 6 ≤ k → k ≤ 9 → σ.2 k j = ρ.2 k j) : Gw ρ σ 0 := ⟨Gr.of h5 h, by rw [thN_congr h5]; exact Nat.le_refl _⟩
theorem Gw.th (ρ : RS) (k a b v : Int) : Gw ρ (thR ρ k a b v) 1 := by
  have e0 : thN ρ = (ρ.1 5).toNat := rfl
  have hn : thN ρ ≤ thN (thR ρ k a b v) ∧ thN (thR ρ k a b v) ≤ thN ρ + 1 := by
    rcases thR_cases ρ k a b v with ⟨-, q⟩ | ⟨-, q⟩
    · rw [q]
      omega
    · rw [q]
      have e1 : thN (newT ρ k a b v) = (ρ.1 5 + 1).toNat := by
        show ((newT ρ k a b v).1 5).toNat = _
        unfold newT
        rw [RS.setS_eq]
      omega
  exact ⟨⟨hn.1, fun k' t h1 h2 ht => thR_old_at _ _ _ _ _ _ _ (Or.inl ht)⟩, hn.2⟩
theorem Gw.ch (ρ : RS) (t : Nat) : Gw ρ (chR ρ t) 1 := Gw.th ρ 1 t (-1) (chV ρ t)
theorem Gw.ky (ρ : RS) (t : Nat) : Gw ρ (kyR ρ t) 1 := Gw.th ρ 0 t (-1) (kyV ρ t)
theorem Gw.rm (r : Int) (x y : Nat) : Gw ρ (rmR ρ r x y) 2 := (Gw.th ρ _ _ _ _).trans (Gw.th _ _ _ _ _)
-- the state behind a letter
theorem sn1_at {ρ0 : RS} {e l k s f j : Nat} {v b : Int} (h : f < 31 ∨ 38 < f ∨ j ≠ l) : (sn1 ρ0 ρ e l k s v b).2 f j = ρ.2 f j := by
  unfold sn1
  rw [RS.setA_ne (by omega), RS.setA_ne (by omega), RS.setA_ne (by omega), RS.setA_ne (by omega), RS.setA_ne (by omega), RS.setA_ne (by omega), RS.setA_ne (by omega), RS.setA_ne (by omega)]
theorem sn1_v {ρ0 : RS} {e l k s : Nat} {v b : Int} : (sn1 ρ0 ρ e l k s v b).2 31 l = ↑e ∧ (sn1 ρ0 ρ e l k s v b).2 32 l = v ∧ (sn1 ρ0 ρ e l k s v b).2 34 l = ρ0.2 20 e := by
  unfold sn1
  refine ⟨?_, ?_, ?_⟩ <;> (repeat (first | rw [RS.setA_eq] | rw [RS.setA_ne (Or.inl (by decide))]))
theorem sn2_at {ρ0 : RS} {e d k j : Nat} (h : 10 < k) (h2 : (k ≠ 17 ∧ k ≠ 20) ∨ j ≠ e) : (sn2 ρ0 ρ e d).2 k j = ρ.2 k j := by
  unfold sn2
  rw [RS.setA_ne (by omega), RS.setA_ne (by omega), thR_old_at _ _ _ _ _ _ _ (Or.inr (Or.inr h))]
theorem sn2_20 {ρ0 : RS} {e d : Nat} : (sn2 ρ0 ρ e d).2 20 e = ρ0.2 20 e + 1 := by
  unfold sn2
  rw [RS.setA_eq]
theorem sn2_s {ρ0 : RS} {e d k : Nat} (h : k ≠ 5) : (sn2 ρ0 ρ e d).1 k = ρ.1 k := by
  unfold sn2
  rw [RS.setA_s, RS.setA_s, thR_s _ _ _ _ _ _ h]
theorem sn2_g {ρ0 : RS} {e d : Nat} : Gw ρ (sn2 ρ0 ρ e d) 1 := by
  unfold sn2
  exact (Gw.ch ρ d).trans (b := 0) (Gw.fr (ρ := chR ρ d) rfl (fun k j h1 h2 => by rw [RS.setA_ne (by omega), RS.setA_ne (by omega)]))
theorem sn3_at {e d l s k j : Nat} {b : Int} (h : 10 < k) (h2 : (k ≠ 17 ∧ k ≠ 20) ∨ j ≠ e) (h3 : k < 31 ∨ 38 < k ∨ j ≠ l) : (sn3 ρ e d l s b).2 k j = ρ.2 k j := by
  unfold sn3
  rw [RS.setS_a, sn2_at h h2, sn1_at h3, thR_old_at _ _ _ _ _ _ _ (Or.inr (Or.inr h))]
theorem sn3_g {e d l s : Nat} {b : Int} : Gw ρ (sn3 ρ e d l s b) 2 := by
  unfold sn3
  exact (((Gw.ky ρ d).trans (b := 0) (Gw.fr (ρ := kyR ρ d) (σ := sn1 ρ (kyR ρ d) e l (kyI ρ d) s (powF (ρ.1 0) (ρ.1 1) (ρ.2 9 s).toNat) b) rfl (fun k j h1 h2 => sn1_at (by omega)))).trans sn2_g).trans (b := 0) (Gw.fr rfl (fun _ _ _ _ => rfl))
def SnRd (ρ W : RS) (x l : Nat) (v : Int) : Prop := (∀ k, k ≠ 5 → k ≠ 30 → k ≠ 42 → W.1 k = ρ.1 k) ∧ W.1 30 = ↑l + 1 ∧ (∀ k j, 10 < k → (k < 25 ∨ 29 < k) → ((k ≠ 17 ∧ k ≠ 20) ∨ j ≠ x) → (k < 31 ∨ 38 < k ∨ j ≠ l) → W.2 k j = ρ.2 k j) ∧ W.2 20 x = ρ.2 20 x + 1 ∧ W.2 31 l = ↑x ∧ W.2 32 l = v ∧ W.2 34 l = ρ.2 20 x ∧ Gw ρ W 2
theorem sn_rd (hK : ivK ρ) {x d l s : Nat} {b : Int} : SnRd ρ (snG ρ x d l s b) x l (powF (ρ.1 0) (ρ.1 1) (ρ.2 9 s).toNat) := by
  obtain ⟨E1, E2⟩ := exp_rd (σ := sn3 ρ x d l s b) hK (fun k j h1 h2 => sn3_at (by omega) (by omega) (by omega))
  have S : ∀ k, k ≠ 5 → k ≠ 30 → (sn3 ρ x d l s b).1 k = ρ.1 k := fun k h1 h2 => by
    unfold sn3
    rw [RS.setS_ne h2, sn2_s h1]
    exact thR_s _ _ _ _ _ _ h1
  refine ⟨fun k h1 h2 h3 => ?_, ?_, fun k j h1 h2 h3 h4 => ?_, ?_, ?_, ?_, ?_, ?_⟩
  · unfold snG
    rw [RS.setS_ne h3, E1, S k h1 h2]
  · unfold snG
    rw [RS.setS_ne (by decide), E1]
    unfold sn3
    rw [RS.setS_eq]
  · unfold snG
    rw [RS.setS_a, E2 k j h2, sn3_at h1 h3 h4]
  · unfold snG
    rw [RS.setS_a, E2 20 x (by omega)]
    unfold sn3
    rw [RS.setS_a, sn2_20]
  · unfold snG
    rw [RS.setS_a, E2 31 l (by omega)]
    unfold sn3
    rw [RS.setS_a, sn2_at (by decide) (by omega), sn1_v.1]
  · unfold snG
    rw [RS.setS_a, E2 32 l (by omega)]
    unfold sn3
    rw [RS.setS_a, sn2_at (by decide) (by omega), sn1_v.2.1]
  · unfold snG
    rw [RS.setS_a, E2 34 l (by omega)]
    unfold sn3
    rw [RS.setS_a, sn2_at (by decide) (by omega), sn1_v.2.2]
  · unfold snG
    exact (sn3_g.trans (b := 0) (Gw.fr (E1 5) (fun k j h1 h2 => E2 k j (by omega)))).trans (b := 0) (Gw.fr rfl (fun _ _ _ _ => rfl))
theorem pe_pe {x y : Nat} (h : pe y = x) : y = pe x := by
  unfold pe at h ⊢
  split at h <;> split <;> omega
theorem Qn.send (h : Qn c ρ) (hI : Iv Y ρ) (e b : Int) : Qn (c + 1) (sendF ρ e b).2 := by
  unfold sendF
  split
  · exact h.s42 hI 1
  · next q1 =>
    split
    · exact h.s42 hI 2
    · next q2 =>
      split
      · exact h.s42 hI 3
      · next q3 =>
        obtain ⟨x, rfl⟩ : ∃ x : Nat, e = ↑x := ⟨e.toNat, by omega⟩
        rw [Int.toNat_natCast] at q3 ⊢
        have hb4 := hI.1.1
        have hb30 := hI.1.2.1
        have h14 : ρ.2 14 (x / 2) ≠ 0 := fun z => q3 (Or.inl z)
        have hx12 : x < 12 := by omega
        obtain ⟨l, l1⟩ : ∃ l : Nat, ρ.1 30 = ↑l := ⟨(ρ.1 30).toNat, by omega⟩
        have hl : (ρ.1 30).toNat = l := by omega
        rw [hl]
        have R := sn_rd (ρ := ρ) hI.2.2.2.2.2.2.1 (x := x) (d := (ρ.2 17 x).toNat) (l := l) (s := (ρ.2 15 x).toNat) (b := b)
        show Qn (c + 1) (snG ρ x (ρ.2 17 x).toNat l (ρ.2 15 x).toNat b)
        obtain ⟨W, hW⟩ : ∃ W : RS, W = snG ρ x (ρ.2 17 x).toNat l (ρ.2 15 x).toNat b := ⟨_, rfl⟩
        rw [← hW] at R ⊢
        clear hW
        obtain ⟨Rs, R30, Ra, Ra20, R31, R32, R34, Rg⟩ := R
        have ow : ∀ e, e < 12 → ρ.2 14 (e / 2) ≠ 0 → ownI W e = ownI ρ e := fun e he q14 => own_g hI Rg.1 (Rs 0 (by decide) (by decide) (by decide)) (Rs 1 (by decide) (by decide) (by decide)) he q14 (Ra 15 e (by decide) (by decide) (by omega) (by omega))
        have v32 : W.2 32 l = ownI ρ x := R32
        have e1 : ltN W = l + 1 := by unfold ltN; rw [R30]; omega
        have e2 : ltN ρ = l := by unfold ltN; exact hl
        have cs : ∀ x1 P, cntN W x1 P = cntN ρ x1 P + cntB W x1 P l := fun x1 P => by
          unfold cntN
          rw [e1, e2]
          show csu (cntB W x1 P) l + cntB W x1 P l = _
          rw [csu_congr (f := cntB W x1 P) (g := cntB ρ x1 P) l (fun l' hl' => by unfold cntB; rw [Ra 31 l' (by decide) (by decide) (by omega) (by omega), Ra 32 l' (by decide) (by decide) (by omega) (by omega)])]
        have cm : ∀ x1 P, cntN ρ x1 P ≤ cntN W x1 P := fun x1 P => by rw [cs]; omega
        have cx : cntN W x (ownI ρ x) = cntN ρ x (ownI ρ x) + 1 := by
          rw [cs]
          unfold cntB
          rw [if_pos ⟨R31, v32⟩]
        have a9 : ∀ k j, (k = 12 ∨ k = 14 ∨ (18 < k ∧ k < 25 ∧ k ≠ 20)) → W.2 k j = ρ.2 k j := fun k j hk => Ra k j (by omega) (by omega) (by omega) (by omega)
        obtain ⟨h1, h2, h3, h4, h5, h6⟩ := h
        refine ⟨fun e he => ?_, fun e he q14 => ?_, fun l' x1 hl' hx1 => ?_, fun e he => ?_, fun e he q14 => ?_, ?_⟩
        · rw [a9 23 e (by omega), a9 12 e (by omega)]
          have := h1 e he
          omega
        · rw [a9 14 _ (by omega)] at q14
          rw [ow e he q14]
          have q := h2 e he q14
          by_cases hex : e = x
          · subst hex
            rw [Ra20, cx]
            omega
          · rw [Ra 20 e (by decide) (by decide) (by omega) (by omega)]
            have := cm e (ownI ρ e)
            omega
        · rw [R30] at hl'
          by_cases hll : l' = l
          · subst hll
            have hxx : x1 = x := by
              have := hx1.symm.trans R31
              omega
            subst hxx
            rw [R34, v32, cx]
            have := h2 x1 hx12 h14
            omega
          · rw [Ra 31 l' (by decide) (by decide) (by omega) (by omega)] at hx1
            rw [Ra 34 l' (by decide) (by decide) (by omega) (by omega), Ra 32 l' (by decide) (by decide) (by omega) (by omega)]
            have q := h3 l' x1 (by omega) hx1
            have := cm x1 (ρ.2 32 l')
            omega
        · rw [a9 22 e (by omega), a9 19 e (by omega)]
          have := h4 e he
          have := cm (pe e) (ρ.2 19 e)
          omega
        · rw [a9 14 _ (by omega)] at q14
          have hex : e ≠ x := fun z => h14 (z ▸ q14)
          rw [Ra 20 e (by decide) (by decide) (by omega) (by omega), a9 21 e (by omega), a9 22 e (by omega)]
          exact h5 e he q14
        · have ws : ∀ e, wtN W e = wtN ρ e + wtB W e l := fun e => by
            unfold wtN
            rw [e1, e2]
            show csu (wtB W e) l + wtB W e l = _
            rw [csu_congr (f := wtB W e) (g := wtB ρ e) l (fun l' hl' => by unfold wtB; rw [Ra 31 l' (by decide) (by decide) (by omega) (by omega), Ra 32 l' (by decide) (by decide) (by omega) (by omega), wtV_congr (a9 19 e (by omega)) (a9 23 e (by omega)) (fun k _ => a9 24 _ (by omega))])]
          have q : smI W ≤ smI ρ + 12 := siu_one (e := pe x) 12 (fun e he hex => by
            have hz : wtB W e l = 0 := by
              unfold wtB
              rw [R31, if_neg (fun z => hex (pe_pe (by omega)))]
            unfold potI
            rw [a9 12 e (by omega), a9 22 e (by omega), ws, hz]
            omega) (by
            have hz : wtB W (pe x) l ≤ 12 := by
              unfold wtB wtV
              split
              · split
                · decide
                · split <;> decide
              · decide
            unfold potI
            rw [a9 12 _ (by omega), a9 22 _ (by omega), ws]
            omega) (by decide)
          have := Rg.2
          omega
end
