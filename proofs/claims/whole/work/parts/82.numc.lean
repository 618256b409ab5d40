/-! THE NUMBERS: a turn, take -/
section
variable {Y : (Nat → Bool) × (Nat → Bool)} {ρ σ : RS} {c : Nat}
theorem Qn.tkC {τ : RS} {x y : Nat} (h : Qn c ρ) (hI : Iv Y ρ) (hx : (x : Int) < 2 * ρ.1 4) (hy : (y : Int) < ρ.1 30) (h14 : ρ.2 14 (x / 2) ≠ 0) (h31 : ρ.2 31 y = ↑(pe x)) (hN : thN ρ < 7800) (hlf : ρ.2 23 x < 300) (hC : TkC Y.2 ρ x y τ) : Qn (c + 1) τ := by
  have hb := hI.1.1
  have hx12 : x < 12 := by omega
  obtain ⟨-, pa, old, pl, n, r0, s, z, t, h22, h34, hop, h12, hne, hlb, hτ, hn, g22, g⟩ := hI.tkC hx hy h14 hN hlf hC
  obtain ⟨h1, h2, h3, h4, h5, h6⟩ := h
  have hLt := hI.2.2.2.2.2.2.2.1.1
  have hLf := hI.2.2.2.2.2.1.1
  have l23 : ∀ e : Nat, e < 12 → 0 ≤ ρ.2 23 e ∧ ρ.2 23 e < 600 := fun e he => by
    obtain ⟨m, q1, q2⟩ := hLf e he
    omega
  have h32b := (hLt y hy).2.1
  obtain ⟨P, hP⟩ : ∃ P : Int, P = ρ.2 32 y := ⟨_, rfl⟩
  rw [← hP] at hne hlb hτ h32b
  have sk : ∀ k j, (k < 6 ∨ 10 < k) ∧ (k < 25 ∨ 29 < k) ∧ (k ≠ 18 ∧ k ≠ 22 ∨ j ≠ x) → (skF ρ x old).2 k j = ρ.2 k j := fun k j hk => skF_at hk
  have a : ∀ k j, 10 < k → k ≠ 12 ∧ k ≠ 13 ∧ k ≠ 23 ∧ k ≠ 24 ∧ (k < 25 ∨ 29 < k) → ((k < 15 ∨ 22 < k) ∨ j ≠ x) → τ.2 k j = ρ.2 k j := fun k j q1 q2 q3 => by rw [hτ, RS.setS_a, anD_at q1 q2 q3, sk k j (by omega)]
  have a12 : ∀ j, τ.2 12 j = if j = x then ↑n else ρ.2 12 j := fun j => by rw [hτ, RS.setS_a, anD_12, sk 12 j (by omega)]
  have a19 : τ.2 19 x = P := by rw [hτ, RS.setS_a, anD_19]
  have a20 : τ.2 20 x = 0 := by rw [hτ, RS.setS_a, anD_20]
  have a23 : ∀ j, τ.2 23 j = if j = x ∧ ρ.2 19 x ≠ -1 then ρ.2 23 x + 1 else ρ.2 23 j := fun j => by rw [hτ, RS.setS_a, anD_23, sk 19 x (by omega), sk 23 x (by omega), sk 23 j (by omega)]
  have a24 : ∀ j, τ.2 24 j = if j = 600 * x + (ρ.2 23 x).toNat ∧ ρ.2 19 x ≠ -1 then ρ.2 19 x else ρ.2 24 j := fun j => by rw [hτ, RS.setS_a, anD_24, sk 19 x (by omega), sk 23 x (by omega), sk 24 j (by omega)]
  have st : ∀ k, k ≠ 5 → k ≠ 42 → τ.1 k = ρ.1 k := fun k q1 q2 => by rw [hτ, RS.setS_ne q2, anD_s q1, skF_s q1]
  clear hτ sk
  have s30 := st 30 (by decide) (by decide)
  have b31 : ∀ l, τ.2 31 l = ρ.2 31 l := fun l => a 31 l (by omega) (by omega) (by omega)
  have b32 : ∀ l, τ.2 32 l = ρ.2 32 l := fun l => a 32 l (by omega) (by omega) (by omega)
  have cn : ∀ x P, cntN τ x P = cntN ρ x P := cntN_congr s30 b31 b32
  have hc := h3 y (pe x) hy h31
  rw [← hP, h34] at hc
  refine ⟨fun e he => ?_, fun e he q14 => ?_, fun l x1 hl hx1 => ?_, fun e he => ?_, fun e he q14 => ?_, ?_⟩
  · have := h1 e he
    rw [a23, a12]
    by_cases hex : e = x
    · subst hex
      rw [if_pos rfl]
      split <;> omega
    · rw [if_neg hex, if_neg (fun q => hex q.1)]
      omega
  · rw [a 14 _ (by omega) (by omega) (by omega)] at q14
    by_cases hex : e = x
    · subst hex
      rw [a20]
      omega
    · rw [a 20 e (by omega) (by omega) (by omega), own_g hI g (st 0 (by decide) (by decide)) (st 1 (by decide) (by decide)) he q14 (a 15 e (by omega) (by omega) (by omega)), cn]
      exact h2 e he q14
  · rw [b31] at hx1
    rw [s30] at hl
    rw [a 34 l (by omega) (by omega) (by omega), b32, cn]
    exact h3 l x1 hl hx1
  · rw [cn]
    by_cases hex : e = x
    · subst hex
      rw [g22, a19]
      omega
    · rw [a 19 e (by omega) (by omega) (by omega), a 22 e (by omega) (by omega) (by omega)]
      exact h4 e he
  · rw [a 14 _ (by omega) (by omega) (by omega)] at q14
    have hex : e ≠ x := fun z => h14 (z ▸ q14)
    rw [a 20 e (by omega) (by omega) (by omega), a 21 e (by omega) (by omega) (by omega), a 22 e (by omega) (by omega) (by omega)]
    exact h5 e he q14
  · have lx := l23 x hx12
    have w : ∀ e, e < 12 → e ≠ x → wtN τ e = wtN ρ e := fun e he hex => wtN_congr s30 b31 b32 (a 19 e (by omega) (by omega) (by omega)) (by rw [a23, if_neg (fun q => hex q.1)]) (fun k hk => by
      have := l23 e he
      rw [a24, if_neg (fun q => by omega)])
    have lb : ∀ Q : Int, lefB ρ x Q (ρ.2 23 x).toNat = true ∨ (Q = ρ.2 19 x ∧ Q ≠ -1) → lefB τ x Q (τ.2 23 x).toNat = true := fun Q hQ => by
      rw [lefB_iff] at hQ ⊢
      rw [a23]
      by_cases q19 : ρ.2 19 x = -1
      · rw [if_neg (fun q => q.2 q19)]
        rcases hQ with ⟨k, k1, k2⟩ | ⟨q1, q2⟩
        · exact ⟨k, k1, by rw [a24, if_neg (fun q => q.2 q19)]; exact k2⟩
        · exact absurd (q1.trans q19) q2
      · rw [if_pos ⟨rfl, q19⟩]
        rcases hQ with ⟨k, k1, k2⟩ | ⟨q1, q2⟩
        · exact ⟨k, by omega, by rw [a24, if_neg (fun q => by omega)]; exact k2⟩
        · exact ⟨(ρ.2 23 x).toNat, by omega, by rw [a24, if_pos ⟨rfl, q19⟩]; exact q1.symm⟩
    have e1 : ltN τ = ltN ρ := by unfold ltN; rw [s30]
    have wx : wtN τ x + 10 * cntN ρ (pe x) P + 2 * cntN ρ (pe x) (ρ.2 19 x) ≤ wtN ρ x := by
      unfold wtN cntN
      rw [e1]
      refine csu_le _ (fun l hl => ?_)
      have hl' : (l : Int) < ρ.1 30 := by unfold ltN at hl; omega
      have hQ := (hLt l hl').2.1
      unfold wtB cntB
      rw [b31, b32]
      by_cases q31 : ρ.2 31 l = ↑(pe x)
      · rw [if_pos q31, if_pos q31]
        obtain ⟨Q, eQ⟩ : ∃ Q : Int, Q = ρ.2 32 l := ⟨_, rfl⟩
        rw [← eQ] at hQ ⊢
        unfold wtV
        rw [a19]
        by_cases qP : Q = P
        · have q19 : ¬ Q = ρ.2 19 x := fun q => hne (qP.symm.trans q)
          rw [if_pos qP, if_pos (show ρ.2 31 l = ↑(pe x) ∧ Q = P from ⟨q31, qP⟩), if_neg (show ¬ (ρ.2 31 l = ↑(pe x) ∧ Q = ρ.2 19 x) from fun q => q19 q.2), if_neg q19, if_neg (by rw [qP, hlb]; decide)]
          decide
        · rw [if_neg qP, if_neg (show ¬ (ρ.2 31 l = ↑(pe x) ∧ Q = P) from fun q => qP q.2)]
          by_cases q19 : Q = ρ.2 19 x
          · rw [if_pos (show ρ.2 31 l = ↑(pe x) ∧ Q = ρ.2 19 x from ⟨q31, q19⟩), if_pos q19, if_pos (lb Q (Or.inr ⟨q19, by omega⟩))]
            decide
          · rw [if_neg (show ¬ (ρ.2 31 l = ↑(pe x) ∧ Q = ρ.2 19 x) from fun q => q19 q.2), if_neg q19]
            by_cases hql : lefB ρ x Q (ρ.2 23 x).toNat = true
            · rw [if_pos (lb Q (Or.inl hql))]
              omega
            · rw [if_neg hql]
              split <;> omega
      · rw [if_neg q31, if_neg q31, if_neg (fun q => q31 q.1), if_neg (fun q => q31 q.1)]
        decide
    have h4x := h4 x hx12
    have q : smI τ ≤ smI ρ - (12 * (↑pl + 1) + 6) := siu_dn (e := x) 12 (fun e he hex => by
      unfold potI
      rw [a12, if_neg hex, a 22 e (by omega) (by omega) (by omega), w e he hex]
      exact Int.le_refl _) (by
      unfold potI
      rw [a12, if_pos rfl, g22, h22, h12]
      rw [h22] at h4x
      omega) hx12
    omega
theorem Qn.take (h : Qn c ρ) (hI : Iv Y ρ) (hN : thN ρ < 7800) (hlf : ∀ e : Nat, e < 12 → ρ.2 23 e < 300) (e l : Int) : Qn (c + 1) (takeF ρ e l).2 := by
  have hb := hI.1.1
  rcases take_cs hI e l with ⟨v, hv⟩ | ⟨x, y, hx, hy, h14, h31, ⟨i, m, a1, a2, a3, a4⟩ | hB | hC⟩
  · rw [hv]
    exact h.s42 hI v
  · rw [a4]
    exact h.q hI (fun k hk => by rw [RS.setS_ne (by omega), dropR_s]) (fun k j hk => by rw [RS.setS_a, dropR_at _ _ _ _ _ _ (by omega)])
  · exact h.tkB hI hx hy h14 h31 hN hB
  · exact h.tkC hI hx hy h14 h31 hN (hlf x (by omega)) hC
end
