/-! THE NUMBERS: start, the beginning -/
section
variable {Y : (Nat → Bool) × (Nat → Bool)} {ρ σ : RS} {c : Nat}
theorem st1_at {p e o n m k j : Nat} (h : k ≠ 12 ∧ k ≠ 13) (h2 : k ≠ 14 ∨ j ≠ p) : (st1 ρ p e o n m).2 k j = ρ.2 k j := by
  unfold st1
  rw [nextR_at h, nextR_at h, RS.setA_ne h2]
theorem st1_12 {p e o n m j : Nat} (heo : e ≠ o) : (st1 ρ p e o n m).2 12 j = if j = o then ↑m else if j = e then ↑(n + 1) else ρ.2 12 j := by
  unfold st1
  by_cases h1 : j = o
  · subst h1
    rw [if_pos rfl, nextR_12]
  · rw [if_neg h1, nextR_12ne h1]
    by_cases h2 : j = e
    · subst h2
      rw [if_pos rfl, nextR_12]
    · rw [if_neg h2, nextR_12ne h2, RS.setA_ne (Or.inl (by decide))]
theorem st2_at {o n b r k j : Nat} (h : (k < 15 ∨ 19 < k) ∨ j ≠ o) : (st2 ρ o n b r).2 k j = ρ.2 k j := by
  unfold st2
  rw [RS.setA_ne (by omega), RS.setA_ne (by omega), RS.setA_ne (by omega), RS.setA_ne (by omega), RS.setA_ne (by omega)]
theorem st3_at {e n d k j : Nat} (h : k ≠ 12 ∧ k ≠ 13) (h2 : k ≠ 15 ∨ j ≠ e) : (st3 ρ e n d).2 k j = ρ.2 k j := by
  unfold st3
  rw [RS.setA_ne h2, nextR_at h]
theorem st3_12 {e n d j : Nat} : (st3 ρ e n d).2 12 j = if j = e then ↑n else ρ.2 12 j := by
  unfold st3
  rw [RS.setA_ne (Or.inl (by decide))]
  by_cases h : j = e
  · subst h
    rw [if_pos rfl, nextR_12]
  · rw [if_neg h, nextR_12ne h]
theorem st4_at {e s k j : Nat} {v : Int} (h : 10 < k) (h2 : (k ≠ 17 ∧ k ≠ 18 ∧ k ≠ 19) ∨ j ≠ e) : (st4 ρ e s v).2 k j = ρ.2 k j := by
  unfold st4
  rw [RS.setS_a, RS.setA_ne (by omega), RS.setA_ne (by omega), RS.setA_ne (by omega), thR_old_at _ _ _ _ _ _ _ (Or.inr (Or.inr h))]
theorem st6_at {r e b d k j : Nat} (h : 10 < k) (h2 : k ≠ 16 ∨ j ≠ e) : (st6 ρ r e b d).2 k j = ρ.2 k j := by
  unfold st6
  rw [RS.setA_ne h2, rmR_at (Or.inr h)]
theorem st5_at {e o n a b d k j : Nat} (h : 10 < k) (h1 : k ≠ 12 ∧ k ≠ 13) (h2 : (k < 15 ∨ 19 < k) ∨ (j ≠ e ∧ j ≠ o)) : (st5 ρ e o n a b d).2 k j = ρ.2 k j := by
  unfold st5
  rw [st3_at h1 (by omega), st2_at (by omega), rmR_at (Or.inr h)]
theorem st5_12 {e o n a b d j : Nat} : (st5 ρ e o n a b d).2 12 j = if j = e then ↑n else ρ.2 12 j := by
  unfold st5
  rw [st3_12, st2_at (by omega), rmR_at (Or.inr (by decide))]
theorem stG_s {k : Nat} (h : k ≠ 5) (h2 : k ≠ 42) (p e o n m a b d : Nat) : (stG ρ p e o n m a b d).1 k = ρ.1 k := by
  unfold stG st4
  rw [RS.setS_ne h2, RS.setA_s, RS.setA_s, RS.setA_s, thR_s _ _ _ _ _ _ h]
  unfold st6
  rw [RS.setA_s, rmR_s h]
  unfold st5 st3
  rw [RS.setA_s, nextR_s]
  unfold st2
  rw [RS.setA_s, RS.setA_s, RS.setA_s, RS.setA_s, RS.setA_s, rmR_s h]
  rfl
theorem stG_at {p e o n m a b d k j : Nat} (h : 10 < k) (h1 : k ≠ 12 ∧ k ≠ 13) (h2 : (k < 15 ∨ 19 < k) ∨ (j ≠ e ∧ j ≠ o)) (h3 : k ≠ 14 ∨ j ≠ p) : (stG ρ p e o n m a b d).2 k j = ρ.2 k j := by
  unfold stG
  rw [st4_at h (by omega), st6_at h (by omega), st5_at h h1 h2, st1_at h1 h3]
theorem stG_12 {p e o n m a b d j : Nat} (heo : e ≠ o) : (stG ρ p e o n m a b d).2 12 j = if j = e then ↑n else if j = o then ↑m else ρ.2 12 j := by
  unfold stG
  rw [st4_at (by decide) (by omega), st6_at (by decide) (by omega), st5_12, st1_12 heo]
  by_cases h : j = e
  · rw [if_pos h, if_pos h]
  · rw [if_neg h, if_neg h, if_neg h]
theorem stG_g (p e o n m a b d : Nat) : Gw ρ (stG ρ p e o n m a b d) 5 := by
  have g1 : Gw ρ (st1 ρ p e o n m) 0 := Gw.fr rfl (fun k j h1 h2 => st1_at (by omega) (by omega))
  obtain ⟨S, hS⟩ : ∃ S : RS, S = st1 ρ p e o n m := ⟨_, rfl⟩
  unfold stG
  rw [← hS] at g1 ⊢
  have g2 : Gw S (st5 S e o n a b d) 2 := by
    unfold st5
    exact ((Gw.rm (-1) a b).trans (b := 0) (Gw.fr (ρ := rmR S (-1) a b) (σ := st2 (rmR S (-1) a b) o n b (rmI S (-1) a b)) rfl (fun k j h1 h2 => st2_at (by omega)))).trans (b := 0) (Gw.fr rfl (fun k j h1 h2 => st3_at (by omega) (by omega)))
  obtain ⟨T, hT⟩ : ∃ T : RS, T = st5 S e o n a b d := ⟨_, rfl⟩
  rw [← hT] at g2 ⊢
  obtain ⟨r, hr⟩ : ∃ r : Nat, r = rmI S (-1) a b := ⟨_, rfl⟩
  rw [← hr]
  have g3 : Gw T (st6 T r e b d) 2 := by
    unfold st6
    exact (Gw.rm r d b).trans (b := 0) (Gw.fr (ρ := rmR T ↑r d b) rfl (fun k j h1 h2 => RS.setA_ne (by omega)))
  obtain ⟨U, hU⟩ : ∃ U : RS, U = st6 T r e b d := ⟨_, rfl⟩
  rw [← hU] at g3 ⊢
  have g4 : ∀ s v, Gw U (st4 U e s v) 1 := fun s v => by
    unfold st4
    exact (Gw.ch U s).trans (b := 0) (Gw.fr (ρ := chR U s) rfl (fun k j h1 h2 => by rw [RS.setS_a, RS.setA_ne (by omega), RS.setA_ne (by omega), RS.setA_ne (by omega)]))
  exact ((g1.trans g2).trans g3).trans (g4 _ _)
theorem Qn.start (h : Qn c ρ) (hI : Iv Y ρ) (p : Int) : Qn (c + 1) (startF ρ p).2 := by
  unfold startF
  split
  · exact h.s42 hI 1
  · next q1 =>
    split
    · exact h.s42 hI 3
    · next q2 =>
      have hb4 := hI.1.1
      obtain ⟨i, rfl⟩ : ∃ i : Nat, p = ↑i := ⟨p.toNat, by omega⟩
      rw [Int.toNat_natCast] at q2 ⊢
      have hi6 : i < 6 := by omega
      obtain ⟨e, hee⟩ : ∃ e : Nat, e = 2 * i := ⟨_, rfl⟩
      obtain ⟨o, hoo⟩ : ∃ o : Nat, o = 2 * i + 1 := ⟨_, rfl⟩
      rw [← hoo, ← hee] at q2 ⊢
      have q14 : ρ.2 14 i = 0 := by omega
      obtain ⟨n, hn⟩ : ∃ n : Nat, n = (ρ.2 12 e).toNat - 2 := ⟨_, rfl⟩
      obtain ⟨m, hm⟩ : ∃ m : Nat, m = (ρ.2 12 o).toNat - 1 := ⟨_, rfl⟩
      rw [← hn, ← hm]
      have S := @stG_s ρ
      have A := @stG_at ρ i e o n m (ρ.2 13 (12 * e)).toNat (ρ.2 13 (12 * o)).toNat (ρ.2 13 (12 * e + 1)).toNat
      have B := @stG_12 ρ i e o n m (ρ.2 13 (12 * e)).toNat (ρ.2 13 (12 * o)).toNat (ρ.2 13 (12 * e + 1)).toNat
      have G := @stG_g ρ i e o n m (ρ.2 13 (12 * e)).toNat (ρ.2 13 (12 * o)).toNat (ρ.2 13 (12 * e + 1)).toNat
      have S' := fun (k : Nat) (h1 : k ≠ 5) (h2 : k ≠ 42) => S (k := k) h1 h2 i e o n m (ρ.2 13 (12 * e)).toNat (ρ.2 13 (12 * o)).toNat (ρ.2 13 (12 * e + 1)).toNat
      show Qn (c + 1) (stG ρ i e o n m (ρ.2 13 (12 * e)).toNat (ρ.2 13 (12 * o)).toNat (ρ.2 13 (12 * e + 1)).toNat)
      obtain ⟨W, hW⟩ : ∃ W : RS, W = stG ρ i e o n m (ρ.2 13 (12 * e)).toNat (ρ.2 13 (12 * o)).toNat (ρ.2 13 (12 * e + 1)).toNat := ⟨_, rfl⟩
      rw [← hW] at A B G S' ⊢
      clear hW S
      have s30 := S' 30 (by decide) (by decide)
      have b31 : ∀ l, W.2 31 l = ρ.2 31 l := fun l => A (by decide) (by decide) (by omega) (by omega)
      have b32 : ∀ l, W.2 32 l = ρ.2 32 l := fun l => A (by decide) (by decide) (by omega) (by omega)
      have b34 : ∀ l, W.2 34 l = ρ.2 34 l := fun l => A (by decide) (by decide) (by omega) (by omega)
      have b20 : ∀ k j, 19 < k → k < 25 → W.2 k j = ρ.2 k j := fun k j h1 h2 => A (by omega) (by omega) (by omega) (by omega)
      have b14 : ∀ j, j ≠ i → W.2 14 j = ρ.2 14 j := fun j hj => A (by decide) (by decide) (by omega) (by omega)
      have cn : ∀ x P, cntN W x P = cntN ρ x P := cntN_congr s30 b31 b32
      obtain ⟨h1, h2, h3, h4, h5, h6⟩ := h
      have z5 : ∀ e1 : Nat, e1 < 12 → e1 / 2 = i → ρ.2 20 e1 = 0 ∧ ρ.2 21 e1 = 0 ∧ ρ.2 22 e1 = 0 := fun e1 he hq => h5 e1 he (by rw [hq]; exact q14)
      have h12 : ∀ e1 : Nat, e1 < 12 → W.2 12 e1 ≤ ρ.2 12 e1 := fun e1 he => by
        rw [B (by omega)]
        split
        · next q => subst q; omega
        · split
          · next q => subst q; omega
          · exact Int.le_refl _
      refine ⟨fun e1 he => ?_, fun e1 he r14 => ?_, fun l x hl hx => ?_, fun e1 he => ?_, fun e1 he r14 => ?_, ?_⟩
      · rw [b20 23 e1 (by decide) (by decide)]
        have := h1 e1 he
        have := h12 e1 he
        omega
      · rw [b20 20 e1 (by decide) (by decide)]
        by_cases hq : e1 / 2 = i
        · rw [(z5 e1 he hq).1]
          omega
        · rw [b14 _ hq] at r14
          rw [own_g hI G.1 (S' 0 (by decide) (by decide)) (S' 1 (by decide) (by decide)) he r14 (A (by decide) (by decide) (by omega) (by omega)), cn]
          exact h2 e1 he r14
      · rw [b31] at hx
        rw [s30] at hl
        rw [b34, b32, cn]
        exact h3 l x hl hx
      · rw [b20 22 e1 (by decide) (by decide)]
        by_cases hq : e1 / 2 = i
        · rw [(z5 e1 he hq).2.2]
          omega
        · rw [A (k := 19) (j := e1) (by decide) (by decide) (by omega) (by omega), cn]
          exact h4 e1 he
      · rw [b20 20 e1 (by decide) (by decide), b20 21 e1 (by decide) (by decide), b20 22 e1 (by decide) (by decide)]
        by_cases hq : e1 / 2 = i
        · exact z5 e1 he hq
        · rw [b14 _ hq] at r14
          exact h5 e1 he r14
      · have q : smI W ≤ smI ρ := siu_congr 12 (fun e1 he => by
          have hw : wtN W e1 = wtN ρ e1 := by
            by_cases hq : e1 / 2 = i
            · have hl : ltN W = ltN ρ := by unfold ltN; rw [s30]
              unfold wtN
              rw [hl]
              refine csu_congr _ (fun l hl => ?_)
              have hn31 : ¬ ρ.2 31 l = ↑(pe e1) := fun z => by
                obtain ⟨x, u1, u2, u3⟩ := (hI.2.2.2.2.2.2.2.1.1 l (by unfold ltN at hl; omega)).1
                have hx : x = pe e1 := by
                  have := u1.symm.trans z
                  omega
                have hx2 : x / 2 = i := by rw [hx]; unfold pe; split <;> omega
                rw [hx2] at u3
                exact u3 q14
              unfold wtB
              rw [b31, if_neg hn31, if_neg hn31]
            · exact wtN_congr s30 b31 b32 (A (by decide) (by decide) (by omega) (by omega)) (b20 23 e1 (by decide) (by decide)) (fun k _ => b20 24 _ (by decide) (by decide))
          unfold potI
          rw [b20 22 e1 (by decide) (by decide), hw]
          have := h12 e1 he
          omega)
        have := G.2
        omega
theorem Qn.zero : Qn 0 ini := by
  refine ⟨fun e he => Int.le_refl 0, fun e he h14 => absurd rfl h14, fun l x hl hx => ?_, fun e he => ?_, fun e he h14 => ⟨rfl, rfl, rfl⟩, ?_⟩
  · have q : ini.1 30 = 0 := rfl
    omega
  · have q : ini.2 22 e = 0 := rfl
    omega
  · have q : ∀ e, potI ini e = 0 := fun e => by
      have w : wtN ini e = 0 := rfl
      unfold potI
      rw [w]
      rfl
    have q2 : smI ini ≤ 0 := siu_congr (f := fun _ => 0) (g := potI ini) 12 (fun e _ => by rw [q]; exact Int.le_refl 0)
    have q3 : thN ini = 0 := rfl
    omega
end
