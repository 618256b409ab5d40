/-! WHAT HOLDS BETWEEN THE CALLS IS KEPT: take, its cases -/
section
variable {Y : (Nat → Bool) × (Nat → Bool)} {ρ σ : RS}
def pe (x : Nat) : Nat := if x % 2 = 0 then x + 1 else x - 1
def Chn (ρ : RS) (x : Nat) : Prop := ∃ c : Nat, ρ.2 18 x = ↑c ∧ c < thN ρ ∧ ρ.2 6 c = 1
def TkA (ρ : RS) (x : Nat) (τ : RS) : Prop := ∃ i m : Nat, ρ.2 25 x = ↑(m + 1) ∧ m < 12 ∧ i ≤ m ∧ τ = (dropR ρ x i m).setS 42 0
def TkB (ρ : RS) (x y : Nat) (τ : RS) : Prop := ∃ pa d : Nat, ρ.2 22 x = ↑pa ∧ ρ.2 34 y = ↑(pa + d) ∧ d ≤ 12 ∧ pa + d ≤ 300 ∧ Chn ρ x ∧ ρ.2 32 y = ρ.2 19 x ∧ τ = (fuG ρ x d).setS 42 0
def TkC (par : Nat → Bool) (ρ : RS) (x y : Nat) (τ : RS) : Prop := ∃ pa old pl n r0 s z t : Nat, ρ.2 22 x = ↑pa ∧ ρ.2 34 y = ↑pl ∧ old + pl ≤ 12 ∧ (old = 0 ∨ pa + old ≤ 300 ∧ Chn ρ x) ∧ ρ.2 12 x = ↑(n + 1) ∧ r0 < thN ρ ∧ (s < thN ρ ∧ par s = decide (x % 2 = 1)) ∧ (z < thN ρ ∧ par z = !decide (x % 2 = 1)) ∧ (t < thN ρ ∧ ρ.2 6 t = 3 ∧ par t = decide (x % 2 = 1)) ∧ ρ.2 32 y ≠ ρ.2 19 x ∧ lefB ρ x (ρ.2 32 y) (ρ.2 23 x).toNat = false ∧ τ = (anD2 (skF ρ x old) x r0 s z pl n t (ρ.2 32 y)).setS 42 0
theorem take_cs (h : Iv Y ρ) (e l : Int) : (∃ v, (takeF ρ e l).2 = ρ.setS 42 v) ∨ ∃ x y : Nat, (x : Int) < 2 * ρ.1 4 ∧ (y : Int) < ρ.1 30 ∧ ρ.2 14 (x / 2) ≠ 0 ∧ ρ.2 31 y = ↑(pe x) ∧ (TkA ρ x (takeF ρ e l).2 ∨ TkB ρ x y (takeF ρ e l).2 ∨ TkC Y.2 ρ x y (takeF ρ e l).2) := by
  have hIv := h
  obtain ⟨⟨hp, hl, hm, hli, h44⟩, ⟨hTI, hSh⟩, ⟨hRo, hRp⟩, ⟨hEd, hOw, hYs, hSt⟩, hEn, hLf, ⟨hKo, hKy, hTs, hTl⟩, ⟨hLt, hLp⟩, hTr, hFe⟩ := hIv
  by_cases c1 : ¬ (0 ≤ e ∧ e ≤ 2 * ρ.1 4 - 1) ∨ ¬ (0 ≤ l ∧ l ≤ ρ.1 30 - 1)
  · have e9 : takeF ρ e l = (-1, ρ.setS 42 1) := if_pos c1
    rw [e9]
    exact Or.inl ⟨1, rfl⟩
  · by_cases c2 : ρ.2 31 l.toNat ≠ (jI e ^^^ jI 1).toInt
    · have e9 : takeF ρ e l = (-1, ρ.setS 42 3) := (if_neg c1).trans (if_pos c2)
      rw [e9]
      exact Or.inl ⟨3, rfl⟩
    · have e8 : takeF ρ e l = takF ρ e.toNat l.toNat := (if_neg c1).trans (if_neg c2)
      obtain ⟨x, rfl⟩ : ∃ x : Nat, e = ↑x := ⟨e.toNat, by omega⟩
      obtain ⟨y, rfl⟩ : ∃ y : Nat, l = ↑y := ⟨l.toNat, by omega⟩
      rw [Int.toNat_natCast] at c2
      rw [Int.toNat_natCast, Int.toNat_natCast] at e8
      have hx12 : x < 12 := by omega
      have hy : (y : Int) < ρ.1 30 := by omega
      obtain ⟨⟨xs, h31, hxs12, hxs⟩, h32b, h33b, ⟨pl, h34, hpl⟩, h35b, h36, -, ⟨z, h38, hz, hkz⟩⟩ := hLt y hy
      have c39 : ρ.2 31 y = (jI (x : Int) ^^^ jI 1).toInt := by
        by_cases q : ρ.2 31 y = (jI (x : Int) ^^^ jI 1).toInt
        · exact q
        · exact absurd q c2
      rw [xor1 hx12] at c39
      have hxe : ρ.2 31 y = ↑(pe x) := by
        rw [c39]
        unfold pe
        split <;> omega
      have hxx : xs = pe x := by
        have : (xs : Int) = ↑(pe x) := h31.symm.trans hxe
        omega
      have hx2 : xs / 2 = x / 2 := by rw [hxx]; unfold pe; split <;> omega
      have hxp : decide (xs % 2 = 1) = !decide (x % 2 = 1) := by
        rw [hxx]
        unfold pe
        split
        · rw [decide_eq_true (show (x + 1) % 2 = 1 by omega), decide_eq_false (show ¬ x % 2 = 1 by omega)]; rfl
        · rw [decide_eq_false (show ¬ (x - 1) % 2 = 1 by omega), decide_eq_true (show x % 2 = 1 by omega)]; rfl
      have h14 : ρ.2 14 (x / 2) ≠ 0 := hx2 ▸ hxs
      obtain ⟨⟨s, h15, hs, hks⟩, ⟨r0, h16, hr0, hkr⟩, hsd, h18⟩ := hEd x hx12 h14
      obtain ⟨h19, ⟨p20, h20, hp20⟩, h21, ⟨pa, h22, hpa⟩⟩ := hEn x hx12 h14
      obtain ⟨n25, hn25, h25⟩ := hKo.1 x hx12
      have hkc := kptF_cs ρ x y n25 0
      rw [e8]
      unfold takF
      rw [h25, Int.toNat_natCast]
      by_cases c3 : kptF ρ x y n25 0 ≠ -1
      · rw [if_pos c3]
        obtain ⟨j, hj, -, hj2⟩ : ∃ j : Nat, kptF ρ x y n25 0 = ↑j ∧ 0 ≤ j ∧ j < 0 + n25 := by
          rcases hkc with q | q
          · exact absurd q c3
          · exact q
        rw [hj, Int.toNat_natCast]
        unfold tkF
        split
        · exact Or.inl ⟨7, rfl⟩
        · refine Or.inr ⟨x, y, by omega, hy, h14, hxe, Or.inl ⟨j, n25 - 1, by rw [h25]; congr 1; omega, by omega, by omega, ?_⟩⟩
          rw [h25, Int.toNat_natCast]
      · rw [if_neg c3]
        by_cases c4 : ρ.2 32 y = ρ.2 19 x ∧ ρ.2 18 x ≠ -1
        · rw [if_pos c4]
          have hch : Chn ρ x := by
            rcases h18 with q | q
            · exact absurd q c4.2
            · exact q
          unfold furF
          by_cases c5 : ρ.2 34 y - ρ.2 22 x < 0
          · rw [if_pos c5]
            exact Or.inl ⟨4, rfl⟩
          · rw [if_neg c5]
            by_cases c6 : ρ.1 2 < ρ.2 34 y - ρ.2 22 x
            · rw [if_pos c6]
              exact Or.inl ⟨5, rfl⟩
            · rw [if_neg c6]
              split
              · exact Or.inl ⟨7, rfl⟩
              · refine Or.inr ⟨x, y, by omega, hy, h14, hxe, Or.inr (Or.inl ⟨pa, (ρ.2 34 y - ρ.2 22 x).toNat, h22, by omega, by omega, by omega, hch, c4.1, rfl⟩)⟩
        · rw [if_neg c4]
          by_cases c5 : (if ρ.2 32 y = ρ.2 19 x then (1 : Int) else 0) ≠ 0 ∨ lefB ρ x (ρ.2 32 y) (ρ.2 23 x).toNat = true
          · rw [show anF ρ x y (if ρ.2 32 y = ρ.2 19 x then (1 : Int) else 0) = (-1, ρ.setS 42 4) from if_pos c5]
            exact Or.inl ⟨4, rfl⟩
          · rw [show anF ρ x y (if ρ.2 32 y = ρ.2 19 x then (1 : Int) else 0) = anF2 ρ x y (oldF ρ x y) from if_neg c5]
            have c5a : ρ.2 32 y ≠ ρ.2 19 x := fun q => c5 (Or.inl (by rw [if_pos q]; decide))
            have c5b : lefB ρ x (ρ.2 32 y) (ρ.2 23 x).toNat = false := by
              cases q : lefB ρ x (ρ.2 32 y) (ρ.2 23 x).toNat
              · rfl
              · exact absurd (Or.inr q) c5
            have hold : oldF ρ x y = 0 ∨ pa + oldF ρ x y ≤ 300 ∧ Chn ρ x := by
              unfold oldF
              by_cases c6 : ρ.2 18 x ≠ -1 ∧ ρ.2 22 x < ρ.2 33 y
              · rw [if_pos c6]
                refine Or.inr ⟨by omega, ?_⟩
                rcases h18 with q | q
                · exact absurd q c6.1
                · exact q
              · rw [if_neg c6]
                exact Or.inl rfl
            obtain ⟨old, ho⟩ : ∃ o : Nat, o = oldF ρ x y := ⟨_, rfl⟩
            rw [← ho] at hold ⊢
            unfold anF2
            by_cases c7 : ρ.1 2 < ↑old + ρ.2 34 y
            · rw [if_pos c7]
              exact Or.inl ⟨5, rfl⟩
            · rw [if_neg c7]
              by_cases c8 : ρ.2 12 x = 0
              · rw [if_pos c8]
                exact Or.inl ⟨6, rfl⟩
              · rw [if_neg c8]
                split
                · exact Or.inl ⟨7, rfl⟩
                · obtain ⟨n0, hn0, h12, hrow⟩ := hRo x hx12
                  obtain ⟨n, rfl⟩ : ∃ n : Nat, n0 = n + 1 := ⟨n0 - 1, by omega⟩
                  obtain ⟨t, q1, q2, q3⟩ := hrow 0 (by omega)
                  have q4 := hRp x 0 (n + 1) hx12 h12 (by omega)
                  rw [q1, Int.toNat_natCast] at q4
                  have hLtq := (hLp y hy).1
                  rw [h38, h31, Int.toNat_natCast, Int.toNat_natCast] at hLtq
                  have ps := hOw x hx12 h14
                  rw [h15, Int.toNat_natCast] at ps
                  refine Or.inr ⟨x, y, by omega, hy, h14, hxe, Or.inr (Or.inr ⟨pa, old, pl, n, r0, s, z, t, h22, h34, by omega, hold, h12, hr0, ⟨hs, ps⟩, ⟨hz, hLtq.trans hxp⟩, ⟨q2, q3, q4⟩, c5a, c5b, ?_⟩)⟩
                  rw [Nat.add_zero] at q1
                  show (anD ρ x y old).setS 42 0 = _
                  unfold anD
                  rw [h16, h15, h38, h34, h12, q1, Int.toNat_natCast, Int.toNat_natCast, Int.toNat_natCast, Int.toNat_natCast, Int.toNat_natCast, Int.toNat_natCast]
                  rfl
theorem Iv.sk_gr (h : Iv Y ρ) {e p : Nat} (d : Nat) (he : (e : Int) < 2 * ρ.1 4) (hc : Chn ρ e) (h22 : ρ.2 22 e = ↑p) (hN : thN ρ + 2 * d < 7990) (hp : p + d ≤ 301) (h19 : -1 ≤ ρ.2 19 e ∧ ρ.2 19 e ≤ 10007) : Gr ρ (skF ρ e d) := by
  have hb := h.1.1
  have gx := (skF_ok (e := e) (by omega) d (N := thN ρ) (p := p) (by omega) (by omega) (h.sko he hc h22 h19)).2
  exact ⟨gx.1, fun k t h1 h2 ht => gx.2 k t h1 (by omega) ht⟩
theorem Iv.old (h : Iv Y ρ) {x pa old : Nat} (he : (x : Int) < 2 * ρ.1 4) (h22 : ρ.2 22 x = ↑pa) (hpa : pa ≤ 301) (ho : old = 0 ∨ pa + old ≤ 300 ∧ Chn ρ x) (h12 : old ≤ 12) (hN : thN ρ < 7900) (h19 : -1 ≤ ρ.2 19 x ∧ ρ.2 19 x ≤ 10007) :
    Iv Y (skF ρ x old) ∧ (skF ρ x old).2 22 x = ↑(pa + old) ∧ thN (skF ρ x old) ≤ thN ρ + 2 * old ∧ Gr ρ (skF ρ x old) := by
  by_cases hz : old = 0
  · subst hz
    exact ⟨h, h22, Nat.le_refl _, Nat.le_refl _, fun _ _ _ _ _ => rfl⟩
  · obtain ⟨o1, o2⟩ : pa + old ≤ 300 ∧ Chn ρ x := by
      rcases ho with q | q
      · exact absurd q hz
      · exact q
    obtain ⟨i1, -, p1, l1⟩ := Iv.sk old h he o2 h22 (by omega) (by omega) h19
    exact ⟨i1, p1, l1, h.sk_gr old he o2 h22 (by omega) (by omega) h19⟩
-- the turn
theorem Iv.tkC (h : Iv Y ρ) {x y : Nat} {τ : RS} (he : (x : Int) < 2 * ρ.1 4) (hy : (y : Int) < ρ.1 30) (h14 : ρ.2 14 (x / 2) ≠ 0) (hN : thN ρ < 7800) (hlf : ρ.2 23 x < 300) (hc : TkC Y.2 ρ x y τ) :
    Iv Y τ ∧ ∃ pa old pl n r0 s z t : Nat, ρ.2 22 x = ↑pa ∧ ρ.2 34 y = ↑pl ∧ old + pl ≤ 12 ∧ ρ.2 12 x = ↑(n + 1) ∧ ρ.2 32 y ≠ ρ.2 19 x ∧ lefB ρ x (ρ.2 32 y) (ρ.2 23 x).toNat = false ∧ τ = (anD2 (skF ρ x old) x r0 s z pl n t (ρ.2 32 y)).setS 42 0 ∧ thN τ ≤ thN ρ + 2 * (old + pl) + 8 ∧ τ.2 22 x = ↑(pl + 1) ∧ Gr ρ τ := by
  obtain ⟨pa, old, pl, n, r0, s, z, t, h22, h34, hop, ho, h12, hr0, ⟨hs, ps⟩, ⟨hz, pz⟩, ⟨ht, ht3, pt⟩, hne, hlb, hτ⟩ := hc
  have hb := h.1.1
  obtain ⟨h19, ⟨p20, h20, hp20⟩, h21, ⟨pa', h22', hpa⟩⟩ := h.2.2.2.2.1 x (by omega) h14
  have hpp : pa = pa' := by
    have : (pa : Int) = ↑pa' := h22.symm.trans h22'
    omega
  have h30 := h.1.2.1
  have hPb := (h.2.2.2.2.2.2.2.1.1 y hy).2.1
  obtain ⟨i1, p1, l1, g1⟩ := h.old he h22 (by omega) ho (by omega) (by omega) h19
  have g0 := g1.1
  have sa : ∀ k j, (k < 6 ∨ 10 < k) ∧ (k < 25 ∨ 29 < k) ∧ (k ≠ 18 ∧ k ≠ 22 ∨ j ≠ x) → (skF ρ x old).2 k j = ρ.2 k j := fun k j hk => skF_at hk
  obtain ⟨σ, hσ⟩ : ∃ σ : RS, σ = skF ρ x old := ⟨_, rfl⟩
  have s4 : σ.1 4 = ρ.1 4 := by rw [hσ, skF_s (by decide)]
  rw [← hσ] at i1 p1 l1 g1 g0 sa hτ
  obtain ⟨j1, j2, j3, j4⟩ := i1.an (e := x) (r0 := r0) (s := s) (z := z) (pl := pl) (n := n) (t := t) (P := ρ.2 32 y) (by rw [s4]; exact he) (by omega) (by omega) (by omega) (by omega) (g1.k (t := t) ht ht3).2 ps pz pt (by rw [sa 12 x (by omega)]; exact h12) (by rw [sa 23 x (by omega)]; exact hlf) (by rw [sa 19 x (by omega)]; exact h19) hPb (by omega) (by omega) (by rw [sa 20 x (by omega)]; omega)
  refine ⟨by rw [hτ]; exact j1.s42 0, pa, old, pl, n, r0, s, z, t, h22, h34, hop, h12, hne, hlb, by rw [hτ, hσ], ?_, by rw [hτ]; exact j3, ?_⟩
  · rw [hτ]
    show thN (anD2 σ x r0 s z pl n t (ρ.2 32 y)) ≤ _
    omega
  · rw [hτ]
    exact ⟨Nat.le_trans g0 j4.1, fun k u h1 h2 hu => (j4.2 k u h1 h2 (Nat.lt_of_lt_of_le hu g0)).trans (g1.2 k u h1 h2 hu)⟩
theorem Iv.tkB (h : Iv Y ρ) {x y : Nat} {τ : RS} (he : (x : Int) < 2 * ρ.1 4) (h14 : ρ.2 14 (x / 2) ≠ 0) (hN : thN ρ < 7800) (hc : TkB ρ x y τ) :
    Iv Y τ ∧ ∃ pa d : Nat, ρ.2 22 x = ↑pa ∧ ρ.2 34 y = ↑(pa + d) ∧ ρ.2 32 y = ρ.2 19 x ∧ τ = (fuG ρ x d).setS 42 0 ∧ thN τ ≤ thN ρ + 2 * (d + 1) ∧ τ.2 22 x = ↑(pa + d + 1) ∧ Gr ρ τ := by
  obtain ⟨pa, d, h22, h34, hd, hpd, hch, h32, hτ⟩ := hc
  have hb := h.1.1
  have h19 := (h.2.2.2.2.1 x (by omega) h14).1
  obtain ⟨j1, j2, j3, j4⟩ := h.fu he hch h22 hpd (by omega) h19
  refine ⟨by rw [hτ]; exact j1.s42 0, pa, d, h22, h34, h32, hτ, ?_, by rw [hτ]; exact j2, ?_⟩
  · rw [hτ]
    exact j3
  · rw [hτ]
    exact j4
theorem Iv.take (h : Iv Y ρ) (hN : thN ρ < 7800) (hlf : ∀ e : Nat, e < 12 → ρ.2 23 e < 300) (e l : Int) : Iv Y (takeF ρ e l).2 := by
  have hb := h.1.1
  rcases take_cs h e l with ⟨v, hv⟩ | ⟨x, y, hx, hy, h14, -, ⟨i, m, a1, a2, a3, a4⟩ | hB | hC⟩
  · rw [hv]
    exact h.s42 v
  · rw [a4]
    exact (h.drop (by omega) a1 a2 a3).s42 0
  · exact (h.tkB hx h14 hN hB).1
  · exact (h.tkC hx hy h14 hN (hlf x (by omega)) hC).1
end
