/-! WHAT ENDS: the reference from behind, the class from before -/
def oldK (ρ : RS) (e i : Nat) : Prop := ρ.1 3 < ρ.1 30 - ρ.2 29 (12 * e + i)
def isP (ρ : RS) (e n p : Nat) : Prop := p ≤ n ∧ (∀ i, i < p → oldK ρ e i) ∧ (p < n → ¬ oldK ρ e p)
theorem isP_uniq {ρ : RS} {e n p q : Nat} (h : isP ρ e n p) (g : isP ρ e n q) : p = q := by
  rcases Nat.lt_trichotomy p q with h1 | h1 | h1
  · exact absurd (g.2.1 p h1) (h.2.2 (by have := g.1; omega))
  · exact h1
  · exact absurd (h.2.1 q h1) (g.2.2 (by have := h.1; omega))
def FcK (e : Nat) (ρ τ : RS) (n k : Nat) : Prop := (∀ f, τ.1 f = ρ.1 f) ∧ (∀ f j, f < 25 ∨ 29 < f → τ.2 f j = ρ.2 f j) ∧ (∀ j, j ≠ e → τ.2 25 j = ρ.2 25 j) ∧ (∀ f j, 26 ≤ f → f ≤ 29 → j < 12 * e ∨ 12 * e + 12 ≤ j → τ.2 f j = ρ.2 f j) ∧ τ.2 25 e = ↑(n - k) ∧ ∀ f i, 26 ≤ f → f ≤ 29 → i < n - k → τ.2 f (12 * e + i) = ρ.2 f (12 * e + i + k)
theorem FcK.rf {e : Nat} {ρ : RS} {n : Nat} (h : ρ.2 25 e = ↑n) : FcK e ρ ρ n 0 := ⟨fun _ => rfl, fun _ _ _ => rfl, fun _ _ => rfl, fun _ _ _ _ _ => rfl, by rw [h, Nat.sub_zero], fun _ _ _ _ _ => rfl⟩
theorem dropR_25 {ρ : RS} {e i n : Nat} : (dropR ρ e i n).2 25 e = ↑n := by
  unfold dropR
  rw [RS.sh4_at _ _ _ _ _ (by omega), RS.setA_eq]
theorem dropR_25n {ρ : RS} {e i n j : Nat} (h : j ≠ e) : (dropR ρ e i n).2 25 j = ρ.2 25 j := by
  unfold dropR
  rw [RS.sh4_at _ _ _ _ _ (by omega), RS.setA_ne (Or.inr h)]
theorem dropR_out {ρ : RS} {e i n f j : Nat} (h : j < 12 * e + i ∨ 12 * e + n ≤ j) (hf : f ≠ 25) : (dropR ρ e i n).2 f j = ρ.2 f j := by
  unfold dropR
  rw [RS.sh4_at _ _ _ _ _ (by omega), RS.setA_ne (Or.inl hf)]
theorem dropR_in {ρ : RS} {e i n f j : Nat} (h : 12 * e + i ≤ j ∧ j < 12 * e + n) (hf : 26 ≤ f ∧ f ≤ 29) : (dropR ρ e i n).2 f j = ρ.2 f (j + 1) := by
  unfold dropR
  show (if (26 ≤ f ∧ f ≤ 29) ∧ 12 * e + i ≤ j ∧ j < 12 * e + n then (ρ.setA 25 e n).2 f (j + 1) else _) = _
  rw [if_pos ⟨hf, h⟩, RS.setA_ne (Or.inl (by omega))]
theorem FcK.drop {e n k : Nat} {ρ τ : RS} (h : FcK e ρ τ n k) (hk : k < n) (hn : n ≤ 12) : FcK e ρ (dropR τ e 0 (n - k - 1)) n (k + 1) := by
  obtain ⟨h1, h2, h3, h4, h5, h6⟩ := h
  refine ⟨h1, fun f j hf => ?_, fun j hj => ?_, fun f j a b c => ?_, ?_, fun f i a b c => ?_⟩
  · rw [dropR_at _ _ _ _ _ _ (by omega)]; exact h2 f j hf
  · rw [dropR_25n hj]; exact h3 j hj
  · rw [dropR_out (by omega) (by omega)]; exact h4 f j a b c
  · rw [dropR_25, show n - k - 1 = n - (k + 1) from by omega]
  · rw [dropR_in (by omega) ⟨a, b⟩, show 12 * e + i + 1 = 12 * e + (i + 1) from by omega, h6 f (i + 1) a b (by omega), show 12 * e + (i + 1) + k = 12 * e + i + (k + 1) from by omega]
theorem expE_fc {e : Nat} : ∀ (d : Nat) (ρ : RS) (n p : Nat), ρ.2 25 e = ↑n → d ≤ n → n ≤ 12 → p ≤ d → (∀ i, i < p → oldK ρ e i) → (∀ i, p ≤ i → i < d → ¬ oldK ρ e i) → FcK e ρ (expE ρ e d) n p := by
  intro d
  induction d with
  | zero =>
    intro ρ n p hn hd h12 hp _ _
    obtain rfl : p = 0 := by omega
    exact FcK.rf hn
  | succ d ih =>
    intro ρ n p hn hd h12 hp ho hno
    show FcK e ρ (expE (expS ρ e d) e d) n p
    by_cases hpd : p ≤ d
    · have e1 : expS ρ e d = ρ := if_neg (hno d hpd (Nat.lt_succ_self d))
      rw [e1]
      exact ih ρ n p hn (by omega) h12 hpd ho (fun i a b => hno i a (by omega))
    · obtain rfl : p = d + 1 := by omega
      have e1 : expS ρ e d = dropR ρ e d (n - 1) := by
        have h := ho d (Nat.lt_succ_self d)
        unfold oldK at h
        unfold expS
        rw [if_pos h, hn, Int.toNat_natCast]
      rw [e1]
      have hc : (dropR ρ e d (n - 1)).2 25 e = ↑(n - 1) := dropR_25
      have hold : ∀ i, i < d → oldK (dropR ρ e d (n - 1)) e i := fun i hi => by
        have h := ho i (by omega)
        unfold oldK at h ⊢
        rw [dropR_out (by omega) (by decide)]
        exact h
      obtain ⟨h1, h2, h3, h4, h5, h6⟩ := ih (dropR ρ e d (n - 1)) (n - 1) d hc (by omega) (by omega) (Nat.le_refl d) hold (fun i a b => absurd b (by omega))
      refine ⟨h1, fun f j hf => ?_, fun j hj => ?_, fun f j a b c => ?_, ?_, fun f i a b c => ?_⟩
      · rw [h2 f j hf, dropR_at _ _ _ _ _ _ (by omega)]
      · rw [h3 j hj, dropR_25n hj]
      · rw [h4 f j a b c, dropR_out (by omega) (by omega)]
      · rw [h5, show n - 1 - d = n - (d + 1) from by omega]
      · rw [h6 f i a b (by omega), dropR_in (by omega) ⟨a, b⟩, show 12 * e + i + d + 1 = 12 * e + i + (d + 1) from by omega]
def TsOK (ρ : RS) : Prop := ∀ e n : Nat, e < 12 → ρ.2 25 e = ↑n → ∀ i j, i ≤ j → j < n → ρ.2 29 (12 * e + i) ≤ ρ.2 29 (12 * e + j)
theorem isP_ex {ρ : RS} {e n : Nat} : ∃ p, isP ρ e n p := by
  have h : ∀ d, d ≤ n → (∃ p, p ≤ d ∧ (∀ i, i < p → oldK ρ e i) ∧ (p < d → ¬ oldK ρ e p)) := by
    intro d
    induction d with
    | zero => intro _; exact ⟨0, Nat.le_refl 0, fun i hi => absurd hi (by omega), fun h => absurd h (by omega)⟩
    | succ d ih =>
      intro hd
      obtain ⟨p, h1, h2, h3⟩ := ih (by omega)
      by_cases hpd : p < d
      · exact ⟨p, by omega, h2, fun _ => h3 hpd⟩
      · obtain rfl : p = d := by omega
        by_cases ho : ρ.1 3 < ρ.1 30 - ρ.2 29 (12 * e + p)
        · exact ⟨p + 1, Nat.le_refl _, fun i hi => by
            by_cases hip : i = p
            · rw [hip]; exact ho
            · exact h2 i (by omega), fun h => absurd h (by omega)⟩
        · exact ⟨p, by omega, h2, fun _ => ho⟩
  exact h n (Nat.le_refl n)
theorem expE_P {ρ : RS} {e n p : Nat} (he : e < 12) (hn : ρ.2 25 e = ↑n) (h12 : n ≤ 12) (hT : TsOK ρ) (hp : isP ρ e n p) : FcK e ρ (expE ρ e n) n p :=
  expE_fc n ρ n p hn (Nat.le_refl n) h12 hp.1 hp.2.1 (fun i a b => fun ho => by
    have h1 := hp.2.2 (by omega)
    have h2 := hT e n he hn p i a b
    unfold oldK at h1 ho
    omega)
def FAll (ρ σ : RS) (m : Nat) : Prop := (∀ f, σ.1 f = ρ.1 f) ∧ (∀ f j, f < 25 ∨ 29 < f → σ.2 f j = ρ.2 f j) ∧ (∀ j, 12 ≤ j → σ.2 25 j = ρ.2 25 j) ∧ ∀ e n : Nat, e < 12 → ρ.2 25 e = ↑n → (e < m → ∃ p, isP ρ e n p ∧ σ.2 25 e = ↑(n - p) ∧ ∀ f i, 26 ≤ f → f ≤ 29 → i < n - p → σ.2 f (12 * e + i) = ρ.2 f (12 * e + i + p)) ∧ (m ≤ e → σ.2 25 e = ↑n ∧ ∀ f i, 26 ≤ f → f ≤ 29 → i < 12 → σ.2 f (12 * e + i) = ρ.2 f (12 * e + i))
theorem FAll.rf (ρ : RS) : FAll ρ ρ 0 := ⟨fun _ => rfl, fun _ _ _ => rfl, fun _ _ => rfl, fun e n _ hn => ⟨fun h => absurd h (by omega), fun _ => ⟨hn, fun _ _ _ _ _ => rfl⟩⟩⟩
theorem FAll.step {ρ σ τ : RS} {m n p : Nat} (h : FAll ρ σ m) (hm : m < 12) (hn : ρ.2 25 m = ↑n) (h12 : n ≤ 12) (hP : isP σ m n p) (hF : FcK m σ τ n p) (hb : ∀ e n : Nat, e < 12 → ρ.2 25 e = ↑n → n ≤ 12) : FAll ρ τ (m + 1) := by
  obtain ⟨h1, h2, h3, h4⟩ := h
  obtain ⟨g1, g2, g3, g4, g5, g6⟩ := hF
  refine ⟨fun f => (g1 f).trans (h1 f), fun f j a => (g2 f j a).trans (h2 f j a), fun j hj => (g3 j (by omega)).trans (h3 j hj), fun e n1 he hn1 => ⟨fun hem => ?_, fun hem => ?_⟩⟩
  · by_cases hee : e = m
    · subst hee
      have hnn : n1 = n := by rw [hn1] at hn; omega
      subst hnn
      obtain ⟨q1, q2⟩ := (h4 e n1 he hn1).2 (Nat.le_refl e)
      have cg : ∀ i, i < n1 → (oldK σ e i ↔ oldK ρ e i) := fun i hi => by
        unfold oldK
        rw [h1 3, h1 30, q2 29 i (by decide) (by decide) (by omega)]
      refine ⟨p, ⟨hP.1, fun i hi => (cg i (by have := hP.1; omega)).mp (hP.2.1 i hi), fun hpn ho => hP.2.2 hpn ((cg p hpn).mpr ho)⟩, g5, fun f i a b c => ?_⟩
      rw [g6 f i a b c, show 12 * e + i + p = 12 * e + (i + p) from by omega, q2 f (i + p) a b (by have := hP.1; omega)]
    · obtain ⟨p1, q1, q2, q3⟩ := (h4 e n1 he hn1).1 (by omega)
      refine ⟨p1, q1, (g3 e hee).trans q2, fun f i a b c => ?_⟩
      have hi12 := hb e n1 he hn1
      rw [← q3 f i a b c]
      exact g4 f _ a b (by omega)
  · obtain ⟨q1, q2⟩ := (h4 e n1 he hn1).2 (by omega)
    exact ⟨(g3 e (by omega)).trans q1, fun f i a b c => (g4 f _ a b (by omega)).trans (q2 f i a b c)⟩
theorem FAll.none {ρ σ : RS} {m m' : Nat} (h : FAll ρ σ m) (hmm : m ≤ m') (hz : ∀ e, m ≤ e → e < 12 → ρ.2 25 e = 0) : FAll ρ σ m' := by
  obtain ⟨h1, h2, h3, h4⟩ := h
  refine ⟨h1, h2, h3, fun e n he hn => ⟨fun hem => ?_, fun hem => (h4 e n he hn).2 (by omega)⟩⟩
  by_cases hm : e < m
  · exact (h4 e n he hn).1 hm
  · have h0 := hz e (by omega) he
    obtain rfl : n = 0 := by omega
    exact ⟨0, ⟨Nat.le_refl 0, fun i hi => absurd hi (by omega), fun q => absurd q (by omega)⟩, ((h4 e 0 he hn).2 (by omega)).1, fun f i a b c => absurd c (by omega)⟩
theorem expA_F {ρ : RS} (hT : TsOK ρ) (hK : ∀ e, e < 12 → ∃ n : Nat, n ≤ 12 ∧ ρ.2 25 e = ↑n) : ∀ (d e : Nat) (σ : RS), e + d = 12 → FAll ρ σ e → FAll ρ (expA d e σ) 12 := by
  intro d
  induction d with
  | zero =>
    intro e σ he h
    obtain rfl : e = 12 := by omega
    exact h
  | succ d ih =>
    intro e σ he h
    show FAll ρ (expA d (e + 1) (expE σ e (σ.2 25 e).toNat)) 12
    obtain ⟨n, hn12, hn⟩ := hK e (by omega)
    obtain ⟨q1, q2⟩ := (h.2.2.2 e n (by omega) hn).2 (Nat.le_refl e)
    obtain ⟨p, hp⟩ := isP_ex (ρ := σ) (e := e) (n := n)
    have hTs : ∀ i j, i ≤ j → j < n → σ.2 29 (12 * e + i) ≤ σ.2 29 (12 * e + j) := fun i j a b => by
      rw [q2 29 i (by decide) (by decide) (by omega), q2 29 j (by decide) (by decide) (by omega)]
      exact hT e n (by omega) hn i j a b
    have hF : FcK e σ (expE σ e n) n p := expE_fc n σ n p q1 (Nat.le_refl n) hn12 hp.1 hp.2.1 (fun i a b ho => by
      have h1 := hp.2.2 (by omega)
      have h2 := hTs p i a b
      unfold oldK at h1 ho
      omega)
    rw [q1, Int.toNat_natCast]
    exact ih (e + 1) _ (by omega) (h.step (by omega) hn hn12 hp hF (fun e1 n1 a b => by
      obtain ⟨n2, c1, c2⟩ := hK e1 a
      rw [b] at c2
      omega))
theorem Cl.ends {X : Gh} {ρ σ τ : RS} {M : Mem} (h : Cl X τ M) (hp : 0 ≤ ρ.1 4 ∧ ρ.1 4 ≤ 6) (hK : ∀ e, e < 12 → ∃ n : Nat, n ≤ 12 ∧ ρ.2 25 e = ↑n) (hτ : FAll ρ τ 12) (hσ : FAll ρ σ 12) : Cl X σ M := by
  obtain ⟨a1, a2, a3, a4⟩ := hτ
  obtain ⟨b1, b2, b3, b4⟩ := hσ
  have hpe : ∀ e : Nat, (e : Int) < 2 * τ.1 4 → e < 12 := fun e he => by rw [a1 4] at he; omega
  refine h.kcg (fun k => (b1 k).trans (a1 k).symm) (fun k j hk => ?_) (fun e i he hi k k1 k2 => ?_)
  · by_cases h25 : k = 25
    · subst h25
      by_cases hj : j < 12
      · obtain ⟨n, _, hn⟩ := hK j hj
        obtain ⟨p, p1, p2, _⟩ := (a4 j n hj hn).1 hj
        obtain ⟨q, q1, q2, _⟩ := (b4 j n hj hn).1 hj
        rw [p2, q2, isP_uniq p1 q1]
      · rw [a3 j (by omega), b3 j (by omega)]
    · rw [a2 k j (by omega), b2 k j (by omega)]
  · have hj := hpe e he
    obtain ⟨n, _, hn⟩ := hK e hj
    obtain ⟨p, p1, p2, p3⟩ := (a4 e n hj hn).1 hj
    obtain ⟨q, q1, q2, q3⟩ := (b4 e n hj hn).1 hj
    have hpq := isP_uniq p1 q1
    subst hpq
    rw [p2] at hi
    rw [p3 k i k1 k2 (by omega), q3 k i k1 k2 (by omega)]
