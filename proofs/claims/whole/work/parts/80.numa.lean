/-! THE NUMBERS: how many things there can be after so many calls -/
section
variable {Y : (Nat → Bool) × (Nat → Bool)} {ρ σ : RS}
def csu (f : Nat → Nat) : Nat → Nat
  | 0 => 0
  | n + 1 => csu f n + f n
def siu (f : Nat → Int) : Nat → Int
  | 0 => 0
  | n + 1 => siu f n + f n
theorem csu_congr {f g : Nat → Nat} : ∀ n, (∀ l, l < n → f l = g l) → csu f n = csu g n := by
  intro n
  induction n with
  | zero => intro _; rfl
  | succ n ih =>
    intro H
    show csu f n + f n = csu g n + g n
    rw [ih (fun l hl => H l (by omega)), H n (by omega)]
theorem csu_le {f g h k : Nat → Nat} : ∀ n, (∀ l, l < n → f l + 10 * g l + 2 * h l ≤ k l) → csu f n + 10 * csu g n + 2 * csu h n ≤ csu k n := by
  intro n
  induction n with
  | zero => intro _; exact Nat.le_refl 0
  | succ n ih =>
    intro H
    have h1 := ih (fun l hl => H l (by omega))
    have h2 := H n (by omega)
    show (csu f n + f n) + 10 * (csu g n + g n) + 2 * (csu h n + h n) ≤ csu k n + k n
    omega
theorem siu_congr {f g : Nat → Int} : ∀ n, (∀ l, l < n → g l ≤ f l) → siu g n ≤ siu f n := by
  intro n
  induction n with
  | zero => intro _; exact Int.le_refl 0
  | succ n ih =>
    intro H
    have h1 := ih (fun l hl => H l (by omega))
    have h2 := H n (by omega)
    show siu g n + g n ≤ siu f n + f n
    omega
theorem siu_nn {f : Nat → Int} : ∀ n, (∀ l, l < n → 0 ≤ f l) → 0 ≤ siu f n := by
  intro n
  induction n with
  | zero => intro _; exact Int.le_refl 0
  | succ n ih =>
    intro H
    have h1 := ih (fun l hl => H l (by omega))
    have h2 := H n (by omega)
    show 0 ≤ siu f n + f n
    omega
theorem siu_one {f g : Nat → Int} {e : Nat} {d : Int} : ∀ n, (∀ l, l < n → l ≠ e → g l ≤ f l) → g e ≤ f e + d → 0 ≤ d → siu g n ≤ siu f n + d := by
  intro n
  induction n with
  | zero => intro _ _ hd; show (0 : Int) ≤ 0 + d; omega
  | succ n ih =>
    intro H he hd
    show siu g n + g n ≤ siu f n + f n + d
    by_cases hn : n = e
    · have h1 := siu_congr (f := f) (g := g) n (fun l hl => H l (by omega) (by omega))
      rw [hn] at h1 ⊢
      omega
    · have h1 := ih (fun l hl => H l (by omega)) he hd
      have h2 := H n (by omega) hn
      omega
theorem siu_dn {f g : Nat → Int} {e : Nat} {d : Int} : ∀ n, (∀ l, l < n → l ≠ e → g l ≤ f l) → g e ≤ f e - d → e < n → siu g n ≤ siu f n - d := by
  intro n
  induction n with
  | zero => intro _ _ he; exact absurd he (by omega)
  | succ n ih =>
    intro H he hl
    show siu g n + g n ≤ siu f n + f n - d
    by_cases hn : n = e
    · have h1 := siu_congr (f := f) (g := g) n (fun l hl => H l (by omega) (by omega))
      rw [hn] at h1 ⊢
      omega
    · have h1 := ih (fun l hl => H l (by omega)) he (by omega)
      have h2 := H n (by omega) hn
      omega
def ltN (ρ : RS) : Nat := (ρ.1 30).toNat
def cntB (ρ : RS) (x : Nat) (P : Int) (l : Nat) : Nat := if ρ.2 31 l = ↑x ∧ ρ.2 32 l = P then 1 else 0
def cntN (ρ : RS) (x : Nat) (P : Int) : Nat := csu (cntB ρ x P) (ltN ρ)
def wtV (ρ : RS) (e : Nat) (P : Int) : Nat := if P = ρ.2 19 e then 2 else if lefB ρ e P (ρ.2 23 e).toNat = true then 0 else 12
def wtB (ρ : RS) (e l : Nat) : Nat := if ρ.2 31 l = ↑(pe e) then wtV ρ e (ρ.2 32 l) else 0
def wtN (ρ : RS) (e : Nat) : Nat := csu (wtB ρ e) (ltN ρ)
def potI (ρ : RS) (e : Nat) : Int := 6 * ρ.2 12 e + ↑(wtN ρ e) - 2 * ρ.2 22 e
def smI (ρ : RS) : Int := siu (potI ρ) 12
def ownI (ρ : RS) (e : Nat) : Int := powF (ρ.1 0) (ρ.1 1) (ρ.2 9 (ρ.2 15 e).toNat).toNat
def Qn1 (c : Nat) (ρ : RS) : Prop := ∀ e : Nat, e < 12 → 2 * ρ.2 23 e + ρ.2 12 e ≤ ↑c
def Qn2 (ρ : RS) : Prop := ∀ e : Nat, e < 12 → ρ.2 14 (e / 2) ≠ 0 → ρ.2 20 e ≤ ↑(cntN ρ e (ownI ρ e))
def Qn3 (ρ : RS) : Prop := ∀ l x : Nat, (l : Int) < ρ.1 30 → ρ.2 31 l = ↑x → ρ.2 34 l + 1 ≤ ↑(cntN ρ x (ρ.2 32 l))
def Qn4 (ρ : RS) : Prop := ∀ e : Nat, e < 12 → ρ.2 22 e ≤ ↑(cntN ρ (pe e) (ρ.2 19 e))
def Qn (c : Nat) (ρ : RS) : Prop := Qn1 c ρ ∧ Qn2 ρ ∧ Qn3 ρ ∧ Qn4 ρ ∧ ZU ρ ∧ ↑(thN ρ) + smI ρ ≤ 14 * (c : Int)
theorem wtV_two (ρ : RS) (e : Nat) : wtV ρ e (ρ.2 19 e) = 2 := if_pos rfl
theorem pot_nn (h4 : Qn4 ρ) {e : Nat} (he : e < 12) (h12 : 0 ≤ ρ.2 12 e) : 0 ≤ potI ρ e := by
  have h := h4 e he
  have h2 := csu_le (f := fun _ => 0) (g := fun _ => 0) (h := cntB ρ (pe e) (ρ.2 19 e)) (k := wtB ρ e) (ltN ρ) (fun l _ => by
    show 0 + 10 * 0 + 2 * cntB ρ (pe e) (ρ.2 19 e) l ≤ wtB ρ e l
    unfold cntB wtB
    by_cases q : ρ.2 31 l = ↑(pe e) ∧ ρ.2 32 l = ρ.2 19 e
    · rw [if_pos q, if_pos q.1, q.2, wtV_two]
      decide
    · rw [if_neg q]
      omega)
  have h3 : 2 * cntN ρ (pe e) (ρ.2 19 e) ≤ wtN ρ e := by
    unfold cntN wtN
    omega
  unfold potI
  omega
theorem Qn.lim {c : Nat} (h : Qn c ρ) (hI : Iv Y ρ) : (thN ρ : Int) ≤ 14 * ↑c ∧ ∀ e : Nat, e < 12 → 2 * ρ.2 23 e ≤ ↑c := by
  have h12 : ∀ e : Nat, e < 12 → 0 ≤ ρ.2 12 e := fun e he => by
    obtain ⟨n, q1, q2, -⟩ := hI.2.2.1.1 e he
    omega
  refine ⟨?_, fun e he => by have := h.1 e he; have := h12 e he; omega⟩
  have := siu_nn (f := potI ρ) 12 (fun e he => pot_nn h.2.2.2.1 he (h12 e he))
  have := h.2.2.2.2.2
  unfold smI at this
  omega
theorem cntN_congr (s30 : σ.1 30 = ρ.1 30) (h31 : ∀ l, σ.2 31 l = ρ.2 31 l) (h32 : ∀ l, σ.2 32 l = ρ.2 32 l) (x : Nat) (P : Int) : cntN σ x P = cntN ρ x P := by
  have e1 : ltN σ = ltN ρ := by unfold ltN; rw [s30]
  unfold cntN
  rw [e1]
  exact csu_congr _ (fun l _ => by unfold cntB; rw [h31, h32])
theorem lefB_congr {e : Nat} {P : Int} : ∀ n, (∀ k, k < n → σ.2 24 (600 * e + k) = ρ.2 24 (600 * e + k)) → lefB σ e P n = lefB ρ e P n := by
  intro n
  induction n with
  | zero => intro _; rfl
  | succ n ih =>
    intro H
    show (lefB σ e P n || decide (σ.2 24 (600 * e + n) = P)) = (lefB ρ e P n || decide (ρ.2 24 (600 * e + n) = P))
    rw [ih (fun k hk => H k (by omega)), H n (by omega)]
theorem wtV_congr {e : Nat} {P : Int} (h19 : σ.2 19 e = ρ.2 19 e) (h23 : σ.2 23 e = ρ.2 23 e) (h24 : ∀ k, k < (ρ.2 23 e).toNat → σ.2 24 (600 * e + k) = ρ.2 24 (600 * e + k)) : wtV σ e P = wtV ρ e P := by
  unfold wtV
  rw [h19, h23, lefB_congr _ h24]
theorem wtN_congr {e : Nat} (s30 : σ.1 30 = ρ.1 30) (h31 : ∀ l, σ.2 31 l = ρ.2 31 l) (h32 : ∀ l, σ.2 32 l = ρ.2 32 l) (h19 : σ.2 19 e = ρ.2 19 e) (h23 : σ.2 23 e = ρ.2 23 e) (h24 : ∀ k, k < (ρ.2 23 e).toNat → σ.2 24 (600 * e + k) = ρ.2 24 (600 * e + k)) : wtN σ e = wtN ρ e := by
  have e1 : ltN σ = ltN ρ := by unfold ltN; rw [s30]
  unfold wtN
  rw [e1]
  exact csu_congr _ (fun l _ => by unfold wtB; rw [h31, h32, wtV_congr h19 h23 h24])
theorem own_g (hI : Iv Y ρ) (g : Gr ρ σ) (s0 : σ.1 0 = ρ.1 0) (s1 : σ.1 1 = ρ.1 1) {e : Nat} (he : e < 12) (h14 : ρ.2 14 (e / 2) ≠ 0) (h15 : σ.2 15 e = ρ.2 15 e) : ownI σ e = ownI ρ e := by
  obtain ⟨s, q1, q2, q3⟩ := (hI.2.2.2.1.1 e he h14).1
  unfold ownI
  rw [s0, s1, h15, q1, Int.toNat_natCast, g.2 9 s (by decide) (by decide) q2]
-- a call that moves none of the numbers, things aside
theorem Qn.same {c : Nat} (h : Qn c ρ) (s30 : σ.1 30 = ρ.1 30) (a : ∀ k j, (k = 12 ∨ k = 14 ∨ (18 < k ∧ k < 25) ∨ k = 31 ∨ k = 32 ∨ k = 34) → σ.2 k j = ρ.2 k j) (ow : ∀ e, e < 12 → ρ.2 14 (e / 2) ≠ 0 → ownI σ e = ownI ρ e) (n : thN σ ≤ thN ρ + 14) : Qn (c + 1) σ := by
  obtain ⟨h1, h2, h3, h4, h5, h6⟩ := h
  have cn : ∀ x P, cntN σ x P = cntN ρ x P := cntN_congr s30 (fun l => a 31 l (by omega)) (fun l => a 32 l (by omega))
  refine ⟨fun e he => ?_, fun e he h14 => ?_, fun l x hl hx => ?_, fun e he => ?_, fun e he h14 => ?_, ?_⟩
  · rw [a 23 e (by omega), a 12 e (by omega)]
    have := h1 e he
    omega
  · rw [a 14 _ (by omega)] at h14
    rw [a 20 e (by omega), ow e he h14, cn]
    exact h2 e he h14
  · rw [a 31 l (by omega)] at hx
    rw [s30] at hl
    rw [a 34 l (by omega), a 32 l (by omega), cn]
    exact h3 l x hl hx
  · rw [a 22 e (by omega), a 19 e (by omega), cn]
    exact h4 e he
  · rw [a 14 _ (by omega)] at h14
    rw [a 20 e (by omega), a 21 e (by omega), a 22 e (by omega)]
    exact h5 e he h14
  · have q : smI σ ≤ smI ρ := siu_congr 12 (fun e he => by
      unfold potI
      rw [a 12 e (by omega), a 22 e (by omega), wtN_congr s30 (fun l => a 31 l (by omega)) (fun l => a 32 l (by omega)) (a 19 e (by omega)) (a 23 e (by omega)) (fun k _ => a 24 _ (by omega))]
      exact Int.le_refl _)
    omega
theorem Qn.q {c : Nat} (h : Qn c ρ) (hI : Iv Y ρ) (s : ∀ k, k = 0 ∨ k = 1 ∨ k = 5 ∨ k = 30 → σ.1 k = ρ.1 k) (a : ∀ k j, (k = 9 ∨ k = 12 ∨ k = 14 ∨ k = 15 ∨ (18 < k ∧ k < 25) ∨ k = 31 ∨ k = 32 ∨ k = 34) → σ.2 k j = ρ.2 k j) : Qn (c + 1) σ :=
  h.same (s 30 (by omega)) (fun k j hk => a k j (by omega)) (fun e he h14 => by unfold ownI; rw [s 0 (by omega), s 1 (by omega), a 15 e (by omega), a 9 _ (by omega)]) (by rw [thN_congr (s 5 (by omega))]; omega)
theorem Qn.s42 {c : Nat} (h : Qn c ρ) (hI : Iv Y ρ) (v : Int) : Qn (c + 1) (ρ.setS 42 v) := h.q hI (fun k hk => RS.setS_ne (by omega)) (fun _ _ _ => rfl)
end
