/-! THINGS: what comes of what, in the class and in the reference -/
def cOfV (par : Nat → Bool) (k f w : Int) : Int := if k = 5 then (if par f.toNat then w else f) else if k = 2 ∧ f = -1 then w else f
def cWiV (par : Nat → Bool) (k f w : Int) : Int := if k = 5 then (if par f.toNat then f else w) else if k = 2 ∧ f = -1 then -1 else w
theorem cOf_V (par : Nat → Bool) (ρ : RS) (t : Nat) : cOf par ρ t = cOfV par (ρ.2 6 t) (ρ.2 7 t) (ρ.2 8 t) := rfl
theorem cWi_V (par : Nat → Bool) (ρ : RS) (t : Nat) : cWi par ρ t = cWiV par (ρ.2 6 t) (ρ.2 7 t) (ρ.2 8 t) := rfl
-- the forms that things have
def Kfm (par : Nat → Bool) (k f w : Int) : Prop := ((k = 0 ∨ k = 1) ∧ 0 ≤ f ∧ w = -1) ∨ (k = 2 ∧ -1 ≤ f ∧ 0 ≤ w) ∨ (k = 3 ∧ f = -1 ∧ w = -1) ∨ (k = 5 ∧ 0 ≤ f ∧ f < w ∧ par f.toNat ≠ par w.toNat)
def ThK (par : Nat → Bool) (ρ : RS) : Prop := ∀ t, t < thN ρ → Kfm par (ρ.2 6 t) (ρ.2 7 t) (ρ.2 8 t)
def UqT (ρ : RS) : Prop := ∀ s t, s < thN ρ → t < thN ρ → ρ.2 6 s ≠ 3 → ρ.2 6 s = ρ.2 6 t → ρ.2 7 s = ρ.2 7 t → ρ.2 8 s = ρ.2 8 t → s = t
theorem key_inj {par : Nat → Bool} {k f w f' w' : Int} (h : Kfm par k f w) (h' : Kfm par k f' w') (e1 : cOfV par k f w = cOfV par k f' w') (e2 : cWiV par k f w = cWiV par k f' w') : f = f' ∧ w = w' := by
  unfold cOfV at e1
  unfold cWiV at e2
  rcases h with ⟨h1, h2, h3⟩ | ⟨h1, h2, h3⟩ | ⟨h1, h2, h3⟩ | ⟨h1, h2, h3, h4⟩
  · rw [if_neg (by omega), if_neg (by omega), if_neg (by omega), if_neg (by omega)] at e1
    rw [if_neg (by omega), if_neg (by omega), if_neg (by omega), if_neg (by omega)] at e2
    exact ⟨e1, e2⟩
  · have h5 : 0 ≤ w' := by rcases h' with q | q | q | q <;> omega
    have hk5 : ¬ k = 5 := by omega
    simp only [if_neg hk5] at e1 e2
    by_cases c1 : f = -1
    · by_cases c2 : f' = -1
      · rw [if_pos ⟨h1, c1⟩, if_pos ⟨h1, c2⟩] at e1
        exact ⟨by omega, e1⟩
      · rw [if_pos ⟨h1, c1⟩, if_neg (fun q => c2 q.2)] at e2
        omega
    · by_cases c2 : f' = -1
      · rw [if_neg (fun q => c1 q.2), if_pos ⟨h1, c2⟩] at e2
        omega
      · rw [if_neg (fun q => c1 q.2), if_neg (fun q => c2 q.2)] at e1 e2
        exact ⟨e1, e2⟩
  · rw [if_neg (by omega), if_neg (by omega), if_neg (by omega), if_neg (by omega)] at e1
    rw [if_neg (by omega), if_neg (by omega), if_neg (by omega), if_neg (by omega)] at e2
    exact ⟨e1, e2⟩
  · obtain ⟨g2, g3, g4⟩ : 0 ≤ f' ∧ f' < w' ∧ par f'.toNat ≠ par w'.toNat := by
      rcases h' with q | q | q | q
      · omega
      · omega
      · omega
      · exact q.2
    rw [if_pos h1, if_pos h1] at e1 e2
    cases p1 : par f.toNat <;> cases p2 : par f'.toNat <;> rw [p1, p2] at e1 e2
    · exact ⟨e1, e2⟩
    · have a1 : f = w' := e1
      have a2 : w = f' := e2
      omega
    · have a1 : w = f' := e1
      have a2 : f = w' := e2
      omega
    · exact ⟨e2, e1⟩
theorem prC_cs (par : Nat → Bool) (ρ : RS) (x : Int) : ∀ n, (prC par ρ n x = -1 ∧ ∀ t, t < n → cOf par ρ t ≠ x) ∨ ∃ c : Nat, c < n ∧ prC par ρ n x = ↑c ∧ cOf par ρ c = x ∧ ∀ t, c < t → t < n → cOf par ρ t ≠ x := by
  intro n
  induction n with
  | zero => exact Or.inl ⟨rfl, fun t ht => absurd ht (by omega)⟩
  | succ n ih =>
    by_cases h : cOf par ρ n = x
    · have e1 : prC par ρ (n + 1) x = ↑n := if_pos h
      exact Or.inr ⟨n, Nat.lt_succ_self n, e1, h, fun t a b => absurd a (by omega)⟩
    · have e1 : prC par ρ (n + 1) x = prC par ρ n x := if_neg h
      rw [e1]
      rcases ih with ⟨q1, q2⟩ | ⟨c, q1, q2, q3, q4⟩
      · refine Or.inl ⟨q1, fun t ht => ?_⟩
        by_cases htn : t = n
        · rw [htn]; exact h
        · exact q2 t (by omega)
      · refine Or.inr ⟨c, by omega, q2, q3, fun t a b => ?_⟩
        by_cases htn : t = n
        · rw [htn]; exact h
        · exact q4 t a (by omega)
theorem fnd_cs (ρ : RS) (k a b : Int) : ∀ d t, (fndT ρ k a b d t = t + d ∧ ∀ s, t ≤ s → s < t + d → ¬ (ρ.2 6 s = k ∧ ρ.2 7 s = a ∧ ρ.2 8 s = b)) ∨ ∃ s, t ≤ s ∧ s < t + d ∧ fndT ρ k a b d t = s ∧ ρ.2 6 s = k ∧ ρ.2 7 s = a ∧ ρ.2 8 s = b := by
  intro d
  induction d with
  | zero => intro t; exact Or.inl ⟨rfl, fun s a b => absurd b (by omega)⟩
  | succ d ih =>
    intro t
    by_cases h : ρ.2 6 t = k ∧ ρ.2 7 t = a ∧ ρ.2 8 t = b
    · have e1 : fndT ρ k a b (d + 1) t = t := if_pos h
      exact Or.inr ⟨t, Nat.le_refl t, by omega, e1, h.1, h.2.1, h.2.2⟩
    · have e1 : fndT ρ k a b (d + 1) t = fndT ρ k a b d (t + 1) := if_neg h
      rw [e1]
      rcases ih (t + 1) with ⟨q1, q2⟩ | ⟨s, q1, q2, q3, q4⟩
      · refine Or.inl ⟨by omega, fun s a b => ?_⟩
        by_cases hst : s = t
        · rw [hst]; exact h
        · exact q2 s (by omega) (by omega)
      · exact Or.inr ⟨s, by omega, by omega, q3, q4⟩
theorem thI_no {ρ : RS} {k a b : Int} (h : ∀ s, s < thN ρ → ¬ (ρ.2 6 s = k ∧ ρ.2 7 s = a ∧ ρ.2 8 s = b)) : thI ρ k a b = thN ρ := by
  unfold thI
  split
  · rfl
  · rcases fnd_cs ρ k a b (thN ρ) 0 with ⟨q1, _⟩ | ⟨s, _, q2, _, q4⟩
    · rw [q1, Nat.zero_add]
    · exact absurd q4 (h s (by omega))
theorem thI_is {ρ : RS} {k a b : Int} (hU : UqT ρ) (hk : k ≠ 3) {c : Nat} (hc : c < thN ρ) (h : ρ.2 6 c = k ∧ ρ.2 7 c = a ∧ ρ.2 8 c = b) : thI ρ k a b = c := by
  unfold thI
  rw [if_neg hk]
  rcases fnd_cs ρ k a b (thN ρ) 0 with ⟨_, q2⟩ | ⟨s, _, q2, q3, q4⟩
  · exact absurd h (q2 c (by omega) (by omega))
  · rw [q3]
    exact hU s c (by omega) hc (by rw [q4.1]; exact hk) (by rw [q4.1, h.1]) (by rw [q4.2.1, h.2.1]) (by rw [q4.2.2, h.2.2])
-- the steps, as the class counts them
def snV (sh k co cw a b : Int) : Int := if sh ≠ 0 then 0 else if co = -1 then -1 else if cw = -1 then (if a = -1 then -1 else a + 1) else
  if k = 5 then (if (if a < b then b else a) = -1 then -1 else 1 + (if (if b < a then b else a) = -1 then (if a < b then b else a) else (if b < a then b else a))) else
  if (if b < a then b else a) = -1 then -1 else (if a < b then b else a) + 1
theorem sn_ss {par : Nat → Bool} {sc : Nat → Int} {ρ : RS} {t : Nat} (h : Kfm par (ρ.2 6 t) (ρ.2 7 t) (ρ.2 8 t)) (hf : -1 ≤ ssV sc (ρ.2 7 t)) (hw : -1 ≤ ssV sc (ρ.2 8 t)) : snV (ρ.2 10 t) (ρ.2 6 t) (cOf par ρ t) (cWi par ρ t) (ssV sc (cOf par ρ t)) (ssV sc (cWi par ρ t)) = ssT sc ρ t := by
  rw [cOf_V, cWi_V]
  unfold snV ssT stM
  by_cases hsh : ρ.2 10 t ≠ 0
  · rw [if_pos hsh, if_pos hsh]
  rw [if_neg hsh, if_neg hsh]
  rcases h with ⟨h1, h2, h3⟩ | ⟨h1, h2, h3⟩ | ⟨h1, h2, h3⟩ | ⟨h1, h2, h3, h4⟩
  · have e1 : cOfV par (ρ.2 6 t) (ρ.2 7 t) (ρ.2 8 t) = ρ.2 7 t := by unfold cOfV; rw [if_neg (by omega), if_neg (by omega)]
    have e2 : cWiV par (ρ.2 6 t) (ρ.2 7 t) (ρ.2 8 t) = -1 := by unfold cWiV; rw [if_neg (by omega), if_neg (by omega), h3]
    rw [e1, e2, if_neg (by omega), if_pos rfl, if_neg (show ¬ ρ.2 6 t = 5 by omega), if_neg (show ¬ ρ.2 6 t = 2 by omega), if_neg (show ¬ ρ.2 6 t = 3 by omega)]
  · by_cases c1 : ρ.2 7 t = -1
    · have e1 : cOfV par (ρ.2 6 t) (ρ.2 7 t) (ρ.2 8 t) = ρ.2 8 t := by unfold cOfV; rw [if_neg (by omega), if_pos ⟨h1, c1⟩]
      have e2 : cWiV par (ρ.2 6 t) (ρ.2 7 t) (ρ.2 8 t) = -1 := by unfold cWiV; rw [if_neg (by omega), if_pos ⟨h1, c1⟩]
      rw [e1, e2, if_neg (by omega), if_pos rfl, if_neg (show ¬ ρ.2 6 t = 5 by omega), if_pos h1, if_pos c1]
    · have e1 : cOfV par (ρ.2 6 t) (ρ.2 7 t) (ρ.2 8 t) = ρ.2 7 t := by unfold cOfV; rw [if_neg (by omega), if_neg (fun q => c1 q.2)]
      have e2 : cWiV par (ρ.2 6 t) (ρ.2 7 t) (ρ.2 8 t) = ρ.2 8 t := by unfold cWiV; rw [if_neg (by omega), if_neg (fun q => c1 q.2)]
      rw [e1, e2, if_neg (by omega), if_neg (by omega), if_neg (show ¬ ρ.2 6 t = 5 by omega), if_neg (show ¬ ρ.2 6 t = 5 by omega), if_pos h1, if_neg c1]
      generalize ssV sc (ρ.2 7 t) = a at *
      generalize ssV sc (ρ.2 8 t) = b at *
      split <;> split <;> split <;> (try split) <;> (try split) <;> omega
  · have e1 : cOfV par (ρ.2 6 t) (ρ.2 7 t) (ρ.2 8 t) = -1 := by unfold cOfV; rw [if_neg (by omega), if_neg (by omega), h2]
    rw [e1, if_pos rfl, if_neg (show ¬ ρ.2 6 t = 5 by omega), if_neg (show ¬ ρ.2 6 t = 2 by omega), if_pos h1, if_pos rfl]
  · have hx : ∀ x y a b : Int, 0 ≤ x → 0 ≤ y → -1 ≤ a → -1 ≤ b → (if x = -1 then (-1 : Int) else if y = -1 then (if a = -1 then -1 else a + 1) else if (5 : Int) = 5 then (if (if a < b then b else a) = -1 then -1 else 1 + (if (if b < a then b else a) = -1 then (if a < b then b else a) else (if b < a then b else a))) else if (if b < a then b else a) = -1 then -1 else (if a < b then b else a) + 1) = if (if a = -1 then b else if b = -1 then a else if a < b then a else b) = -1 then -1 else (if a = -1 then b else if b = -1 then a else if a < b then a else b) + 1 := by
      intro x y a b hx hy ha hb
      rw [if_neg (show ¬ x = -1 by omega), if_neg (show ¬ y = -1 by omega), if_pos rfl]
      split <;> split <;> (try split) <;> (try split) <;> (try split) <;> (try split) <;> (try split) <;> omega
    rw [h1, if_pos rfl]
    cases p1 : par (ρ.2 7 t).toNat
    · have e1 : cOfV par 5 (ρ.2 7 t) (ρ.2 8 t) = ρ.2 7 t := by unfold cOfV; rw [if_pos rfl, p1]; rfl
      have e2 : cWiV par 5 (ρ.2 7 t) (ρ.2 8 t) = ρ.2 8 t := by unfold cWiV; rw [if_pos rfl, p1]; rfl
      rw [e1, e2]
      exact hx _ _ _ _ h2 (by omega) hf hw
    · have e1 : cOfV par 5 (ρ.2 7 t) (ρ.2 8 t) = ρ.2 8 t := by unfold cOfV; rw [if_pos rfl, p1]; rfl
      have e2 : cWiV par 5 (ρ.2 7 t) (ρ.2 8 t) = ρ.2 7 t := by unfold cWiV; rw [if_pos rfl, p1]; rfl
      rw [e1, e2]
      refine (hx (ρ.2 8 t) (ρ.2 7 t) _ _ (by omega) h2 hw hf).trans ?_
      show _ = if (if ssV sc (ρ.2 7 t) = -1 then ssV sc (ρ.2 8 t) else if ssV sc (ρ.2 8 t) = -1 then ssV sc (ρ.2 7 t) else if ssV sc (ρ.2 7 t) < ssV sc (ρ.2 8 t) then ssV sc (ρ.2 7 t) else ssV sc (ρ.2 8 t)) = -1 then -1 else (if ssV sc (ρ.2 7 t) = -1 then ssV sc (ρ.2 8 t) else if ssV sc (ρ.2 8 t) = -1 then ssV sc (ρ.2 7 t) else if ssV sc (ρ.2 7 t) < ssV sc (ρ.2 8 t) then ssV sc (ρ.2 7 t) else ssV sc (ρ.2 8 t)) + 1
      generalize ssV sc (ρ.2 7 t) = a at *
      generalize ssV sc (ρ.2 8 t) = b at *
      split <;> split <;> (try split) <;> (try split) <;> (try split) <;> (try split) <;> (try split) <;> omega
