/-! THE CLASS: an end's row and what it keeps: writes -/
theorem nx_comm (ρ : RS) (e n : Nat) : (ρ.sh1 13 (12 * e) (12 * e + n)).setA 12 e ↑n = nextR ρ e n := RS.ext (fun _ => rfl) (fun k j => by
  unfold nextR
  by_cases h : k = 13 ∧ 12 * e ≤ j ∧ j < 12 * e + n
  · show (if k = 12 ∧ j = e then (n : Int) else if k = 13 ∧ 12 * e ≤ j ∧ j < 12 * e + n then ρ.2 k (j + 1) else ρ.2 k j) = if k = 13 ∧ 12 * e ≤ j ∧ j < 12 * e + n then (ρ.setA 12 e n).2 k (j + 1) else (ρ.setA 12 e n).2 k j
    rw [if_neg (by omega), if_pos h, if_pos h, RS.setA_ne (by omega)]
  · show (if k = 12 ∧ j = e then (n : Int) else if k = 13 ∧ 12 * e ≤ j ∧ j < 12 * e + n then ρ.2 k (j + 1) else ρ.2 k j) = if k = 13 ∧ 12 * e ≤ j ∧ j < 12 * e + n then (ρ.setA 12 e n).2 k (j + 1) else (ρ.setA 12 e n).2 k j
    rw [if_neg h, if_neg h]
    rfl)
theorem dr_comm (ρ : RS) (e i n : Nat) : (ρ.sh4 (12 * e + i) (12 * e + n)).setA 25 e ↑n = dropR ρ e i n := RS.ext (fun _ => rfl) (fun k j => by
  unfold dropR
  by_cases h : (26 ≤ k ∧ k ≤ 29) ∧ 12 * e + i ≤ j ∧ j < 12 * e + n
  · show (if k = 25 ∧ j = e then (n : Int) else if (26 ≤ k ∧ k ≤ 29) ∧ 12 * e + i ≤ j ∧ j < 12 * e + n then ρ.2 k (j + 1) else ρ.2 k j) = if (26 ≤ k ∧ k ≤ 29) ∧ 12 * e + i ≤ j ∧ j < 12 * e + n then (ρ.setA 25 e n).2 k (j + 1) else (ρ.setA 25 e n).2 k j
    rw [if_neg (by omega), if_pos h, if_pos h, RS.setA_ne (by omega)]
  · show (if k = 25 ∧ j = e then (n : Int) else if (26 ≤ k ∧ k ≤ 29) ∧ 12 * e + i ≤ j ∧ j < 12 * e + n then ρ.2 k (j + 1) else ρ.2 k j) = if (26 ≤ k ∧ k ≤ 29) ∧ 12 * e + i ≤ j ∧ j < 12 * e + n then (ρ.setA 25 e n).2 k (j + 1) else (ρ.setA 25 e n).2 k j
    rw [if_neg h, if_neg h]
    rfl)
theorem KE.frL {X : Gh} {ρ : RS} {M M' : Mem} {cs : List Nat} (h : KE X ρ M) (hF : Fr cs M M') (c7 : 7 ∉ cs) (hl : M'.len = M.len) : KE X ρ M' := ⟨fun e he => Obj.fr (h.1 e he) hF c7, fun e he => by rw [hl]; exact h.2 e he⟩
section
variable {X : Gh} {ρ : RS} {M : Mem}
theorem Cl.row (h : Cl X ρ M) (e : Nat) (i : Nat) (hi : i < 12) (v : Int) (hb : ∀ e1 : Nat, (e1 : Int) < 2 * ρ.1 4 → ρ.2 12 e1 ≤ 12) : Cl X (ρ.setA 13 (12 * e + i) v) (M.putP (8, e) i (qx v)) := by
  obtain ⟨hA, hB, hC, hD, hE, hN, hG, hH, hI, hJ, hK, hL⟩ := h
  have hF : Fr [8] M (M.putP (8, e) i (qx v)) := Fr.pP 8 e (by decide)
  exact ⟨hA.fr hF (by decide), hB.fr hF (by decide), hC.fr hF (by decide) (by decide) (by decide) (by decide), hD.fr2 hF (by decide) rfl (fun _ => ⟨rfl, rfl, rfl, rfl, rfl⟩), hE.frL hF (by decide) rfl, hN.fr hF (by decide), fun e1 he1 => ⟨(hG e1 he1).1, fun i1 hi1 => by
    have hi1' : (i1 : Int) < ρ.2 12 e1 := hi1
    have h12 := hb e1 he1
    by_cases h1 : e1 = e ∧ i1 = i
    · obtain ⟨rfl, rfl⟩ := h1
      rw [RS.setA_eq]
      exact Mem.putP_eq
    · rw [RS.setA_ne (Or.inr (by omega)), Mem.putP_at (by
        by_cases h2 : e1 = e
        · exact Or.inr (fun q => h1 ⟨h2, q⟩)
        · exact Or.inl (rni h2))]
      exact (hG e1 he1).2 i1 hi1'⟩, hH.fr hF (by decide) (by decide), hI.fr hF (by decide), hJ.fr hF (by decide) (by decide) (by decide), hK.fr hF (by decide) (by decide) (by decide), hL.fr hF (by decide) (by decide)⟩
theorem Cl.rowJ (h : Cl X ρ M) (e : Nat) (i : Nat) (o : Option Role) (hi : ρ.2 12 e ≤ ↑i) : Cl X ρ (M.putP (8, e) i o) := by
  obtain ⟨hA, hB, hC, hD, hE, hN, hG, hH, hI, hJ, hK, hL⟩ := h
  have hF : Fr [8] M (M.putP (8, e) i o) := Fr.pP 8 e (by decide)
  exact ⟨hA.fr hF (by decide), hB.fr hF (by decide), hC.fr hF (by decide) (by decide) (by decide) (by decide), hD.fr2 hF (by decide) rfl (fun _ => ⟨rfl, rfl, rfl, rfl, rfl⟩), hE.frL hF (by decide) rfl, hN.fr hF (by decide), fun e1 he1 => ⟨(hG e1 he1).1, fun i1 hi1 => by
    rw [Mem.putP_at (by
        by_cases h2 : e1 = e
        · subst h2; exact Or.inr (by omega)
        · exact Or.inl (rni h2))]
    exact (hG e1 he1).2 i1 hi1⟩, hH.fr hF (by decide) (by decide), hI.fr hF (by decide), hJ.fr hF (by decide) (by decide) (by decide), hK.fr hF (by decide) (by decide) (by decide), hL.fr hF (by decide) (by decide)⟩
theorem Cl.kepJ (h : Cl X ρ M) (e : Nat) (i : Nat) (o : Option Role) (hi : ρ.2 25 e ≤ ↑i) : Cl X ρ (M.putP (9, e) i o) := by
  obtain ⟨hA, hB, hC, hD, hE, hN, hG, hH, hI, hJ, hK, hL⟩ := h
  have hF : Fr [9] M (M.putP (9, e) i o) := Fr.pP 9 e (by decide)
  exact ⟨hA.fr hF (by decide), hB.fr hF (by decide), hC.fr hF (by decide) (by decide) (by decide) (by decide), hD.fr2 hF (by decide) rfl (fun _ => ⟨rfl, rfl, rfl, rfl, rfl⟩), hE.frL hF (by decide) rfl, hN.fr hF (by decide), hG.fr hF (by decide), ⟨fun e1 he1 => ⟨(hH.1 e1 he1).1, fun i1 hi1 => by
    obtain ⟨n1, k1, q1, q2, q3, q4⟩ := (hH.1 e1 he1).2 i1 hi1
    refine ⟨n1, k1, ?_, q2, q3, Obj.fr q4 hF (show 19 ∉ [9] by decide)⟩
    rw [Mem.putP_at (by
        by_cases h2 : e1 = e
        · subst h2; exact Or.inr (by omega)
        · exact Or.inl (rni h2))]
    exact q1⟩, hH.2⟩, hI.fr hF (by decide), hJ.fr hF (by decide) (by decide) (by decide), hK.fr hF (by decide) (by decide) (by decide), hL.fr hF (by decide) (by decide)⟩
theorem Cl.kep (h : Cl X ρ M) (e i m kk : Nat) (hi : i < 12) (a b c : Int) (hkk : kk < thN ρ) (hm : Sk M m a b ↑kk c (ρ.2 9 kk)) (hb : ∀ e1 : Nat, (e1 : Int) < 2 * ρ.1 4 → ρ.2 25 e1 ≤ 12) : Cl X ((((ρ.setA 26 (12 * e + i) a).setA 27 (12 * e + i) b).setA 28 (12 * e + i) ↑kk).setA 29 (12 * e + i) c) (M.putP (9, e) i (some (19, m))) := by
  obtain ⟨hA, hB, hC, hD, hE, hN, hG, hH, hI, hJ, hK, hL⟩ := h
  have hF : Fr [9] M (M.putP (9, e) i (some (19, m))) := Fr.pP 9 e (by decide)
  exact ⟨hA.fr hF (by decide), hB.fr hF (by decide), hC.fr hF (by decide) (by decide) (by decide) (by decide), hD.fr2 hF (by decide) rfl (fun _ => ⟨rfl, rfl, rfl, rfl, rfl⟩), hE.frL hF (by decide) rfl, hN.fr hF (by decide), hG.fr hF (by decide), ⟨fun e1 he1 => ⟨(hH.1 e1 he1).1, fun i1 hi1 => by
    have hi1' : (i1 : Int) < ρ.2 25 e1 := hi1
    have h12 := hb e1 he1
    by_cases h1 : e1 = e ∧ i1 = i
    · obtain ⟨rfl, rfl⟩ := h1
      refine ⟨m, kk, Mem.putP_eq, ?_, hkk, ?_⟩
      · rw [RS.setA_ne (Or.inl (by decide)), RS.setA_eq]
      · rw [RS.setA_eq, RS.setA_ne (Or.inl (by decide)), RS.setA_ne (Or.inl (by decide)), RS.setA_ne (Or.inl (by decide)), RS.setA_eq, RS.setA_ne (Or.inl (by decide)), RS.setA_ne (Or.inl (by decide)), RS.setA_eq]
        exact Obj.fr hm hF (show 19 ∉ [9] by decide)
    · obtain ⟨n1, k1, q1, q2, q3, q4⟩ := (hH.1 e1 he1).2 i1 hi1'
      have hne : 12 * e1 + i1 ≠ 12 * e + i := by omega
      refine ⟨n1, k1, ?_, ?_, q3, ?_⟩
      · rw [Mem.putP_at (by
          by_cases h2 : e1 = e
          · exact Or.inr (fun q => h1 ⟨h2, q⟩)
          · exact Or.inl (rni h2))]
        exact q1
      · rw [RS.setA_ne (Or.inl (by decide)), RS.setA_ne (Or.inr hne), RS.setA_ne (Or.inl (by decide)), RS.setA_ne (Or.inl (by decide))]
        exact q2
      · skip
        have e26 : ((((ρ.setA 26 (12 * e + i) a).setA 27 (12 * e + i) b).setA 28 (12 * e + i) ↑kk).setA 29 (12 * e + i) c).2 26 (12 * e1 + i1) = ρ.2 26 (12 * e1 + i1) := by rw [RS.setA_ne (Or.inl (by decide)), RS.setA_ne (Or.inl (by decide)), RS.setA_ne (Or.inl (by decide)), RS.setA_ne (Or.inr hne)]
        have e27 : ((((ρ.setA 26 (12 * e + i) a).setA 27 (12 * e + i) b).setA 28 (12 * e + i) ↑kk).setA 29 (12 * e + i) c).2 27 (12 * e1 + i1) = ρ.2 27 (12 * e1 + i1) := by rw [RS.setA_ne (Or.inl (by decide)), RS.setA_ne (Or.inl (by decide)), RS.setA_ne (Or.inr hne), RS.setA_ne (Or.inl (by decide))]
        have e29 : ((((ρ.setA 26 (12 * e + i) a).setA 27 (12 * e + i) b).setA 28 (12 * e + i) ↑kk).setA 29 (12 * e + i) c).2 29 (12 * e1 + i1) = ρ.2 29 (12 * e1 + i1) := by rw [RS.setA_ne (Or.inr hne), RS.setA_ne (Or.inl (by decide)), RS.setA_ne (Or.inl (by decide)), RS.setA_ne (Or.inl (by decide))]
        have e9 : ((((ρ.setA 26 (12 * e + i) a).setA 27 (12 * e + i) b).setA 28 (12 * e + i) ↑kk).setA 29 (12 * e + i) c).2 9 k1 = ρ.2 9 k1 := by rw [RS.setA_ne (Or.inl (by decide)), RS.setA_ne (Or.inl (by decide)), RS.setA_ne (Or.inl (by decide)), RS.setA_ne (Or.inl (by decide))]
        rw [e26, e27, e29, e9]
        exact Obj.fr q4 hF (show 19 ∉ [9] by decide)⟩, hH.2⟩, hI.fr hF (by decide), hJ.fr hF (by decide) (by decide) (by decide), hK.fr hF (by decide) (by decide) (by decide), hL.fr hF (by decide) (by decide)⟩
end
