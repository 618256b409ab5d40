/-! THE REFERENCE: its fields as one state of numbers -/
def RS : Type := (Nat → Int) × (Nat → Nat → Int)
def RS.setS (ρ : RS) (k : Nat) (v : Int) : RS := (fun i => if i = k then v else ρ.1 i, ρ.2)
def RS.setA (ρ : RS) (k j : Nat) (v : Int) : RS := (ρ.1, fun k' j' => if k' = k ∧ j' = j then v else ρ.2 k' j')
def arC (k : Nat) : Nat := match k with
  | 10 => 32 | 14 => 32 | _ => 31
def rl (k : Nat) : Nat := match k with
  | 6 => 8000 | 7 => 8000 | 8 => 8000 | 9 => 8000 | 10 => 8000 | 11 => 8000 | 12 => 12 | 13 => 144 | 14 => 6 | 15 => 12 | 16 => 12 | 17 => 12 | 18 => 12 | 19 => 12 | 20 => 12 | 21 => 12 | 22 => 12 | 23 => 12
  | 24 => 7200 | 25 => 12 | 26 => 144 | 27 => 144 | 28 => 144 | 29 => 144 | 31 => 300 | 32 => 300 | 33 => 300 | 34 => 300 | 35 => 300 | 36 => 300 | 37 => 300 | 38 => 300 | 39 => 8 | 40 => 8 | 41 => 8 | 43 => 40 | _ => 0
def isArr (k : Nat) : Bool := decide (0 < rl k)
theorem rl_le (k : Nat) : rl k ≤ 8000 := by
  unfold rl; split <;> omega
def Rf (ρ : RS) (M : Mem) : Prop := M.len (30, 0) = some 0 ∧ (∀ k, M.I (30, 0) k = ρ.1 k) ∧ (∀ k j, M.I (arC k, k) j = ρ.2 k j) ∧ ∀ k, isArr k = true → M.P (30, 0) k = some (arC k, k) ∧ M.len (arC k, k) = some (rl k)
theorem Rf.s {ρ : RS} {M : Mem} (h : Rf ρ M) (k : Nat) : M.I (30, 0) k = ρ.1 k := h.2.1 k
theorem Rf.a {ρ : RS} {M : Mem} (h : Rf ρ M) (k j : Nat) : M.I (arC k, k) j = ρ.2 k j := h.2.2.1 k j
theorem Rf.p {ρ : RS} {M : Mem} (h : Rf ρ M) (k : Nat) (hk : isArr k = true) : M.P (30, 0) k = some (arC k, k) := (h.2.2.2 k hk).1
theorem Rf.n {ρ : RS} {M : Mem} (h : Rf ρ M) (k : Nat) (hk : isArr k = true) : M.len (arC k, k) = some (rl k) := (h.2.2.2 k hk).2
def SameR (M M' : Mem) : Prop := M'.len = M.len ∧ (∀ r : Role, r.1 ≠ 30 → r.1 ≠ 31 → r.1 ≠ 32 → M'.I r = M.I r) ∧ M'.P = M.P ∧ M'.rc = M.rc ∧ M'.rs = M.rs
theorem SameR.rf (M : Mem) : SameR M M := ⟨rfl, fun _ _ _ _ => rfl, rfl, rfl, rfl⟩
theorem SameR.trans {M M1 M2 : Mem} (h : SameR M M1) (h2 : SameR M1 M2) : SameR M M2 := ⟨h2.1.trans h.1, fun r a b c => (h2.2.1 r a b c).trans (h.2.1 r a b c), h2.2.2.1.trans h.2.2.1, h2.2.2.2.1.trans h.2.2.2.1, h2.2.2.2.2.trans h.2.2.2.2⟩
theorem arC_or (k : Nat) : arC k = 31 ∨ arC k = 32 := by
  unfold arC; split <;> simp
theorem Rf.setS {ρ : RS} {M : Mem} (h : Rf ρ M) (k : Nat) (v : Int) : Rf (ρ.setS k v) (M.putI (30, 0) k v) := by
  refine ⟨h.1, fun i => ?_, fun k' j => ?_, h.2.2.2⟩
  · show (if (30, 0) = ((30, 0) : Role) ∧ i = k then v else M.2.1 (30, 0) i) = if i = k then v else ρ.1 i
    by_cases hi : i = k
    · rw [if_pos ⟨rfl, hi⟩, if_pos hi]
    · rw [if_neg (fun q => hi q.2), if_neg hi]; exact h.s i
  · show (if (arC k', k') = ((30, 0) : Role) ∧ j = k then v else M.2.1 (arC k', k') j) = _
    rw [if_neg (fun q => by have := congrArg Prod.fst q.1; rcases arC_or k' with h1 | h1 <;> rw [h1] at this <;> cases this)]
    exact h.a k' j
theorem Rf.setA {ρ : RS} {M : Mem} (h : Rf ρ M) (k j : Nat) (v : Int) : Rf (ρ.setA k j v) (M.putI (arC k, k) j v) := by
  refine ⟨h.1, fun i => ?_, fun k' j' => ?_, h.2.2.2⟩
  · show (if ((30, 0) : Role) = (arC k, k) ∧ i = j then v else M.2.1 (30, 0) i) = ρ.1 i
    rw [if_neg (fun q => by have := congrArg Prod.fst q.1; rcases arC_or k with h1 | h1 <;> rw [h1] at this <;> cases this)]
    exact h.s i
  · show (if (arC k', k') = (arC k, k) ∧ j' = j then v else M.2.1 (arC k', k') j') = if k' = k ∧ j' = j then v else ρ.2 k' j'
    by_cases hk : k' = k ∧ j' = j
    · obtain ⟨rfl, rfl⟩ := hk
      rw [if_pos ⟨rfl, rfl⟩, if_pos ⟨rfl, rfl⟩]
    · rw [if_neg hk, if_neg (fun q => hk ⟨congrArg Prod.snd q.1, q.2⟩)]
      exact h.a k' j'
theorem SameR.put {M0 M : Mem} {r : Role} {k : Nat} {v : Int} (h : SameR M0 M) (hr : r.1 = 30 ∨ r.1 = 31 ∨ r.1 = 32) : SameR M0 (M.putI r k v) := by
  refine ⟨h.1, fun r' a b c => ?_, h.2.2⟩
  rw [← h.2.1 r' a b c]
  funext j
  exact if_neg (fun q => by rw [q.1] at a b c; omega)
def RC (G : Ge) (mi : Mi) (as : List AVal) (ρ : RS) (v : Option AVal) (ρ' : RS) : Prop := ∀ M, Rf ρ M → Ct G mi as M (fun v' M' => v' = v ∧ Rf ρ' M' ∧ SameR M M')
-- a question: 1 if P, 0 if not, nothing changed
def RB (G : Ge) (mi : Mi) (as : List AVal) (ρ : RS) (P : Prop) : Prop := ∀ M, Rf ρ M → Ct G mi as M (fun v' M' => (v' = some (vI 1) ∧ P ∨ v' = some (vI 0) ∧ ¬ P) ∧ Rf ρ M' ∧ SameR M M')
section
variable {G : Ge} {mi : Mi} {Q : Option AVal → Mem → Prop} {pc : Nat} {L : List (Option AVal)} {st : List AVal} {M M0 : Mem} {ρ : RS}
theorem R_put {idx k : Nat} {v : Int} (hl : Fl mi.1.cls idx 10 k) (hd : decode mi.2.1 pc = .ok (.putfield idx, 3)) (hf : fR 10 k = false) (hfin : (cT 10 k).2.2.2 = false) (ht : cTy 10 k = .int) (hR : Rf ρ M) (hS : SameR M0 M) (kk : ∀ M', Rf (ρ.setS k v) M' → SameR M0 M' → Sf G mi Q (pc + 3) L st M') : Sf G mi Q pc L (vI v :: vR (30, 0) :: st) M :=
  S_putI hl hd rfl hf hfin (Or.inl ht) (kk _ (hR.setS k v) (hS.put (Or.inl rfl)))
theorem R_ald {k : Nat} {i v : Int} (j : Nat) (hR : Rf ρ M) (hd : decode mi.2.1 pc = .ok (.iaload, 1)) (hk : arC k = 31) (ha : isArr k = true) (hj : i = (j : Int)) (hjn : j < rl k) (hv : ρ.2 k j = v) (kk : Sf G mi Q (pc + 1) L (vI v :: st) M) : Sf G mi Q pc L (vI i :: vR (arC k, k) :: st) M :=
  S_iald j hd (by show kd (arC k) = _; rw [hk]; rfl) (by show ro (arC k) = _; rw [hk]; rfl) (hR.n k ha) hj ⟨hjn, by have := rl_le k; omega⟩ ((hR.a k j).trans hv) kk
theorem R_bld {k : Nat} {i v : Int} (j : Nat) (hR : Rf ρ M) (hd : decode mi.2.1 pc = .ok (.baload, 1)) (hk : arC k = 32) (ha : isArr k = true) (hj : i = (j : Int)) (hjn : j < rl k) (hv : ρ.2 k j = v) (kk : Sf G mi Q (pc + 1) L (vI v :: st) M) : Sf G mi Q pc L (vI i :: vR (arC k, k) :: st) M :=
  S_bald j hd (by show kd (arC k) = _; rw [hk]; rfl) (by show ro (arC k) = _; rw [hk]; rfl) (hR.n k ha) hj ⟨hjn, by have := rl_le k; omega⟩ ((hR.a k j).trans hv) kk
theorem R_ast {k : Nat} {i v : Int} (j : Nat) (hd : decode mi.2.1 pc = .ok (.iastore, 1)) (hk : arC k = 31) (ha : isArr k = true) (hj : i = (j : Int)) (hjn : j < rl k) (hR : Rf ρ M) (hS : SameR M0 M) (kk : ∀ M', Rf (ρ.setA k j v) M' → SameR M0 M' → Sf G mi Q (pc + 1) L st M') : Sf G mi Q pc L (vI v :: vI i :: vR (arC k, k) :: st) M :=
  S_iast j hd (by show kd (arC k) = _; rw [hk]; rfl) (by show ro (arC k) = _; rw [hk]; rfl) (hR.n k ha) hj ⟨hjn, by have := rl_le k; omega⟩ (kk _ (hR.setA k j v) (hS.put (Or.inr (arC_or k))))
theorem R_bst {k : Nat} {i v : Int} (j : Nat) (hd : decode mi.2.1 pc = .ok (.bastore, 1)) (hk : arC k = 32) (ha : isArr k = true) (hj : i = (j : Int)) (hjn : j < rl k) (hz : v = 0 ∨ v = 1) (hR : Rf ρ M) (hS : SameR M0 M) (kk : ∀ M', Rf (ρ.setA k j v) M' → SameR M0 M' → Sf G mi Q (pc + 1) L st M') : Sf G mi Q pc L (vI v :: vI i :: vR (arC k, k) :: st) M :=
  S_bast j hd (by show kd (arC k) = _; rw [hk]; rfl) (by show ro (arC k) = _; rw [hk]; rfl) (hR.n k ha) hj ⟨hjn, by have := rl_le k; omega⟩ hz (kk _ (hR.setA k j v) (hS.put (Or.inr (arC_or k))))
end
theorem mul_bd {x y a b : Int} (hx : 0 ≤ x ∧ x ≤ a) (hy : 0 ≤ y ∧ y ≤ b) : 0 ≤ x * y ∧ x * y ≤ a * b := ⟨Int.mul_nonneg hx.1 hy.1, Int.mul_le_mul hx.2 hy.2 hy.1 (Int.le_trans hx.1 hx.2)⟩
theorem tmod_bd {x q : Int} (hx : 0 ≤ x) (hq : 0 < q) : 0 ≤ x.tmod q ∧ x.tmod q < q := ⟨Int.tmod_nonneg q hx, Int.tmod_lt_of_pos x hq⟩
