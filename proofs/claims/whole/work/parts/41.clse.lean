/-! THE CLASS: what a write does -/
theorem Bg.rf (M : Mem) : Bg 0 0 M M := ⟨Nat.le_refl _, Nat.le_refl _⟩
theorem Bg.le {c s c' s' : Nat} {M M' : Mem} (h : Bg c s M M') (hc : c ≤ c') (hs : s ≤ s') : Bg c' s' M M' := ⟨by have := h.1; omega, by have := h.2; omega⟩
theorem Bg.trans {c s c' s' : Nat} {M M1 M2 : Mem} (h : Bg c s M M1) (g : Bg c' s' M1 M2) : Bg (c + c') (s + s') M M2 := ⟨by have := h.1; have := g.1; omega, by have := h.2; have := g.2; omega⟩
theorem Bg.pI (M : Mem) (r : Role) (k : Nat) (v : Int) : Bg 0 0 M (M.putI r k v) := ⟨Nat.le_refl _, Nat.le_refl _⟩
theorem Bg.pP (M : Mem) (c i : Nat) (k : Nat) (o : Option Role) (h : c ≠ 4) : Bg 0 0 M (M.putP (c, i) k o) := ⟨Nat.le_refl _, by
  have e : capM (M.putP (c, i) k o) = capM M := by
    unfold capM
    rw [Mem.putP_at (Or.inl (rne (Ne.symm h)))]
    rfl
  rw [e]
  exact Nat.le_refl _⟩
theorem Bg.nw (M : Mem) (c i n cost : Nat) (h : c ≠ 4) (hfr : M.len (c, i) = none) : Bg 1 cost M (M.new (c, i) n cost) := ⟨by show M.rc ≤ (M.rc - 1) + 1; omega, by
  have e : capM M ≤ capM (M.new (c, i) n cost) := by
    unfold capM
    rw [Mem.new_P_ne (rne (Ne.symm h))]
    cases hP : M.P (4, 0) 1 with
    | none => exact Nat.le_refl _
    | some lr =>
      show (M.len lr).getD 0 ≤ ((M.new (c, i) n cost).len lr).getD 0
      by_cases hr : lr = (c, i)
      · rw [hr, Mem.new_len_eq]
        rw [hfr]
        exact Nat.zero_le _
      · rw [Mem.new_len_ne hr]
        exact Nat.le_refl _
  show M.rs + 4 * capM M ≤ (M.rs - cost) + 4 * capM (M.new (c, i) n cost) + cost
  omega⟩
theorem cOf_cg {par : Nat → Bool} {ρ ρ' : RS} {t : Nat} (h6 : ρ'.2 6 t = ρ.2 6 t) (h7 : ρ'.2 7 t = ρ.2 7 t) (h8 : ρ'.2 8 t = ρ.2 8 t) : cOf par ρ' t = cOf par ρ t := by
  unfold cOf
  rw [h6, h7, h8]
theorem cWi_cg {par : Nat → Bool} {ρ ρ' : RS} {t : Nat} (h6 : ρ'.2 6 t = ρ.2 6 t) (h7 : ρ'.2 7 t = ρ.2 7 t) (h8 : ρ'.2 8 t = ρ.2 8 t) : cWi par ρ' t = cWi par ρ t := by
  unfold cWi
  rw [h6, h7, h8]
theorem prC_cg {par : Nat → Bool} {ρ ρ' : RS} : ∀ (n : Nat) (x : Int), (∀ t, t < n → cOf par ρ' t = cOf par ρ t) → prC par ρ' n x = prC par ρ n x := by
  intro n
  induction n with
  | zero => intro x _; rfl
  | succ n ih =>
    intro x h
    show (if cOf par ρ' n = x then ↑n else prC par ρ' n x) = (if cOf par ρ n = x then ↑n else prC par ρ n x)
    rw [h n (Nat.lt_succ_self n), ih x (fun t ht => h t (by omega))]
theorem bsC_cg {par : Nat → Bool} {ρ ρ' : RS} {t : Nat} (h : ∀ s, s ≤ t → cOf par ρ' s = cOf par ρ s) : bsC par ρ' t = bsC par ρ t := by
  unfold bsC
  rw [h t (Nat.le_refl t), prC_cg t _ (fun s hs => h s (by omega))]
theorem KD.fr2 {X : Gh} {ρ ρ' : RS} {M M' : Mem} {cs : List Nat} (h : KD X ρ M) (hF : Fr cs M M') (c : 18 ∉ cs) (h5 : ρ'.1 5 = ρ.1 5) (hk : ∀ t, ρ'.2 6 t = ρ.2 6 t ∧ ρ'.2 7 t = ρ.2 7 t ∧ ρ'.2 8 t = ρ.2 8 t ∧ ρ'.2 9 t = ρ.2 9 t ∧ ρ'.2 10 t = ρ.2 10 t) : KD X ρ' M' := by
  have hn : thN ρ' = thN ρ := thN_congr h5
  have hc : ∀ t, cOf X.2.1 ρ' t = cOf X.2.1 ρ t := fun t => cOf_cg (hk t).1 (hk t).2.1 (hk t).2.2.1
  have hw : ∀ t, cWi X.2.1 ρ' t = cWi X.2.1 ρ t := fun t => cWi_cg (hk t).1 (hk t).2.1 (hk t).2.2.1
  refine ⟨fun t ht => ?_, fun t ht => (hF (18, t) c).1.trans (h.2 t (by omega))⟩
  have q := Obj.fr (h.1 t (by omega)) hF c
  have e1 : tL (fun k => ρ'.2 k t) (X.2.2.1 t) = tL (fun k => ρ.2 k t) (X.2.2.1 t) := by
    show [ρ'.2 6 t, ρ'.2 9 t, 0, 0, 0, 0, ρ'.2 10 t, X.2.2.1 t] = [ρ.2 6 t, ρ.2 9 t, 0, 0, 0, 0, ρ.2 10 t, X.2.2.1 t]
    rw [(hk t).1, (hk t).2.2.2.1, (hk t).2.2.2.2]
  rw [e1, hc t, hw t, hn, prC_cg (thN ρ) _ (fun s _ => hc s), bsC_cg (fun s _ => hc s)]
  exact q
theorem Rm.sub {C S c s c' s' : Nat} {M M' : Mem} (h : Rm C S M) (g : Bg c s M M') (hc : c + c' ≤ C) (hs : s + s' ≤ S) : Rm c' s' M' := ⟨by have := h.1; have := g.1; omega, by have := h.2; have := g.2; omega⟩
def CP (Y : (Nat → Bool) × (Nat → Bool)) (ρ : RS) (c s : Nat) (v : Option AVal) (M : Mem) (v' : Option AVal) (M' : Mem) : Prop := v' = v ∧ Cs Y ρ M' ∧ Fr CLs M M' ∧ Bg c s M M'
section
variable {X : Gh} {ρ : RS} {M : Mem}
theorem Cl.latest (h : Cl X ρ M) (v : Int) : Cl X (ρ.setS 42 v) (M.putI (1, 0) 10 v) := by
  obtain ⟨hA, hB, hC, hD, hE, hN, hG, hH, hI, hJ, hK, hL⟩ := h
  have hF : Fr [1] M (M.putI (1, 0) 10 v) := Fr.pI 1 0 (by decide)
  exact ⟨(Obj.putI hA (show _ < 11 by decide)).cg rfl rfl, hB.fr hF (by decide), hC.fr hF (by decide) (by decide) (by decide) (by decide), hD.fr2 hF (by decide) rfl (fun _ => ⟨rfl, rfl, rfl, rfl, rfl⟩), hE.fr hF (by decide) (by decide) (by decide) (by decide), hN.fr hF (by decide), hG.fr hF (by decide), hH.fr hF (by decide) (by decide), hI.fr hF (by decide), hJ.fr hF (by decide) (by decide) (by decide), hK.fr hF (by decide) (by decide) (by decide), hL.fr hF (by decide) (by decide)⟩
theorem Cl.most (h : Cl X ρ M) (v : Int) : Cl X (ρ.setS 2 v) (M.putI (1, 0) 8 v) := by
  obtain ⟨hA, hB, hC, hD, hE, hN, hG, hH, hI, hJ, hK, hL⟩ := h
  have hF : Fr [1] M (M.putI (1, 0) 8 v) := Fr.pI 1 0 (by decide)
  exact ⟨(Obj.putI hA (show _ < 11 by decide)).cg rfl rfl, hB.fr hF (by decide), hC.fr hF (by decide) (by decide) (by decide) (by decide), hD.fr2 hF (by decide) rfl (fun _ => ⟨rfl, rfl, rfl, rfl, rfl⟩), hE.fr hF (by decide) (by decide) (by decide) (by decide), hN.fr hF (by decide), hG.fr hF (by decide), hH.fr hF (by decide) (by decide), hI.fr hF (by decide), hJ.fr hF (by decide) (by decide) (by decide), hK.fr hF (by decide) (by decide) (by decide), hL.fr hF (by decide) (by decide)⟩
theorem Cl.life (h : Cl X ρ M) (v : Int) : Cl X (ρ.setS 3 v) (M.putI (1, 0) 9 v) := by
  obtain ⟨hA, hB, hC, hD, hE, hN, hG, hH, hI, hJ, hK, hL⟩ := h
  have hF : Fr [1] M (M.putI (1, 0) 9 v) := Fr.pI 1 0 (by decide)
  exact ⟨(Obj.putI hA (show _ < 11 by decide)).cg rfl rfl, hB.fr hF (by decide), hC.fr hF (by decide) (by decide) (by decide) (by decide), hD.fr2 hF (by decide) rfl (fun _ => ⟨rfl, rfl, rfl, rfl, rfl⟩), hE.fr hF (by decide) (by decide) (by decide) (by decide), hN.fr hF (by decide), hG.fr hF (by decide), hH.fr hF (by decide) (by decide), hI.fr hF (by decide), hJ.fr hF (by decide) (by decide) (by decide), hK.fr hF (by decide) (by decide) (by decide), hL.fr hF (by decide) (by decide)⟩
theorem Cl.mod (h : Cl X ρ M) (v : Int) : Cl X (ρ.setS 0 v) (M.putI (2, 0) 0 v) := by
  obtain ⟨hA, hB, hC, hD, hE, hN, hG, hH, hI, hJ, hK, hL⟩ := h
  have hF : Fr [2] M (M.putI (2, 0) 0 v) := Fr.pI 2 0 (by decide)
  exact ⟨hA.fr hF (by decide), (Obj.putI hB (show _ < 2 by decide)).cg rfl rfl, hC.fr hF (by decide) (by decide) (by decide) (by decide), hD.fr2 hF (by decide) rfl (fun _ => ⟨rfl, rfl, rfl, rfl, rfl⟩), hE.fr hF (by decide) (by decide) (by decide) (by decide), hN.fr hF (by decide), hG.fr hF (by decide), hH.fr hF (by decide) (by decide), hI.fr hF (by decide), hJ.fr hF (by decide) (by decide) (by decide), hK.fr hF (by decide) (by decide) (by decide), hL.fr hF (by decide) (by decide)⟩
theorem Cl.bas (h : Cl X ρ M) (v : Int) : Cl X (ρ.setS 1 v) (M.putI (2, 0) 1 v) := by
  obtain ⟨hA, hB, hC, hD, hE, hN, hG, hH, hI, hJ, hK, hL⟩ := h
  have hF : Fr [2] M (M.putI (2, 0) 1 v) := Fr.pI 2 0 (by decide)
  exact ⟨hA.fr hF (by decide), (Obj.putI hB (show _ < 2 by decide)).cg rfl rfl, hC.fr hF (by decide) (by decide) (by decide) (by decide), hD.fr2 hF (by decide) rfl (fun _ => ⟨rfl, rfl, rfl, rfl, rfl⟩), hE.fr hF (by decide) (by decide) (by decide) (by decide), hN.fr hF (by decide), hG.fr hF (by decide), hH.fr hF (by decide) (by decide), hI.fr hF (by decide), hJ.fr hF (by decide) (by decide) (by decide), hK.fr hF (by decide) (by decide) (by decide), hL.fr hF (by decide) (by decide)⟩
theorem KE.put {X : Gh} {ρ ρ' : RS} {M M' : Mem} {e0 : Nat} (h : KE X ρ M) (hp : ρ'.1 4 = ρ.1 4) (hF : Fx (7, e0) M M') (hx : ∀ e, e ≠ e0 → ∀ k, ρ'.2 k e = ρ.2 k e) (he0 : (e0 : Int) < 2 * ρ.1 4) (h0 : Obj M' (7, e0) (eL (X.1 e0) e0 (fun k => ρ'.2 k e0)) (eQ (X.1 e0) e0 (fun k => ρ'.2 k e0))) : KE X ρ' M' := by
  refine ⟨fun e he => ?_, fun e he => ?_⟩
  · rw [hp] at he
    by_cases hee : e = e0
    · subst hee; exact h0
    · have q := (h.1 e he).at (hF (7, e) (rni hee))
      rw [show (fun k => ρ'.2 k e) = (fun k => ρ.2 k e) from funext fun k => hx e hee k]
      exact q
  · rw [hp] at he
    obtain ⟨q1, q2, q3, q4⟩ := h.2 e he
    have h7 : M'.len (7, e) = none := by
      exact (hF (7, e) (rni (by omega))).1.trans q1
    exact ⟨h7, (hF (8, e) (rne (by decide))).1.trans q2, (hF (9, e) (rne (by decide))).1.trans q3, (hF (10, e) (rne (by decide))).1.trans q4⟩
theorem Cl.e19 (h : Cl X ρ M) (e : Nat) (he : (e : Int) < 2 * ρ.1 4) (hs : X.1 e = true) (v : Int) : Cl X (ρ.setA 19 e v) (M.putI (7, e) 8 v) := by
  obtain ⟨hA, hB, hC, hD, hE, hN, hG, hH, hI, hJ, hK, hL⟩ := h
  have hF : Fr [7] M (M.putI (7, e) 8 v) := Fr.pI 7 e (by decide)
  exact ⟨hA.fr hF (by decide), hB.fr hF (by decide), hC.fr hF (by decide) (by decide) (by decide) (by decide), hD.fr2 hF (by decide) rfl (fun _ => ⟨rfl, rfl, rfl, rfl, rfl⟩), KE.put hE rfl Fx.pI (fun e1 h1 k => RS.setA_ne (Or.inr h1)) he ((Obj.putI (hE.1 e he) (show 8 < 16 by decide)).cg ((by rw [hs]; exact (congrArg ((eL true e (fun j => ρ.2 j e)).set 8) (RS.setA_eq ρ 19 e v).symm).trans rfl)) rfl), hN.fr hF (by decide), hG.fr hF (by decide), hH.fr hF (by decide) (by decide), hI.fr hF (by decide), hJ.fr hF (by decide) (by decide) (by decide), hK.fr hF (by decide) (by decide) (by decide), hL.fr hF (by decide) (by decide)⟩
theorem Cl.e20 (h : Cl X ρ M) (e : Nat) (he : (e : Int) < 2 * ρ.1 4) (v : Int) : Cl X (ρ.setA 20 e v) (M.putI (7, e) 9 v) := by
  obtain ⟨hA, hB, hC, hD, hE, hN, hG, hH, hI, hJ, hK, hL⟩ := h
  have hF : Fr [7] M (M.putI (7, e) 9 v) := Fr.pI 7 e (by decide)
  exact ⟨hA.fr hF (by decide), hB.fr hF (by decide), hC.fr hF (by decide) (by decide) (by decide) (by decide), hD.fr2 hF (by decide) rfl (fun _ => ⟨rfl, rfl, rfl, rfl, rfl⟩), KE.put hE rfl Fx.pI (fun e1 h1 k => RS.setA_ne (Or.inr h1)) he ((Obj.putI (hE.1 e he) (show 9 < 16 by decide)).cg ((congrArg ((eL _ e (fun j => ρ.2 j e)).set 9) (RS.setA_eq ρ 20 e v).symm).trans rfl) rfl), hN.fr hF (by decide), hG.fr hF (by decide), hH.fr hF (by decide) (by decide), hI.fr hF (by decide), hJ.fr hF (by decide) (by decide) (by decide), hK.fr hF (by decide) (by decide) (by decide), hL.fr hF (by decide) (by decide)⟩
theorem Cl.e21 (h : Cl X ρ M) (e : Nat) (he : (e : Int) < 2 * ρ.1 4) (v : Int) : Cl X (ρ.setA 21 e v) (M.putI (7, e) 10 v) := by
  obtain ⟨hA, hB, hC, hD, hE, hN, hG, hH, hI, hJ, hK, hL⟩ := h
  have hF : Fr [7] M (M.putI (7, e) 10 v) := Fr.pI 7 e (by decide)
  exact ⟨hA.fr hF (by decide), hB.fr hF (by decide), hC.fr hF (by decide) (by decide) (by decide) (by decide), hD.fr2 hF (by decide) rfl (fun _ => ⟨rfl, rfl, rfl, rfl, rfl⟩), KE.put hE rfl Fx.pI (fun e1 h1 k => RS.setA_ne (Or.inr h1)) he ((Obj.putI (hE.1 e he) (show 10 < 16 by decide)).cg ((congrArg ((eL _ e (fun j => ρ.2 j e)).set 10) (RS.setA_eq ρ 21 e v).symm).trans rfl) rfl), hN.fr hF (by decide), hG.fr hF (by decide), hH.fr hF (by decide) (by decide), hI.fr hF (by decide), hJ.fr hF (by decide) (by decide) (by decide), hK.fr hF (by decide) (by decide) (by decide), hL.fr hF (by decide) (by decide)⟩
theorem Cl.e22 (h : Cl X ρ M) (e : Nat) (he : (e : Int) < 2 * ρ.1 4) (v : Int) : Cl X (ρ.setA 22 e v) (M.putI (7, e) 11 v) := by
  obtain ⟨hA, hB, hC, hD, hE, hN, hG, hH, hI, hJ, hK, hL⟩ := h
  have hF : Fr [7] M (M.putI (7, e) 11 v) := Fr.pI 7 e (by decide)
  exact ⟨hA.fr hF (by decide), hB.fr hF (by decide), hC.fr hF (by decide) (by decide) (by decide) (by decide), hD.fr2 hF (by decide) rfl (fun _ => ⟨rfl, rfl, rfl, rfl, rfl⟩), KE.put hE rfl Fx.pI (fun e1 h1 k => RS.setA_ne (Or.inr h1)) he ((Obj.putI (hE.1 e he) (show 11 < 16 by decide)).cg ((congrArg ((eL _ e (fun j => ρ.2 j e)).set 11) (RS.setA_eq ρ 22 e v).symm).trans rfl) rfl), hN.fr hF (by decide), hG.fr hF (by decide), hH.fr hF (by decide) (by decide), hI.fr hF (by decide), hJ.fr hF (by decide) (by decide) (by decide), hK.fr hF (by decide) (by decide) (by decide), hL.fr hF (by decide) (by decide)⟩
theorem Cl.e15 (h : Cl X ρ M) (e : Nat) (he : (e : Int) < 2 * ρ.1 4) (hs : X.1 e = true) (v : Int) : Cl X (ρ.setA 15 e v) (M.putP (7, e) 4 (qx v)) := by
  obtain ⟨hA, hB, hC, hD, hE, hN, hG, hH, hI, hJ, hK, hL⟩ := h
  have hF : Fr [7] M (M.putP (7, e) 4 (qx v)) := Fr.pP 7 e (by decide)
  exact ⟨hA.fr hF (by decide), hB.fr hF (by decide), hC.fr hF (by decide) (by decide) (by decide) (by decide), hD.fr2 hF (by decide) rfl (fun _ => ⟨rfl, rfl, rfl, rfl, rfl⟩), KE.put hE rfl Fx.pP (fun e1 h1 k => RS.setA_ne (Or.inr h1)) he ((Obj.putP (hE.1 e he) (show 4 < 16 by decide)).cg rfl ((by rw [hs]; exact (congrArg (fun z => (eQ true e (fun j => ρ.2 j e)).set 4 (qx z)) (RS.setA_eq ρ 15 e v).symm).trans rfl))), hN.fr hF (by decide), hG.fr hF (by decide), hH.fr hF (by decide) (by decide), hI.fr hF (by decide), hJ.fr hF (by decide) (by decide) (by decide), hK.fr hF (by decide) (by decide) (by decide), hL.fr hF (by decide) (by decide)⟩
theorem Cl.e16 (h : Cl X ρ M) (e : Nat) (he : (e : Int) < 2 * ρ.1 4) (hs : X.1 e = true) (v : Int) : Cl X (ρ.setA 16 e v) (M.putP (7, e) 5 (qx v)) := by
  obtain ⟨hA, hB, hC, hD, hE, hN, hG, hH, hI, hJ, hK, hL⟩ := h
  have hF : Fr [7] M (M.putP (7, e) 5 (qx v)) := Fr.pP 7 e (by decide)
  exact ⟨hA.fr hF (by decide), hB.fr hF (by decide), hC.fr hF (by decide) (by decide) (by decide) (by decide), hD.fr2 hF (by decide) rfl (fun _ => ⟨rfl, rfl, rfl, rfl, rfl⟩), KE.put hE rfl Fx.pP (fun e1 h1 k => RS.setA_ne (Or.inr h1)) he ((Obj.putP (hE.1 e he) (show 5 < 16 by decide)).cg rfl ((by rw [hs]; exact (congrArg (fun z => (eQ true e (fun j => ρ.2 j e)).set 5 (qx z)) (RS.setA_eq ρ 16 e v).symm).trans rfl))), hN.fr hF (by decide), hG.fr hF (by decide), hH.fr hF (by decide) (by decide), hI.fr hF (by decide), hJ.fr hF (by decide) (by decide) (by decide), hK.fr hF (by decide) (by decide) (by decide), hL.fr hF (by decide) (by decide)⟩
theorem Cl.e17 (h : Cl X ρ M) (e : Nat) (he : (e : Int) < 2 * ρ.1 4) (hs : X.1 e = true) (v : Int) : Cl X (ρ.setA 17 e v) (M.putP (7, e) 6 (qx v)) := by
  obtain ⟨hA, hB, hC, hD, hE, hN, hG, hH, hI, hJ, hK, hL⟩ := h
  have hF : Fr [7] M (M.putP (7, e) 6 (qx v)) := Fr.pP 7 e (by decide)
  exact ⟨hA.fr hF (by decide), hB.fr hF (by decide), hC.fr hF (by decide) (by decide) (by decide) (by decide), hD.fr2 hF (by decide) rfl (fun _ => ⟨rfl, rfl, rfl, rfl, rfl⟩), KE.put hE rfl Fx.pP (fun e1 h1 k => RS.setA_ne (Or.inr h1)) he ((Obj.putP (hE.1 e he) (show 6 < 16 by decide)).cg rfl ((by rw [hs]; exact (congrArg (fun z => (eQ true e (fun j => ρ.2 j e)).set 6 (qx z)) (RS.setA_eq ρ 17 e v).symm).trans rfl))), hN.fr hF (by decide), hG.fr hF (by decide), hH.fr hF (by decide) (by decide), hI.fr hF (by decide), hJ.fr hF (by decide) (by decide) (by decide), hK.fr hF (by decide) (by decide) (by decide), hL.fr hF (by decide) (by decide)⟩
theorem Cl.e18 (h : Cl X ρ M) (e : Nat) (he : (e : Int) < 2 * ρ.1 4) (hs : X.1 e = true) (v : Int) : Cl X (ρ.setA 18 e v) (M.putP (7, e) 7 (qx v)) := by
  obtain ⟨hA, hB, hC, hD, hE, hN, hG, hH, hI, hJ, hK, hL⟩ := h
  have hF : Fr [7] M (M.putP (7, e) 7 (qx v)) := Fr.pP 7 e (by decide)
  exact ⟨hA.fr hF (by decide), hB.fr hF (by decide), hC.fr hF (by decide) (by decide) (by decide) (by decide), hD.fr2 hF (by decide) rfl (fun _ => ⟨rfl, rfl, rfl, rfl, rfl⟩), KE.put hE rfl Fx.pP (fun e1 h1 k => RS.setA_ne (Or.inr h1)) he ((Obj.putP (hE.1 e he) (show 7 < 16 by decide)).cg rfl ((by rw [hs]; exact (congrArg (fun z => (eQ true e (fun j => ρ.2 j e)).set 7 (qx z)) (RS.setA_eq ρ 18 e v).symm).trans rfl))), hN.fr hF (by decide), hG.fr hF (by decide), hH.fr hF (by decide) (by decide), hI.fr hF (by decide), hJ.fr hF (by decide) (by decide) (by decide), hK.fr hF (by decide) (by decide) (by decide), hL.fr hF (by decide) (by decide)⟩
theorem Cl.e12 (h : Cl X ρ M) (e : Nat) (he : (e : Int) < 2 * ρ.1 4) (v : Int) (hc : ∀ i : Nat, (i : Int) < v → M.P (8, e) i = qx (ρ.2 13 (12 * e + i))) : Cl X (ρ.setA 12 e v) (M.putI (7, e) 2 v) := by
  obtain ⟨hA, hB, hC, hD, hE, hN, hG, hH, hI, hJ, hK, hL⟩ := h
  have hF : Fr [7] M (M.putI (7, e) 2 v) := Fr.pI 7 e (by decide)
  exact ⟨hA.fr hF (by decide), hB.fr hF (by decide), hC.fr hF (by decide) (by decide) (by decide) (by decide), hD.fr2 hF (by decide) rfl (fun _ => ⟨rfl, rfl, rfl, rfl, rfl⟩), KE.put hE rfl Fx.pI (fun e1 h1 k => RS.setA_ne (Or.inr h1)) he ((Obj.putI (hE.1 e he) (show 2 < 16 by decide)).cg ((congrArg ((eL _ e (fun j => ρ.2 j e)).set 2) (RS.setA_eq ρ 12 e v).symm).trans rfl) rfl), hN.fr hF (by decide), (fun e1 he1 => ⟨(hG e1 he1).1, fun i hi => by
    by_cases h1 : e1 = e
    · subst h1
      rw [RS.setA_eq] at hi
      exact hc i hi
    · rw [RS.setA_ne (Or.inr h1)] at hi
      exact (hG e1 he1).2 i hi⟩), hH.fr hF (by decide) (by decide), hI.fr hF (by decide), hJ.fr hF (by decide) (by decide) (by decide), hK.fr hF (by decide) (by decide) (by decide), hL.fr hF (by decide) (by decide)⟩
theorem Cl.e23 (h : Cl X ρ M) (e : Nat) (he : (e : Int) < 2 * ρ.1 4) (v : Int) (hc : ∀ i : Nat, (i : Int) < v → M.I (10, e) i = ρ.2 24 (600 * e + i)) : Cl X (ρ.setA 23 e v) (M.putI (7, e) 15 v) := by
  obtain ⟨hA, hB, hC, hD, hE, hN, hG, hH, hI, hJ, hK, hL⟩ := h
  have hF : Fr [7] M (M.putI (7, e) 15 v) := Fr.pI 7 e (by decide)
  exact ⟨hA.fr hF (by decide), hB.fr hF (by decide), hC.fr hF (by decide) (by decide) (by decide) (by decide), hD.fr2 hF (by decide) rfl (fun _ => ⟨rfl, rfl, rfl, rfl, rfl⟩), KE.put hE rfl Fx.pI (fun e1 h1 k => RS.setA_ne (Or.inr h1)) he ((Obj.putI (hE.1 e he) (show 15 < 16 by decide)).cg ((congrArg ((eL _ e (fun j => ρ.2 j e)).set 15) (RS.setA_eq ρ 23 e v).symm).trans rfl) rfl), hN.fr hF (by decide), hG.fr hF (by decide), hH.fr hF (by decide) (by decide), (fun e1 he1 => ⟨(hI e1 he1).1, fun i hi => by
    by_cases h1 : e1 = e
    · subst h1
      rw [RS.setA_eq] at hi
      exact hc i hi
    · rw [RS.setA_ne (Or.inr h1)] at hi
      exact (hI e1 he1).2 i hi⟩), hJ.fr hF (by decide) (by decide) (by decide), hK.fr hF (by decide) (by decide) (by decide), hL.fr hF (by decide) (by decide)⟩
theorem Cl.e25 (h : Cl X ρ M) (e : Nat) (he : (e : Int) < 2 * ρ.1 4) (v : Int) (hc : ∀ i : Nat, (i : Int) < v → ∃ n k : Nat, M.P (9, e) i = some (19, n) ∧ ρ.2 28 (12 * e + i) = ↑k ∧ k < thN ρ ∧ Sk M n (ρ.2 26 (12 * e + i)) (ρ.2 27 (12 * e + i)) ↑k (ρ.2 29 (12 * e + i)) (ρ.2 9 k)) : Cl X (ρ.setA 25 e v) (M.putI (7, e) 13 v) := by
  obtain ⟨hA, hB, hC, hD, hE, hN, hG, hH, hI, hJ, hK, hL⟩ := h
  have hF : Fr [7] M (M.putI (7, e) 13 v) := Fr.pI 7 e (by decide)
  exact ⟨hA.fr hF (by decide), hB.fr hF (by decide), hC.fr hF (by decide) (by decide) (by decide) (by decide), hD.fr2 hF (by decide) rfl (fun _ => ⟨rfl, rfl, rfl, rfl, rfl⟩), KE.put hE rfl Fx.pI (fun e1 h1 k => RS.setA_ne (Or.inr h1)) he ((Obj.putI (hE.1 e he) (show 13 < 16 by decide)).cg ((congrArg ((eL _ e (fun j => ρ.2 j e)).set 13) (RS.setA_eq ρ 25 e v).symm).trans rfl) rfl), hN.fr hF (by decide), hG.fr hF (by decide), ⟨fun e1 he1 => ⟨(hH.1 e1 he1).1, fun i hi => by
    have hq : ∃ n k : Nat, M.P (9, e1) i = some (19, n) ∧ ρ.2 28 (12 * e1 + i) = ↑k ∧ k < thN ρ ∧ Sk M n (ρ.2 26 (12 * e1 + i)) (ρ.2 27 (12 * e1 + i)) ↑k (ρ.2 29 (12 * e1 + i)) (ρ.2 9 k) := by
      by_cases h1 : e1 = e
      · subst h1
        rw [RS.setA_eq] at hi
        exact hc i hi
      · rw [RS.setA_ne (Or.inr h1)] at hi
        exact (hH.1 e1 he1).2 i hi
    obtain ⟨n, k, q1, q2, q3, q4⟩ := hq
    exact ⟨n, k, q1, q2, q3, Obj.fr q4 hF (show 19 ∉ [7] by decide)⟩⟩, hH.2⟩, hI.fr hF (by decide), hJ.fr hF (by decide) (by decide) (by decide), hK.fr hF (by decide) (by decide) (by decide), hL.fr hF (by decide) (by decide)⟩
end
set_option maxRecDepth 100000 in
theorem c_heals {G : Ge} {M : Mem} {X : Gh} {ρ : RS} (hCl : Cl X ρ M) (p : Int) (p32 : -2147483648 ≤ p ∧ p < 2147483648) (hp : 0 ≤ ρ.1 4 ∧ ρ.1 4 ≤ 6) (hl : 0 ≤ ρ.1 30 ∧ ρ.1 30 ≤ 300) (hLt : LtOK ρ) (hSp : ∀ p : Nat, p < 6 → ρ.2 14 p ≠ 0 → (p : Int) < ρ.1 4) (hS : StpOK X.2.2.1 X.2.2.2 ρ) (N : Nat) (hT : ThOK ρ N) (hNb : N < 8000) : Ct G mi_X8_heals [vR ((1, 0)), vI p] M (fun v' M' => v' = some (vI (healsF ρ p).1) ∧ M' = M) := by
  refine Ct.of pl_X8_heals [some (vR ((1, 0))), some (vI p), none, none] rfl (Nat.le_of_ble_eq_true rfl) ?_
  obtain ⟨hA, hB, hC, hD, hE, hN, hG, hH, hI, hJ, hK, hL⟩ := id hCl
  refine S_aload_n dX8_heals_0 rfl ?_
  refine S_iload_n dX8_heals_1 rfl ?_
  by_cases hv : 0 ≤ p ∧ p < ρ.1 4
  · obtain ⟨y, rfl⟩ : ∃ y : Nat, p = ↑y := ⟨p.toNat, by omega⟩
    refine S_callV (mi := mi_X8_heals) [vI (↑y)] ok_X8_lowerOf ml_X8_93 dX8_heals_2 rfl (by decide) rfl (by decide) rfl (Nat.le_of_ble_eq_true rfl) rfl (c_lowerOf hCl hp y (by omega)) ?_
    rintro v' M1 ⟨rfl, hM1⟩
    rw [hM1]
    clear hM1
    refine S_ifnonnull 10 dX8_heals_5 (by decide) (fun c_5 => ?_) (fun c_5 => absurd c_5 (by simp))
    refine S_iconst dX8_heals_10 ?_
    refine S_istore_n dX8_heals_11 (by decide) ?_
    refine S_aload_n dX8_heals_12 rfl ?_
    refine S_getI (v := ρ.1 30) fl_X8_142 dX8_heals_13 rfl rfl (by rw [(show M.I (1, 0) 7 = ρ.1 30 from (show M.I (1, 0) 7 = ρ.1 30 from congrFun hA.2.1 7))]) ?_
    refine S_iconst dX8_heals_16 ?_
    refine S_isub dX8_heals_17 ?_
    refine S_istore_n dX8_heals_18 (by decide) ?_
    obtain ⟨d, hd⟩ : ∃ d : Nat, ρ.1 30 = ↑d := ⟨(ρ.1 30).toNat, by omega⟩
    have e9 : (healsF ρ ↑y).1 = hlF (knR ρ) ↑y d (-1) := by
      unfold healsF
      rw [hd]
      rfl
    rw [e9, hd]
    exact lp_heals hCl ↑y p32 hl hLt hS N hT hNb d (-1) (by omega) (by omega)
  · refine S_callV (mi := mi_X8_heals) [vI p] ok_X8_lowerOf ml_X8_93 dX8_heals_2 rfl (by decide) rfl (by decide) rfl (Nat.le_of_ble_eq_true rfl) rfl (c_lowerOfN hCl hp p p32 hv) ?_
    rintro v' M2 ⟨rfl, hM2⟩
    rw [hM2]
    clear hM2
    refine S_ifnonnull 10 dX8_heals_5 (by decide) (fun c_5 => absurd c_5 (by simp)) (fun c_5 => ?_)
    refine S_iconst dX8_heals_8 ?_
    exact S_iret dX8_heals_9 rfl (Or.inl rfl) (by
      have e9 : (healsF ρ p).1 = (-1 : Int) := hl_no _ _ (fun l hl9 => by
        obtain ⟨⟨x, hx1, hx2, hx3⟩, _⟩ := hLt l (by omega)
        rw [knR_at ρ 31 l (Or.inl (by decide)), hx1]
        have := hSp (x / 2) (by omega) hx3
        show ((x / 2 : Nat) : Int) ≠ p
        omega)
      rw [e9]
      exact ⟨rfl, rfl⟩)
