/-! THE CLASS: what a memory of the class says of the reference's numbers -/
def lk (l : List Int) (k : Nat) : Int := l.getD k 0
def lq (l : List (Option Role)) (k : Nat) : Option Role := l.getD k none
theorem lk_set (l : List Int) (k : Nat) (v : Int) (h : k < l.length) : (fun k' => if k' = k then v else lk l k') = lk (l.set k v) := funext fun k' => by
  unfold lk
  rw [List.getD_eq_getElem?_getD, List.getD_eq_getElem?_getD, List.getElem?_set]
  by_cases hk : k' = k
  · subst hk; rw [if_pos rfl, if_pos rfl, if_pos h]; rfl
  · rw [if_neg hk, if_neg (fun q => hk q.symm)]
theorem lq_set (l : List (Option Role)) (k : Nat) (v : Option Role) (h : k < l.length) : (fun k' => if k' = k then v else lq l k') = lq (l.set k v) := funext fun k' => by
  unfold lq
  rw [List.getD_eq_getElem?_getD, List.getD_eq_getElem?_getD, List.getElem?_set]
  by_cases hk : k' = k
  · subst hk; rw [if_pos rfl, if_pos rfl, if_pos h]; rfl
  · rw [if_neg hk, if_neg (fun q => hk q.symm)]
def Obj (M : Mem) (r : Role) (I : List Int) (P : List (Option Role)) : Prop := M.len r = some 0 ∧ M.I r = lk I ∧ M.P r = lq P
def SameAt (r : Role) (M M' : Mem) : Prop := M'.len r = M.len r ∧ M'.I r = M.I r ∧ M'.P r = M.P r
def Fx (r0 : Role) (M M' : Mem) : Prop := ∀ r, r ≠ r0 → SameAt r M M'
theorem Fx.fr {c i : Nat} {M M' : Mem} {cs : List Nat} (h : Fx (c, i) M M') (hc : c ∈ cs) : Fr cs M M' := fun r hr => h r (fun e => hr (by rw [e]; exact hc))
theorem Fx.pI {r : Role} {M : Mem} {k : Nat} {v : Int} : Fx r M (M.putI r k v) := fun r' h => ⟨rfl, funext fun k' => if_neg (fun q => h q.1), rfl⟩
theorem Fx.pP {r : Role} {M : Mem} {k : Nat} {o : Option Role} : Fx r M (M.putP r k o) := fun r' h => ⟨rfl, rfl, funext fun k' => if_neg (fun q => h q.1)⟩
theorem Fx.trans {r : Role} {M M1 M2 : Mem} (h : Fx r M M1) (g : Fx r M1 M2) : Fx r M M2 := fun r' hr => ⟨(g r' hr).1.trans (h r' hr).1, (g r' hr).2.1.trans (h r' hr).2.1, (g r' hr).2.2.trans (h r' hr).2.2⟩
theorem Fx.rf (r : Role) (M : Mem) : Fx r M M := fun _ _ => ⟨rfl, rfl, rfl⟩
section
variable {M M' : Mem} {r : Role} {I : List Int} {P : List (Option Role)}
theorem Obj.putI {k : Nat} {v : Int} (h : Obj M r I P) (hk : k < I.length) : Obj (M.putI r k v) r (I.set k v) P := ⟨h.1, by
  rw [← lk_set I k v hk, ← h.2.1]; funext k'; show (if r = r ∧ k' = k then v else M.2.1 r k') = _; simp only [true_and]; rfl, h.2.2⟩
theorem Obj.putP {k : Nat} {o : Option Role} (h : Obj M r I P) (hk : k < P.length) : Obj (M.putP r k o) r I (P.set k o) := ⟨h.1, h.2.1, by
  rw [← lq_set P k o hk, ← h.2.2]; funext k'; show (if r = r ∧ k' = k then o else M.2.2.1 r k') = _; simp only [true_and]; rfl⟩
theorem Obj.at (h : Obj M r I P) (hs : SameAt r M M') : Obj M' r I P := ⟨hs.1.trans h.1, hs.2.1.trans h.2.1, hs.2.2.trans h.2.2⟩
theorem Obj.fr {cs : List Nat} (h : Obj M r I P) (hs : Fr cs M M') (hr : r.1 ∉ cs) : Obj M' r I P := h.at (hs r hr)
theorem Obj.cg {I' : List Int} {P' : List (Option Role)} (h : Obj M r I P) (e1 : I = I') (e2 : P = P') : Obj M r I' P' := by subst e1; subst e2; exact h
theorem Obj.nw (M : Mem) (r : Role) (cost n m : Nat) : Obj (M.new r 0 cost) r (List.replicate n 0) (List.replicate m none) := ⟨if_pos rfl, by
  rw [new_I]; funext k; unfold lk; rw [List.getD_eq_getElem?_getD, List.getElem?_replicate]; split <;> rfl, by
  rw [new_P]; funext k; unfold lq; rw [List.getD_eq_getElem?_getD, List.getElem?_replicate]; split <;> rfl⟩
end
def qx (x : Int) : Option Role := if x = -1 then none else some (18, x.toNat)
theorem qx_nat (n : Nat) : qx ↑n = some (18, n) := if_neg (by omega)
theorem qx_no : qx (-1) = none := if_pos rfl
theorem qx_of {x : Int} {n : Nat} (h : x = ↑n) : qx x = some (18, n) := by rw [h]; exact qx_nat n
theorem qx_inj {x y : Int} (hx : -1 ≤ x) (hy : -1 ≤ y) : qx x = qx y ↔ x = y := by
  constructor
  · intro h
    unfold qx at h
    split at h <;> split at h
    · omega
    · cases h
    · cases h
    · have h2 : x.toNat = y.toNat := congrArg (fun o : Option Role => (o.getD (0, 0)).2) h
      omega
  · intro h; rw [h]
-- what the class alone knows: which ends have begun, whose the secrets are, the steps and how many things are known
def Gh : Type := (Nat → Bool) × (Nat → Bool) × (Nat → Int) × Int
def cOf (par : Nat → Bool) (ρ : RS) (t : Nat) : Int := if ρ.2 6 t = 5 then (if par (ρ.2 7 t).toNat then ρ.2 8 t else ρ.2 7 t) else if ρ.2 6 t = 2 ∧ ρ.2 7 t = -1 then ρ.2 8 t else ρ.2 7 t
def cWi (par : Nat → Bool) (ρ : RS) (t : Nat) : Int := if ρ.2 6 t = 5 then (if par (ρ.2 7 t).toNat then ρ.2 7 t else ρ.2 8 t) else if ρ.2 6 t = 2 ∧ ρ.2 7 t = -1 then -1 else ρ.2 8 t
def prC (par : Nat → Bool) (ρ : RS) : Nat → Int → Int
  | 0, _ => -1
  | n + 1, x => if cOf par ρ n = x then ↑n else prC par ρ n x
def tL (f : Nat → Int) (s : Int) : List Int := [f 6, f 9, 0, 0, 0, 0, f 10, s]
def tQ (o w x b : Option Role) : List (Option Role) := [none, none, o, w, x, b]
def bsC (par : Nat → Bool) (ρ : RS) (t : Nat) : Option Role := if cOf par ρ t = -1 then none else qx (prC par ρ t (cOf par ρ t))
def eL (b : Bool) (e : Nat) (f : Nat → Int) : List Int := [e, 0, f 12, if b then 1 else 0, 0, 0, 0, 0, if b then f 19 else -1, f 20, f 21, f 22, 0, f 25, 0, f 23]
def eQ (b : Bool) (e : Nat) (f : Nat → Int) : List (Option Role) := [none, some (8, e), none, none, if b then qx (f 15) else none, if b then qx (f 16) else none, if b then qx (f 17) else none, if b then qx (f 18) else none, none, none, none, none, some (9, e), none, some (10, e), none]
def lL (f : Nat → Int) : List Int := [f 31, 0, 0, 0, f 35, f 36]
def lQ (l : Nat) (f : Nat → Int) : List (Option Role) := [none, qx (f 38), qx (f 37), some (13, l)]
def Sk (M : Mem) (n : Nat) (fr p k t w : Int) : Prop := Obj M (19, n) [4, w, 0, 0, 0, 0, 0, -1, 0, fr, p, t] [none, none, qx k, none, none, none, none, none, qx k]
def pQ : List (Option Role) := [some (2, 0), some (3, 0), some (6, 0), some (11, 0), some (14, 0), some (16, 0)]
def KA (ρ : RS) (M : Mem) : Prop := Obj M (1, 0) [0, 0, 0, 0, 0, 0, 2 * ρ.1 4, ρ.1 30, ρ.1 2, ρ.1 3, ρ.1 42] pQ
def KB (ρ : RS) (M : Mem) : Prop := Obj M (2, 0) [ρ.1 0, ρ.1 1] []
def KC (X : Gh) (ρ : RS) (M : Mem) : Prop := Obj M (3, 0) [0, 0, X.2.2.2] [some (2, 0), some (4, 0)] ∧ Ls (thN ρ) M ∧ M.len (20, 0) = some 0
def KD (X : Gh) (ρ : RS) (M : Mem) : Prop := (∀ t, t < thN ρ → Obj M (18, t) (tL (fun k => ρ.2 k t) (X.2.2.1 t)) (tQ (qx (cOf X.2.1 ρ t)) (qx (cWi X.2.1 ρ t)) (qx (prC X.2.1 ρ (thN ρ) ↑t)) (bsC X.2.1 ρ t))) ∧ ∀ t, thN ρ ≤ t → M.len (18, t) = none
def KE (X : Gh) (ρ : RS) (M : Mem) : Prop := (∀ e : Nat, (e : Int) < 2 * ρ.1 4 → Obj M (7, e) (eL (X.1 e) e (fun k => ρ.2 k e)) (eQ (X.1 e) e (fun k => ρ.2 k e))) ∧ ∀ e : Nat, 2 * ρ.1 4 ≤ (e : Int) → M.len (7, e) = none ∧ M.len (8, e) = none ∧ M.len (9, e) = none ∧ M.len (10, e) = none
def KN (ρ : RS) (M : Mem) : Prop := M.len (6, 0) = some 12 ∧ ∀ e : Nat, (e : Int) < 2 * ρ.1 4 → M.P (6, 0) e = some (7, e)
def KG (ρ : RS) (M : Mem) : Prop := ∀ e : Nat, (e : Int) < 2 * ρ.1 4 → M.len (8, e) = some 12 ∧ ∀ i : Nat, (i : Int) < ρ.2 12 e → M.P (8, e) i = qx (ρ.2 13 (12 * e + i))
def KH (ρ : RS) (M : Mem) : Prop := (∀ e : Nat, (e : Int) < 2 * ρ.1 4 → M.len (9, e) = some 12 ∧ ∀ i : Nat, (i : Int) < ρ.2 25 e → ∃ n k : Nat, M.P (9, e) i = some (19, n) ∧ ρ.2 28 (12 * e + i) = ↑k ∧ k < thN ρ ∧ Sk M n (ρ.2 26 (12 * e + i)) (ρ.2 27 (12 * e + i)) ↑k (ρ.2 29 (12 * e + i)) (ρ.2 9 k)) ∧ ∃ ns, ∀ n, ns ≤ n → M.len (19, n) = none
def KI (ρ : RS) (M : Mem) : Prop := ∀ e : Nat, (e : Int) < 2 * ρ.1 4 → M.len (10, e) = some 300 ∧ ∀ k : Nat, (k : Int) < ρ.2 23 e → M.I (10, e) k = ρ.2 24 (600 * e + k)
def KJ (ρ : RS) (M : Mem) : Prop := M.len (11, 0) = some 300 ∧ (∀ l : Nat, (l : Int) < ρ.1 30 → M.P (11, 0) l = some (12, l) ∧ Obj M (12, l) (lL (fun k => ρ.2 k l)) (lQ l (fun k => ρ.2 k l)) ∧ M.len (13, l) = some 3 ∧ M.I (13, l) = lk [ρ.2 32 l, ρ.2 33 l, ρ.2 34 l]) ∧ ∀ l : Nat, ρ.1 30 ≤ (l : Int) → M.len (12, l) = none ∧ M.len (13, l) = none
def Tr (ρ : RS) (M : Mem) (i : Nat) (o1 o2 : Option Role) : Prop := (ρ.2 39 i = 0 ∧ o1 = none ∧ o2 = none) ∨ (ρ.2 39 i = 1 ∧ o1 = none ∧ ∃ l : Nat, o2 = some (12, l) ∧ ρ.2 40 i = ↑l ∧ (l : Int) < ρ.1 30) ∨ (ρ.2 39 i = 6 ∧ o2 = none ∧ ∃ n k : Nat, o1 = some (19, n) ∧ ρ.2 40 i = ↑k ∧ k < thN ρ ∧ ∃ fr p, Sk M n fr p ↑k (ρ.2 41 i) (ρ.2 9 k)) ∨ (o2 = none ∧ ∃ t : Nat, o1 = some (18, t) ∧ ρ.2 40 i = ↑t ∧ t < thN ρ ∧ ρ.2 39 i = 2 + ρ.2 6 t)
def KK (ρ : RS) (M : Mem) : Prop := M.len (14, 0) = some 8 ∧ ∀ i, i < 8 → M.P (14, 0) i = some (15, i) ∧ ∃ o1 o2, Obj M (15, i) [] [o1, o2] ∧ Tr ρ M i o1 o2
def KL (ρ : RS) (M : Mem) : Prop := Obj M (16, 0) [0, ρ.1 44] [some (17, 0)] ∧ M.len (17, 0) = some 40 ∧ ∀ i : Nat, (i : Int) < ρ.1 44 → M.I (17, 0) i = ρ.2 43 i
def Cl (X : Gh) (ρ : RS) (M : Mem) : Prop := KA ρ M ∧ KB ρ M ∧ KC X ρ M ∧ KD X ρ M ∧ KE X ρ M ∧ KN ρ M ∧ KG ρ M ∧ KH ρ M ∧ KI ρ M ∧ KJ ρ M ∧ KK ρ M ∧ KL ρ M
section
variable {X : Gh} {ρ : RS} {M M' : Mem} {cs : List Nat}
theorem Ls.fr {n : Nat} (h : Ls n M) (hF : Fr cs M M') (c4 : 4 ∉ cs) (c5 : 5 ∉ cs) (c20 : 20 ∉ cs) : Ls n M' := by
  obtain ⟨h1, h2, lr, cap, c, h3, h4, h5, h6, h7, h8, h9⟩ := h
  have hr : lr.1 ∉ cs := by
    rcases h5 with ⟨rfl, _⟩ | q
    · exact c20
    · rw [q.1]; exact c5
  exact ⟨(hF (4, 0) c4).1.trans h1, (hF.I (4, 0) c4).trans h2, lr, cap, c, (hF.P (4, 0) c4).trans h3, (hF lr hr).1.trans h4, h5, h6, h7, fun t ht => (hF.P lr hr).trans (h8 t ht), fun c' hc => (hF (5, c') c5).1.trans (h9 c' hc)⟩
theorem KA.fr (h : KA ρ M) (hF : Fr cs M M') (c : 1 ∉ cs) : KA ρ M' := Obj.fr h hF c
theorem KB.fr (h : KB ρ M) (hF : Fr cs M M') (c : 2 ∉ cs) : KB ρ M' := Obj.fr h hF c
theorem KC.fr (h : KC X ρ M) (hF : Fr cs M M') (c3 : 3 ∉ cs) (c4 : 4 ∉ cs) (c5 : 5 ∉ cs) (c20 : 20 ∉ cs) : KC X ρ M' := ⟨Obj.fr h.1 hF c3, h.2.1.fr hF c4 c5 c20, (hF (20, 0) c20).1.trans h.2.2⟩
theorem KD.fr (h : KD X ρ M) (hF : Fr cs M M') (c : 18 ∉ cs) : KD X ρ M' := ⟨fun t ht => Obj.fr (h.1 t ht) hF c, fun t ht => (hF (18, t) c).1.trans (h.2 t ht)⟩
theorem KE.fr (h : KE X ρ M) (hF : Fr cs M M') (c7 : 7 ∉ cs) (c8 : 8 ∉ cs) (c9 : 9 ∉ cs) (c10 : 10 ∉ cs) : KE X ρ M' := ⟨fun e he => Obj.fr (h.1 e he) hF c7, fun e he => ⟨(hF (7, e) c7).1.trans (h.2 e he).1, (hF (8, e) c8).1.trans (h.2 e he).2.1, (hF (9, e) c9).1.trans (h.2 e he).2.2.1, (hF (10, e) c10).1.trans (h.2 e he).2.2.2⟩⟩
theorem KN.fr (h : KN ρ M) (hF : Fr cs M M') (c : 6 ∉ cs) : KN ρ M' := ⟨(hF (6, 0) c).1.trans h.1, fun e he => (hF.P (6, 0) c).trans (h.2 e he)⟩
theorem KG.fr (h : KG ρ M) (hF : Fr cs M M') (c : 8 ∉ cs) : KG ρ M' := fun e he => ⟨(hF (8, e) c).1.trans (h e he).1, fun i hi => (hF.P (8, e) c).trans ((h e he).2 i hi)⟩
theorem KH.fr (h : KH ρ M) (hF : Fr cs M M') (c9 : 9 ∉ cs) (c19 : 19 ∉ cs) : KH ρ M' := ⟨fun e he => ⟨(hF (9, e) c9).1.trans (h.1 e he).1, fun i hi => by
  obtain ⟨n, k, q1, q2, q3, q4⟩ := (h.1 e he).2 i hi
  exact ⟨n, k, (hF.P (9, e) c9).trans q1, q2, q3, Obj.fr q4 hF c19⟩⟩, by
  obtain ⟨ns, q⟩ := h.2
  exact ⟨ns, fun n hn => (hF (19, n) c19).1.trans (q n hn)⟩⟩
theorem KI.fr (h : KI ρ M) (hF : Fr cs M M') (c : 10 ∉ cs) : KI ρ M' := fun e he => ⟨(hF (10, e) c).1.trans (h e he).1, fun k hk => (hF.I (10, e) c).trans ((h e he).2 k hk)⟩
theorem KJ.fr (h : KJ ρ M) (hF : Fr cs M M') (c11 : 11 ∉ cs) (c12 : 12 ∉ cs) (c13 : 13 ∉ cs) : KJ ρ M' := ⟨(hF (11, 0) c11).1.trans h.1, fun l hl => ⟨(hF.P (11, 0) c11).trans (h.2.1 l hl).1, Obj.fr (h.2.1 l hl).2.1 hF c12, (hF (13, l) c13).1.trans (h.2.1 l hl).2.2.1, (hF (13, l) c13).2.1.trans (h.2.1 l hl).2.2.2⟩, fun l hl => ⟨(hF (12, l) c12).1.trans (h.2.2 l hl).1, (hF (13, l) c13).1.trans (h.2.2 l hl).2⟩⟩
theorem Tr.fr {i : Nat} {o1 o2 : Option Role} (h : Tr ρ M i o1 o2) (hF : Fr cs M M') (c19 : 19 ∉ cs) : Tr ρ M' i o1 o2 := by
  rcases h with h | h | ⟨q1, q2, n, k, q3, q4, q5, a, p, q6⟩ | h
  · exact Or.inl h
  · exact Or.inr (Or.inl h)
  · exact Or.inr (Or.inr (Or.inl ⟨q1, q2, n, k, q3, q4, q5, a, p, Obj.fr q6 hF c19⟩))
  · exact Or.inr (Or.inr (Or.inr h))
theorem KK.fr (h : KK ρ M) (hF : Fr cs M M') (c14 : 14 ∉ cs) (c15 : 15 ∉ cs) (c19 : 19 ∉ cs) : KK ρ M' := ⟨(hF (14, 0) c14).1.trans h.1, fun i hi => by
  obtain ⟨q1, o1, o2, q2, q3⟩ := h.2 i hi
  exact ⟨(hF.P (14, 0) c14).trans q1, o1, o2, Obj.fr q2 hF c15, q3.fr hF c19⟩⟩
theorem KL.fr (h : KL ρ M) (hF : Fr cs M M') (c16 : 16 ∉ cs) (c17 : 17 ∉ cs) : KL ρ M' := ⟨Obj.fr h.1 hF c16, (hF (17, 0) c17).1.trans h.2.1, fun i hi => (hF.I (17, 0) c17).trans (h.2.2 i hi)⟩
end
def CLs : List Nat := [1, 2, 3, 4, 5, 6, 7, 8, 9, 10, 11, 12, 13, 14, 15, 16, 17, 18, 19]
def Bg (c s : Nat) (M M' : Mem) : Prop := M.rc ≤ M'.rc + c ∧ M.rs + 4 * capM M ≤ M'.rs + 4 * capM M' + s
def Rm (c s : Nat) (M : Mem) : Prop := c ≤ M.rc ∧ 50000 + s ≤ M.rs + 4 * capM M
-- the steps, by the steps of what a thing comes of
def ssV (sc : Nat → Int) (x : Int) : Int := if x = -1 then -1 else sc x.toNat
def ssT (sc : Nat → Int) (ρ : RS) (t : Nat) : Int := if ρ.2 10 t ≠ 0 then 0 else if stM (ρ.2 6 t) (ρ.2 7 t) (ssV sc (ρ.2 7 t)) (ssV sc (ρ.2 8 t)) = -1 then -1 else stM (ρ.2 6 t) (ρ.2 7 t) (ssV sc (ρ.2 7 t)) (ssV sc (ρ.2 8 t)) + 1
def ktS (sc : Nat → Int) : Nat → Int
  | 0 => 0
  | t + 1 => ktS sc t + (if sc t ≠ -1 then 1 else 0)
def StpOK (sc : Nat → Int) (kn : Int) (ρ : RS) : Prop := (∀ t, t < thN ρ → sc t = ssT sc ρ t) ∧ kn = ktS sc (thN ρ)
def Cs (Y : (Nat → Bool) × (Nat → Bool)) (ρ : RS) (M : Mem) : Prop := ∃ sc kn, StpOK sc kn ρ ∧ Cl (Y.1, Y.2, sc, kn) ρ M
def CC (G : Ge) (mi : Mi) (as : List AVal) (Y : (Nat → Bool) × (Nat → Bool)) (ρ : RS) (c s : Nat) (v : Option AVal) (Y' : (Nat → Bool) × (Nat → Bool)) (ρ' : RS) : Prop := ∀ M, Cs Y ρ M → Rm c s M → Ct G mi as M (fun v' M' => v' = v ∧ Cs Y' ρ' M' ∧ Fr CLs M M' ∧ Bg c s M M')
def CQ (G : Ge) (mi : Mi) (as : List AVal) (X : Gh) (ρ : RS) (v : Option AVal) : Prop := ∀ M, Cl X ρ M → Ct G mi as M (fun v' M' => v' = v ∧ M' = M)
