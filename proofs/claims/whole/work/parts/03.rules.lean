/-! THE RULES of locals, stack, arithmetic and branches -/
theorem jI_add (a b : Int) : jI a + jI b = jI (a + b) := (Int32.ofInt_add a b).symm
theorem jI_sub (a b : Int) : jI a - jI b = jI (a - b) := (Int32.ofInt_sub a b).symm
theorem jI_mul (a b : Int) : jI a * jI b = jI (a * b) := (Int32.ofInt_mul a b).symm
theorem jI_toInt {z : Int} (h : -2147483648 ≤ z ∧ z < 2147483648) : (jI z).toInt = z := Int32.toInt_ofInt_of_le h.1 h.2
theorem jI_of (x : Int32) : jI x.toInt = x := Int32.ofInt_toInt x
theorem jI_lt {a b : Int} (ha : -2147483648 ≤ a ∧ a < 2147483648) (hb : -2147483648 ≤ b ∧ b < 2147483648) : jI a < jI b ↔ a < b := by rw [Int32.lt_iff_toInt_lt, jI_toInt ha, jI_toInt hb]
theorem jI_le {a b : Int} (ha : -2147483648 ≤ a ∧ a < 2147483648) (hb : -2147483648 ≤ b ∧ b < 2147483648) : jI a ≤ jI b ↔ a ≤ b := by rw [Int32.le_iff_toInt_le, jI_toInt ha, jI_toInt hb]
theorem jI_eq {a b : Int} (ha : -2147483648 ≤ a ∧ a < 2147483648) (hb : -2147483648 ≤ b ∧ b < 2147483648) : jI a = jI b ↔ a = b := by rw [← Int32.toInt_inj, jI_toInt ha, jI_toInt hb]
theorem jI_r0 : (-2147483648 : Int) ≤ 0 ∧ (0 : Int) < 2147483648 := by decide
theorem jI_0 : jI 0 = 0 := rfl
theorem jI_div {a b : Int} (ha : -2147483648 ≤ a ∧ a < 2147483648) (hb : 0 < b ∧ b < 2147483648) : jI a / jI b = jI (a.tdiv b) := by
  have h1 : Int32.minValue.toInt = -2147483648 := by decide
  have h2 : Int32.maxValue.toInt = 2147483647 := by decide
  exact (Int32.ofInt_tdiv (a := a) (b := b) (by omega) (by omega) (by omega) (by omega)).symm
theorem jI_rem {a b : Int} (ha : -2147483648 ≤ a ∧ a < 2147483648) (hb : 0 < b ∧ b < 2147483648) : jI a - jI a / jI b * jI b = jI (a.tmod b) := by
  rw [jI_div ha hb, jI_mul, jI_sub, Int.tmod_def, Int.mul_comm]
theorem jI_ne0 {b : Int} (hb : -2147483648 ≤ b ∧ b < 2147483648) (h : b ≠ 0) : ¬ jI b = 0 := fun h0 => h ((jI_eq hb jI_r0).mp h0)
theorem conc_cat (A : Role → Nat) (v : AVal) : (conc A v).category = 1 := by
  rcases v with z | o
  · rfl
  · cases o <;> rfl
theorem okV_int (M : Mem) (z : Int) : okV M (vI z) := fun r h => by cases h
theorem okV_nul (M : Mem) : okV M vN := fun r h => by cases h
theorem Wf.push {M : Mem} {L : List (Option AVal)} {st : List AVal} {v : AVal} (h : Wf M L st) (hv : okV M v) : Wf M L (v :: st) := ⟨List.forall_mem_cons.mpr ⟨hv, h.1⟩, h.2⟩
theorem Wf.pushI {M : Mem} {L : List (Option AVal)} {st : List AVal} (z : Int) (h : Wf M L st) : Wf M L (vI z :: st) := h.push (okV_int M z)
theorem Wf.pop {M : Mem} {L : List (Option AVal)} {st : List AVal} {v : AVal} (h : Wf M L (v :: st)) : Wf M L st := ⟨fun w hw => h.1 w (List.mem_cons_of_mem _ hw), h.2⟩
theorem Wf.top {M : Mem} {L : List (Option AVal)} {st : List AVal} {v : AVal} (h : Wf M L (v :: st)) : okV M v := h.1 v List.mem_cons_self
theorem Wf.loc {M : Mem} {L : List (Option AVal)} {st : List AVal} {v : AVal} {i : Nat} (h : Wf M L st) (hL : L[i]? = some (some v)) : okV M v := h.2 v (List.mem_of_getElem? hL)
theorem Wf.sto {M : Mem} {L : List (Option AVal)} {st : List AVal} {v : AVal} {i : Nat} (h : Wf M L st) (hv : okV M v) : Wf M (L.set i (some v)) st := ⟨h.1, fun w hw => by
  rcases List.mem_or_eq_of_mem_set hw with h1 | h1
  · exact h.2 w h1
  · cases h1; exact hv⟩
theorem Cf.st {G : Ge} {mi : Mi} {L : List (Option AVal)} {st st' : List AVal} {M : Mem} {s : State} {H : Heap} {locs : List Loc} {ls : Array Slot} {rc0 rs0 cells slots : Nat} {A A0 : Role → Nat} {M0 : Mem} (h : Cf G mi L st M s H locs cells slots ls rc0 rs0 A A0 M0) (hw : Wf M L st → Wf M L st') : Cf G mi L st' M s H locs cells slots ls rc0 rs0 A A0 M0 :=
  ⟨h.1, h.2.1, h.2.2.1, h.2.2.2.1, hw h.2.2.2.2.1, h.2.2.2.2.2⟩
theorem Cf.loc {G : Ge} {mi : Mi} {L : List (Option AVal)} {st : List AVal} {M : Mem} {s : State} {H : Heap} {locs : List Loc} {ls : Array Slot} {rc0 rs0 cells slots : Nat} {A A0 : Role → Nat} {M0 : Mem} (h : Cf G mi L st M s H locs cells slots ls rc0 rs0 A A0 M0) {i : Nat} {v : AVal} (hL : L[i]? = some (some v)) : ls[i]? = some (.val (conc A v)) := h.2.2.2.1.2.2 i v hL
theorem Cf.wf {G : Ge} {mi : Mi} {L : List (Option AVal)} {st : List AVal} {M : Mem} {s : State} {H : Heap} {locs : List Loc} {ls : Array Slot} {rc0 rs0 cells slots : Nat} {A A0 : Role → Nat} {M0 : Mem} (h : Cf G mi L st M s H locs cells slots ls rc0 rs0 A A0 M0) : Wf M L st := h.2.2.2.2.1
-- the locals as the kit lists them
def lvL (A : Role → Nat) (L : List (Option AVal)) : List (Nat × Value) := (List.range L.length).filterMap fun j => match L[j]? with
  | some (some v) => some (j, conc A v)
  | _ => none
theorem lvL_mem {A : Role → Nat} {L : List (Option AVal)} {j : Nat} {w : Value} : (j, w) ∈ lvL A L ↔ ∃ v, L[j]? = some (some v) ∧ w = conc A v := by
  unfold lvL
  rw [List.mem_filterMap]
  constructor
  · rintro ⟨i, -, hi⟩
    split at hi
    · rename_i v hv
      cases hi
      exact ⟨v, hv, rfl⟩
    · cases hi
  · rintro ⟨v, hv, rfl⟩
    refine ⟨j, List.mem_range.mpr (List.getElem?_eq_some_iff.mp hv).1, ?_⟩
    simp [hv]
theorem Lok.has {A : Role → Nat} {ls : Array Slot} {nL : Nat} {L : List (Option AVal)} (h : Lok A ls nL L) : lv_has ls nL (lvL A L) := ⟨h.1, h.2.1, fun q hq => by
  obtain ⟨v, h1, h2⟩ := lvL_mem.mp (show (q.1, q.2) ∈ lvL A L from hq)
  rw [h2]
  exact h.2.2 _ _ h1⟩
theorem Lok.sto {A : Role → Nat} {ls : Array Slot} {nL i : Nat} {L : List (Option AVal)} {v : AVal} (h : lv_has ls nL ((i, conc A v) :: (lvL A L).filter (fun q => !(q.1 == i) && !(q.1 + 1 == i && q.2.category == 2)))) : Lok A ls nL (L.set i (some v)) := by
  refine ⟨h.1, h.2.1, fun j w hj => ?_⟩
  rw [List.getElem?_set] at hj
  by_cases hij : i = j
  · subst hij
    rw [if_pos rfl] at hj
    split at hj
    · cases hj
      exact h.2.2 (i, conc A v) List.mem_cons_self
    · cases hj
  · rw [if_neg hij] at hj
    refine h.2.2 (j, conc A w) (List.mem_cons_of_mem _ (List.mem_filter.mpr ⟨lvL_mem.mpr ⟨w, hj, rfl⟩, ?_⟩))
    have h1 : ¬ j = i := fun e => hij e.symm
    have h2 := conc_cat A w
    simp [h1, h2]
theorem Cf.sto {G : Ge} {mi : Mi} {L : List (Option AVal)} {st st' : List AVal} {M : Mem} {s : State} {H : Heap} {locs : List Loc} {ls ls' : Array Slot} {rc0 rs0 i cells slots : Nat} {v : AVal} {A A0 : Role → Nat} {M0 : Mem} (h : Cf G mi L st M s H locs cells slots ls rc0 rs0 A A0 M0) (hl : lv_has ls' mi.2.2.1 ((i, conc A v) :: (lvL A L).filter (fun q => !(q.1 == i) && !(q.1 + 1 == i && q.2.category == 2)))) (hw : Wf M L st → okV M v ∧ Wf M L st') : Cf G mi (L.set i (some v)) st' M s H locs cells slots ls' rc0 rs0 A A0 M0 :=
  ⟨h.1, h.2.1, h.2.2.1, Lok.sto hl, (hw h.2.2.2.2.1).2.sto (hw h.2.2.2.2.1).1, h.2.2.2.2.2⟩
section
variable {G : Ge} {mi : Mi} {Q : Option AVal → Mem → Prop} {pc : Nat} {L : List (Option AVal)} {st : List AVal} {M : Mem}
theorem S_iconst {n : Int} (hd : decode mi.2.1 pc = .ok (.iconst n, 1)) (k : Sf G mi Q (pc + 1) L (vI n :: st) M) : Sf G mi Q pc L (st) M := by
  intro p e R s m args below meth c H locs cells slots ls rc0 rs0 A A0 M0 hC hF
  exact lv_iconst hC.1 hC.2.1 hd rfl (k p e R s m args below meth c H locs cells slots ls rc0 rs0 A A0 M0 hC (hF.st (fun h => h.pushI n)))
theorem S_bipush {n : Int} (hd : decode mi.2.1 pc = .ok (.bipush n, 2)) (hn : (Int8.ofInt n).toInt32 = jI n) (k : Sf G mi Q (pc + 2) L (vI n :: st) M) : Sf G mi Q pc L (st) M := by
  intro p e R s m args below meth c H locs cells slots ls rc0 rs0 A A0 M0 hC hF
  exact lv_bipush hC.1 hC.2.1 hd hn (k p e R s m args below meth c H locs cells slots ls rc0 rs0 A A0 M0 hC (hF.st (fun h => h.pushI n)))
theorem S_sipush {n : Int} (hd : decode mi.2.1 pc = .ok (.sipush n, 3)) (hn : (Int16.ofInt n).toInt32 = jI n) (k : Sf G mi Q (pc + 3) L (vI n :: st) M) : Sf G mi Q pc L (st) M := by
  intro p e R s m args below meth c H locs cells slots ls rc0 rs0 A A0 M0 hC hF
  exact lv_sipush hC.1 hC.2.1 hd hn (k p e R s m args below meth c H locs cells slots ls rc0 rs0 A A0 M0 hC (hF.st (fun h => h.pushI n)))
theorem S_null  (hd : decode mi.2.1 pc = .ok (.aconst_null, 1)) (k : Sf G mi Q (pc + 1) L (vN :: st) M) : Sf G mi Q pc L (st) M := by
  intro p e R s m args below meth c H locs cells slots ls rc0 rs0 A A0 M0 hC hF
  exact lv_null hC.1 hC.2.1 hd (k p e R s m args below meth c H locs cells slots ls rc0 rs0 A A0 M0 hC (hF.st (fun h => h.push (okV_nul _))))
theorem S_iload_n {j : Fin 4} {x : Int} (hd : decode mi.2.1 pc = .ok (.iload_n j, 1)) (hL : L[(j : Nat)]? = some (some (vI x))) (k : Sf G mi Q (pc + 1) L (vI x :: st) M) : Sf G mi Q pc L (st) M := by
  intro p e R s m args below meth c H locs cells slots ls rc0 rs0 A A0 M0 hC hF
  exact lv_iload_n hC.1 hC.2.1 hd rfl (hF.loc hL) (k p e R s m args below meth c H locs cells slots ls rc0 rs0 A A0 M0 hC (hF.st (fun h => h.pushI x)))
theorem S_iload {j : Nat} {x : Int} (hd : decode mi.2.1 pc = .ok (.iload j, 2)) (hL : L[j]? = some (some (vI x))) (k : Sf G mi Q (pc + 2) L (vI x :: st) M) : Sf G mi Q pc L (st) M := by
  intro p e R s m args below meth c H locs cells slots ls rc0 rs0 A A0 M0 hC hF
  exact lv_iload hC.1 hC.2.1 hd (hF.loc hL) (k p e R s m args below meth c H locs cells slots ls rc0 rs0 A A0 M0 hC (hF.st (fun h => h.pushI x)))
theorem S_aload_n {j : Fin 4} {o : Option Role} (hd : decode mi.2.1 pc = .ok (.aload_n j, 1)) (hL : L[(j : Nat)]? = some (some (vQ o))) (k : Sf G mi Q (pc + 1) L (vQ o :: st) M) : Sf G mi Q pc L st M := by
  intro p e R s m args below meth c H locs cells slots ls rc0 rs0 A A0 M0 hC hF
  have k1 := k p e R s m args below meth c H locs cells slots ls rc0 rs0 A A0 M0 hC (hF.st (fun h => h.push (h.loc hL)))
  have h1 := hF.loc hL
  cases o with
  | none => exact lv_aload_nN hC.1 hC.2.1 hd rfl h1 k1
  | some r => exact lv_aload_n hC.1 hC.2.1 hd rfl h1 k1
theorem S_aload {j : Nat} {o : Option Role} (hd : decode mi.2.1 pc = .ok (.aload j, 2)) (hL : L[j]? = some (some (vQ o))) (k : Sf G mi Q (pc + 2) L (vQ o :: st) M) : Sf G mi Q pc L st M := by
  intro p e R s m args below meth c H locs cells slots ls rc0 rs0 A A0 M0 hC hF
  have k1 := k p e R s m args below meth c H locs cells slots ls rc0 rs0 A A0 M0 hC (hF.st (fun h => h.push (h.loc hL)))
  have h1 := hF.loc hL
  cases o with
  | none => exact lv_aloadN hC.1 hC.2.1 hd h1 k1
  | some r => exact lv_aload hC.1 hC.2.1 hd h1 k1
theorem S_istore_n {j : Fin 4} {x : Int} (hd : decode mi.2.1 pc = .ok (.istore_n j, 1)) (hn : (j : Nat) < mi.2.2.1) (k : Sf G mi Q (pc + 1) (L.set (j : Nat) (some (vI x))) st M) : Sf G mi Q pc L (vI x :: st) M := by
  intro p e R s m args below meth c H locs cells slots ls rc0 rs0 A A0 M0 hC hF
  exact lv_istore_n hC.1 hC.2.1 hd rfl hF.2.2.2.1.has hn rfl (fun ls' hl => k p e R s m args below meth c H locs cells slots ls' rc0 rs0 A A0 M0 hC (hF.sto (v := vI x) hl (fun h => ⟨okV_int _ _, h.pop⟩)))
theorem S_istore {j : Nat} {x : Int} (hd : decode mi.2.1 pc = .ok (.istore j, 2)) (hn : j < mi.2.2.1) (k : Sf G mi Q (pc + 2) (L.set j (some (vI x))) st M) : Sf G mi Q pc L (vI x :: st) M := by
  intro p e R s m args below meth c H locs cells slots ls rc0 rs0 A A0 M0 hC hF
  exact lv_istore hC.1 hC.2.1 hd hF.2.2.2.1.has hn rfl (fun ls' hl => k p e R s m args below meth c H locs cells slots ls' rc0 rs0 A A0 M0 hC (hF.sto (v := vI x) hl (fun h => ⟨okV_int _ _, h.pop⟩)))
theorem S_astore_n {j : Fin 4} {o : Option Role} (hd : decode mi.2.1 pc = .ok (.astore_n j, 1)) (hn : (j : Nat) < mi.2.2.1) (k : Sf G mi Q (pc + 1) (L.set (j : Nat) (some (vQ o))) st M) : Sf G mi Q pc L (vQ o :: st) M := by
  intro p e R s m args below meth c H locs cells slots ls rc0 rs0 A A0 M0 hC hF
  cases o with
  | none => exact lv_astore_nN hC.1 hC.2.1 hd rfl hF.2.2.2.1.has hn rfl (fun ls' hl => k p e R s m args below meth c H locs cells slots ls' rc0 rs0 A A0 M0 hC (hF.sto (v := vQ none) hl (fun h => ⟨h.top, h.pop⟩)))
  | some r => exact lv_astore_n hC.1 hC.2.1 hd rfl hF.2.2.2.1.has hn rfl (fun ls' hl => k p e R s m args below meth c H locs cells slots ls' rc0 rs0 A A0 M0 hC (hF.sto (v := vQ (some r)) hl (fun h => ⟨h.top, h.pop⟩)))
theorem S_astore {j : Nat} {o : Option Role} (hd : decode mi.2.1 pc = .ok (.astore j, 2)) (hn : j < mi.2.2.1) (k : Sf G mi Q (pc + 2) (L.set j (some (vQ o))) st M) : Sf G mi Q pc L (vQ o :: st) M := by
  intro p e R s m args below meth c H locs cells slots ls rc0 rs0 A A0 M0 hC hF
  cases o with
  | none => exact lv_astoreN hC.1 hC.2.1 hd hF.2.2.2.1.has hn rfl (fun ls' hl => k p e R s m args below meth c H locs cells slots ls' rc0 rs0 A A0 M0 hC (hF.sto (v := vQ none) hl (fun h => ⟨h.top, h.pop⟩)))
  | some r => exact lv_astore hC.1 hC.2.1 hd hF.2.2.2.1.has hn rfl (fun ls' hl => k p e R s m args below meth c H locs cells slots ls' rc0 rs0 A A0 M0 hC (hF.sto (v := vQ (some r)) hl (fun h => ⟨h.top, h.pop⟩)))
theorem S_iinc {j : Nat} {n x : Int} (hd : decode mi.2.1 pc = .ok (.iinc j n, 3)) (hL : L[j]? = some (some (vI x))) (hn : j < mi.2.2.1) (k : Sf G mi Q (pc + 3) (L.set j (some (vI (x + n)))) st M) : Sf G mi Q pc L st M := by
  intro p e R s m args below meth c H locs cells slots ls rc0 rs0 A A0 M0 hC hF
  obtain ⟨i, hi⟩ := List.getElem?_of_mem (lvL_mem.mpr ⟨vI x, hL, rfl⟩ : (j, conc A (vI x)) ∈ lvL A L)
  exact lv_iinc (v := jI (x + n)) hC.1 hC.2.1 hd hF.2.2.2.1.has (k := i) hi (jI_add x n) hn rfl (fun ls' hl => k p e R s m args below meth c H locs cells slots ls' rc0 rs0 A A0 M0 hC (hF.sto (v := vI (x + n)) hl (fun h => ⟨okV_int _ _, h⟩)))
theorem S_dup {v : AVal} (hd : decode mi.2.1 pc = .ok (.dup, 1)) (k : Sf G mi Q (pc + 1) L (v :: v :: st) M) : Sf G mi Q pc L (v :: st) M := by
  intro p e R s m args below meth c H locs cells slots ls rc0 rs0 A A0 M0 hC hF
  exact lv_dup hC.1 hC.2.1 hd (conc_cat _ _) (k p e R s m args below meth c H locs cells slots ls rc0 rs0 A A0 M0 hC (hF.st (fun h => h.push h.top)))
theorem S_dup_x1 {v u : AVal} (hd : decode mi.2.1 pc = .ok (.dup_x1, 1)) (k : Sf G mi Q (pc + 1) L (v :: u :: v :: st) M) : Sf G mi Q pc L (v :: u :: st) M := by
  intro p e R s m args below meth c H locs cells slots ls rc0 rs0 A A0 M0 hC hF
  exact lv_dup_x1 hC.1 hC.2.1 hd (conc_cat _ _) (conc_cat _ _) (k p e R s m args below meth c H locs cells slots ls rc0 rs0 A A0 M0 hC (hF.st (fun h => ((h.pop.pop.push h.top).push h.pop.top).push h.top)))
theorem S_dup2 {v u : AVal} (hd : decode mi.2.1 pc = .ok (.dup2, 1)) (k : Sf G mi Q (pc + 1) L (v :: u :: v :: u :: st) M) : Sf G mi Q pc L (v :: u :: st) M := by
  intro p e R s m args below meth c H locs cells slots ls rc0 rs0 A A0 M0 hC hF
  exact lv_dup2_11 hC.1 hC.2.1 hd (conc_cat _ _) (conc_cat _ _) (k p e R s m args below meth c H locs cells slots ls rc0 rs0 A A0 M0 hC (hF.st (fun h => (h.push h.pop.top).push h.top)))
theorem S_pop {v : AVal} (hd : decode mi.2.1 pc = .ok (.pop, 1)) (k : Sf G mi Q (pc + 1) L (st) M) : Sf G mi Q pc L (v :: st) M := by
  intro p e R s m args below meth c H locs cells slots ls rc0 rs0 A A0 M0 hC hF
  exact lv_pop hC.1 hC.2.1 hd (conc_cat _ _) (k p e R s m args below meth c H locs cells slots ls rc0 rs0 A A0 M0 hC (hF.st (fun h => h.pop)))
theorem S_iadd {x y : Int} (hd : decode mi.2.1 pc = .ok (.iadd, 1)) (k : Sf G mi Q (pc + 1) L (vI (x + y) :: st) M) : Sf G mi Q pc L (vI y :: vI x :: st) M := by
  intro p e R s m args below meth c H locs cells slots ls rc0 rs0 A A0 M0 hC hF
  exact lv_iadd hC.1 hC.2.1 hd (by rw [jI_add]; exact k p e R s m args below meth c H locs cells slots ls rc0 rs0 A A0 M0 hC (hF.st (fun h => h.pop.pop.pushI _)))
theorem S_isub {x y : Int} (hd : decode mi.2.1 pc = .ok (.isub, 1)) (k : Sf G mi Q (pc + 1) L (vI (x - y) :: st) M) : Sf G mi Q pc L (vI y :: vI x :: st) M := by
  intro p e R s m args below meth c H locs cells slots ls rc0 rs0 A A0 M0 hC hF
  exact lv_isub hC.1 hC.2.1 hd (by rw [jI_sub]; exact k p e R s m args below meth c H locs cells slots ls rc0 rs0 A A0 M0 hC (hF.st (fun h => h.pop.pop.pushI _)))
theorem S_imul {x y : Int} (hd : decode mi.2.1 pc = .ok (.imul, 1)) (k : Sf G mi Q (pc + 1) L (vI (x * y) :: st) M) : Sf G mi Q pc L (vI y :: vI x :: st) M := by
  intro p e R s m args below meth c H locs cells slots ls rc0 rs0 A A0 M0 hC hF
  exact lv_imul hC.1 hC.2.1 hd (by rw [jI_mul]; exact k p e R s m args below meth c H locs cells slots ls rc0 rs0 A A0 M0 hC (hF.st (fun h => h.pop.pop.pushI _)))
theorem S_idiv {x y : Int} (hd : decode mi.2.1 pc = .ok (.idiv, 1)) (hx : -2147483648 ≤ x ∧ x < 2147483648) (hy : 0 < y ∧ y < 2147483648) (k : Sf G mi Q (pc + 1) L (vI (x.tdiv y) :: st) M) : Sf G mi Q pc L (vI y :: vI x :: st) M := by
  intro p e R s m args below meth c H locs cells slots ls rc0 rs0 A A0 M0 hC hF
  exact lv_idiv hC.1 hC.2.1 hd (jI_ne0 (by omega) (by omega)) (by rw [jI_div hx hy]; exact k p e R s m args below meth c H locs cells slots ls rc0 rs0 A A0 M0 hC (hF.st (fun h => h.pop.pop.pushI _)))
theorem S_irem {x y : Int} (hd : decode mi.2.1 pc = .ok (.irem, 1)) (hx : -2147483648 ≤ x ∧ x < 2147483648) (hy : 0 < y ∧ y < 2147483648) (k : Sf G mi Q (pc + 1) L (vI (x.tmod y) :: st) M) : Sf G mi Q pc L (vI y :: vI x :: st) M := by
  intro p e R s m args below meth c H locs cells slots ls rc0 rs0 A A0 M0 hC hF
  exact lv_irem hC.1 hC.2.1 hd (jI_ne0 (by omega) (by omega)) (by rw [jI_rem hx hy]; exact k p e R s m args below meth c H locs cells slots ls rc0 rs0 A A0 M0 hC (hF.st (fun h => h.pop.pop.pushI _)))
theorem S_idivV {x y : Int} (hd : decode mi.2.1 pc = .ok (.idiv, 1)) (hy : -2147483648 ≤ y ∧ y < 2147483648) (h0 : y ≠ 0) (k : Sf G mi Q (pc + 1) L (vI (jI x / jI y).toInt :: st) M) : Sf G mi Q pc L (vI y :: vI x :: st) M := by
  intro p e R s m args below meth c H locs cells slots ls rc0 rs0 A A0 M0 hC hF
  exact lv_idiv hC.1 hC.2.1 hd (jI_ne0 hy h0) (by have k1 := k p e R s m args below meth c H locs cells slots ls rc0 rs0 A A0 M0 hC (hF.st (fun h => h.pop.pop.pushI _)); simp only [List.map_cons] at k1; rw [show conc A (vI (jI x / jI y).toInt) = .int (jI x / jI y) from congrArg Value.int (jI_of _)] at k1; exact k1)
theorem S_iremV {x y : Int} (hd : decode mi.2.1 pc = .ok (.irem, 1)) (hy : -2147483648 ≤ y ∧ y < 2147483648) (h0 : y ≠ 0) (k : Sf G mi Q (pc + 1) L (vI (jI x - jI x / jI y * jI y).toInt :: st) M) : Sf G mi Q pc L (vI y :: vI x :: st) M := by
  intro p e R s m args below meth c H locs cells slots ls rc0 rs0 A A0 M0 hC hF
  exact lv_irem hC.1 hC.2.1 hd (jI_ne0 hy h0) (by have k1 := k p e R s m args below meth c H locs cells slots ls rc0 rs0 A A0 M0 hC (hF.st (fun h => h.pop.pop.pushI _)); simp only [List.map_cons] at k1; rw [show conc A (vI (jI x - jI x / jI y * jI y).toInt) = .int (jI x - jI x / jI y * jI y) from congrArg Value.int (jI_of _)] at k1; exact k1)
theorem S_iand {x y : Int} (hd : decode mi.2.1 pc = .ok (.iand, 1)) (k : Sf G mi Q (pc + 1) L (vI (jI x &&& jI y).toInt :: st) M) : Sf G mi Q pc L (vI y :: vI x :: st) M := by
  intro p e R s m args below meth c H locs cells slots ls rc0 rs0 A A0 M0 hC hF
  exact lv_iand hC.1 hC.2.1 hd (by have k1 := k p e R s m args below meth c H locs cells slots ls rc0 rs0 A A0 M0 hC (hF.st (fun h => h.pop.pop.pushI _)); simp only [List.map_cons] at k1; rw [show conc A (vI (jI x &&& jI y).toInt) = .int (jI x &&& jI y) from congrArg Value.int (jI_of _)] at k1; exact k1)
theorem S_ixor {x y : Int} (hd : decode mi.2.1 pc = .ok (.ixor, 1)) (k : Sf G mi Q (pc + 1) L (vI (jI x ^^^ jI y).toInt :: st) M) : Sf G mi Q pc L (vI y :: vI x :: st) M := by
  intro p e R s m args below meth c H locs cells slots ls rc0 rs0 A A0 M0 hC hF
  exact lv_ixor hC.1 hC.2.1 hd (by have k1 := k p e R s m args below meth c H locs cells slots ls rc0 rs0 A A0 M0 hC (hF.st (fun h => h.pop.pop.pushI _)); simp only [List.map_cons] at k1; rw [show conc A (vI (jI x ^^^ jI y).toInt) = .int (jI x ^^^ jI y) from congrArg Value.int (jI_of _)] at k1; exact k1)
theorem S_goto {off : Int} (tgt : Nat) (hd : decode mi.2.1 pc = .ok (.goto off, 3)) (ht : (pc : Int) + off = (tgt : Int)) (k : Sf G mi Q tgt L (st) M) : Sf G mi Q pc L (st) M := by
  intro p e R s m args below meth c H locs cells slots ls rc0 rs0 A A0 M0 hC hF
  exact lv_goto hC.1 hC.2.1 hd ht (k p e R s m args below meth c H locs cells slots ls rc0 rs0 A A0 M0 hC (hF.st id))
theorem S_icmp_lt {x y off : Int} (tgt : Nat) (hd : decode mi.2.1 pc = .ok (.if_icmp .lt off, 3)) (ht : (pc : Int) + off = (tgt : Int)) (hr : (-2147483648 ≤ x ∧ x < 2147483648) ∧ (-2147483648 ≤ y ∧ y < 2147483648)) (kt : x < y → Sf G mi Q tgt L st M) (kf : ¬ (x < y) → Sf G mi Q (pc + 3) L st M) : Sf G mi Q pc L (vI y :: vI x :: st) M := by
  intro p e R s m args below meth c H locs cells slots ls rc0 rs0 A A0 M0 hC hF
  obtain ⟨hx, hy⟩ := hr
  exact lv_icmp_lt hC.1 hC.2.1 hd ht (fun h => kt ((jI_lt hx hy).mp h) p e R s m args below meth c H locs cells slots ls rc0 rs0 A A0 M0 hC (hF.st (fun h => h.pop.pop))) (fun h => kf (fun h2 => h ((jI_lt hx hy).mpr h2)) p e R s m args below meth c H locs cells slots ls rc0 rs0 A A0 M0 hC (hF.st (fun h => h.pop.pop)))
theorem S_icmp_ge {x y off : Int} (tgt : Nat) (hd : decode mi.2.1 pc = .ok (.if_icmp .ge off, 3)) (ht : (pc : Int) + off = (tgt : Int)) (hr : (-2147483648 ≤ x ∧ x < 2147483648) ∧ (-2147483648 ≤ y ∧ y < 2147483648)) (kt : y ≤ x → Sf G mi Q tgt L st M) (kf : ¬ (y ≤ x) → Sf G mi Q (pc + 3) L st M) : Sf G mi Q pc L (vI y :: vI x :: st) M := by
  intro p e R s m args below meth c H locs cells slots ls rc0 rs0 A A0 M0 hC hF
  obtain ⟨hx, hy⟩ := hr
  exact lv_icmp_ge hC.1 hC.2.1 hd ht (fun h => kt ((jI_le hy hx).mp h) p e R s m args below meth c H locs cells slots ls rc0 rs0 A A0 M0 hC (hF.st (fun h => h.pop.pop))) (fun h => kf (fun h2 => h ((jI_le hy hx).mpr h2)) p e R s m args below meth c H locs cells slots ls rc0 rs0 A A0 M0 hC (hF.st (fun h => h.pop.pop)))
theorem S_icmp_gt {x y off : Int} (tgt : Nat) (hd : decode mi.2.1 pc = .ok (.if_icmp .gt off, 3)) (ht : (pc : Int) + off = (tgt : Int)) (hr : (-2147483648 ≤ x ∧ x < 2147483648) ∧ (-2147483648 ≤ y ∧ y < 2147483648)) (kt : y < x → Sf G mi Q tgt L st M) (kf : ¬ (y < x) → Sf G mi Q (pc + 3) L st M) : Sf G mi Q pc L (vI y :: vI x :: st) M := by
  intro p e R s m args below meth c H locs cells slots ls rc0 rs0 A A0 M0 hC hF
  obtain ⟨hx, hy⟩ := hr
  exact lv_icmp_gt hC.1 hC.2.1 hd ht (fun h => kt ((jI_lt hy hx).mp h) p e R s m args below meth c H locs cells slots ls rc0 rs0 A A0 M0 hC (hF.st (fun h => h.pop.pop))) (fun h => kf (fun h2 => h ((jI_lt hy hx).mpr h2)) p e R s m args below meth c H locs cells slots ls rc0 rs0 A A0 M0 hC (hF.st (fun h => h.pop.pop)))
theorem S_icmp_le {x y off : Int} (tgt : Nat) (hd : decode mi.2.1 pc = .ok (.if_icmp .le off, 3)) (ht : (pc : Int) + off = (tgt : Int)) (hr : (-2147483648 ≤ x ∧ x < 2147483648) ∧ (-2147483648 ≤ y ∧ y < 2147483648)) (kt : x ≤ y → Sf G mi Q tgt L st M) (kf : ¬ (x ≤ y) → Sf G mi Q (pc + 3) L st M) : Sf G mi Q pc L (vI y :: vI x :: st) M := by
  intro p e R s m args below meth c H locs cells slots ls rc0 rs0 A A0 M0 hC hF
  obtain ⟨hx, hy⟩ := hr
  exact lv_icmp_le hC.1 hC.2.1 hd ht (fun h => kt ((jI_le hx hy).mp h) p e R s m args below meth c H locs cells slots ls rc0 rs0 A A0 M0 hC (hF.st (fun h => h.pop.pop))) (fun h => kf (fun h2 => h ((jI_le hx hy).mpr h2)) p e R s m args below meth c H locs cells slots ls rc0 rs0 A A0 M0 hC (hF.st (fun h => h.pop.pop)))
theorem S_icmp_eq {x y off : Int} (tgt : Nat) (hd : decode mi.2.1 pc = .ok (.if_icmp .eq off, 3)) (ht : (pc : Int) + off = (tgt : Int)) (hr : (-2147483648 ≤ x ∧ x < 2147483648) ∧ (-2147483648 ≤ y ∧ y < 2147483648)) (kt : x = y → Sf G mi Q tgt L st M) (kf : ¬ (x = y) → Sf G mi Q (pc + 3) L st M) : Sf G mi Q pc L (vI y :: vI x :: st) M := by
  intro p e R s m args below meth c H locs cells slots ls rc0 rs0 A A0 M0 hC hF
  obtain ⟨hx, hy⟩ := hr
  exact lv_icmp_eq hC.1 hC.2.1 hd ht (fun h => kt ((jI_eq hx hy).mp h) p e R s m args below meth c H locs cells slots ls rc0 rs0 A A0 M0 hC (hF.st (fun h => h.pop.pop))) (fun h => kf (fun h2 => h ((jI_eq hx hy).mpr h2)) p e R s m args below meth c H locs cells slots ls rc0 rs0 A A0 M0 hC (hF.st (fun h => h.pop.pop)))
theorem S_icmp_ne {x y off : Int} (tgt : Nat) (hd : decode mi.2.1 pc = .ok (.if_icmp .ne off, 3)) (ht : (pc : Int) + off = (tgt : Int)) (hr : (-2147483648 ≤ x ∧ x < 2147483648) ∧ (-2147483648 ≤ y ∧ y < 2147483648)) (kt : x ≠ y → Sf G mi Q tgt L st M) (kf : ¬ (x ≠ y) → Sf G mi Q (pc + 3) L st M) : Sf G mi Q pc L (vI y :: vI x :: st) M := by
  intro p e R s m args below meth c H locs cells slots ls rc0 rs0 A A0 M0 hC hF
  obtain ⟨hx, hy⟩ := hr
  exact lv_icmp_ne hC.1 hC.2.1 hd ht (fun h => kt (fun h2 => h (congrArg jI h2)) p e R s m args below meth c H locs cells slots ls rc0 rs0 A A0 M0 hC (hF.st (fun h => h.pop.pop))) (fun h => kf (fun h2 => h2 ((jI_eq hx hy).mp h)) p e R s m args below meth c H locs cells slots ls rc0 rs0 A A0 M0 hC (hF.st (fun h => h.pop.pop)))
theorem S_if_lt {x off : Int} (tgt : Nat) (hd : decode mi.2.1 pc = .ok (.ifCond .lt off, 3)) (ht : (pc : Int) + off = (tgt : Int)) (hx : (-2147483648 ≤ x ∧ x < 2147483648)) (kt : x < 0 → Sf G mi Q tgt L st M) (kf : ¬ (x < 0) → Sf G mi Q (pc + 3) L st M) : Sf G mi Q pc L (vI x :: st) M := by
  intro p e R s m args below meth c H locs cells slots ls rc0 rs0 A A0 M0 hC hF
  exact lv_if_lt hC.1 hC.2.1 hd ht (fun h => kt ((jI_lt hx jI_r0).mp h) p e R s m args below meth c H locs cells slots ls rc0 rs0 A A0 M0 hC (hF.st (fun h => h.pop))) (fun h => kf (fun h2 => h ((jI_lt hx jI_r0).mpr h2)) p e R s m args below meth c H locs cells slots ls rc0 rs0 A A0 M0 hC (hF.st (fun h => h.pop)))
theorem S_if_ge {x off : Int} (tgt : Nat) (hd : decode mi.2.1 pc = .ok (.ifCond .ge off, 3)) (ht : (pc : Int) + off = (tgt : Int)) (hx : (-2147483648 ≤ x ∧ x < 2147483648)) (kt : 0 ≤ x → Sf G mi Q tgt L st M) (kf : ¬ (0 ≤ x) → Sf G mi Q (pc + 3) L st M) : Sf G mi Q pc L (vI x :: st) M := by
  intro p e R s m args below meth c H locs cells slots ls rc0 rs0 A A0 M0 hC hF
  exact lv_if_ge hC.1 hC.2.1 hd ht (fun h => kt ((jI_le jI_r0 hx).mp h) p e R s m args below meth c H locs cells slots ls rc0 rs0 A A0 M0 hC (hF.st (fun h => h.pop))) (fun h => kf (fun h2 => h ((jI_le jI_r0 hx).mpr h2)) p e R s m args below meth c H locs cells slots ls rc0 rs0 A A0 M0 hC (hF.st (fun h => h.pop)))
theorem S_if_gt {x off : Int} (tgt : Nat) (hd : decode mi.2.1 pc = .ok (.ifCond .gt off, 3)) (ht : (pc : Int) + off = (tgt : Int)) (hx : (-2147483648 ≤ x ∧ x < 2147483648)) (kt : 0 < x → Sf G mi Q tgt L st M) (kf : ¬ (0 < x) → Sf G mi Q (pc + 3) L st M) : Sf G mi Q pc L (vI x :: st) M := by
  intro p e R s m args below meth c H locs cells slots ls rc0 rs0 A A0 M0 hC hF
  exact lv_if_gt hC.1 hC.2.1 hd ht (fun h => kt ((jI_lt jI_r0 hx).mp h) p e R s m args below meth c H locs cells slots ls rc0 rs0 A A0 M0 hC (hF.st (fun h => h.pop))) (fun h => kf (fun h2 => h ((jI_lt jI_r0 hx).mpr h2)) p e R s m args below meth c H locs cells slots ls rc0 rs0 A A0 M0 hC (hF.st (fun h => h.pop)))
theorem S_if_le {x off : Int} (tgt : Nat) (hd : decode mi.2.1 pc = .ok (.ifCond .le off, 3)) (ht : (pc : Int) + off = (tgt : Int)) (hx : (-2147483648 ≤ x ∧ x < 2147483648)) (kt : x ≤ 0 → Sf G mi Q tgt L st M) (kf : ¬ (x ≤ 0) → Sf G mi Q (pc + 3) L st M) : Sf G mi Q pc L (vI x :: st) M := by
  intro p e R s m args below meth c H locs cells slots ls rc0 rs0 A A0 M0 hC hF
  exact lv_if_le hC.1 hC.2.1 hd ht (fun h => kt ((jI_le hx jI_r0).mp h) p e R s m args below meth c H locs cells slots ls rc0 rs0 A A0 M0 hC (hF.st (fun h => h.pop))) (fun h => kf (fun h2 => h ((jI_le hx jI_r0).mpr h2)) p e R s m args below meth c H locs cells slots ls rc0 rs0 A A0 M0 hC (hF.st (fun h => h.pop)))
theorem S_if_eq {x off : Int} (tgt : Nat) (hd : decode mi.2.1 pc = .ok (.ifCond .eq off, 3)) (ht : (pc : Int) + off = (tgt : Int)) (hx : (-2147483648 ≤ x ∧ x < 2147483648)) (kt : x = 0 → Sf G mi Q tgt L st M) (kf : ¬ (x = 0) → Sf G mi Q (pc + 3) L st M) : Sf G mi Q pc L (vI x :: st) M := by
  intro p e R s m args below meth c H locs cells slots ls rc0 rs0 A A0 M0 hC hF
  exact lv_if_eq hC.1 hC.2.1 hd ht (fun h => kt ((jI_eq hx jI_r0).mp h) p e R s m args below meth c H locs cells slots ls rc0 rs0 A A0 M0 hC (hF.st (fun h => h.pop))) (fun h => kf (fun h2 => h ((jI_eq hx jI_r0).mpr h2)) p e R s m args below meth c H locs cells slots ls rc0 rs0 A A0 M0 hC (hF.st (fun h => h.pop)))
theorem S_if_ne {x off : Int} (tgt : Nat) (hd : decode mi.2.1 pc = .ok (.ifCond .ne off, 3)) (ht : (pc : Int) + off = (tgt : Int)) (hx : (-2147483648 ≤ x ∧ x < 2147483648)) (kt : x ≠ 0 → Sf G mi Q tgt L st M) (kf : ¬ (x ≠ 0) → Sf G mi Q (pc + 3) L st M) : Sf G mi Q pc L (vI x :: st) M := by
  intro p e R s m args below meth c H locs cells slots ls rc0 rs0 A A0 M0 hC hF
  exact lv_if_ne hC.1 hC.2.1 hd ht (fun h => kt (fun h2 => h (congrArg jI h2)) p e R s m args below meth c H locs cells slots ls rc0 rs0 A A0 M0 hC (hF.st (fun h => h.pop))) (fun h => kf (fun h2 => h2 ((jI_eq hx jI_r0).mp h)) p e R s m args below meth c H locs cells slots ls rc0 rs0 A A0 M0 hC (hF.st (fun h => h.pop)))
theorem S_ifnull {o : Option Role} {off : Int} (tgt : Nat) (hd : decode mi.2.1 pc = .ok (.ifnull off, 3)) (ht : (pc : Int) + off = (tgt : Int)) (kt : o = none → Sf G mi Q tgt L st M) (kf : o ≠ none → Sf G mi Q (pc + 3) L st M) : Sf G mi Q pc L (vQ o :: st) M := by
  intro p e R s m args below meth c H locs cells slots ls rc0 rs0 A A0 M0 hC hF
  cases o with
  | none => exact lv_ifnullN hC.1 hC.2.1 hd ht (kt rfl p e R s m args below meth c H locs cells slots ls rc0 rs0 A A0 M0 hC (hF.st (fun h => h.pop)))
  | some r => exact lv_ifnull hC.1 hC.2.1 hd (kf (fun h => by cases h) p e R s m args below meth c H locs cells slots ls rc0 rs0 A A0 M0 hC (hF.st (fun h => h.pop)))
theorem S_ifnonnull {o : Option Role} {off : Int} (tgt : Nat) (hd : decode mi.2.1 pc = .ok (.ifnonnull off, 3)) (ht : (pc : Int) + off = (tgt : Int)) (kt : o ≠ none → Sf G mi Q tgt L st M) (kf : o = none → Sf G mi Q (pc + 3) L st M) : Sf G mi Q pc L (vQ o :: st) M := by
  intro p e R s m args below meth c H locs cells slots ls rc0 rs0 A A0 M0 hC hF
  cases o with
  | none => exact lv_ifnonnullN hC.1 hC.2.1 hd (kf rfl p e R s m args below meth c H locs cells slots ls rc0 rs0 A A0 M0 hC (hF.st (fun h => h.pop)))
  | some r => exact lv_ifnonnull hC.1 hC.2.1 hd ht (kt (fun h => by cases h) p e R s m args below meth c H locs cells slots ls rc0 rs0 A A0 M0 hC (hF.st (fun h => h.pop)))
theorem acmp_inj {H : Heap} {A : Role → Nat} {o1 o2 : Option Role} (hP : Pic G A M H) (hw : Wf M L (vQ o2 :: vQ o1 :: st)) (hg : (∀ r, o1 = some r → nS r.1) ∧ ∀ r, o2 = some r → nS r.1) (h : o1.map A = o2.map A) : o1 = o2 := by
  cases o1 with
  | none => cases o2 with
    | none => rfl
    | some r => cases h
  | some r => cases o2 with
    | none => cases h
    | some r' => rw [hP.2.1 r r' (hw.pop.top r rfl) (hw.top r' rfl) (hg.1 r rfl) (hg.2 r' rfl) (Option.some.inj h)]
theorem S_acmp_eq {o1 o2 : Option Role} {off : Int} (tgt : Nat) (hd : decode mi.2.1 pc = .ok (.if_acmp .eq off, 3)) (ht : (pc : Int) + off = (tgt : Int)) (hg : (∀ r, o1 = some r → nS r.1) ∧ ∀ r, o2 = some r → nS r.1) (kt : o1 = o2 → Sf G mi Q tgt L st M) (kf : o1 ≠ o2 → Sf G mi Q (pc + 3) L st M) : Sf G mi Q pc L (vQ o2 :: vQ o1 :: st) M := by
  intro p e R s m args below meth c H locs cells slots ls rc0 rs0 A A0 M0 hC hF
  exact lv_acmp_eq hC.1 hC.2.1 hd ht (fun h => kt (acmp_inj hF.1 hF.wf hg h) p e R s m args below meth c H locs cells slots ls rc0 rs0 A A0 M0 hC (hF.st (fun h => h.pop.pop))) (fun h => kf (fun h2 => h (by rw [h2])) p e R s m args below meth c H locs cells slots ls rc0 rs0 A A0 M0 hC (hF.st (fun h => h.pop.pop)))
theorem S_acmp_ne {o1 o2 : Option Role} {off : Int} (tgt : Nat) (hd : decode mi.2.1 pc = .ok (.if_acmp .ne off, 3)) (ht : (pc : Int) + off = (tgt : Int)) (hg : (∀ r, o1 = some r → nS r.1) ∧ ∀ r, o2 = some r → nS r.1) (kt : o1 ≠ o2 → Sf G mi Q tgt L st M) (kf : o1 = o2 → Sf G mi Q (pc + 3) L st M) : Sf G mi Q pc L (vQ o2 :: vQ o1 :: st) M := by
  intro p e R s m args below meth c H locs cells slots ls rc0 rs0 A A0 M0 hC hF
  exact lv_acmp_ne hC.1 hC.2.1 hd ht (fun h => kt (fun h2 => h (by rw [h2])) p e R s m args below meth c H locs cells slots ls rc0 rs0 A A0 M0 hC (hF.st (fun h => h.pop.pop))) (fun h => kf (acmp_inj hF.1 hF.wf hg h) p e R s m args below meth c H locs cells slots ls rc0 rs0 A A0 M0 hC (hF.st (fun h => h.pop.pop)))
theorem S_acmp_same {o : Option Role} {off : Int} (tgt : Nat) (hd : decode mi.2.1 pc = .ok (.if_acmp .ne off, 3)) (ht : (pc : Int) + off = (tgt : Int)) (kf : Sf G mi Q (pc + 3) L st M) : Sf G mi Q pc L (vQ o :: vQ o :: st) M := by
  intro p e R s m args below meth c H locs cells slots ls rc0 rs0 A A0 M0 hC hF
  exact lv_acmp_ne hC.1 hC.2.1 hd ht (fun h => absurd rfl h) (fun h => kf p e R s m args below meth c H locs cells slots ls rc0 rs0 A A0 M0 hC (hF.st (fun h => h.pop.pop)))
theorem S_tableIn {dflt lo hi x : Int} {offs : Array Int} {len : Nat} {off : Int} (tgt : Nat) (hd : decode mi.2.1 pc = .ok (.tableswitch dflt lo hi offs, len)) (hx : -2147483648 ≤ x ∧ x < 2147483648) (h : lo ≤ x ∧ x ≤ hi) (ho : offs[(x - lo).toNat]? = some off) (ht : (pc : Int) + off = (tgt : Int)) (k : Sf G mi Q tgt L st M) : Sf G mi Q pc L (vI x :: st) M := by
  intro p e R s m args below meth c H locs cells slots ls rc0 rs0 A A0 M0 hC hF
  exact lv_tableIn hC.1 hC.2.1 hd (by rw [jI_toInt hx]; omega) (by rw [jI_toInt hx]; omega) (by rw [jI_toInt hx]; exact ho) ht (k p e R s m args below meth c H locs cells slots ls rc0 rs0 A A0 M0 hC (hF.st (fun h => h.pop)))
theorem S_tableOut {dflt lo hi x : Int} {offs : Array Int} {len : Nat} (tgt : Nat) (hd : decode mi.2.1 pc = .ok (.tableswitch dflt lo hi offs, len)) (hx : -2147483648 ≤ x ∧ x < 2147483648) (h : x < lo ∨ hi < x) (ht : (pc : Int) + dflt = (tgt : Int)) (k : Sf G mi Q tgt L st M) : Sf G mi Q pc L (vI x :: st) M := by
  intro p e R s m args below meth c H locs cells slots ls rc0 rs0 A A0 M0 hC hF
  exact lv_tableOut hC.1 hC.2.1 hd (by rw [jI_toInt hx]; exact h) ht (k p e R s m args below meth c H locs cells slots ls rc0 rs0 A A0 M0 hC (hF.st (fun h => h.pop)))
theorem S_lookup {dflt x : Int} {ps : Array (Int × Int)} {len : Nat} {off : Int} (tgt : Nat) (hd : decode mi.2.1 pc = .ok (.lookupswitch dflt ps, len)) (hp : (ps.toList.zip (ps.toList.drop 1)).all (fun (a, next) => a.1 < next.1) = true) (hx : -2147483648 ≤ x ∧ x < 2147483648) (ho : Op.lookupswitch.offset ps.toList dflt x = off) (ht : (pc : Int) + off = (tgt : Int)) (k : Sf G mi Q tgt L st M) : Sf G mi Q pc L (vI x :: st) M := by
  intro p e R s m args below meth c H locs cells slots ls rc0 rs0 A A0 M0 hC hF
  exact lv_lookup hC.1 hC.2.1 hd hp (by rw [jI_toInt hx]; exact ho) ht (k p e R s m args below meth c H locs cells slots ls rc0 rs0 A A0 M0 hC (hF.st (fun h => h.pop)))
theorem Sf.eq {pc2 : Nat} (h : pc = pc2) (k : Sf G mi Q pc2 L st M) : Sf G mi Q pc L st M := h ▸ k
theorem Sf.imp {Q' : Option AVal → Mem → Prop} (hq : ∀ v M', Q' v M' → Q v M') (k : Sf G mi Q' pc L st M) : Sf G mi Q pc L st M := by
  intro p e R s m args below meth c H locs cells slots ls rc0 rs0 A A0 M0 hC hF
  intro T hT X
  obtain ⟨t, h1, o, h2, h3, ⟨v, M1, A1, h4, h5, h6⟩, h7⟩ := k p e R s m args below meth c H locs cells slots ls rc0 rs0 A A0 M0 hC hF T hT X
  exact ⟨t, h1, o, h2, h3, ⟨v, M1, A1, h4, hq _ _ h5, h6⟩, h7⟩
end
