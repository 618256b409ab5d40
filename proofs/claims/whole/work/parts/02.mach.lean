/-! THE MACHINE LAYER: a heap of named objects (roles) with whole numbers, and one judgement Sf over it; every rule is proved from the kit's row for that instruction -/
abbrev Role : Type := Nat × Nat
abbrev AVal : Type := Int ⊕ Option Role
abbrev vI (x : Int) : AVal := .inl x
abbrev vR (r : Role) : AVal := .inr (some r)
abbrev vN : AVal := .inr none
abbrev vQ (o : Option Role) : AVal := .inr o
def jI (z : Int) : Int32 := Int32.ofInt z
def Mem : Type := (Role → Option Nat) × (Role → Nat → Int) × (Role → Nat → Option Role) × Nat × Nat
def Mem.len (M : Mem) : Role → Option Nat := M.1
def Mem.I (M : Mem) : Role → Nat → Int := M.2.1
def Mem.P (M : Mem) : Role → Nat → Option Role := M.2.2.1
def Mem.rc (M : Mem) : Nat := M.2.2.2.1
def Mem.rs (M : Mem) : Nat := M.2.2.2.2
def Mem.putI (M : Mem) (r : Role) (k : Nat) (v : Int) : Mem := (M.1, fun r' k' => if r' = r ∧ k' = k then v else M.2.1 r' k', M.2.2)
def Mem.putP (M : Mem) (r : Role) (k : Nat) (v : Option Role) : Mem := (M.1, M.2.1, fun r' k' => if r' = r ∧ k' = k then v else M.2.2.1 r' k', M.2.2.2)
def Mem.new (M : Mem) (r : Role) (n cost : Nat) : Mem := (fun r' => if r' = r then some n else M.1 r', fun r' k => if r' = r then 0 else M.2.1 r' k, fun r' k => if r' = r then none else M.2.2.1 r' k, M.2.2.2.1 - 1, M.2.2.2.2 - cost)
-- what a role is by its first number: .inl class (place in vwCl), .inr array (place in aT)
def kd (c : Nat) : Nat ⊕ Nat := match c with
  | 1 => .inl 9 | 2 => .inl 1 | 3 => .inl 6 | 4 => .inl 0 | 5 => .inr 7 | 6 => .inr 2 | 7 => .inl 2 | 8 => .inr 5 | 9 => .inr 4 | 10 => .inr 0
  | 11 => .inr 3 | 12 => .inl 3 | 13 => .inr 0 | 14 => .inr 6 | 15 => .inl 8 | 16 => .inl 7 | 17 => .inr 0 | 18 => .inl 5 | 19 => .inl 4
  | 20 => .inr 7 | 30 => .inl 10 | 31 => .inr 0 | 32 => .inr 1 | _ => .inr 0
def ro (c : Nat) : Bool := c == 20 || c == 40 || c == 41
def nS (c : Nat) : Prop := c ≠ 40 ∧ c ≠ 41
def aT (j : Nat) : FieldType := match j with
  | 0 => .int | 1 => .boolean | 2 => .object "RatchetPost$End" | 3 => .object "RatchetPost$Letter" | 4 => .object "RatchetPost$Skipped" | 5 => .object "RatchetPost$Thing" | 6 => .object "RatchetPost$Tray" | _ => .object "java/lang/Object"
def tysL (aC : Nat → ClassId) : List (ClassId × FieldType) := [(aC 0, aT 0), (aC 1, aT 1), (aC 2, aT 2), (aC 3, aT 3), (aC 4, aT 4), (aC 5, aT 5), (aC 6, aT 6), (aC 7, aT 7)]
def cT (ci : Nat) : u_T := match ci with
  | 0 => TJx4a65c | 1 => TX0 | 2 => TX1 | 3 => TX2 | 4 => TX3 | 5 => TX4 | 6 => TX5 | 7 => TX6 | 8 => TX7 | 9 => TX8 | _ => TX9
def cTy (ci : Nat) : Nat → FieldType := match ci with
  | 0 => tyJx4a65c | 1 => tyX0 | 2 => tyX1 | 3 => tyX2 | 4 => tyX3 | 5 => tyX4 | 6 => tyX5 | 7 => tyX6 | 8 => tyX7 | 9 => tyX8 | _ => tyX9
def cN (ci : Nat) : Nat := match ci with
  | 0 => 3 | 1 => 2 | 2 => 16 | 3 => 6 | 4 => 12 | 5 => 8 | 6 => 3 | 7 => 2 | 8 => 2 | 9 => 11 | _ => 46
def cR (ci : Nat) : String := match ci with
  | 0 => RJx4a65c | 1 => RX0 | 2 => RX1 | 3 => RX2 | 4 => RX3 | 5 => RX4 | 6 => RX5 | 7 => RX6 | 8 => RX7 | 9 => RX8 | _ => RX9
def isRef (t : FieldType) : Bool := match t with
  | .object _ => true | .array _ => true | _ => false
def fR (ci k : Nat) : Bool := isRef (cTy ci k)
theorem vwCl_at (ci : Nat) (h : ci < 11) : vwCl[ci]? = some (cR ci, cT ci, cN ci) := by
  rcases (show ci = 0 ∨ ci = 1 ∨ ci = 2 ∨ ci = 3 ∨ ci = 4 ∨ ci = 5 ∨ ci = 6 ∨ ci = 7 ∨ ci = 8 ∨ ci = 9 ∨ ci = 10 by omega) with h | h | h | h | h | h | h | h | h | h | h <;> subst h <;> rfl
theorem tysL_at (aC : Nat → ClassId) (j : Nat) (h : j < 8) : (tysL aC)[j]? = some (aC j, aT j) := by
  rcases (show j = 0 ∨ j = 1 ∨ j = 2 ∨ j = 3 ∨ j = 4 ∨ j = 5 ∨ j = 6 ∨ j = 7 by omega) with h | h | h | h | h | h | h | h <;> subst h <;> rfl
-- the contents of a cell
def vOf (A : Role → Nat) (b : Bool) (i : Int) (p : Option Role) : Value := if b then va_rf (p.map A) else .int (jI i)
def ent (aC : Nat → ClassId) (A : Role → Nat) (M : Mem) (r : Role) (n : Nat) : va_E := match kd r.1 with
  | .inl ci => .inr (ci, (List.range (cN ci)).map fun k => vOf A (fR ci k) (M.I r k) (M.P r k))
  | .inr j => if j < 2 then .inl (aC j, n, .inl fun k => jI (M.I r k)) else .inl (aC j, n, .inr (.inr (.inr (.inr fun k => (M.P r k).map A))))
def conc (A : Role → Nat) (v : AVal) : Value := match v with
  | .inl z => .int (jI z)
  | .inr o => va_rf (o.map A)
-- the run's constants: launch, class ids, array class ids, where the run's own cells begin, the empty array, the script's cell, its length and numbers, the mirror of Object[]
abbrev Ge : Type := Launch × va_G × (Nat → ClassId) × Nat × Nat × Nat × Nat × (Nat → Int32) × Nat
def gL (G : Ge) : Launch := G.1
def gD (G : Ge) : va_G := G.2.1
def gA (G : Ge) : Nat → ClassId := G.2.2.1
def gB (G : Ge) : Nat := G.2.2.2.1
def gE (G : Ge) : Nat := G.2.2.2.2.1
def gS (G : Ge) : Nat := G.2.2.2.2.2.1
def gN (G : Ge) : Nat := G.2.2.2.2.2.2.1
def gX (G : Ge) : Nat → Int32 := G.2.2.2.2.2.2.2.1
def gM (G : Ge) : Nat := G.2.2.2.2.2.2.2.2
def Wr (G : Ge) : Nat → Prop := fun q => gB G ≤ q
-- the words that a method's callers hand on
def wG : List Cond := lw_tbl.filter goodWord
theorem wG_of (i : Nat) {w : Cond} (h : lw_tbl[i]? = some w) (hg : goodWord w = true) : w ∈ wG := List.mem_filter.mpr ⟨List.mem_of_getElem? h, hg⟩
theorem wG_good : GoodIn wG wG := fun w h => ⟨h, good_of_word (List.mem_filter.mp h).2⟩
-- words that are handed on by hand: kept as facts of a state
def wNst : List Cond := [.methodLinkNest RX8 9 yX5_init RX8, .methodLinkNest RX5 11 yX0_init RX8, .methodLinkNest RX8 39 yX7_init RX8, .methodLinkNest RX8 42 yX6_init RX8]
def wAO : List String := ["RatchetPost$End", "RatchetPost$Letter", "RatchetPost$Skipped", "RatchetPost$Thing", "RatchetPost$Tray", "java/lang/Object"]
def nmZ : String := "DEFAULTCAPACITY_EMPTY_ELEMENTDATA"
def nmO : String := "[Ljava/lang/Object;"
def KF (G : Ge) (U : State) (H : Heap) : Prop :=
  va_K (gD G) vwCl (tysL (gA G)) U ∧ va_Z RJx4a65c nmZ nmO (.ref (gE G)) (Wr G) U H ∧ va_T (.object "java/lang/Object") (gE G) 0 (fun _ => .null) (Wr G) U H ∧
  (va_X (gS G) (gN G) (gX G) U H ∧ ¬ Wr G (gS G) ∧ gS G < H.size) ∧ va_Mi nmO (gM G) U ∧ va_Nc RX4 RX3 U ∧ (∀ w ∈ wNst, va_Nw w U) ∧ (∀ C ∈ wAO, va_AO C U) ∧
  (va_Nw (.castable RX4 "java/lang/Object") U ∧ va_Nw (.castable RX3 RX4) U ∧ va_Dc U)
theorem KF.moved {G : Ge} {s U : State} {H : Heap} (hW : s.WarmedH U.vm) (h : KF G s H) : KF G U H := by
  obtain ⟨h1, h2, h3, ⟨h4, h5, h5b⟩, h6, h7, h8, h9, h10, h11, h12⟩ := h
  have hv := hW.alike
  refine ⟨va_K.moved hv h1, h2.moved hv, h3.moved hv, ⟨h4.moved hv, h5, h5b⟩, h6.moved hv, h7.moved hv, fun w hw => ?_, fun C hC => (h9 C hC).moved hv, h10.warmC hW, h11.warmC hW, h12.moved hv⟩
  have hz := h8 w hw
  simp only [wNst, List.mem_cons, List.not_mem_nil, or_false] at hw
  rcases hw with rfl | rfl | rfl | rfl <;> exact hz.warmM hW
theorem KF.kept {G : Ge} {U : State} {H H1 : Heap} (h : KF G U H) (hz : H.size ≤ H1.size) (hq : ∀ a : Nat, a < H.size → ¬ Wr G a → H1[a]? = H[a]?) : KF G U H1 := by
  obtain ⟨h1, h2, h3, ⟨h4, h5, h5b⟩, h6⟩ := h
  exact ⟨h1, h2.kept hq, h3.kept hq, ⟨h4.kept (hq _ h5b h5), h5, Nat.lt_of_lt_of_le h5b hz⟩, h6⟩
-- the picture of a heap
def Wl (aC : Nat → ClassId) (A : Role → Nat) (M : Mem) (ws : va_W) : Prop :=
  (∀ r n, M.len r = some n → ro r.1 = false → ∃ k : Nat, ws[k]? = some (A r, ent aC A M r n)) ∧ ∀ (k : Nat) (q : Nat × va_E), ws[k]? = some q → ∃ r n, M.len r = some n ∧ ro r.1 = false ∧ q = (A r, ent aC A M r n)
def okV (M : Mem) (v : AVal) : Prop := ∀ r, v = .inr (some r) → M.len r ≠ none
def Clo (M : Mem) : Prop := ∀ r k r', M.len r ≠ none → M.P r k = some r' → M.len r' ≠ none
def Pic (G : Ge) (A : Role → Nat) (M : Mem) (H : Heap) : Prop :=
  (∃ ws, Wl (gA G) A M ws ∧ va_P (gD G) vwCl ws H ∧ va_D (Wr G) ws) ∧ (∀ r r', M.len r ≠ none → M.len r' ≠ none → nS r.1 → nS r'.1 → A r = A r' → r = r') ∧
  Clo M ∧ (M.len (20, 0) = some 0 ∧ A (20, 0) = gE G) ∧ (M.len (40, 0) = some (gN G) ∧ A (40, 0) = gS G ∧ M.len (41, 0) = some 0 ∧ A (41, 0) = gM G) ∧ ∀ r, M.len r ≠ none → ro r.1 = true → r = (20, 0) ∨ r = (40, 0) ∨ r = (41, 0)
def sumN (n : Nat) (H : Heap) : Nat := ((H.toList.drop n).map (·.slots.size)).sum
def Bud (M : Mem) (n0 : Nat) (H : Heap) (rc0 rs0 : Nat) : Prop := H.size + M.rc ≤ n0 + rc0 ∧ sumN n0 H + M.rs ≤ rs0
def Lok (A : Role → Nat) (ls : Array Slot) (nL : Nat) (L : List (Option AVal)) : Prop := ls.size = nL ∧ lv_wf ls ∧ ∀ (i : Nat) (v : AVal), L[i]? = some (some v) → ls[i]? = some (.val (conc A v))
def Wf (M : Mem) (L : List (Option AVal)) (st : List AVal) : Prop := (∀ v ∈ st, okV M v) ∧ ∀ v, some v ∈ L → okV M v
def Ext (M0 : Mem) (A0 : Role → Nat) (M : Mem) (A : Role → Nat) : Prop := ∀ r, M0.len r ≠ none → M.len r ≠ none ∧ A r = A0 r
def KeepSz (H0 H : Heap) : Prop := ∀ (a : Nat) (c : Cell), H0[a]? = some c → ∃ c' : Cell, H[a]? = some c' ∧ c'.slots.size = c.slots.size
-- a method: its name, code, number of locals, return type, room for calls
abbrev Mi : Type := MethodName × ByteArray × Nat × Option FieldType × Nat
def rmD (D rc rs : Nat) : Room := { frames := D, cells := rc, slots := rs, locals := 64 * D }
def Qcf (G : Ge) (Q : Option AVal → Mem → Prop) (M0 : Mem) (A0 : Role → Nat) (rc0 rs0 : Nat) : Array Value → State → Outcome → State → Prop := fun _ st o t =>
  ∃ (v : Option AVal) (M : Mem) (A : Role → Nat), o = .returned (v.map (conc A)) ∧ Q v M ∧ Pic G A M t.heap ∧ (∀ w, v = some w → okV M w) ∧ Ext M0 A0 M A ∧ st.heap.size ≤ t.heap.size ∧ (∀ q : Nat, q < st.heap.size → ¬ Wr G q → t.heap[q]? = st.heap[q]?) ∧ KeepSz st.heap t.heap ∧ Bud M st.heap.size t.heap rc0 rs0
def Cx (G : Ge) (mi : Mi) (rc0 rs0 : Nat) (p : Program) (R : Room) (s : State) (m : MethodId) (args : Array Value) (meth : Method) (c : Code) : Prop :=
  p.tables.exec = Jvm.exec ∧ c.code = mi.2.1 ∧ meth.sig.returnType = mi.2.2.2.1 ∧ c.maxLocals = mi.2.2.1 ∧ s.vm.findClass mi.1.cls = some m.cls ∧ (∀ w ∈ wG, w.before args s = true) ∧ KF G s s.heap ∧ meth.locks = false ∧ meth.name = mi.1.name ∧ R = rmD mi.2.2.2.2 rc0 rs0 ∧ gB G ≤ s.heap.size
def Cf (G : Ge) (mi : Mi) (L : List (Option AVal)) (st : List AVal) (M : Mem) (s : State) (H : Heap) (locs : List Loc) (cells slots : Nat) (ls : Array Slot) (rc0 rs0 : Nat) (A A0 : Role → Nat) (M0 : Mem) : Prop :=
  Pic G A M H ∧ va_S (Wr G) s.heap H locs ∧ (cells + M.rc ≤ rc0 ∧ slots + M.rs ≤ rs0) ∧ Lok A ls mi.2.2.1 L ∧ Wf M L st ∧ Ext M0 A0 M A
def Sf (G : Ge) (mi : Mi) (Q : Option AVal → Mem → Prop) (pc : Nat) (L : List (Option AVal)) (st : List AVal) (M : Mem) : Prop :=
  ∀ (p : Program) (e : Env) (R : Room) (s : State) (m : MethodId) (args : Array Value) (below : List Frame) (meth : Method) (c : Code) (H : Heap) (locs : List Loc) (cells slots : Nat) (ls : Array Slot) (rc0 rs0 : Nat) (A A0 : Role → Nat) (M0 : Mem),
    Cx G mi rc0 rs0 p R s m args meth c → Cf G mi L st M s H locs cells slots ls rc0 rs0 A A0 M0 →
    W p (gL G) e R s m args below meth c H locs cells slots (MQ below (Qcf G Q M0 A0 rc0 rs0) args s rc0 rs0 (Wr G)) (F0 m pc ls (st.map (conc A)))
-- a contract
def Ct (G : Ge) (mi : Mi) (as : List AVal) (M : Mem) (Q : Option AVal → Mem → Prop) : Prop :=
  ∀ A : Role → Nat, Met (gL G) mi.1 (Cond.code mi.1 mi.2.1 mi.2.2.1 mi.2.2.2.1 :: wG) (rmD mi.2.2.2.2 M.rc M.rs) (va_Pc (as.map (conc A)) (fun U => Pic G A M U.heap ∧ KF G U U.heap ∧ gB G ≤ U.heap.size ∧ (∀ v ∈ as, okV M v))) (Qcf G Q M A M.rc M.rs) M.rc M.rs (Wr G)
