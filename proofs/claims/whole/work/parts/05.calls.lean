/-! RETURNS, CALLS, NEW OBJECTS -/
theorem W.narrow {p : Program} {l : Launch} {e : Env} {R : Room} {s : State} {m : MethodId} {args : Array Value} {below : List Frame} {meth : Method} {c : Code} {H : Heap} {locs : List Loc} {cells slots : Nat} {Q : State → Prop} {g : JFrame}
    (h : H.size - s.heap.size ≤ cells → sumN s.heap.size H ≤ slots → s.heap.size ≤ H.size → KeepSz s.heap H → W p l e R s m args below meth c H locs (H.size - s.heap.size) (sumN s.heap.size H) Q g) : W p l e R s m args below meth c H locs cells slots Q g := by
  intro T hT X
  subst hT
  obtain ⟨a1, a2, a3, a4, a5, a6⟩ := id X.same
  have b2 : s.heap.size ≤ T.heap.size := a2
  have b3 : T.heap.size ≤ s.heap.size + cells := a3
  refine h (by omega) a5 b2 (fun a c hc => ?_) T rfl { X with same := ⟨a1, a2, ?_, a4, Nat.le_refl _, a6⟩ }
  · obtain ⟨c', h1, -, h3, -⟩ := a6 a c hc
    exact ⟨c', h1, h3⟩
  · show T.heap.size ≤ s.heap.size + (T.heap.size - s.heap.size)
    omega
theorem conc_ext {M : Mem} {A A1 : Role → Nat} {v : AVal} (h : ∀ r, M.len r ≠ none → A1 r = A r) (hv : okV M v) : conc A1 v = conc A v := by
  rcases v with z | o
  · rfl
  · cases o with
    | none => rfl
    | some r => exact congrArg Value.ref (h r (hv r rfl))
theorem map_ext {M : Mem} {A A1 : Role → Nat} {st : List AVal} (h : ∀ r, M.len r ≠ none → A1 r = A r) (hv : ∀ v ∈ st, okV M v) : st.map (conc A1) = st.map (conc A) := List.map_congr_left fun v hv1 => conc_ext h (hv v hv1)
theorem okV.mono {M M1 : Mem} {v : AVal} (h : ∀ r, M.len r ≠ none → M1.len r ≠ none) (hv : okV M v) : okV M1 v := fun r hr => h r (hv r hr)
theorem Lok.ext {M : Mem} {A A1 : Role → Nat} {ls : Array Slot} {nL : Nat} {L : List (Option AVal)} (hL : Lok A ls nL L) (h : ∀ r, M.len r ≠ none → A1 r = A r) (hv : ∀ v, some v ∈ L → okV M v) : Lok A1 ls nL L := ⟨hL.1, hL.2.1, fun i v hi => by rw [conc_ext h (hv v (List.mem_of_getElem? hi))]; exact hL.2.2 i v hi⟩
theorem sumN_split {n0 : Nat} {H H1 : Heap} (h0 : n0 ≤ H.size) (hk : KeepSz H H1) : sumN n0 H1 = sumN n0 H + sumN H.size H1 := by
  have e : H1.toList.map (·.slots.size) = H.toList.map (·.slots.size) ++ (H1.toList.drop H.size).map (·.slots.size) := by
    apply List.ext_getElem?
    intro i
    rw [List.getElem?_append]
    by_cases hi : i < (H.toList.map (·.slots.size)).length
    · rw [if_pos hi, List.getElem?_map, List.getElem?_map, Array.getElem?_toList, Array.getElem?_toList]
      rw [List.length_map, Array.length_toList] at hi
      obtain ⟨c', h1, h2⟩ := hk i H[i] (Array.getElem?_eq_getElem hi)
      rw [h1, Array.getElem?_eq_getElem hi]
      simp [h2]
    · rw [if_neg hi]
      rw [List.length_map, Array.length_toList] at hi ⊢
      rw [List.getElem?_map, List.getElem?_map, List.getElem?_drop]
      rw [show H.size + (i - H.size) = i by omega]
  have e2 : ((H1.toList.map (·.slots.size)).drop n0) = (H.toList.map (·.slots.size)).drop n0 ++ (H1.toList.drop H.size).map (·.slots.size) := by
    rw [← List.drop_append_of_le_length (by simpa using h0)]
    exact congrArg (List.drop n0) e
  unfold sumN
  rw [List.map_drop, e2, List.sum_append]
  simp only [List.map_drop]
theorem mem_stk {v : AVal} {r : Role} {As st : List AVal} (hv : v ∈ vR r :: As) : v ∈ As.reverse ++ vR r :: st := by
  rcases List.mem_cons.mp hv with h | h
  · rw [h]; exact List.mem_append_right _ List.mem_cons_self
  · exact List.mem_append_left _ (List.mem_reverse.mpr h)
theorem Cf.qc {G : Ge} {mi : Mi} {Q : Option AVal → Mem → Prop} {L : List (Option AVal)} {st : List AVal} {M : Mem} {s : State} {H : Heap} {locs : List Loc} {ls : Array Slot} {rc0 rs0 cells slots : Nat} {A A0 : Role → Nat} {M0 : Mem} (hF : Cf G mi L st M s H locs cells slots ls rc0 rs0 A A0 M0) {v : Option AVal} (hQ : Q v M) (hv : ∀ w, v = some w → okV M w) (h1 : H.size - s.heap.size ≤ cells) (h2 : sumN s.heap.size H ≤ slots) (h3 : s.heap.size ≤ H.size) (hk : KeepSz s.heap H) (a : Array Value) : ∀ t : State, t.heap = H → s.WarmedH t.vm → Qcf G Q M0 A0 rc0 rs0 a s (.returned (v.map (conc A))) t := fun t ht _ => by
  obtain ⟨f1, f2, f3, f4, f5, f6⟩ := hF
  subst ht
  exact ⟨v, M, A, rfl, hQ, f1, hv, f6, h3, f2.2.1, hk, by unfold Bud; omega⟩
theorem cat_sum (A : Role → Nat) : ∀ st : List AVal, ((st.map (conc A)).map fun v => v.category).sum ≤ st.length := by
  intro st
  induction st with
  | nil => exact Nat.le_refl 0
  | cons v st ih =>
    simp only [List.map_cons, List.sum_cons, List.length_cons, conc_cat]
    omega
theorem FrB (G : Ge) (as : List AVal) (A : Role → Nat) (M : Mem) : FrameBlind (va_Pc (as.map (conc A)) (fun U => Pic G A M U.heap ∧ KF G U U.heap ∧ gB G ≤ U.heap.size ∧ (∀ v ∈ as, okV M v))) := fun a U g mk q => by
  obtain ⟨q0, q1, q2, q3, q4⟩ := q
  exact ⟨q0, q1, KF.moved (s := U) (U := U.calling g mk a) (State.WarmedH.refl U) q2, q3, q4⟩
theorem Cx.pre {G : Ge} {mi : Mi} {rc0 rs0 : Nat} {p : Program} {R : Room} {s : State} {m : MethodId} {args : Array Value} {meth : Method} {c : Code} (hC : Cx G mi rc0 rs0 p R s m args meth c) {H : Heap} {locs : List Loc} (hS : va_S (Wr G) s.heap H locs) {as : List AVal} {A : Role → Nat} {M : Mem} (hP : Pic G A M H) (ho : ∀ v ∈ as, okV M v) : ∀ U : State, U.heap = H → s.WarmedH U.vm → va_Pc (as.map (conc A)) (fun U => Pic G A M U.heap ∧ KF G U U.heap ∧ gB G ≤ U.heap.size ∧ (∀ v ∈ as, okV M v)) (as.map (conc A)).toArray U := fun U hU hW => by
  subst hU
  exact ⟨rfl, hP, (hC.2.2.2.2.2.2.1.kept hS.1 hS.2.1).moved hW, Nat.le_trans hC.2.2.2.2.2.2.2.2.2.2 hS.1, ho⟩
def okM (mi : Mi) (n : Nat) : Prop := Cond.initialized mi.1.cls ∈ wG ∧ Cond.code mi.1 mi.2.1 mi.2.2.1 mi.2.2.2.1 ∈ wG ∧ (mi.1.cls ≠ "java/lang/invoke/MethodHandle" ∧ mi.1.cls ≠ "java/lang/invoke/VarHandle" ∧ (parseMethodDescriptor mi.1.desc).map (fun d => d.parameters.length) = some n) ∧ mi.2.2.1 ≤ 40
theorem okM.good {mi : Mi} {n : Nat} (h : okM mi n) : GoodIn wG (Cond.code mi.1 mi.2.1 mi.2.2.1 mi.2.2.2.1 :: wG) := fun w hw => by
  rcases List.mem_cons.mp hw with rfl | hw
  · exact wG_good _ h.2.1
  · exact wG_good _ hw
theorem call_on {G : Ge} {mi : Mi} {Q Q1 : Option AVal → Mem → Prop} {pc : Nat} {L : List (Option AVal)} {stk : List Value} {st as : List AVal} {M : Mem} {p : Program} {e : Env} {R : Room} {s : State} {m : MethodId} {args a : Array Value} {below : List Frame} {meth : Method} {c : Code} {H : Heap} {locs : List Loc} {cells slots : Nat} {ls : Array Slot} {rc0 rs0 : Nat} {A A0 : Role → Nat} {M0 : Mem}
    (hC : Cx G mi rc0 rs0 p R s m args meth c) (hF : Cf G mi L st M s H locs cells slots ls rc0 rs0 A A0 M0) (n1 : H.size - s.heap.size ≤ cells) (n2 : sumN s.heap.size H ≤ slots) (n3 : s.heap.size ≤ H.size)
    (hr : va_Run p (gL G) e R s m args below meth c H locs cells slots M.rc M.rs (F0 m pc ls stk) (st.map (conc A)) (Qcf G Q1 M A M.rc M.rs a) (Wr G))
    (kk : ∀ v M1, Q1 v M1 → Sf G mi Q (pc + 3) L (v.toList ++ st) M1) : W p (gL G) e R s m args below meth c H locs cells slots (MQ below (Qcf G Q M0 A0 rc0 rs0) args s rc0 rs0 (Wr G)) (F0 m pc ls stk) := by
  intro T hT X
  obtain ⟨v, st₀, t, T', L1, h0, X', hL, e1, e2, ⟨v', M1, A1, hv, hq, hP1, hok, hext, hz, hun, hks, hbud⟩, stp⟩ := hr T hT X
  have hvv : v = v'.map (conc A1) := by cases hv; rfl
  rw [h0] at hz hun hks hbud
  rw [← e1] at hP1 hz hun hks hbud
  have hmA : ∀ r, M.len r ≠ none → A1 r = A r := fun r hr => (hext r hr).2
  have hmM : ∀ r, M.len r ≠ none → M1.len r ≠ none := fun r hr => (hext r hr).1
  have k1 : W p (gL G) e R s m args below meth c T'.heap (locs ++ L1) (cells + M.rc) (slots + M.rs) (MQ below (Qcf G Q M0 A0 rc0 rs0) args s rc0 rs0 (Wr G)) (F0 m (pc + 3) ls ((v'.toList ++ st).map (conc A1))) := by
    refine W.narrow (fun m1 m2 m3 m4 => ?_)
    refine kk v' M1 hq p e R s m args below meth c T'.heap (locs ++ L1) _ _ ls rc0 rs0 A1 A0 M0 hC ⟨hP1, ⟨Nat.le_trans hF.2.1.1 hz, fun q h1 h2 => (hun q (Nat.lt_of_lt_of_le h1 hF.2.1.1) h2).trans (hF.2.1.2.1 q h1 h2), fun q hq => (List.mem_append.mp hq).elim (hF.2.1.2.2 q) (hL q)⟩, ?_, hF.2.2.2.1.ext hmA hF.wf.2, ⟨fun w hw => ?_, fun w hw => (hF.wf.2 w hw).mono hmM⟩, fun r hr => ⟨hmM r (hF.2.2.2.2.2 r hr).1, (hmA r (hF.2.2.2.2.2 r hr).1).trans (hF.2.2.2.2.2 r hr).2⟩⟩
    · have hb := hF.2.2.1
      have hs := sumN_split n3 hks
      obtain ⟨b1, b2⟩ := hbud
      constructor <;> omega
    · rcases List.mem_append.mp hw with hw | hw
      · exact hok w (by cases v' with
          | none => cases hw
          | some y => rw [show w = y by simpa using hw])
      · exact (hF.wf.1 w hw).mono hmM
  obtain ⟨t2, a1, b1⟩ := k1 T' rfl X'
  refine ⟨t2, stp t2 ?_, b1⟩
  have hst : v.toList ++ st.map (conc A) = (v'.toList ++ st).map (conc A1) := by
    rw [List.map_append, map_ext hmA hF.wf.1, hvv]
    cases v' <;> rfl
  show Steps p.tables e below (T'.setTop { (F0 m pc ls stk) with pc := pc + 3, stack := v.toList ++ st.map (conc A) }) t2
  rw [hst]
  exact a1
section
variable {G : Ge} {mi : Mi} {Q : Option AVal → Mem → Prop} {pc : Nat} {L : List (Option AVal)} {st : List AVal} {M : Mem}
theorem S_iret {v : Int} {ty : FieldType} (hd : decode mi.2.1 pc = .ok (.ireturn, 1)) (hr : mi.2.2.2.1 = some ty) (hz : ty = .int ∨ (ty = .boolean ∧ (v = 0 ∨ v = 1))) (hQ : Q (some (vI v)) M) : Sf G mi Q pc L [vI v] M := by
  intro p e R s m args below meth c H locs cells slots ls rc0 rs0 A A0 M0 hC hF
  refine W.narrow (fun n1 n2 n3 n4 => ?_)
  have hb := hF.2.2.1
  refine W.widen (k := rc0) (n := rs0) (by omega) (by omega) ?_
  exact W.zret (v := jI v) hC.1 hC.2.1 (hC.2.2.1.trans hr) (ty_of_int hz).1 (hF.qc (v := some (vI v)) hQ (fun w hw => by cases hw; exact okV_int _ _) n1 n2 n3 n4 args) hF.2.1.2.2 hd hC.2.2.2.2.2.2.2.1
theorem S_vret (hd : decode mi.2.1 pc = .ok (.return_, 1)) (hr : mi.2.2.2.1 = none) (hQ : Q none M) : Sf G mi Q pc L [] M := by
  intro p e R s m args below meth c H locs cells slots ls rc0 rs0 A A0 M0 hC hF
  refine W.narrow (fun n1 n2 n3 n4 => ?_)
  have hb := hF.2.2.1
  refine W.widen (k := rc0) (n := rs0) (by omega) (by omega) ?_
  exact W.vret hC.1 hC.2.1 (hC.2.2.1.trans hr) (hF.qc (v := none) hQ (fun w hw => by cases hw) n1 n2 n3 n4 args) hF.2.1.2.2 hd hC.2.2.2.2.2.2.2.1
theorem S_aret {o : Option Role} {ty : FieldType} (hd : decode mi.2.1 pc = .ok (.areturn, 1)) (hr : mi.2.2.2.1 = some ty) (hz : isRef ty = true) (hQ : Q (some (vQ o)) M) : Sf G mi Q pc L [vQ o] M := by
  intro p e R s m args below meth c H locs cells slots ls rc0 rs0 A A0 M0 hC hF
  refine W.narrow (fun n1 n2 n3 n4 => ?_)
  have hb := hF.2.2.1
  refine W.widen (k := rc0) (n := rs0) (by omega) (by omega) ?_
  refine W.aret (v := conc A (vQ o)) hC.1 hC.2.1 (hC.2.2.1.trans hr) ?_ ?_ (hF.qc (v := some (vQ o)) hQ (fun w hw => by cases hw; exact hF.wf.top) n1 n2 n3 n4 args) hF.2.1.2.2 hd hC.2.2.2.2.2.2.2.1
  · cases ty <;> first | (cases hz; done) | exact Or.inl ⟨_, rfl⟩ | exact Or.inr ⟨_, rfl⟩
  · cases o with
    | none => exact Or.inl rfl
    | some r => exact Or.inr ⟨A r, rfl⟩
theorem S_objInit {idx : Nat} {r : Role} (hl : Cond.methodLink mi.1.cls idx objectInit ∈ wG ∧ Cond.instanceMethod objectInit ∈ wG ∧ Cond.code objectInit ⟨#[0xb1]⟩ 1 none ∈ wG) (hd : decode mi.2.1 pc = .ok (.invokespecial idx, 3)) (hD : 1 ≤ mi.2.2.2.2) (hst : st.length ≤ 8) (k : Sf G mi Q (pc + 3) L st M) : Sf G mi Q pc L (vR r :: st) M := by
  intro p e R s m args below meth c H locs cells slots ls rc0 rs0 A A0 M0 hC hF
  have hsum : ((st.map (conc A)).map fun v => v.category).sum ≤ 8 := Nat.le_trans (cat_sum A st) hst
  refine W.objInit hC.1 hC.2.1 hC.2.2.2.2.1 (hC.2.2.2.2.2.1 _ hl.1) (hC.2.2.2.2.2.1 _ hl.2.1) (hC.2.2.2.2.2.1 _ hl.2.2) rfl (hF.2.2.2.1.1.trans hC.2.2.2.1.symm) rfl hd ?_ ?_ (k p e R s m args below meth c H locs cells slots ls rc0 rs0 A A0 M0 hC (hF.st (fun h => h.pop)))
  · rw [hC.2.2.2.2.2.2.2.2.2.1]; exact hD
  · rw [hC.2.2.2.2.2.2.2.2.2.1]
    show 2 * 0 + _ + 12 ≤ 64 * mi.2.2.2.2
    omega
theorem S_callV {idx n : Nat} {mi' : Mi} {r : Role} {ci : Nat} {Q1 : Option AVal → Mem → Prop} (As : List AVal) (hl0 : okM mi' n) (hl : Cond.methodLink mi.1.cls idx mi'.1 ∈ wG ∧ Cond.instanceMethod mi'.1 ∈ wG ∧ Cond.selects mi'.1.cls mi'.1 mi'.1 ∈ wG) (hd : decode mi.2.1 pc = .ok (.invokevirtual idx, 3)) (hk : kd r.1 = .inl ci) (hci : ci < 11) (hcl : mi'.1.cls = cR ci) (hDp : mi'.2.2.2.2 + 1 ≤ mi.2.2.2.2) (hlen : As.length = n) (hst : st.length ≤ 8) {stk : List AVal} (hstk : stk = As.reverse ++ vR r :: st) (hm : Ct G mi' (vR r :: As) M Q1) (kk : ∀ v M1, Q1 v M1 → Sf G mi Q (pc + 3) L (v.toList ++ st) M1) : Sf G mi Q pc L stk M := by
  intro p e R s m args below meth c H locs cells slots ls rc0 rs0 A A0 M0 hC hF
  subst hstk
  refine W.narrow (fun n1 n2 n3 n4 => ?_)
  have hb := hF.2.2.1
  have hsum : ((st.map (conc A)).map fun v => v.category).sum ≤ 8 := Nat.le_trans (cat_sum A st) hst
  have ho : ∀ v ∈ (vR r :: As), okV M v := fun v hv => hF.wf.1 v (mem_stk hv)
  have hF1 : Cf G mi L st M s H locs (H.size - s.heap.size) (sumN s.heap.size H) ls rc0 rs0 A A0 M0 := ⟨hF.1, hF.2.1, by omega, hF.2.2.2.1, ⟨fun v hv => hF.wf.1 v (List.mem_append_right _ (List.mem_cons_of_mem _ hv)), hF.wf.2⟩, hF.2.2.2.2.2⟩
  have hM := hm A
  refine call_on (as := vR r :: As) hC hF1 (Nat.le_refl _) (Nat.le_refl _) n3 (a := (vR r :: As).map (conc A) |>.toArray) ?_ kk
  obtain ⟨nr, hnr⟩ := (ho (vR r) List.mem_cons_self).get
  obtain ⟨ws, k0, h0, hp, -⟩ := hF.1.upd (M' := M) hnr (ro_obj hk) rfl (fun _ _ _ => ⟨rfl, rfl⟩) hF.1.2.2.1
  rw [ent_obj hk] at h0
  exact va_runV (As := As.map (conc A)) (b := A r) ⟨hC.1, hC.2.1, hC.2.2.2.1, hC.2.2.2.2.1, hC.2.2.2.2.2.1⟩ hM ⟨callB_of n hC.2.2.2.2.2.1 hl0.good rfl rfl rfl (hC.2.2.2.2.2.1 _ hl0.1) (hC.2.2.2.2.2.1 _ hl.1) hl0.2.2.1 ⟨by rw [hC.2.2.2.2.2.2.2.2.2.1]; exact hDp, by rw [hC.2.2.2.2.2.2.2.2.2.1]; show 8 + (mi'.2.2.1 + 11) + 64 * mi'.2.2.2.2 ≤ 64 * mi.2.2.2.2; have := hl0.2.2.2; omega⟩, hC.2.2.2.2.2.1 _ hl.2.1, hC.2.2.2.2.2.1 _ hl.2.2⟩ ⟨FrB _ _ _ _, by have hrv := va_recv hC.2.2.2.2.2.2.1.1 hp (vwCl_at ci hci) h0; rw [hcl]; exact hrv, hC.pre hF.2.1 hF.1 ho⟩ rfl (by rw [List.length_map]; exact hlen) (hF.2.2.2.1.1) (by show _ = _; rw [List.map_append, List.map_reverse, List.map_cons]; rfl) (by show 2 * 0 + _ ≤ 8; omega) hd ⟨by rw [hC.2.2.2.2.2.2.2.2.2.1]; show H.size - s.heap.size + M.rc ≤ rc0; omega, by rw [hC.2.2.2.2.2.2.2.2.2.1]; show sumN s.heap.size H + M.rs ≤ rs0; omega⟩
theorem S_callS {idx n : Nat} {mi' : Mi} {Q1 : Option AVal → Mem → Prop} (As : List AVal) (hl0 : okM mi' n) (hl : Cond.methodLink mi.1.cls idx mi'.1 ∈ wG ∧ Cond.static mi'.1 ∈ wG) (hd : decode mi.2.1 pc = .ok (.invokestatic idx, 3))  (hDp : mi'.2.2.2.2 + 1 ≤ mi.2.2.2.2) (hlen : As.length = n) (hst : st.length ≤ 8) {stk : List AVal} (hstk : stk = As.reverse ++ st) (hm : Ct G mi' (As) M Q1) (kk : ∀ v M1, Q1 v M1 → Sf G mi Q (pc + 3) L (v.toList ++ st) M1) : Sf G mi Q pc L stk M := by
  intro p e R s m args below meth c H locs cells slots ls rc0 rs0 A A0 M0 hC hF
  subst hstk
  refine W.narrow (fun n1 n2 n3 n4 => ?_)
  have hb := hF.2.2.1
  have hsum : ((st.map (conc A)).map fun v => v.category).sum ≤ 8 := Nat.le_trans (cat_sum A st) hst
  have ho : ∀ v ∈ (As), okV M v := fun v hv => hF.wf.1 v (List.mem_append_left _ (List.mem_reverse.mpr hv))
  have hF1 : Cf G mi L st M s H locs (H.size - s.heap.size) (sumN s.heap.size H) ls rc0 rs0 A A0 M0 := ⟨hF.1, hF.2.1, by omega, hF.2.2.2.1, ⟨fun v hv => hF.wf.1 v (List.mem_append_right _ hv), hF.wf.2⟩, hF.2.2.2.2.2⟩
  have hM := hm A
  refine call_on (as := As) hC hF1 (Nat.le_refl _) (Nat.le_refl _) n3 (a := (As).map (conc A) |>.toArray) ?_ kk
  exact va_runS (As := As.map (conc A)) ⟨hC.1, hC.2.1, hC.2.2.2.1, hC.2.2.2.2.1, hC.2.2.2.2.2.1⟩ hM ⟨callB_of n hC.2.2.2.2.2.1 hl0.good rfl rfl rfl (hC.2.2.2.2.2.1 _ hl0.1) (hC.2.2.2.2.2.1 _ hl.1) hl0.2.2.1 ⟨by rw [hC.2.2.2.2.2.2.2.2.2.1]; exact hDp, by rw [hC.2.2.2.2.2.2.2.2.2.1]; show 8 + (mi'.2.2.1 + 11) + 64 * mi'.2.2.2.2 ≤ 64 * mi.2.2.2.2; have := hl0.2.2.2; omega⟩, hC.2.2.2.2.2.1 _ hl.2⟩ ⟨FrB _ _ _ _, hC.pre hF.2.1 hF.1 ho⟩ rfl (by rw [List.length_map]; exact hlen) (hF.2.2.2.1.1) (by show _ = _; rw [List.map_append, List.map_reverse]) (by show 2 * 0 + _ ≤ 8; omega) hd ⟨by rw [hC.2.2.2.2.2.2.2.2.2.1]; show H.size - s.heap.size + M.rc ≤ rc0; omega, by rw [hC.2.2.2.2.2.2.2.2.2.1]; show sumN s.heap.size H + M.rs ≤ rs0; omega⟩
theorem S_callI {idx n : Nat} {mi' : Mi} {r : Role} {Q1 : Option AVal → Mem → Prop} (As : List AVal) (hl0 : okM mi' n) (hl : Cond.methodLink mi.1.cls idx mi'.1 ∈ wG ∧ Cond.instanceMethod mi'.1 ∈ wG) (hd : decode mi.2.1 pc = .ok (.invokespecial idx, 3)) (hini : mi'.1.name = "<init>") (hret : mi'.2.2.2.1 = none) (hDp : mi'.2.2.2.2 + 1 ≤ mi.2.2.2.2) (hlen : As.length = n) (hst : st.length ≤ 8) {stk : List AVal} (hstk : stk = As.reverse ++ vR r :: st) (hm : Ct G mi' (vR r :: As) M Q1) (kk : ∀ v M1, Q1 v M1 → Sf G mi Q (pc + 3) L (v.toList ++ st) M1) : Sf G mi Q pc L stk M := by
  intro p e R s m args below meth c H locs cells slots ls rc0 rs0 A A0 M0 hC hF
  subst hstk
  refine W.narrow (fun n1 n2 n3 n4 => ?_)
  have hb := hF.2.2.1
  have hsum : ((st.map (conc A)).map fun v => v.category).sum ≤ 8 := Nat.le_trans (cat_sum A st) hst
  have ho : ∀ v ∈ (vR r :: As), okV M v := fun v hv => hF.wf.1 v (mem_stk hv)
  have hF1 : Cf G mi L st M s H locs (H.size - s.heap.size) (sumN s.heap.size H) ls rc0 rs0 A A0 M0 := ⟨hF.1, hF.2.1, by omega, hF.2.2.2.1, ⟨fun v hv => hF.wf.1 v (List.mem_append_right _ (List.mem_cons_of_mem _ hv)), hF.wf.2⟩, hF.2.2.2.2.2⟩
  have hM := hm A
  refine call_on (as := vR r :: As) hC hF1 (Nat.le_refl _) (Nat.le_refl _) n3 (a := (vR r :: As).map (conc A) |>.toArray) ?_ kk
  obtain ⟨y', b', nl', rt', D'⟩ := mi'
  have hrt : rt' = none := hret
  subst hrt
  exact va_runI (As := As.map (conc A)) (b := A r) ⟨hC.1, hC.2.1, hC.2.2.2.1, hC.2.2.2.2.1, hC.2.2.2.2.2.1⟩ hM ⟨callB_of n hC.2.2.2.2.2.1 hl0.good rfl rfl rfl (hC.2.2.2.2.2.1 _ hl0.1) (hC.2.2.2.2.2.1 _ hl.1) hl0.2.2.1 ⟨by rw [hC.2.2.2.2.2.2.2.2.2.1]; exact hDp, by rw [hC.2.2.2.2.2.2.2.2.2.1]; show 8 + (nl' + 11) + 64 * D' ≤ 64 * mi.2.2.2.2; have h9 : nl' ≤ 40 := hl0.2.2.2; have h8 : D' + 1 ≤ mi.2.2.2.2 := hDp; omega⟩, hini, hC.2.2.2.2.2.1 _ hl.2⟩ ⟨FrB _ _ _ _, hC.pre hF.2.1 hF.1 ho⟩ rfl (by rw [List.length_map]; exact hlen) (hF.2.2.2.1.1) (by show _ = _; rw [List.map_append, List.map_reverse, List.map_cons]; rfl) (by show 2 * 0 + _ ≤ 8; omega) hd ⟨by rw [hC.2.2.2.2.2.2.2.2.2.1]; show H.size - s.heap.size + M.rc ≤ rc0; omega, by rw [hC.2.2.2.2.2.2.2.2.2.1]; show sumN s.heap.size H + M.rs ≤ rs0; omega⟩
theorem S_callIN {idx n : Nat} {mi' : Mi} {r : Role} {Q1 : Option AVal → Mem → Prop} (As : List AVal) (hl0 : okM mi' n) {host : String} (hl : Cond.methodLinkNest mi.1.cls idx mi'.1 host ∈ wNst ∧ Cond.instanceMethod mi'.1 ∈ wG) (hd : decode mi.2.1 pc = .ok (.invokespecial idx, 3)) (hini : mi'.1.name = "<init>") (hret : mi'.2.2.2.1 = none) (hDp : mi'.2.2.2.2 + 1 ≤ mi.2.2.2.2) (hlen : As.length = n) (hst : st.length ≤ 8) {stk : List AVal} (hstk : stk = As.reverse ++ vR r :: st) (hm : Ct G mi' (vR r :: As) M Q1) (kk : ∀ v M1, Q1 v M1 → Sf G mi Q (pc + 3) L (v.toList ++ st) M1) : Sf G mi Q pc L stk M := by
  intro p e R s m args below meth c H locs cells slots ls rc0 rs0 A A0 M0 hC hF
  subst hstk
  refine W.narrow (fun n1 n2 n3 n4 => ?_)
  have hb := hF.2.2.1
  have hsum : ((st.map (conc A)).map fun v => v.category).sum ≤ 8 := Nat.le_trans (cat_sum A st) hst
  have ho : ∀ v ∈ (vR r :: As), okV M v := fun v hv => hF.wf.1 v (mem_stk hv)
  have hF1 : Cf G mi L st M s H locs (H.size - s.heap.size) (sumN s.heap.size H) ls rc0 rs0 A A0 M0 := ⟨hF.1, hF.2.1, by omega, hF.2.2.2.1, ⟨fun v hv => hF.wf.1 v (List.mem_append_right _ (List.mem_cons_of_mem _ hv)), hF.wf.2⟩, hF.2.2.2.2.2⟩
  have hM := hm A
  refine call_on (as := vR r :: As) hC hF1 (Nat.le_refl _) (Nat.le_refl _) n3 (a := (vR r :: As).map (conc A) |>.toArray) ?_ kk
  obtain ⟨y', b', nl', rt', D'⟩ := mi'
  have hrt : rt' = none := hret
  subst hrt
  exact va_runIN (As := As.map (conc A)) (b := A r) ⟨hC.1, hC.2.1, hC.2.2.2.1, hC.2.2.2.2.1, hC.2.2.2.2.2.1⟩ hM ⟨va_cnB n hC.2.2.2.2.2.1 hl0.good rfl rfl rfl (hC.2.2.2.2.2.2.1.2.2.2.2.2.2.1 _ hl.1) (hC.2.2.2.2.2.1 _ hl0.1) hl0.2.2.1 ⟨by rw [hC.2.2.2.2.2.2.2.2.2.1]; exact hDp, by rw [hC.2.2.2.2.2.2.2.2.2.1]; show 8 + (nl' + 11) + 64 * D' ≤ 64 * mi.2.2.2.2; have h9 : nl' ≤ 40 := hl0.2.2.2; have h8 : D' + 1 ≤ mi.2.2.2.2 := hDp; omega⟩, hini, hC.2.2.2.2.2.1 _ hl.2⟩ ⟨FrB _ _ _ _, hC.pre hF.2.1 hF.1 ho⟩ rfl (by rw [List.length_map]; exact hlen) (hF.2.2.2.1.1) (by show _ = _; rw [List.map_append, List.map_reverse, List.map_cons]; rfl) (by show 2 * 0 + _ ≤ 8; omega) hd ⟨by rw [hC.2.2.2.2.2.2.2.2.2.1]; show H.size - s.heap.size + M.rc ≤ rc0; omega, by rw [hC.2.2.2.2.2.2.2.2.2.1]; show sumN s.heap.size H + M.rs ≤ rs0; omega⟩
end
-- a contract out of a body
theorem lv_args_mem : ∀ (vs : List Value) (j i : Nat) (v : Value), (∀ w ∈ vs, w.category = 1) → vs[i]? = some v → (j + i, v) ∈ lv_args j vs := by
  intro vs
  induction vs with
  | nil => intro j i v _ h; cases h
  | cons w vs ih =>
    intro j i v hc h
    have hw : w.category = 1 := hc w List.mem_cons_self
    show (j + i, v) ∈ (j, w) :: lv_args (if w.category = 2 then j + 2 else j + 1) vs
    rw [hw, if_neg (by decide)]
    cases i with
    | zero => cases h; exact List.mem_cons_self
    | succ i =>
      have := ih (j + 1) i v (fun w hw => hc w (List.mem_cons_of_mem _ hw)) h
      rw [show j + (i + 1) = j + 1 + i by omega]
      exact List.mem_cons_of_mem _ this
theorem sl_len : ∀ vs : List Value, (∀ w ∈ vs, w.category = 1) → (lg_sl vs).length = vs.length := by
  intro vs
  induction vs with
  | nil => intro _; rfl
  | cons w vs ih =>
    intro hc
    have hw : w.category = 1 := hc w List.mem_cons_self
    have h2 := ih (fun w hw => hc w (List.mem_cons_of_mem _ hw))
    show ((if w.category = 2 then [Slot.val w, .second] else [.val w]) ++ lg_sl vs).length = _
    rw [hw, if_neg (by decide), List.length_append, h2]
    simp only [List.length_cons, List.length_nil]
    omega
theorem Ct.of {G : Ge} {mi : Mi} {as : List AVal} {M : Mem} {Q : Option AVal → Mem → Prop} (hy : plainName mi.1.cls = true) (L : List (Option AVal)) (hL : L = as.map some ++ List.replicate (mi.2.2.1 - as.length) none) (hn : as.length ≤ mi.2.2.1) (hb : Sf G mi Q 0 L [] M) : Ct G mi as M Q := by
  intro A
  subst hL
  refine Met.ofW (cc := mi.2.1) (maxL := mi.2.2.1) (ret := mi.2.2.2.1) hy rfl ?_
  intro p e s m args below meth c s₁ B hml hv
  obtain ⟨rfl, hP, hK, hB, hok⟩ := hv
  have hcat : ∀ w ∈ as.map (conc A), w.category = 1 := fun w hw => by
    obtain ⟨v, -, rfl⟩ := List.mem_map.mp hw
    exact conc_cat A v
  have hl := lv_entry (as.map (conc A)) (n := mi.2.2.1) (by rw [sl_len _ hcat, List.length_map]; exact hn)
  rw [lg_entry_eq]
  generalize (lg_sl (as.map (conc A)) ++ List.replicate (mi.2.2.1 - (lg_sl (as.map (conc A))).length) Slot.unset).toArray = ls at hl ⊢
  refine hb p e _ s m _ below meth c s.heap [] 0 0 ls M.rc M.rs A A M ⟨B.exec, B.bytes, B.returns, hml, findClass_of_methodNamed B.named, fun w hw => atoms_spec B.pre w (List.mem_cons_of_mem _ hw), hK, B.notSynchronized, (name_of_methodNamed B.named B.method).1, rfl, hB⟩ ⟨hP, va_S.rf, by omega, ⟨hl.1, hl.2.1, fun i v hi => ?_⟩, ⟨fun v hv => absurd hv List.not_mem_nil, fun v hv => ?_⟩, fun r hr => ⟨hr, rfl⟩⟩
  · rw [List.getElem?_append] at hi
    split at hi
    · rw [List.getElem?_map] at hi
      cases h : as[i]? with
      | none => rw [h] at hi; cases hi
      | some w =>
        rw [h] at hi
        cases hi
        have := lv_args_mem (as.map (conc A)) 0 i (conc A v) hcat (by rw [List.getElem?_map, h]; rfl)
        rw [Nat.zero_add] at this
        exact hl.2.2 _ this
    · rw [List.getElem?_replicate] at hi
      split at hi
      · cases hi
      · cases hi
  · rcases List.mem_append.mp hv with h | h
    · obtain ⟨w, hw, e1⟩ := List.mem_map.mp h
      cases e1
      exact hok v hw
    · have := (List.mem_replicate.mp h).2
      cases this
theorem Ct.imp {G : Ge} {mi : Mi} {as : List AVal} {M : Mem} {Q Q' : Option AVal → Mem → Prop} (hq : ∀ v M', Q' v M' → Q v M') (h : Ct G mi as M Q') : Ct G mi as M Q := by
  intro A p e ha hc hk s m args below hf hap hP hT
  obtain ⟨t, o, h1, h2, h3, ⟨v, M1, A1, h4, h5, h6⟩, h7⟩ := h A p e ha hc hk s m args below hf hap hP hT
  exact ⟨t, o, h1, h2, h3, ⟨v, M1, A1, h4, hq _ _ h5, h6⟩, h7⟩
