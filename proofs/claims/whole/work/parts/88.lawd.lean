/-! THE LAW: from its entry -/
theorem W.room {p : Program} {l : Launch} {e : Env} {R R' : Room} {s : State} {m : MethodId} {args : Array Value} {below : List Frame} {meth : Method} {c : Code} {H : Heap} {locs : List Loc} {cells slots : Nat} {Q Q' : State → Prop} {g : JFrame}
    (hr : ∀ pl, s.hasRoom pl R = true → s.hasRoom pl R' = true) (hq : ∀ t, Q' t → Q t) (h : W p l e R' s m args below meth c H locs cells slots Q' g) : W p l e R s m args below meth c H locs cells slots Q g := by
  intro T hT X
  obtain ⟨t, h1, h2⟩ := h T hT { X with room := hr _ X.room }
  exact ⟨t, h1, hq t h2⟩
theorem room_le (s : State) (pl : Platform) (h : s.hasRoom pl room_1 = true) : s.hasRoom pl (rmD 22 600000 7302250) = true := by
  unfold State.hasRoom at h ⊢
  simp only [Bool.and_eq_true, decide_eq_true_eq, room_1, rmD] at h ⊢
  obtain ⟨⟨⟨⟨h1, h2⟩, h3⟩, h4⟩, h5⟩ := h
  have g1 := of_decide_eq_true h1
  obtain ⟨g2, g3, g4, g5, g6⟩ := of_decide_eq_true h2
  exact ⟨⟨⟨⟨decide_eq_true (by omega), decide_eq_true ⟨by omega, by omega, by omega, by omega, g6⟩⟩, h3⟩, h4⟩, h5⟩
theorem frame_nil {s t : State} {o : Outcome} {Lc : List Loc} {k n : Nat} (h : FrameEnd s o t Lc k n) (hL : ∀ q : Loc, q ∈ Lc → s.heap.size ≤ q.base) : Framed s o t [] k n := by
  obtain ⟨h1, h2, a1, a2, a3, a4, a5, a6⟩ := h
  refine ⟨h1, h2, a1, a2, a3, a4, a5, fun a c hc => ?_⟩
  obtain ⟨c', q1, q2, q3, q4⟩ := a6 a c hc
  refine ⟨c', q1, q2, q3, fun i _ => q4 i (fun hm => ?_)⟩
  have q5 : s.heap.size ≤ a := hL _ hm
  exact absurd q5 (Nat.not_le.mpr (Array.getElem?_eq_some_iff.mp hc).1)
def M00 (L : Nat) : Mem := (fun r => if r = (20, 0) then some 0 else if r = (40, 0) then some L else if r = (41, 0) then some 0 else none, fun _ _ => 0, fun _ _ => none, 600000, 7302250)
def A00 (gE b gM : Nat) : Role → Nat := fun r => if r.1 = 20 then gE else if r.1 = 40 then b else gM
theorem M00_len {L : Nat} {r : Role} (h : (M00 L).len r ≠ none) : r = (20, 0) ∨ r = (40, 0) ∨ r = (41, 0) := by
  by_cases h1 : r = (20, 0)
  · exact Or.inl h1
  · by_cases h2 : r = (40, 0)
    · exact Or.inr (Or.inl h2)
    · by_cases h3 : r = (41, 0)
      · exact Or.inr (Or.inr h3)
      · exact absurd (show (M00 L).len r = none from (if_neg h1).trans ((if_neg h2).trans (if_neg h3))) h
theorem pic0 {G : Ge} {H : Heap} : Pic G (A00 (gE G) (gS G) (gM G)) (M00 (gN G)) H := by
  refine ⟨⟨[], ⟨fun r n hr hro => ?_, fun k q hq => by cases hq⟩, fun k q hq => (by cases hq), fun i j p q hp => (by cases hp), fun k q hq => (by cases hq)⟩, fun r r' h h' n n' _ => ?_, fun r k r' _ h => (by cases h), ⟨rfl, rfl⟩, ⟨rfl, rfl, rfl, rfl⟩, fun r h _ => M00_len h⟩
  · rcases M00_len (L := gN G) (r := r) (by rw [hr]; exact fun z => by cases z) with rfl | rfl | rfl <;> cases hro
  · rcases M00_len h with rfl | rfl | rfl
    · rcases M00_len h' with rfl | rfl | rfl
      · rfl
      · exact absurd rfl n'.1
      · exact absurd rfl n'.2
    · exact absurd rfl n.1
    · exact absurd rfl n.2
theorem arrT {s : State} {cA comp : ClassId} {kA : Class} {ty : FieldType} (h2 : s.vm.classes[cA]? = some kA) (h3 : kA.kind = .array comp ty) : ArrOfT s cA ty := fun n z => ⟨fun k h => (by cases h), kA, h2, comp, h3⟩
theorem arr_cl {s : State} {args : Array Value} (hts : ∀ w ∈ lw_tbl, w.before args s = true) (j : Nat) (hj : j < 8) : ∃ cA, ArrOfT s cA (aT j) ∧ va_RA s cA (aT j) := by
  have hob : ∀ C, Cond.arrayOver (.object C) ∈ lw_tbl → ∃ cA, ArrOfT s cA (.object C) ∧ va_RA s cA (.object C) := fun C hC => by
    obtain ⟨comp, c, k, h1, h2, h3, h4, h5⟩ := Cond.arrayOver_spec (hts _ hC)
    exact ⟨c, arrT h3 h4, k, comp, h3, h4, h1, h5⟩
  rcases (show j = 0 ∨ j = 1 ∨ j = 2 ∨ j = 3 ∨ j = 4 ∨ j = 5 ∨ j = 6 ∨ j = 7 by omega) with rfl | rfl | rfl | rfl | rfl | rfl | rfl | rfl
  · obtain ⟨c, k, comp, h1, h2, h3⟩ := Cond.arrayClass_spec (hts (.arrayClass .int) (by decide +kernel))
    exact ⟨c, arrT h2 h3, h1⟩
  · obtain ⟨c, k, comp, h1, h2, h3⟩ := Cond.arrayClass_spec (hts (.arrayClass .boolean) (by decide +kernel))
    exact ⟨c, arrT h2 h3, h1⟩
  · exact hob "RatchetPost$End" (by decide +kernel)
  · exact hob "RatchetPost$Letter" (by decide +kernel)
  · exact hob "RatchetPost$Skipped" (by decide +kernel)
  · exact hob "RatchetPost$Thing" (by decide +kernel)
  · exact hob "RatchetPost$Tray" (by decide +kernel)
  · exact hob "java/lang/Object" (by decide +kernel)
theorem wG_tbl {w : Cond} (h : w ∈ wG) : w ∈ lw_tbl := (List.mem_filter.mp h).1
theorem ins_tbl : ∀ ci, ci < 11 → Cond.instantiable (cR ci) (cN ci) ∈ lw_tbl := by decide +kernel
theorem kn0 {s : State} {args : Array Value} (hts : ∀ w ∈ lw_tbl, w.before args s = true) : ∃ (D : va_G) (aC : Nat → ClassId), va_K D vwCl (tysL aC) s := by
  have h1 : ∀ ci : Nat, ∃ x : ClassId × (Nat → Nat), ci < 11 → u_Kn s (cR ci) (cT ci) (cN ci) x.1 x.2 := fun ci => by
    by_cases h : ci < 11
    · obtain ⟨cC, iS, q⟩ := u_known hts (fun w hw => wG_tbl (uIn ci h w hw)) (hts _ (ins_tbl ci h))
      exact ⟨(cC, iS), fun _ => q⟩
    · exact ⟨(0, fun _ => 0), fun z => absurd z h⟩
  have h2 : ∀ j : Nat, ∃ cA : ClassId, j < 8 → ArrOfT s cA (aT j) ∧ va_RA s cA (aT j) := fun j => by
    by_cases h : j < 8
    · obtain ⟨cA, q⟩ := arr_cl hts j h
      exact ⟨cA, fun _ => q⟩
    · exact ⟨0, fun z => absurd z h⟩
  obtain ⟨f, hf⟩ : ∃ f : Nat → ClassId × (Nat → Nat), ∀ ci : Nat, ci < 11 → u_Kn s (cR ci) (cT ci) (cN ci) (f ci).1 (f ci).2 := ⟨fun ci => Classical.choose (h1 ci), fun ci => Classical.choose_spec (h1 ci)⟩
  obtain ⟨g, hg⟩ : ∃ g : Nat → ClassId, ∀ j : Nat, j < 8 → ArrOfT s (g j) (aT j) ∧ va_RA s (g j) (aT j) := ⟨fun j => Classical.choose (h2 j), fun j => Classical.choose_spec (h2 j)⟩
  refine ⟨(fun c => (f c).1, fun c => (f c).2), g, fun c q hq => ?_, fun k q hq => ?_⟩
  · have hc : c < 11 := (List.getElem?_eq_some_iff.mp hq).1
    rw [vwCl_at c hc] at hq
    cases hq
    exact hf c hc
  · have hk : k < 8 := (List.getElem?_eq_some_iff.mp hq).1
    rw [tysL_at g k hk] at hq
    cases hq
    exact hg k hk
theorem kf0 {s : State} {args : Array Value} (hts : ∀ w ∈ lw_tbl, w.before args s = true) (hgv : (Jvm.Cond.and given_1 narrow_1).before args s = true) (l : Launch) {b L : Nat} {xs : Nat → Int32} (hX : va_X b L xs s s.heap) (hb : b < s.heap.size) :
    ∃ (D : va_G) (aC : Nat → ClassId) (gE gM : Nat), KF (l, D, aC, s.heap.size, gE, b, L, xs, gM) s s.heap := by
  obtain ⟨D, aC, hK⟩ := kn0 hts
  have hs := flat_of_before _ hgv
  have hA : ∀ a : Nat, a < s.heap.size → ¬ s.heap.size ≤ a := fun a ha => by omega
  have q1 : (Cond.arrayOf (.static RJx4a65c nmZ nmO) (.object "java/lang/Object")).before args s = true := hs _ (by decide +kernel)
  have q2 : (Cond.eq (.length (.static RJx4a65c nmZ nmO)) (.int 0)).before args s = true := hs _ (by decide +kernel)
  have q3 : (Cond.isRef (.mirror nmO)).before args s = true := hs _ (by decide +kernel)
  have q4 : (Cond.not (.castable RX4 RX3)).before args s = true := hs _ (by decide +kernel)
  obtain ⟨gM, hM⟩ := va_Mi.of q3
  have q5 : (Term.length (.static RJx4a65c nmZ nmO)).eval args s none [] s = some (.int (Int32.ofNat 0)) := by
    cases ha : (Term.length (.static RJx4a65c nmZ nmO)).eval args s none [] s with
    | none => simp [Cond.before, Cond.holds, Cond.value, ha] at q2
    | some v =>
      obtain ⟨a, cell, h1, h2, h3⟩ := Term.length_spec ha
      rw [h3] at ha ⊢
      have hv := Cond.eq_ints ha (show (Term.int 0).eval args s none [] s = some (.int 0) from rfl)
      have hd : cell.slots.size.toInt32 = 0 := by simpa [Cond.before, Cond.holds, hv] using q2
      rw [hd]
      rfl
  obtain ⟨t, t1, t2⟩ := va_Tof (args := args) (s := s) (tm := .static RJx4a65c nmZ nmO) (ty := .object "java/lang/Object") (N := 0) (f := fun _ => .null) (A := fun q => s.heap.size ≤ q) (by decide) q1 q5 (fun j hj => absurd hj (by omega)) hA
  refine ⟨D, aC, t, gM, hK, va_Zref (hts _ (by decide +kernel)) (hts _ (by decide +kernel)) t1 hA, t2, ⟨hX, hA b hb, hb⟩, hM, va_Nc.of q4, fun w hw => va_Nw.of ((by decide +kernel : ∀ w ∈ wNst, w.onTables = true) w hw) (hts w ((by decide +kernel : ∀ w ∈ wNst, w ∈ lw_tbl) w hw)), fun C hC => va_AO.of (hts _ ((by decide +kernel : ∀ C ∈ wAO, Cond.arrayOver (.object C) ∈ lw_tbl) C hC)), va_Nw.of (by decide +kernel) (hts (.castable RX4 "java/lang/Object") (by decide +kernel)), va_Nw.of (by decide +kernel) (hts (.castable RX3 RX4) (by decide +kernel)), va_Dc.of (hts (.declares { cls := "java/lang/Object", name := "getClass", desc := "()Ljava/lang/Class;" }) (by decide +kernel))⟩
theorem law_entry {p : Program} {e : Env} {s : State} {m : MethodId} {below : List Frame} {meth : Method} {c : Code} (l : Launch) {b L : Nat} {xs : Nat → Int32} (hL : L ≤ 2048) (hexec : p.tables.exec = Jvm.exec) (hb : c.code = code) (hr : meth.sig.returnType = ret) (hml : c.maxLocals = 4) (hown : s.vm.findClass RL = some m.cls) (hts : ∀ w ∈ lw_tbl, w.before #[Value.ref b] s = true) (hX : va_X b L xs s s.heap) (hbs : b < s.heap.size) (hlk : meth.locks = false) (hgv : (Jvm.Cond.and given_1 narrow_1).before #[Value.ref b] s = true) :
    W p l e room_1 s m #[Value.ref b] below meth c s.heap [] 0 0 (fun t => ∃ o, t.status = .running ∧ Ended t below o ∧ o = .returned (some (.int 1)) ∧ Framed s o t [] 600000 7302250) (entryFrame m ([Value.ref b] : List Value).toArray 4) := by
  obtain ⟨D, aC, gE', gM', hK⟩ := kf0 hts hgv l hX hbs
  obtain ⟨G, hG⟩ : ∃ G : Ge, G = (l, D, aC, s.heap.size, gE', b, L, xs, gM') := ⟨_, rfl⟩
  rw [← hG] at hK
  have gl : gL G = l := by rw [hG]; rfl
  have gn : gN G = L := by rw [hG]; rfl
  have gs : gS G = b := by rw [hG]; rfl
  have gb : gB G = s.heap.size := by rw [hG]; rfl
  clear hG
  refine W.room (R' := rmD 22 600000 7302250) (Q' := MQ below (Qcf G (fun v _ => v = some (vI 1)) (M00 (gN G)) (A00 (gE G) (gS G) (gM G)) 600000 7302250) #[Value.ref b] s 600000 7302250 (Wr G)) (fun pl h => room_le s pl h) (fun t ht => ?_) ?_
  · obtain ⟨o, h1, h2, ⟨v, M, A, ho, hv, -⟩, Lc, hf, hw⟩ := ht
    refine ⟨o, h1, h2, by rw [ho, hv]; rfl, frame_nil hf (fun q hq => ?_)⟩
    have := hw q hq
    unfold Wr at this
    rw [gb] at this
    exact this
  · have hl := lv_entry [Value.ref b] (n := 4) (Nat.le_of_ble_eq_true rfl)
    rw [lg_entry_eq]
    generalize (lg_sl ([Value.ref b]) ++ List.replicate (4 - (lg_sl ([Value.ref b])).length) Slot.unset).toArray = ls at hl ⊢
    have hl : lv_has ls 4 [(0, Value.ref b)] := hl
    have hS := law_all (nm := meth.name) (G := G) (Q := fun v _ => v = some (vI 1)) (by rw [gn]; exact hL) (fun _ => rfl) (M := M00 (gN G)) (fun r hr' => by
      by_cases hz : (M00 (gN G)).len r = none
      · exact hz
      · rcases M00_len hz with rfl | rfl | rfl
        · exact absurd hr' (by decide)
        · exact absurd hr' (by decide)
        · exact absurd hr' (by decide)) rfl (fun _ _ => rfl) rfl rfl
    have r1 : (M00 (gN G)).rc = 600000 := rfl
    have r2 : (M00 (gN G)).rs = 7302250 := rfl
    rw [← gl]
    refine hS p e (rmD 22 600000 7302250) s m #[Value.ref b] below meth c s.heap [] 0 0 ls 600000 7302250 (A00 (gE G) (gS G) (gM G)) (A00 (gE G) (gS G) (gM G)) (M00 (gN G)) ⟨hexec, hb, hr, hml, hown, fun w hw => hts w (wG_tbl hw), hK, hlk, rfl, rfl, by rw [gb]; exact Nat.le_refl _⟩ ⟨pic0, va_S.rf, ⟨by rw [r1]; omega, by rw [r2]; omega⟩, ⟨hl.1, hl.2.1, fun i v hi => ?_⟩, ⟨fun v hv => (by cases hv), fun v hv => ?_⟩, fun r h => ⟨h, rfl⟩⟩
    · match i, hi with
      | 0, hi =>
        cases hi
        have h0 := hl.2.2 (0, Value.ref b) List.mem_cons_self
        rw [h0]
        show some (Slot.val (.ref b)) = some (Slot.val (.ref (gS G)))
        rw [gs]
      | 1, hi => cases hi
      | 2, hi => cases hi
      | 3, hi => cases hi
      | i + 4, hi => cases hi
    · intro r hrr
      have hv2 : v = vR (40, 0) := by
        simp only [List.mem_cons, Option.some.injEq, List.not_mem_nil, or_false] at hv
        rcases hv with h | h | h | h
        · exact h
        · cases h
        · cases h
        · cases h
      rw [hv2] at hrr
      cases hrr
      exact fun z => by cases z
