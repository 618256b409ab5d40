/-! THE HEAP'S RULES -/
theorem uIn_of (C : String) (T : u_T) (N : Nat) (ps : List Nat) (h : u_ws C T N = ps.filterMap (fun i => lw_tbl[i]?)) (hg : (u_ws C T N).all goodWord = true) : ∀ w ∈ u_ws C T N, w ∈ wG := fun w hw => by
  have h1 := List.all_eq_true.mp hg w hw
  rw [h] at hw
  obtain ⟨i, -, hi⟩ := List.mem_filterMap.mp hw
  exact List.mem_filter.mpr ⟨List.mem_of_getElem? hi, h1⟩
theorem uIn_0 : ∀ w ∈ u_ws (cR 0) (cT 0) (cN 0), w ∈ wG := uIn_of _ _ _ [136, 132, 134] (by decide +kernel) (by decide +kernel)
theorem uIn_1 : ∀ w ∈ u_ws (cR 1) (cT 1) (cN 1), w ∈ wG := uIn_of _ _ _ [108, 110] (by decide +kernel) (by decide +kernel)
theorem uIn_2 : ∀ w ∈ u_ws (cR 2) (cT 2) (cN 2), w ∈ wG := uIn_of _ _ _ [289, 291, 293, 295, 297, 299, 301, 303, 305, 307, 309, 311, 313, 315, 317, 319] (by decide +kernel) (by decide +kernel)
theorem uIn_3 : ∀ w ∈ u_ws (cR 3) (cT 3) (cN 3), w ∈ wG := uIn_of _ _ _ [515, 517, 519, 521, 523, 525] (by decide +kernel) (by decide +kernel)
theorem uIn_4 : ∀ w ∈ u_ws (cR 4) (cT 4) (cN 4), w ∈ wG := uIn_of _ _ _ [605, 606, 607, 608, 609, 610, 611, 612, 597, 599, 601, 603] (by decide +kernel) (by decide +kernel)
theorem uIn_5 : ∀ w ∈ u_ws (cR 5) (cT 5) (cN 5), w ∈ wG := uIn_of _ _ _ [359, 361, 363, 365, 367, 369, 371, 373] (by decide +kernel) (by decide +kernel)
theorem uIn_6 : ∀ w ∈ u_ws (cR 6) (cT 6) (cN 6), w ∈ wG := uIn_of _ _ _ [145, 147, 149] (by decide +kernel) (by decide +kernel)
theorem uIn_7 : ∀ w ∈ u_ws (cR 7) (cT 7) (cN 7), w ∈ wG := uIn_of _ _ _ [182, 184] (by decide +kernel) (by decide +kernel)
theorem uIn_8 : ∀ w ∈ u_ws (cR 8) (cT 8) (cN 8), w ∈ wG := uIn_of _ _ _ [167, 169] (by decide +kernel) (by decide +kernel)
theorem uIn_9 : ∀ w ∈ u_ws (cR 9) (cT 9) (cN 9), w ∈ wG := uIn_of _ _ _ [199, 201, 203, 205, 207, 209, 211, 213, 215, 217, 219] (by decide +kernel) (by decide +kernel)
theorem uIn_10 : ∀ w ∈ u_ws (cR 10) (cT 10) (cN 10), w ∈ wG := uIn_of _ _ _ [844, 846, 848, 850, 852, 854, 856, 858, 860, 862, 864, 866, 868, 870, 872, 874, 876, 878, 880, 882, 884, 886, 888, 890, 892, 894, 896, 898, 900, 902, 904, 906, 908, 910, 912, 914, 916, 918, 920, 922, 924, 926, 928, 930, 932, 934] (by decide +kernel) (by decide +kernel)
theorem uIn (ci : Nat) (h : ci < 11) : ∀ w ∈ u_ws (cR ci) (cT ci) (cN ci), w ∈ wG := by
  rcases (show ci = 0 ∨ ci = 1 ∨ ci = 2 ∨ ci = 3 ∨ ci = 4 ∨ ci = 5 ∨ ci = 6 ∨ ci = 7 ∨ ci = 8 ∨ ci = 9 ∨ ci = 10 by omega) with h | h | h | h | h | h | h | h | h | h | h <;> subst h
  · exact uIn_0
  · exact uIn_1
  · exact uIn_2
  · exact uIn_3
  · exact uIn_4
  · exact uIn_5
  · exact uIn_6
  · exact uIn_7
  · exact uIn_8
  · exact uIn_9
  · exact uIn_10
theorem cTy_ok (ci : Nat) (h : ci < 11) : ∀ k, k < cN ci → parseFieldDescriptor (cT ci k).2.2.1 = some (cTy ci k) := by
  rcases (show ci = 0 ∨ ci = 1 ∨ ci = 2 ∨ ci = 3 ∨ ci = 4 ∨ ci = 5 ∨ ci = 6 ∨ ci = 7 ∨ ci = 8 ∨ ci = 9 ∨ ci = 10 by omega) with h | h | h | h | h | h | h | h | h | h | h <;> subst h
  · exact tyJx4a65c_ok
  · exact tyX0_ok
  · exact tyX1_ok
  · exact tyX2_ok
  · exact tyX3_ok
  · exact tyX4_ok
  · exact tyX5_ok
  · exact tyX6_ok
  · exact tyX7_ok
  · exact tyX8_ok
  · exact tyX9_ok
theorem cNm_ok (ci : Nat) (h : ci < 11) : ∀ a, a < cN ci → ∀ b, b < cN ci → a ≠ b → (cT ci a).2.1 ≠ (cT ci b).2.1 := by
  rcases (show ci = 0 ∨ ci = 1 ∨ ci = 2 ∨ ci = 3 ∨ ci = 4 ∨ ci = 5 ∨ ci = 6 ∨ ci = 7 ∨ ci = 8 ∨ ci = 9 ∨ ci = 10 by omega) with h | h | h | h | h | h | h | h | h | h | h <;> subst h
  · exact nmJx4a65c
  · exact nmX0
  · exact nmX1
  · exact nmX2
  · exact nmX3
  · exact nmX4
  · exact nmX5
  · exact nmX6
  · exact nmX7
  · exact nmX8
  · exact nmX9
-- a field's link: own class, pool number, class of the object, place of the field
def Fl (own : String) (idx ci k : Nat) : Prop := ci < 11 ∧ k < cN ci ∧ ∃ ref, Cond.fieldLink own idx ref (cT ci k).2.1 (cT ci k).2.2.1 ∈ wG ∧ (ref = (cT ci k).1 ∨ Cond.sameField ref (cT ci k).1 (cT ci k).2.1 (cT ci k).2.2.1 ∈ wG)
theorem Fl.same {own ref : String} {ci k : Nat} {s : State} {args : Array Value} (hts : ∀ w ∈ wG, w.before args s = true) (h : ref = (cT ci k).1 ∨ Cond.sameField ref (cT ci k).1 (cT ci k).2.1 (cT ci k).2.2.1 ∈ wG) : ∀ x, s.fieldFound? (cT ci k).1 (cT ci k).2.1 (cT ci k).2.2.1 = some x → s.fieldFound? ref (cT ci k).2.1 (cT ci k).2.2.1 = some x := fun x hx => by
  rcases h with h | h
  · rw [h]; exact hx
  · exact u_same (hts _ h) x hx
theorem ent_congr {aC : Nat → ClassId} {A : Role → Nat} {M M' : Mem} {r : Role} {n : Nat} (hI : ∀ k, M'.I r k = M.I r k) (hP : ∀ k, M'.P r k = M.P r k) : ent aC A M' r n = ent aC A M r n := by
  have h1 : M'.I r = M.I r := funext hI
  have h2 : M'.P r = M.P r := funext hP
  unfold ent
  rw [h1, h2]
theorem ent_obj {aC : Nat → ClassId} {A : Role → Nat} {M : Mem} {r : Role} {n ci : Nat} (hk : kd r.1 = .inl ci) : ent aC A M r n = .inr (ci, (List.range (cN ci)).map fun k => vOf A (fR ci k) (M.I r k) (M.P r k)) := by
  unfold ent; rw [hk]
theorem ent_int {aC : Nat → ClassId} {A : Role → Nat} {M : Mem} {r : Role} {n j : Nat} (hk : kd r.1 = .inr j) (hj : j < 2) : ent aC A M r n = .inl (aC j, n, .inl fun k => jI (M.I r k)) := by
  unfold ent; rw [hk]; exact if_pos hj
theorem ent_ref {aC : Nat → ClassId} {A : Role → Nat} {M : Mem} {r : Role} {n j : Nat} (hk : kd r.1 = .inr j) (hj : 2 ≤ j) : ent aC A M r n = .inl (aC j, n, .inr (.inr (.inr (.inr fun k => (M.P r k).map A)))) := by
  unfold ent; rw [hk]; exact if_neg (by omega)
theorem ro_obj {r : Role} {ci : Nat} (hk : kd r.1 = .inl ci) : ro r.1 = false := by
  by_cases h : ro r.1 = true
  · have h2 : (r.1 = 20 ∨ r.1 = 40) ∨ r.1 = 41 := by simpa [ro] using h
    rcases h2 with (h2 | h2) | h2 <;> rw [h2] at hk <;> cases hk
  · simpa using h
theorem ro_ne {c : Nat} (h : ro c = false) : nS c := ⟨fun e => (by rw [e] at h; cases h), fun e => (by rw [e] at h; cases h)⟩
theorem okV.get {M : Mem} {r : Role} (h : okV M (vR r)) : ∃ n, M.len r = some n := Option.ne_none_iff_exists'.mp (h r rfl)
theorem Pic.upd2 {G : Ge} {A : Role → Nat} {M M' : Mem} {H : Heap} {r q : Role} {n nq : Nat} (hP : Pic G A M H) (hl : M.len r = some n) (hr : ro r.1 = false) (hlq : M.len q = some nq) (hrq : ro q.1 = false) (hlen : M'.len = M.len) (hot : ∀ r', r' ≠ r → ∀ k, M'.I r' k = M.I r' k ∧ M'.P r' k = M.P r' k) (hc : Clo M') :
    ∃ (ws : va_W) (k0 : Nat), (ws[k0]? = some (A r, ent (gA G) A M r n) ∧ ∃ kq : Nat, ws[kq]? = some (A q, ent (gA G) A M q nq)) ∧ va_P (gD G) vwCl ws H ∧ va_D (Wr G) ws ∧ ∀ H1 : Heap, va_P (gD G) vwCl (ws.set k0 (A r, ent (gA G) A M' r n)) H1 → va_D (Wr G) (ws.set k0 (A r, ent (gA G) A M' r n)) → Pic G A M' H1 := by
  obtain ⟨⟨ws, ⟨w1, w2⟩, p, d⟩, hrest⟩ := hP
  obtain ⟨kq, hkq⟩ := w1 q nq hlq hrq
  obtain ⟨k0, hk0⟩ := w1 r n hl hr
  refine ⟨ws, k0, ⟨hk0, kq, hkq⟩, p, d, fun H1 hp hd => ?_⟩
  obtain ⟨inj, clo, e1, e2, e3⟩ := hrest
  have hlt : k0 < ws.length := (List.getElem?_eq_some_iff.mp hk0).1
  refine ⟨⟨_, ⟨fun r' n' hl' hr' => ?_, fun k q hq => ?_⟩, hp, hd⟩, by rw [hlen]; exact inj, hc, by rw [hlen]; exact e1, by rw [hlen]; exact e2, by rw [hlen]; exact e3⟩
  · rw [hlen] at hl'
    by_cases h : r' = r
    · subst h
      cases hl.symm.trans hl'
      exact ⟨k0, by rw [List.getElem?_set_self hlt]⟩
    · obtain ⟨k', hk'⟩ := w1 r' n' hl' hr'
      have hne : k0 ≠ k' := fun e => by
        subst e
        rw [hk0] at hk'
        exact h (inj r' r (by rw [hl']; simp) (by rw [hl]; simp) (ro_ne hr') (ro_ne hr) (congrArg Prod.fst (Option.some.inj hk')).symm)
      exact ⟨k', by rw [List.getElem?_set_ne hne, hk', ent_congr (fun k => (hot r' h k).1) (fun k => (hot r' h k).2)]⟩
  · by_cases h : k = k0
    · subst h
      rw [List.getElem?_set_self hlt] at hq
      exact ⟨r, n, by rw [hlen]; exact hl, hr, (Option.some.inj hq).symm⟩
    · rw [List.getElem?_set_ne (fun e => h e.symm)] at hq
      obtain ⟨r', n', h1, h2, h3⟩ := w2 k q hq
      have hne : r' ≠ r := fun e => by
        subst e
        exact h (d.1 k k0 q _ hq hk0 (by rw [h3]))
      exact ⟨r', n', by rw [hlen]; exact h1, h2, by rw [h3, ent_congr (fun k => (hot r' hne k).1) (fun k => (hot r' hne k).2)]⟩
theorem Pic.upd {G : Ge} {A : Role → Nat} {M M' : Mem} {H : Heap} {r : Role} {n : Nat} (hP : Pic G A M H) (hl : M.len r = some n) (hr : ro r.1 = false) (hlen : M'.len = M.len) (hot : ∀ r', r' ≠ r → ∀ k, M'.I r' k = M.I r' k ∧ M'.P r' k = M.P r' k) (hc : Clo M') :
    ∃ (ws : va_W) (k0 : Nat), ws[k0]? = some (A r, ent (gA G) A M r n) ∧ va_P (gD G) vwCl ws H ∧ va_D (Wr G) ws ∧ ∀ H1 : Heap, va_P (gD G) vwCl (ws.set k0 (A r, ent (gA G) A M' r n)) H1 → va_D (Wr G) (ws.set k0 (A r, ent (gA G) A M' r n)) → Pic G A M' H1 := by
  obtain ⟨ws, k0, h1, h2⟩ := hP.upd2 hl hr hl hr hlen hot hc
  exact ⟨ws, k0, h1.1, h2⟩
theorem map_set {α β : Type} (f g : α → β) (d : Nat) : ∀ (l : List α) (v : β), (∀ k a, l[k]? = some a → k ≠ d → g a = f a) → (∀ a, l[d]? = some a → g a = v) → l.map g = (l.map f).set d v := by
  intro l v h1 h2
  apply List.ext_getElem?
  intro k
  rw [List.getElem?_set, List.getElem?_map, List.getElem?_map]
  by_cases hk : d = k
  · subst hk
    rw [if_pos rfl]
    cases hl : l[d]? with
    | none => rw [if_neg (by rw [List.length_map]; exact fun h => by rw [List.getElem?_eq_getElem h] at hl; cases hl)]; rfl
    | some a => rw [if_pos (by rw [List.length_map]; exact (List.getElem?_eq_some_iff.mp hl).1)]; simp [h2 a hl]
  · rw [if_neg hk]
    cases hl : l[k]? with
    | none => rfl
    | some a => simp [h1 k a hl (fun e => hk e.symm)]
theorem ent_putI {aC : Nat → ClassId} {A : Role → Nat} {M : Mem} {r : Role} {n ci k : Nat} {z : Int} (hk : kd r.1 = .inl ci) (hN : k < cN ci) (hf : fR ci k = false) : ent aC A (M.putI r k z) r n = .inr (ci, ((List.range (cN ci)).map fun k => vOf A (fR ci k) (M.I r k) (M.P r k)).set k (.int (jI z))) := by
  rw [ent_obj hk]
  congr 2
  refine map_set _ _ k _ _ (fun j a hj hne => ?_) (fun a ha => ?_)
  · rw [List.getElem?_range (by have := (List.getElem?_eq_some_iff.mp hj).1; simpa using this)] at hj
    cases hj
    show vOf A (fR ci j) (if r = r ∧ j = k then z else M.2.1 r j) _ = _
    rw [if_neg (fun h => hne h.2)]; rfl
  · rw [List.getElem?_range hN] at ha
    cases ha
    show vOf A (fR ci k) (if r = r ∧ k = k then z else M.2.1 r k) _ = _
    rw [if_pos ⟨rfl, rfl⟩, hf]; rfl
theorem ent_putP {aC : Nat → ClassId} {A : Role → Nat} {M : Mem} {r : Role} {n ci k : Nat} {o : Option Role} (hk : kd r.1 = .inl ci) (hN : k < cN ci) (hf : fR ci k = true) : ent aC A (M.putP r k o) r n = .inr (ci, ((List.range (cN ci)).map fun k => vOf A (fR ci k) (M.I r k) (M.P r k)).set k (va_rf (o.map A))) := by
  rw [ent_obj hk]
  congr 2
  refine map_set _ _ k _ _ (fun j a hj hne => ?_) (fun a ha => ?_)
  · rw [List.getElem?_range (by have := (List.getElem?_eq_some_iff.mp hj).1; simpa using this)] at hj
    cases hj
    show vOf A (fR ci j) _ (if r = r ∧ j = k then o else M.2.2.1 r j) = _
    rw [if_neg (fun h => hne h.2)]; rfl
  · rw [List.getElem?_range hN] at ha
    cases ha
    show vOf A (fR ci k) _ (if r = r ∧ k = k then o else M.2.2.1 r k) = _
    rw [if_pos ⟨rfl, rfl⟩, hf]; rfl
theorem Clo.putI {M : Mem} {r : Role} {k : Nat} {z : Int} (h : Clo M) : Clo (M.putI r k z) := h
theorem Clo.putP {M : Mem} {r : Role} {k : Nat} {o : Option Role} (h : Clo M) (ho : okV M (vQ o)) : Clo (M.putP r k o) := fun r1 k1 r2 hr hp => by
  have hp : (if r1 = r ∧ k1 = k then o else M.2.2.1 r1 k1) = some r2 := hp
  by_cases hh : r1 = r ∧ k1 = k
  · rw [if_pos hh] at hp
    subst hp
    exact ho r2 rfl
  · rw [if_neg hh] at hp
    exact h r1 k1 r2 hr hp
theorem other_putI {M : Mem} {r : Role} {k : Nat} {z : Int} : ∀ r', r' ≠ r → ∀ j, (M.putI r k z).I r' j = M.I r' j ∧ (M.putI r k z).P r' j = M.P r' j := fun r' h j => ⟨if_neg (fun hh => h hh.1), rfl⟩
theorem other_putP {M : Mem} {r : Role} {k : Nat} {o : Option Role} : ∀ r', r' ≠ r → ∀ j, (M.putP r k o).I r' j = M.I r' j ∧ (M.putP r k o).P r' j = M.P r' j := fun r' h j => ⟨rfl, if_neg (fun hh => h hh.1)⟩
theorem ty_of_int {t : FieldType} {z : Int} (hz : t = .int ∨ (t = .boolean ∧ (z = 0 ∨ z = 1))) : narrow t (.int (jI z)) = .int (jI z) ∧ fits t (.int (jI z)) = true := by
  rcases hz with h | ⟨h, h2 | h2⟩ <;> subst h
  · exact ⟨rfl, rfl⟩
  · subst h2; exact ⟨rfl, rfl⟩
  · subst h2; exact ⟨rfl, rfl⟩
theorem ty_of_ref {t : FieldType} {o : Option Nat} (h : isRef t = true) : narrow t (va_rf o) = va_rf o ∧ fits t (va_rf o) = true := by
  cases t <;> first | (cases h; done) | (cases o <;> exact ⟨rfl, rfl⟩)
theorem Cf.mem {G : Ge} {mi : Mi} {L : List (Option AVal)} {st st' : List AVal} {M M' : Mem} {s : State} {H H1 : Heap} {locs locs1 : List Loc} {ls : Array Slot} {rc0 rs0 cells slots : Nat} {A A0 : Role → Nat} {M0 : Mem} (h : Cf G mi L st M s H locs cells slots ls rc0 rs0 A A0 M0) (hP : Pic G A M' H1) (hS : va_S (Wr G) s.heap H1 locs1) (hl : M'.len = M.len) (hc : M'.rc = M.rc ∧ M'.rs = M.rs) (hw : ∀ v ∈ st', v ∈ st) : Cf G mi L st' M' s H1 locs1 cells slots ls rc0 rs0 A A0 M0 := by
  obtain ⟨-, -, h3, h4, h5, h6⟩ := h
  refine ⟨hP, hS, by rw [hc.1, hc.2]; exact h3, h4, ⟨fun v hv r hr => by rw [hl]; exact h5.1 v (hw v hv) r hr, fun v hv r hr => by rw [hl]; exact h5.2 v hv r hr⟩, fun r hr => by rw [hl]; exact h6 r hr⟩
theorem jI_clamp {j : Nat} (h : j < 2147483648) : (jI (j : Int)).toNatClampNeg = j := by
  have h1 : (jI (j : Int)).toInt = j := jI_toInt ⟨by omega, by omega⟩
  show (jI (j : Int)).toInt.toNat = j
  rw [h1]; exact Int.toNat_natCast j
theorem jI_in {j n : Nat} (h : j < n ∧ j < 2147483648) : vp_in (jI (j : Int)) n := vp_in_iff.mpr (by rw [jI_toInt ⟨by omega, by omega⟩]; omega)
section
variable {G : Ge} {mi : Mi} {Q : Option AVal → Mem → Prop} {pc : Nat} {L : List (Option AVal)} {st : List AVal} {M : Mem}
theorem S_getI {idx ci k : Nat} {r : Role} {v : Int} (hl : Fl mi.1.cls idx ci k) (hd : decode mi.2.1 pc = .ok (.getfield idx, 3)) (hk : kd r.1 = .inl ci) (hf : fR ci k = false) (hv : M.I r k = v) (kk : Sf G mi Q (pc + 3) L (vI v :: st) M) : Sf G mi Q pc L (vR r :: st) M := by
  intro p e R s m args below meth c H locs cells slots ls rc0 rs0 A A0 M0 hC hF
  subst hv
  obtain ⟨hci, hkN, ref, hlk, hsm⟩ := hl
  obtain ⟨n, hn⟩ := hF.wf.top.get
  obtain ⟨ws, k0, h0, hp, -⟩ := hF.1.upd (M' := M) hn (ro_obj hk) rfl (fun _ _ _ => ⟨rfl, rfl⟩) hF.1.2.2.1
  rw [ent_obj hk] at h0
  refine va_get (v := .int (jI (M.I r k))) hC.1 hC.2.1 hC.2.2.2.2.2.1 (uIn ci hci) hC.2.2.2.2.1 hC.2.2.2.2.2.2.1.1 hp k0 h0 (vwCl_at ci hci) k hkN (hC.2.2.2.2.2.1 _ hlk) (Fl.same (own := ref) hC.2.2.2.2.2.1 hsm) ?_ hd (kk p e R s m args below meth c H locs cells slots ls rc0 rs0 A A0 M0 hC (hF.st (fun h => h.pop.pushI _)))
  rw [List.getElem?_map, List.getElem?_range hkN]
  simp [vOf, hf]
theorem S_getP {idx ci k : Nat} {r : Role} {o : Option Role} (hl : Fl mi.1.cls idx ci k) (hd : decode mi.2.1 pc = .ok (.getfield idx, 3)) (hk : kd r.1 = .inl ci) (hf : fR ci k = true) (hv : M.P r k = o) (kk : Sf G mi Q (pc + 3) L (vQ o :: st) M) : Sf G mi Q pc L (vR r :: st) M := by
  intro p e R s m args below meth c H locs cells slots ls rc0 rs0 A A0 M0 hC hF
  subst hv
  obtain ⟨hci, hkN, ref, hlk, hsm⟩ := hl
  obtain ⟨n, hn⟩ := hF.wf.top.get
  obtain ⟨ws, k0, h0, hp, -⟩ := hF.1.upd (M' := M) hn (ro_obj hk) rfl (fun _ _ _ => ⟨rfl, rfl⟩) hF.1.2.2.1
  rw [ent_obj hk] at h0
  refine va_get (v := va_rf ((M.P r k).map A)) hC.1 hC.2.1 hC.2.2.2.2.2.1 (uIn ci hci) hC.2.2.2.2.1 hC.2.2.2.2.2.2.1.1 hp k0 h0 (vwCl_at ci hci) k hkN (hC.2.2.2.2.2.1 _ hlk) (Fl.same (own := ref) hC.2.2.2.2.2.1 hsm) ?_ hd (kk p e R s m args below meth c H locs cells slots ls rc0 rs0 A A0 M0 hC (hF.st (fun h => h.pop.push (fun r' hr' => hF.1.2.2.1 r k r' (by rw [hn]; simp) (Sum.inr.inj hr')))))
  rw [List.getElem?_map, List.getElem?_range hkN]
  simp [vOf, hf]
theorem S_putI {idx ci k : Nat} {r : Role} {z : Int} (hl : Fl mi.1.cls idx ci k) (hd : decode mi.2.1 pc = .ok (.putfield idx, 3)) (hk : kd r.1 = .inl ci) (hf : fR ci k = false) (hfin : (cT ci k).2.2.2 = false) (hz : cTy ci k = .int ∨ (cTy ci k = .boolean ∧ (z = 0 ∨ z = 1))) (kk : Sf G mi Q (pc + 3) L st (M.putI r k z)) : Sf G mi Q pc L (vI z :: vR r :: st) M := by
  intro p e R s m args below meth c H locs cells slots ls rc0 rs0 A A0 M0 hC hF
  obtain ⟨hci, hkN, ref, hlk, hsm⟩ := hl
  obtain ⟨n, hn⟩ := hF.wf.pop.top.get
  obtain ⟨ws, k0, h0, hp, hD, hup⟩ := hF.1.upd (M' := M.putI r k z) hn (ro_obj hk) rfl other_putI hF.1.2.2.1.putI
  rw [ent_putI hk hkN hf] at hup
  rw [ent_obj hk] at h0
  exact va_put hC.1 hC.2.1 hC.2.2.2.2.2.1 (uIn ci hci) (cTy ci) (cTy_ok ci hci) (cNm_ok ci hci) hC.2.2.2.2.1 hC.2.2.2.2.2.2.1.1 hp hD hF.2.1 k0 h0 (vwCl_at ci hci) k hkN (hC.2.2.2.2.2.1 _ hlk) (Fl.same (own := ref) hC.2.2.2.2.2.1 hsm) hfin (cTy_ok ci hci k hkN) (ty_of_int hz).1 (ty_of_int hz).2 (by simpa using hkN) hd
    (fun H1 locs1 hP1 hD1 hS1 => kk p e R s m args below meth c H1 locs1 cells slots ls rc0 rs0 A A0 M0 hC (hF.mem (hup H1 hP1 hD1) hS1 rfl ⟨rfl, rfl⟩ (fun v hv => List.mem_cons_of_mem _ (List.mem_cons_of_mem _ hv))))
theorem S_putP {idx ci k : Nat} {r : Role} {o : Option Role} (hl : Fl mi.1.cls idx ci k) (hd : decode mi.2.1 pc = .ok (.putfield idx, 3)) (hk : kd r.1 = .inl ci) (hf : fR ci k = true) (hfin : (cT ci k).2.2.2 = false) (kk : Sf G mi Q (pc + 3) L st (M.putP r k o)) : Sf G mi Q pc L (vQ o :: vR r :: st) M := by
  intro p e R s m args below meth c H locs cells slots ls rc0 rs0 A A0 M0 hC hF
  obtain ⟨hci, hkN, ref, hlk, hsm⟩ := hl
  obtain ⟨n, hn⟩ := hF.wf.pop.top.get
  obtain ⟨ws, k0, h0, hp, hD, hup⟩ := hF.1.upd (M' := M.putP r k o) hn (ro_obj hk) rfl other_putP (hF.1.2.2.1.putP hF.wf.top)
  rw [ent_putP hk hkN hf] at hup
  rw [ent_obj hk] at h0
  exact va_put hC.1 hC.2.1 hC.2.2.2.2.2.1 (uIn ci hci) (cTy ci) (cTy_ok ci hci) (cNm_ok ci hci) hC.2.2.2.2.1 hC.2.2.2.2.2.2.1.1 hp hD hF.2.1 k0 h0 (vwCl_at ci hci) k hkN (hC.2.2.2.2.2.1 _ hlk) (Fl.same (own := ref) hC.2.2.2.2.2.1 hsm) hfin (cTy_ok ci hci k hkN) (ty_of_ref hf).1 (ty_of_ref hf).2 (by simpa using hkN) hd
    (fun H1 locs1 hP1 hD1 hS1 => kk p e R s m args below meth c H1 locs1 cells slots ls rc0 rs0 A A0 M0 hC (hF.mem (hup H1 hP1 hD1) hS1 rfl ⟨rfl, rfl⟩ (fun v hv => List.mem_cons_of_mem _ (List.mem_cons_of_mem _ hv))))
theorem S_putIF {idx ci k : Nat} {r : Role} {z : Int} (hl : Fl mi.1.cls idx ci k) (hd : decode mi.2.1 pc = .ok (.putfield idx, 3)) (hk : kd r.1 = .inl ci) (hf : fR ci k = false) (hfin : (cT ci k).2.2.2 = true) (hin2 : mi.1.name = "<init>") (hdecl : (cT ci k).1 = mi.1.cls) (hz : cTy ci k = .int ∨ (cTy ci k = .boolean ∧ (z = 0 ∨ z = 1))) (kk : Sf G mi Q (pc + 3) L st (M.putI r k z)) : Sf G mi Q pc L (vI z :: vR r :: st) M := by
  intro p e R s m args below meth c H locs cells slots ls rc0 rs0 A A0 M0 hC hF
  obtain ⟨hci, hkN, ref, hlk, hsm⟩ := hl
  obtain ⟨n, hn⟩ := hF.wf.pop.top.get
  obtain ⟨ws, k0, h0, hp, hD, hup⟩ := hF.1.upd (M' := M.putI r k z) hn (ro_obj hk) rfl other_putI hF.1.2.2.1.putI
  rw [ent_putI hk hkN hf] at hup
  rw [ent_obj hk] at h0
  exact va_putF hC.1 hC.2.1 hC.2.2.2.2.2.1 (uIn ci hci) (cTy ci) (cTy_ok ci hci) (cNm_ok ci hci) hC.2.2.2.2.1 hC.2.2.2.2.2.2.1.1 hp hD hF.2.1 k0 h0 (vwCl_at ci hci) k hkN (hC.2.2.2.2.2.1 _ hlk) (Fl.same (own := ref) hC.2.2.2.2.2.1 hsm) hfin (by rw [hC.2.2.2.2.2.2.2.2.1]; exact hin2) hdecl (cTy_ok ci hci k hkN) (ty_of_int hz).1 (ty_of_int hz).2 (by simpa using hkN) hd
    (fun H1 locs1 hP1 hD1 hS1 => kk p e R s m args below meth c H1 locs1 cells slots ls rc0 rs0 A A0 M0 hC (hF.mem (hup H1 hP1 hD1) hS1 rfl ⟨rfl, rfl⟩ (fun v hv => List.mem_cons_of_mem _ (List.mem_cons_of_mem _ hv))))
theorem S_putPF {idx ci k : Nat} {r : Role} {o : Option Role} (hl : Fl mi.1.cls idx ci k) (hd : decode mi.2.1 pc = .ok (.putfield idx, 3)) (hk : kd r.1 = .inl ci) (hf : fR ci k = true) (hfin : (cT ci k).2.2.2 = true) (hin2 : mi.1.name = "<init>") (hdecl : (cT ci k).1 = mi.1.cls) (kk : Sf G mi Q (pc + 3) L st (M.putP r k o)) : Sf G mi Q pc L (vQ o :: vR r :: st) M := by
  intro p e R s m args below meth c H locs cells slots ls rc0 rs0 A A0 M0 hC hF
  obtain ⟨hci, hkN, ref, hlk, hsm⟩ := hl
  obtain ⟨n, hn⟩ := hF.wf.pop.top.get
  obtain ⟨ws, k0, h0, hp, hD, hup⟩ := hF.1.upd (M' := M.putP r k o) hn (ro_obj hk) rfl other_putP (hF.1.2.2.1.putP hF.wf.top)
  rw [ent_putP hk hkN hf] at hup
  rw [ent_obj hk] at h0
  exact va_putF hC.1 hC.2.1 hC.2.2.2.2.2.1 (uIn ci hci) (cTy ci) (cTy_ok ci hci) (cNm_ok ci hci) hC.2.2.2.2.1 hC.2.2.2.2.2.2.1.1 hp hD hF.2.1 k0 h0 (vwCl_at ci hci) k hkN (hC.2.2.2.2.2.1 _ hlk) (Fl.same (own := ref) hC.2.2.2.2.2.1 hsm) hfin (by rw [hC.2.2.2.2.2.2.2.2.1]; exact hin2) hdecl (cTy_ok ci hci k hkN) (ty_of_ref hf).1 (ty_of_ref hf).2 (by simpa using hkN) hd
    (fun H1 locs1 hP1 hD1 hS1 => kk p e R s m args below meth c H1 locs1 cells slots ls rc0 rs0 A A0 M0 hC (hF.mem (hup H1 hP1 hD1) hS1 rfl ⟨rfl, rfl⟩ (fun v hv => List.mem_cons_of_mem _ (List.mem_cons_of_mem _ hv))))
theorem S_iald {n : Nat} {r : Role} {i v : Int} (j : Nat) (hd : decode mi.2.1 pc = .ok (.iaload, 1)) (hk : kd r.1 = .inr 0) (hr : ro r.1 = false) (hn : M.len r = some n) (hj : i = (j : Int)) (hjn : j < n ∧ j < 2147483648) (hv : M.I r j = v) (kk : Sf G mi Q (pc + 1) L (vI v :: st) M) : Sf G mi Q pc L (vI i :: vR r :: st) M := by
  intro p e R s m args below meth c H locs cells slots ls rc0 rs0 A A0 M0 hC hF
  subst hv; subst hj
  obtain ⟨ws, k0, h0, hp, -⟩ := hF.1.upd (M' := M) hn hr rfl (fun _ _ _ => ⟨rfl, rfl⟩) hF.1.2.2.1
  rw [ent_int hk (by decide)] at h0
  have k1 := kk p e R s m args below meth c H locs cells slots ls rc0 rs0 A A0 M0 hC (hF.st (fun h => h.pop.pop.pushI _))
  refine va_iald hC.1 hC.2.1 hC.2.2.2.2.2.2.1.1 hp k0 0 h0 (tysL_at _ 0 (by decide)) (jI_in hjn) hd ?_
  rw [jI_clamp hjn.2]
  exact k1
theorem S_bald {n : Nat} {r : Role} {i v : Int} (j : Nat) (hd : decode mi.2.1 pc = .ok (.baload, 1)) (hk : kd r.1 = .inr 1) (hr : ro r.1 = false) (hn : M.len r = some n) (hj : i = (j : Int)) (hjn : j < n ∧ j < 2147483648) (hv : M.I r j = v) (kk : Sf G mi Q (pc + 1) L (vI v :: st) M) : Sf G mi Q pc L (vI i :: vR r :: st) M := by
  intro p e R s m args below meth c H locs cells slots ls rc0 rs0 A A0 M0 hC hF
  subst hv; subst hj
  obtain ⟨ws, k0, h0, hp, -⟩ := hF.1.upd (M' := M) hn hr rfl (fun _ _ _ => ⟨rfl, rfl⟩) hF.1.2.2.1
  rw [ent_int hk (by decide)] at h0
  have k1 := kk p e R s m args below meth c H locs cells slots ls rc0 rs0 A A0 M0 hC (hF.st (fun h => h.pop.pop.pushI _))
  refine va_zald hC.1 hC.2.1 hC.2.2.2.2.2.2.1.1 hp k0 1 h0 (tysL_at _ 1 (by decide)) (jI_in hjn) hd ?_
  rw [jI_clamp hjn.2]
  exact k1
theorem ent_putA {aC : Nat → ClassId} {A : Role → Nat} {r : Role} {n j d : Nat} {z : Int} (hk : kd r.1 = .inr d) (hd : d < 2) : ent aC A (M.putI r j z) r n = .inl (aC d, n, .inl (upd (fun k => jI (M.I r k)) j (jI z))) := by
  rw [ent_int hk hd]
  congr 4
  funext k
  show jI (if r = r ∧ k = j then z else M.2.1 r k) = if k = j then jI z else jI (M.I r k)
  by_cases h : k = j
  · rw [if_pos ⟨rfl, h⟩, if_pos h]
  · rw [if_neg (fun q => h q.2), if_neg h]; rfl
theorem ent_putAP {aC : Nat → ClassId} {A : Role → Nat} {r : Role} {n j d : Nat} {o : Option Role} (hk : kd r.1 = .inr d) (hd : 2 ≤ d) : ent aC A (M.putP r j o) r n = .inl (aC d, n, .inr (.inr (.inr (.inr (va_up (fun k => (M.P r k).map A) j (o.map A)))))) := by
  rw [ent_ref hk hd]
  congr 7
  funext k
  show (if r = r ∧ k = j then o else M.2.2.1 r k).map A = if k = j then o.map A else (M.P r k).map A
  by_cases h : k = j
  · rw [if_pos ⟨rfl, h⟩, if_pos h]
  · rw [if_neg (fun q => h q.2), if_neg h]; rfl
theorem S_iast {n : Nat} {r : Role} {i z : Int} (j : Nat) (hd : decode mi.2.1 pc = .ok (.iastore, 1)) (hk : kd r.1 = .inr 0) (hr : ro r.1 = false) (hn : M.len r = some n) (hj : i = (j : Int)) (hjn : j < n ∧ j < 2147483648) (kk : Sf G mi Q (pc + 1) L st (M.putI r j z)) : Sf G mi Q pc L (vI z :: vI i :: vR r :: st) M := by
  intro p e R s m args below meth c H locs cells slots ls rc0 rs0 A A0 M0 hC hF
  subst hj
  obtain ⟨ws, k0, h0, hp, hD, hup⟩ := hF.1.upd (M' := M.putI r j z) hn hr rfl other_putI hF.1.2.2.1.putI
  rw [ent_putA hk (by decide)] at hup
  rw [ent_int hk (by decide)] at h0
  refine va_iast hC.1 hC.2.1 hC.2.2.2.2.2.2.1.1 hp hD hF.2.1 k0 0 h0 (tysL_at _ 0 (by decide)) (jI_in hjn) hd (fun H1 locs1 hP1 hD1 hS1 => ?_)
  rw [jI_clamp hjn.2] at hP1 hD1
  exact kk p e R s m args below meth c H1 locs1 cells slots ls rc0 rs0 A A0 M0 hC (hF.mem (hup H1 hP1 hD1) hS1 rfl ⟨rfl, rfl⟩ (fun v hv => List.mem_cons_of_mem _ (List.mem_cons_of_mem _ (List.mem_cons_of_mem _ hv))))
theorem S_bast {n : Nat} {r : Role} {i z : Int} (j : Nat) (hd : decode mi.2.1 pc = .ok (.bastore, 1)) (hk : kd r.1 = .inr 1) (hr : ro r.1 = false) (hn : M.len r = some n) (hj : i = (j : Int)) (hjn : j < n ∧ j < 2147483648) (hz : z = 0 ∨ z = 1) (kk : Sf G mi Q (pc + 1) L st (M.putI r j z)) : Sf G mi Q pc L (vI z :: vI i :: vR r :: st) M := by
  intro p e R s m args below meth c H locs cells slots ls rc0 rs0 A A0 M0 hC hF
  subst hj
  obtain ⟨ws, k0, h0, hp, hD, hup⟩ := hF.1.upd (M' := M.putI r j z) hn hr rfl other_putI hF.1.2.2.1.putI
  rw [ent_putA hk (by decide)] at hup
  rw [ent_int hk (by decide)] at h0
  have hnz : vp_nar .boolean (jI z) = jI z := by rcases hz with h | h <;> subst h <;> rfl
  refine va_zast hC.1 hC.2.1 hC.2.2.2.2.2.2.1.1 hp hD hF.2.1 k0 1 h0 (tysL_at _ 1 (by decide)) (jI_in hjn) hd (fun H1 locs1 hP1 hD1 hS1 => ?_)
  rw [jI_clamp hjn.2, hnz] at hP1 hD1
  exact kk p e R s m args below meth c H1 locs1 cells slots ls rc0 rs0 A A0 M0 hC (hF.mem (hup H1 hP1 hD1) hS1 rfl ⟨rfl, rfl⟩ (fun v hv => List.mem_cons_of_mem _ (List.mem_cons_of_mem _ (List.mem_cons_of_mem _ hv))))
theorem aT_ref (d : Nat) (h : 2 ≤ d) : ∃ C, aT d = .object C := by
  unfold aT
  split <;> first | (exfalso; omega) | exact ⟨_, rfl⟩
theorem S_aald {n d : Nat} {r : Role} {i : Int} {o : Option Role} (j : Nat) (hd : decode mi.2.1 pc = .ok (.aaload, 1)) (hk : kd r.1 = .inr d) (h2 : 2 ≤ d ∧ d < 8) (hr : ro r.1 = false) (hn : M.len r = some n) (hj : i = (j : Int)) (hjn : j < n ∧ j < 2147483648) (hv : M.P r j = o) (kk : Sf G mi Q (pc + 1) L (vQ o :: st) M) : Sf G mi Q pc L (vI i :: vR r :: st) M := by
  intro p e R s m args below meth c H locs cells slots ls rc0 rs0 A A0 M0 hC hF
  subst hv; subst hj
  obtain ⟨ws, k0, h0, hp, -⟩ := hF.1.upd (M' := M) hn hr rfl (fun _ _ _ => ⟨rfl, rfl⟩) hF.1.2.2.1
  rw [ent_ref hk h2.1] at h0
  have k1 := kk p e R s m args below meth c H locs cells slots ls rc0 rs0 A A0 M0 hC (hF.st (fun h => h.pop.pop.push (fun r' hr' => hF.1.2.2.1 r j r' (by rw [hn]; simp) (Sum.inr.inj hr'))))
  obtain ⟨C, hCd⟩ := aT_ref d h2.1
  have ht := tysL_at (gA G) d h2.2
  rw [hCd] at ht
  refine va_aldq hC.1 hC.2.1 hC.2.2.2.2.2.2.1.1 hp k0 d h0 ht (jI_in hjn) hd ?_
  rw [jI_clamp hjn.2]
  exact k1
theorem S_aastN {n d : Nat} {r : Role} {i : Int} (j : Nat) (hd : decode mi.2.1 pc = .ok (.aastore, 1)) (hk : kd r.1 = .inr d) (h2 : 2 ≤ d ∧ d < 8) (hr : ro r.1 = false) (hn : M.len r = some n) (hj : i = (j : Int)) (hjn : j < n ∧ j < 2147483648) (kk : Sf G mi Q (pc + 1) L st (M.putP r j none)) : Sf G mi Q pc L (vN :: vI i :: vR r :: st) M := by
  intro p e R s m args below meth c H locs cells slots ls rc0 rs0 A A0 M0 hC hF
  subst hj
  obtain ⟨ws, k0, h0, hp, hD, hup⟩ := hF.1.upd (M' := M.putP r j none) hn hr rfl other_putP (hF.1.2.2.1.putP (okV_nul _))
  rw [ent_putAP hk h2.1] at hup
  rw [ent_ref hk h2.1] at h0
  obtain ⟨C, hCd⟩ := aT_ref d h2.1
  have ht := tysL_at (gA G) d h2.2
  rw [hCd] at ht
  refine va_astqN hC.1 hC.2.1 hC.2.2.2.2.2.2.1.1 hp hD hF.2.1 k0 d h0 ht (jI_in hjn) hd (fun H1 locs1 hP1 hD1 hS1 => ?_)
  rw [jI_clamp hjn.2] at hP1 hD1
  exact kk p e R s m args below meth c H1 locs1 cells slots ls rc0 rs0 A A0 M0 hC (hF.mem (hup H1 hP1 hD1) hS1 rfl ⟨rfl, rfl⟩ (fun v hv => List.mem_cons_of_mem _ (List.mem_cons_of_mem _ (List.mem_cons_of_mem _ hv))))
theorem S_aast {n d ci : Nat} {r q : Role} {i : Int} (j : Nat) (hd : decode mi.2.1 pc = .ok (.aastore, 1)) (hk : kd r.1 = .inr d) (h2 : 2 ≤ d ∧ d < 8) (hr : ro r.1 = false) (hq : kd q.1 = .inl ci) (hci : ci < 11) (he : aT d = .object (cR ci)) (hn : M.len r = some n) (hj : i = (j : Int)) (hjn : j < n ∧ j < 2147483648) (kk : Sf G mi Q (pc + 1) L st (M.putP r j (some q))) : Sf G mi Q pc L (vR q :: vI i :: vR r :: st) M := by
  intro p e R s m args below meth c H locs cells slots ls rc0 rs0 A A0 M0 hC hF
  subst hj
  have ht := tysL_at (gA G) d h2.2
  rw [he] at ht
  obtain ⟨nq, hnq⟩ := hF.wf.top.get
  obtain ⟨ws', k0', h0', hp', hD', hup'⟩ := hF.1.upd2 hn hr hnq (ro_obj hq) (M' := M.putP r j (some q)) rfl other_putP (hF.1.2.2.1.putP hF.wf.top)
  obtain ⟨kq, hkq⟩ := h0'.2
  have h0'' := h0'.1
  rw [ent_putAP hk h2.1] at hup'
  rw [ent_ref hk h2.1] at h0''
  rw [ent_obj hq] at hkq
  refine va_astq hC.1 hC.2.1 hC.2.2.2.2.2.2.1.1 hp' hD' hF.2.1 k0' d kq ci h0'' (r := (cR ci, cT ci, cN ci)) ht hkq (vwCl_at ci hci) (jI_in hjn) hd (fun H1 locs1 hP1 hD1 hS1 => ?_)
  rw [jI_clamp hjn.2] at hP1 hD1
  exact kk p e R s m args below meth c H1 locs1 cells slots ls rc0 rs0 A A0 M0 hC (hF.mem (hup' H1 hP1 hD1) hS1 rfl ⟨rfl, rfl⟩ (fun v hv => List.mem_cons_of_mem _ (List.mem_cons_of_mem _ (List.mem_cons_of_mem _ hv))))
theorem S_aastO {n : Nat} {r q : Role} {i : Int} (j : Nat) (hd : decode mi.2.1 pc = .ok (.aastore, 1)) (hk : kd r.1 = .inr 7) (hr : ro r.1 = false) (hq : kd q.1 = .inl 5) (hn : M.len r = some n) (hj : i = (j : Int)) (hjn : j < n ∧ j < 2147483648) (kk : Sf G mi Q (pc + 1) L st (M.putP r j (some q))) : Sf G mi Q pc L (vR q :: vI i :: vR r :: st) M := by
  intro p e R s m args below meth c H locs cells slots ls rc0 rs0 A A0 M0 hC hF
  subst hj
  obtain ⟨nq, hnq⟩ := hF.wf.top.get
  obtain ⟨ws', k0', h0', hp', hD', hup'⟩ := hF.1.upd2 hn hr hnq (ro_obj hq) (M' := M.putP r j (some q)) rfl other_putP (hF.1.2.2.1.putP hF.wf.top)
  obtain ⟨kq, hkq⟩ := h0'.2
  have h0'' := h0'.1
  rw [ent_putAP hk (by decide)] at hup'
  rw [ent_ref hk (by decide)] at h0''
  rw [ent_obj hq] at hkq
  refine va_astqO hC.1 hC.2.1 hC.2.2.2.2.2.2.1.1 hp' hD' hF.2.1 k0' 7 kq 5 (E := "java/lang/Object") (r := (cR 5, cT 5, cN 5)) h0'' (tysL_at _ 7 (by decide)) hC.2.2.2.2.2.2.1.2.2.2.2.2.2.2.2.1 hkq (vwCl_at 5 (by decide)) (jI_in hjn) hd (fun H1 locs1 hP1 hD1 hS1 => ?_)
  rw [jI_clamp hjn.2] at hP1 hD1
  exact kk p e R s m args below meth c H1 locs1 cells slots ls rc0 rs0 A A0 M0 hC (hF.mem (hup' H1 hP1 hD1) hS1 rfl ⟨rfl, rfl⟩ (fun v hv => List.mem_cons_of_mem _ (List.mem_cons_of_mem _ (List.mem_cons_of_mem _ hv))))
theorem S_alen {n d : Nat} {r : Role} (hd : decode mi.2.1 pc = .ok (.arraylength, 1)) (hk : kd r.1 = .inr d) (h2 : d < 8) (hr : ro r.1 = false) (hn : M.len r = some n) (kk : Sf G mi Q (pc + 1) L (vI n :: st) M) : Sf G mi Q pc L (vR r :: st) M := by
  intro p e R s m args below meth c H locs cells slots ls rc0 rs0 A A0 M0 hC hF
  obtain ⟨ws, k0, h0, hp, -⟩ := hF.1.upd (M' := M) hn hr rfl (fun _ _ _ => ⟨rfl, rfl⟩) hF.1.2.2.1
  have k1 := kk p e R s m args below meth c H locs cells slots ls rc0 rs0 A A0 M0 hC (hF.st (fun h => h.pop.pushI _))
  by_cases h3 : d < 2
  · rw [ent_int hk h3] at h0
    exact va_alen (v := jI n) hC.1 hC.2.1 hC.2.2.2.2.2.2.1.1 hp k0 d h0 (tysL_at _ d h2) rfl hd k1
  · rw [ent_ref hk (by omega)] at h0
    exact va_alen (v := jI n) hC.1 hC.2.1 hC.2.2.2.2.2.2.1.1 hp k0 d h0 (tysL_at _ d h2) rfl hd k1
theorem S_alenE (hd : decode mi.2.1 pc = .ok (.arraylength, 1)) (kk : Sf G mi Q (pc + 1) L (vI 0 :: st) M) : Sf G mi Q pc L (vR (20, 0) :: st) M := by
  intro p e R s m args below meth c H locs cells slots ls rc0 rs0 A A0 M0 hC hF
  obtain ⟨cell, h1, h2, h3, h4, h5, h6, h7⟩ := hC.2.2.2.2.2.2.1.2.2.1
  have k1 := kk p e R s m args below meth c H locs cells slots ls rc0 rs0 A A0 M0 hC (hF.st (fun h => h.pop.pushI _))
  have e1 : A (20, 0) = gE G := hF.1.2.2.2.1.2
  show W _ _ _ _ _ _ _ _ _ _ _ _ _ _ _ (F0 m pc ls (.ref (A (20, 0)) :: _))
  rw [e1]
  exact W.alen (n := jI 0) hC.1 hC.2.1 (by rw [hF.2.1.2.1 _ (Array.getElem?_eq_some_iff.mp h1).1 h7]; exact h1) h2 (by rw [h5]; rfl) rfl rfl hd k1
end
