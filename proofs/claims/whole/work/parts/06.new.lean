/-! NEW CELLS, CASTS, AND WHAT THE JDK'S LIST NEEDS -/
def upA (A : Role → Nat) (r : Role) (q : Nat) : Role → Nat := fun r' => if r' = r then q else A r'
theorem upA_self (A : Role → Nat) (r : Role) (q : Nat) : upA A r q r = q := if_pos rfl
theorem upA_ne {A : Role → Nat} {r r' : Role} {q : Nat} (h : r' ≠ r) : upA A r q r' = A r' := if_neg h
theorem ne_fresh {M : Mem} {r r' : Role} (hfr : M.len r = none) (h : M.len r' ≠ none) : r' ≠ r := fun e => h (by rw [e]; exact hfr)
theorem ent_new_old {aC : Nat → ClassId} {A : Role → Nat} {M : Mem} {r r' : Role} {n n' cost q : Nat} (hfr : M.len r = none) (hc : Clo M) (hr' : M.len r' ≠ none) : ent aC (upA A r q) (M.new r n cost) r' n' = ent aC A M r' n' := by
  have hne := ne_fresh hfr hr'
  have h1 : (M.new r n cost).I r' = M.I r' := funext fun k => if_neg hne
  have h2 : (fun k => ((M.new r n cost).P r' k).map (upA A r q)) = fun k => (M.P r' k).map A := funext fun k => by
    have h3 : (M.new r n cost).P r' k = M.P r' k := if_neg hne
    rw [h3]
    cases h4 : M.P r' k with
    | none => rfl
    | some r'' => exact congrArg some (upA_ne (ne_fresh hfr (hc r' k r'' hr' h4)))
  have h2' : ∀ k, ((M.new r n cost).P r' k).map (upA A r q) = (M.P r' k).map A := fun k => congrFun h2 k
  unfold ent vOf
  rw [h1]
  simp only [h2']
theorem Pic.push {G : Ge} {A : Role → Nat} {M : Mem} {H : Heap} {r : Role} {n cost : Nat} (hP : Pic G A M H) (hr : ro r.1 = false) (hfr : M.len r = none) (hE : ¬ Wr G (gE G)) :
    ∃ ws : va_W, va_P (gD G) vwCl ws H ∧ va_D (Wr G) ws ∧ ∀ (q : Nat) (H1 : Heap), va_P (gD G) vwCl (ws ++ [(q, ent (gA G) (upA A r q) (M.new r n cost) r n)]) H1 → va_D (Wr G) (ws ++ [(q, ent (gA G) (upA A r q) (M.new r n cost) r n)]) → Pic G (upA A r q) (M.new r n cost) H1 := by
  obtain ⟨⟨ws, ⟨w1, w2⟩, p, d⟩, inj, clo, e1, e2, e3⟩ := hP
  have hl : ∀ r', (M.new r n cost).len r' = if r' = r then some n else M.len r' := fun _ => rfl
  have hr20 : ((20, 0) : Role) ≠ r := fun e => by rw [← e] at hr; cases hr
  have hr40 : ((40, 0) : Role) ≠ r := fun e => by rw [← e] at hr; cases hr
  have hr41 : ((41, 0) : Role) ≠ r := fun e => by rw [← e] at hr; cases hr
  refine ⟨ws, p, d, fun q H1 hp hd => ?_⟩
  have hlast : ∀ x : Nat × va_E, (ws ++ [x])[ws.length]? = some x := fun x => by rw [List.getElem?_append_right (Nat.le_refl _), Nat.sub_self]; rfl
  have hqW : Wr G q := hd.2 ws.length _ (hlast _)
  have key : ∀ r', M.len r' ≠ none → nS r'.1 → A r' ≠ q := fun r' h1 h2 e => by
    by_cases hro : ro r'.1 = true
    · rcases e3 r' h1 hro with h | h | h
      · subst h; rw [e1.2] at e; rw [← e] at hqW; exact hE hqW
      · subst h; exact h2.1 rfl
      · subst h; exact h2.2 rfl
    · obtain ⟨n', hn'⟩ := Option.ne_none_iff_exists'.mp h1
      obtain ⟨k, hk⟩ := w1 r' n' hn' (by simpa using hro)
      have hlt := (List.getElem?_eq_some_iff.mp hk).1
      have := hd.1 k ws.length _ _ (by rw [List.getElem?_append_left hlt]; exact hk) (hlast _) e
      omega
  refine ⟨⟨_, ⟨fun r' n' hl' hr' => ?_, fun k x hx => ?_⟩, hp, hd⟩, fun r1 r2 h1 h2 h3 h4 h5 => ?_, fun r1 k r2 h1 h2 => ?_, ⟨by rw [hl, if_neg hr20]; exact e1.1, by rw [upA_ne hr20]; exact e1.2⟩, ⟨by rw [hl, if_neg hr40]; exact e2.1, by rw [upA_ne hr40]; exact e2.2.1, by rw [hl, if_neg hr41]; exact e2.2.2.1, by rw [upA_ne hr41]; exact e2.2.2.2⟩, fun r1 h1 h2 => ?_⟩
  · rw [hl] at hl'
    by_cases h : r' = r
    · subst h
      rw [if_pos rfl] at hl'
      cases hl'
      exact ⟨ws.length, by rw [hlast, upA_self]⟩
    · rw [if_neg h] at hl'
      obtain ⟨k, hk⟩ := w1 r' n' hl' hr'
      have hlt := (List.getElem?_eq_some_iff.mp hk).1
      exact ⟨k, by rw [List.getElem?_append_left hlt, hk, upA_ne h, ent_new_old hfr clo (by rw [hl']; simp)]⟩
  · by_cases hlt : k < ws.length
    · rw [List.getElem?_append_left hlt] at hx
      obtain ⟨r', n', h1, h2, h3⟩ := w2 k x hx
      have hne := ne_fresh hfr (show M.len r' ≠ none by rw [h1]; simp)
      exact ⟨r', n', by rw [hl, if_neg hne]; exact h1, h2, by rw [h3, upA_ne hne, ent_new_old hfr clo (by rw [h1]; simp)]⟩
    · rw [List.getElem?_append_right (by omega)] at hx
      have hz : k - ws.length < 1 := (List.getElem?_eq_some_iff.mp hx).1
      rw [show k - ws.length = 0 by omega] at hx
      cases hx
      exact ⟨r, n, by rw [hl, if_pos rfl], hr, by rw [upA_self]⟩
  · rw [hl] at h1 h2
    by_cases a1 : r1 = r
    · by_cases a2 : r2 = r
      · rw [a1, a2]
      · rw [if_neg a2] at h2
        rw [a1, upA_self, upA_ne a2] at h5
        exact absurd h5.symm (key r2 h2 h4)
    · rw [if_neg a1] at h1
      by_cases a2 : r2 = r
      · rw [a2, upA_self, upA_ne a1] at h5
        exact absurd h5 (key r1 h1 h3)
      · rw [if_neg a2] at h2
        rw [upA_ne a1, upA_ne a2] at h5
        exact inj r1 r2 h1 h2 h3 h4 h5
  · rw [hl] at h1 ⊢
    have h2 : (if r1 = r then none else M.2.2.1 r1 k) = some r2 := h2
    by_cases a1 : r1 = r
    · rw [if_pos a1] at h2; cases h2
    · rw [if_neg a1] at h1 h2
      have := clo r1 k r2 h1 h2
      rw [if_neg (ne_fresh hfr this)]
      exact this
  · rw [hl] at h1
    by_cases a1 : r1 = r
    · rw [a1, hr] at h2; cases h2
    · rw [if_neg a1] at h1
      exact e3 r1 h1 h2
theorem ent_new {aC : Nat → ClassId} {A : Role → Nat} {M : Mem} {r : Role} {n cost : Nat} (hk : ∃ ci, kd r.1 = .inl ci) : ∀ ci, kd r.1 = .inl ci → ent aC A (M.new r n cost) r n = .inr (ci, (List.range (cN ci)).map fun k => vOf A (fR ci k) 0 none) := fun ci hci => by
  rw [ent_obj hci]
  have h1 : (M.new r n cost).I r = fun _ => 0 := funext fun k => if_pos rfl
  have h2 : (M.new r n cost).P r = fun _ => none := funext fun k => if_pos rfl
  rw [h1, h2]
theorem new_I {M : Mem} {r : Role} {n cost : Nat} : (M.new r n cost).I r = fun _ => 0 := funext fun k => if_pos rfl
theorem new_P {M : Mem} {r : Role} {n cost : Nat} : (M.new r n cost).P r = fun _ => none := funext fun k => if_pos rfl
theorem Cf.push {G : Ge} {mi : Mi} {L : List (Option AVal)} {st : List AVal} {M : Mem} {s : State} {H H1 : Heap} {locs : List Loc} {ls : Array Slot} {rc0 rs0 cells slots n cost q : Nat} {r : Role} {A A0 : Role → Nat} {M0 : Mem} {st' : List AVal} (h : Cf G mi L st M s H locs cells slots ls rc0 rs0 A A0 M0) (hfr : M.len r = none) (hc1 : 1 ≤ M.rc) (hc2 : cost ≤ M.rs) (hP : Pic G (upA A r q) (M.new r n cost) H1) (hS : va_S (Wr G) s.heap H1 locs) (hst : ∀ v ∈ st', v ∈ st) : Cf G mi L (vR r :: st') (M.new r n cost) s H1 locs (cells + 1) (slots + cost) ls rc0 rs0 (upA A r q) A0 M0 := by
  obtain ⟨-, -, h3, h4, h5, h6⟩ := h
  have hA : ∀ r', M.len r' ≠ none → upA A r q r' = A r' := fun r' hr' => upA_ne (ne_fresh hfr hr')
  have hM : ∀ r', M.len r' ≠ none → (M.new r n cost).len r' ≠ none := fun r' hr' => by
    show (if r' = r then some n else M.len r') ≠ none
    rw [if_neg (ne_fresh hfr hr')]; exact hr'
  refine ⟨hP, hS, ?_, h4.ext hA h5.2, ⟨List.forall_mem_cons.mpr ⟨fun r' e => ?_, fun v hv => (h5.1 v (hst v hv)).mono hM⟩, fun v hv => (h5.2 v hv).mono hM⟩, fun r' hr' => ⟨hM r' (h6 r' hr').1, (hA r' (h6 r' hr').1).trans (h6 r' hr').2⟩⟩
  · show (cells + 1) + (M.rc - 1) ≤ rc0 ∧ (slots + cost) + (M.rs - cost) ≤ rs0
    omega
  · cases e
    show (if r = r then some n else M.len r) ≠ none
    rw [if_pos rfl]; simp
theorem push_map {M : Mem} {A : Role → Nat} {r : Role} {q : Nat} {st : List AVal} (hfr : M.len r = none) (h : ∀ v ∈ st, okV M v) : (vR r :: st).map (conc (upA A r q)) = .ref q :: st.map (conc A) := by
  show Value.ref (upA A r q r) :: st.map (conc (upA A r q)) = _
  rw [upA_self, map_ext (fun r' hr' => upA_ne (ne_fresh hfr hr')) h]
theorem dfl_0 : ∀ j, j < cN 0 → defaultValue (cTy 0 j) = if fR 0 j then .null else .int 0 := by decide +kernel
theorem dfl_1 : ∀ j, j < cN 1 → defaultValue (cTy 1 j) = if fR 1 j then .null else .int 0 := by decide +kernel
theorem dfl_2 : ∀ j, j < cN 2 → defaultValue (cTy 2 j) = if fR 2 j then .null else .int 0 := by decide +kernel
theorem dfl_3 : ∀ j, j < cN 3 → defaultValue (cTy 3 j) = if fR 3 j then .null else .int 0 := by decide +kernel
theorem dfl_4 : ∀ j, j < cN 4 → defaultValue (cTy 4 j) = if fR 4 j then .null else .int 0 := by decide +kernel
theorem dfl_5 : ∀ j, j < cN 5 → defaultValue (cTy 5 j) = if fR 5 j then .null else .int 0 := by decide +kernel
theorem dfl_6 : ∀ j, j < cN 6 → defaultValue (cTy 6 j) = if fR 6 j then .null else .int 0 := by decide +kernel
theorem dfl_7 : ∀ j, j < cN 7 → defaultValue (cTy 7 j) = if fR 7 j then .null else .int 0 := by decide +kernel
theorem dfl_8 : ∀ j, j < cN 8 → defaultValue (cTy 8 j) = if fR 8 j then .null else .int 0 := by decide +kernel
theorem dfl_9 : ∀ j, j < cN 9 → defaultValue (cTy 9 j) = if fR 9 j then .null else .int 0 := by decide +kernel
theorem dfl_10 : ∀ j, j < cN 10 → defaultValue (cTy 10 j) = if fR 10 j then .null else .int 0 := by decide +kernel
theorem dfl (ci : Nat) (h : ci < 11) : ∀ j, j < cN ci → defaultValue (cTy ci j) = if fR ci j then .null else .int 0 := by
  rcases (show ci = 0 ∨ ci = 1 ∨ ci = 2 ∨ ci = 3 ∨ ci = 4 ∨ ci = 5 ∨ ci = 6 ∨ ci = 7 ∨ ci = 8 ∨ ci = 9 ∨ ci = 10 by omega) with h | h | h | h | h | h | h | h | h | h | h <;> subst h
  · exact dfl_0
  · exact dfl_1
  · exact dfl_2
  · exact dfl_3
  · exact dfl_4
  · exact dfl_5
  · exact dfl_6
  · exact dfl_7
  · exact dfl_8
  · exact dfl_9
  · exact dfl_10
theorem tys_same {G : Ge} {s : State} {cA : ClassId} {d : Nat} (hd : d < 8) (hK : va_K (gD G) vwCl (tysL (gA G)) s) (hK2 : va_K (gD G) vwCl (tysL (gA G) ++ [(cA, aT d)]) s) : cA = gA G d := by
  have h1 := (hK.2 d _ (tysL_at (gA G) d hd)).2
  have h2 := (hK2.2 8 (cA, aT d) rfl).2
  have aux : ∀ t : FieldType, va_RA s cA t → va_RA s (gA G d) t → cA = gA G d := fun t a b => by
    cases t with
    | object C =>
      obtain ⟨-, -, -, -, -, a4⟩ := a
      obtain ⟨-, -, -, -, -, b4⟩ := b
      exact Option.some.inj (a4.symm.trans b4)
    | _ => exact Option.some.inj (Eq.symm a |>.trans b)
  exact aux _ h2 h1
section
variable {G : Ge} {mi : Mi} {Q : Option AVal → Mem → Prop} {pc : Nat} {L : List (Option AVal)} {st : List AVal} {M : Mem}
theorem Cx.nE {rc0 rs0 : Nat} {p : Program} {R : Room} {s : State} {m : MethodId} {args : Array Value} {meth : Method} {c : Code} (hC : Cx G mi rc0 rs0 p R s m args meth c) : ¬ Wr G (gE G) := by
  obtain ⟨cell, -, -, -, -, -, -, h⟩ := hC.2.2.2.2.2.2.1.2.2.1
  exact h
theorem Cx.wA {rc0 rs0 : Nat} {p : Program} {R : Room} {s : State} {m : MethodId} {args : Array Value} {meth : Method} {c : Code} (hC : Cx G mi rc0 rs0 p R s m args meth c) : ∀ q, s.heap.size ≤ q → Wr G q := fun q h => Nat.le_trans hC.2.2.2.2.2.2.2.2.2.2 h
def Nl (own : String) (idx ci : Nat) : Prop := ci < 11 ∧ Cond.classLink own idx (cR ci) ∈ wG ∧ Cond.instantiable (cR ci) (cN ci) ∈ wG ∧ Cond.initialized (cR ci) ∈ wG
theorem S_new {idx ci : Nat} (r : Role) (hl : Nl mi.1.cls idx ci) (hd : decode mi.2.1 pc = .ok (.new idx, 3)) (hk : kd r.1 = .inl ci) (hfr : M.len r = none) (hrc : 1 ≤ M.rc) (hrs : cN ci ≤ M.rs) (kk : Sf G mi Q (pc + 3) L (vR r :: st) (M.new r 0 (cN ci))) : Sf G mi Q pc L st M := by
  intro p e R s m args below meth c H locs cells slots ls rc0 rs0 A A0 M0 hC hF
  obtain ⟨hci, l1, l2, l3⟩ := hl
  obtain ⟨ws, hp, hD, hup⟩ := hF.1.push (r := r) (n := 0) (cost := cN ci) (ro_obj hk) hfr hC.nE
  have hb := hF.2.2.1
  have hR := hC.2.2.2.2.2.2.2.2.2.1
  refine va_new (ci := ci) (fs := (List.range (cN ci)).map fun k => vOf A (fR ci k) 0 none) hC.1 hC.2.1 hC.2.2.2.2.2.1 (uIn ci hci) (cTy ci) (cTy_ok ci hci) hC.2.2.2.2.1 (hC.2.2.2.2.2.1 _ l1) (hC.2.2.2.2.2.1 _ l2) (hC.2.2.2.2.2.1 _ l3) hC.2.2.2.2.2.2.1.1 hp hD hF.2.1 hC.wA (vwCl_at ci hci) (fun j hj => ?_) (by rw [hR]; show cells + 1 ≤ rc0; omega) (by rw [hR]; show slots + cN ci ≤ rs0; omega) hd (fun q H1 hP1 hD1 hS1 => ?_)
  · rw [dfl ci hci j hj]
    unfold vp_V
    rw [List.getD_eq_getElem?_getD, List.getElem?_map, List.getElem?_range hj]
    show _ = vOf A (fR ci j) 0 none
    cases fR ci j <;> rfl
  · have he : ent (gA G) (upA A r q) (M.new r 0 (cN ci)) r 0 = .inr (ci, (List.range (cN ci)).map fun k => vOf A (fR ci k) 0 none) := ent_new ⟨ci, hk⟩ ci hk
    have hup1 := hup q H1
    rw [he] at hup1
    have k1 := kk p e R s m args below meth c H1 locs _ _ ls rc0 rs0 (upA A r q) A0 M0 hC (hF.push hfr hrc hrs (hup1 hP1 hD1) hS1 (fun _ hv => hv))
    rw [push_map hfr hF.wf.1] at k1
    exact k1
theorem S_newarrI {n : Int} (r : Role) (N : Nat) (hl : Cond.arrayClass .int ∈ wG) (hd : decode mi.2.1 pc = .ok (.newarray .int, 2)) (hN : n = (N : Int)) (hbig : N ≤ 100000) (hk : kd r.1 = .inr 0) (hr : ro r.1 = false) (hfr : M.len r = none) (hrc : 1 ≤ M.rc) (hrs : N ≤ M.rs) (kk : Sf G mi Q (pc + 2) L (vR r :: st) (M.new r N N)) : Sf G mi Q pc L (vI n :: st) M := by
  intro p e R s m args below meth c H locs cells slots ls rc0 rs0 A A0 M0 hC hF
  subst hN
  obtain ⟨ws, hp, hD, hup⟩ := hF.1.push (r := r) (n := N) (cost := N) hr hfr hC.nE
  have hb := hF.2.2.1
  have hR := hC.2.2.2.2.2.2.2.2.2.1
  refine va_newa (atype := .int) (ty := .int) (N' := N) (a0 := (N, .inl fun _ => 0)) hC.1 hC.2.1 (hC.2.2.2.2.2.1 _ hl) rfl hC.2.2.2.2.2.2.1.1 hp hD hF.2.1 hC.wA (fun cA => rfl) (fun h => ?_) (jI_clamp (by omega)) (Nat.le_trans (Nat.mul_le_mul_left N (show componentBytes .int ≤ 5000 by decide)) (by omega)) (by rw [hR]; show cells + 1 ≤ rc0; omega) (by rw [hR]; show slots + N ≤ rs0; omega) hd (fun q cA H1 hK1 hP1 hD1 hS1 => ?_)
  · exact absurd ((jI_lt ⟨by omega, by omega⟩ jI_r0).mp h) (by omega)
  · have hcA : cA = gA G 0 := tys_same (by decide) hC.2.2.2.2.2.2.1.1 hK1
    subst hcA
    have he : ent (gA G) (upA A r q) (M.new r N N) r N = .inl (gA G 0, N, .inl fun _ => 0) := by rw [ent_int hk (by decide), new_I]; rfl
    have hup1 := hup q H1
    rw [he] at hup1
    have k1 := kk p e R s m args below meth c H1 locs _ _ ls rc0 rs0 (upA A r q) A0 M0 hC (hF.push hfr hrc hrs (hup1 hP1 hD1) hS1 (fun _ hv => List.mem_cons_of_mem _ hv))
    rw [push_map hfr hF.wf.pop.1] at k1
    exact k1
theorem S_newarrZ {n : Int} (r : Role) (N : Nat) (hl : Cond.arrayClass .boolean ∈ wG) (hd : decode mi.2.1 pc = .ok (.newarray .boolean, 2)) (hN : n = (N : Int)) (hbig : N ≤ 100000) (hk : kd r.1 = .inr 1) (hr : ro r.1 = false) (hfr : M.len r = none) (hrc : 1 ≤ M.rc) (hrs : N ≤ M.rs) (kk : Sf G mi Q (pc + 2) L (vR r :: st) (M.new r N N)) : Sf G mi Q pc L (vI n :: st) M := by
  intro p e R s m args below meth c H locs cells slots ls rc0 rs0 A A0 M0 hC hF
  subst hN
  obtain ⟨ws, hp, hD, hup⟩ := hF.1.push (r := r) (n := N) (cost := N) hr hfr hC.nE
  have hb := hF.2.2.1
  have hR := hC.2.2.2.2.2.2.2.2.2.1
  refine va_newa (atype := .boolean) (ty := .boolean) (N' := N) (a0 := (N, .inl fun _ => 0)) hC.1 hC.2.1 (hC.2.2.2.2.2.1 _ hl) rfl hC.2.2.2.2.2.2.1.1 hp hD hF.2.1 hC.wA (fun cA => rfl) (fun h => ?_) (jI_clamp (by omega)) (Nat.le_trans (Nat.mul_le_mul_left N (show componentBytes .boolean ≤ 5000 by decide)) (by omega)) (by rw [hR]; show cells + 1 ≤ rc0; omega) (by rw [hR]; show slots + N ≤ rs0; omega) hd (fun q cA H1 hK1 hP1 hD1 hS1 => ?_)
  · exact absurd ((jI_lt ⟨by omega, by omega⟩ jI_r0).mp h) (by omega)
  · have hcA : cA = gA G 1 := tys_same (by decide) hC.2.2.2.2.2.2.1.1 hK1
    subst hcA
    have he : ent (gA G) (upA A r q) (M.new r N N) r N = .inl (gA G 1, N, .inl fun _ => 0) := by rw [ent_int hk (by decide), new_I]; rfl
    have hup1 := hup q H1
    rw [he] at hup1
    have k1 := kk p e R s m args below meth c H1 locs _ _ ls rc0 rs0 (upA A r q) A0 M0 hC (hF.push hfr hrc hrs (hup1 hP1 hD1) hS1 (fun _ hv => List.mem_cons_of_mem _ hv))
    rw [push_map hfr hF.wf.pop.1] at k1
    exact k1
theorem S_newarrA {n : Int} {d idx : Nat} {C : String} (r : Role) (N : Nat) (hl : Cond.classLink mi.1.cls idx C ∈ wG) (hw : C ∈ wAO) (hd : decode mi.2.1 pc = .ok (.anewarray idx, 3)) (hN : n = (N : Int)) (hbig : N ≤ 100000) (hk : kd r.1 = .inr d) (h2 : 2 ≤ d ∧ d < 8) (hC2 : aT d = .object C) (hr : ro r.1 = false) (hfr : M.len r = none) (hrc : 1 ≤ M.rc) (hrs : N ≤ M.rs) (kk : Sf G mi Q (pc + 3) L (vR r :: st) (M.new r N N)) : Sf G mi Q pc L (vI n :: st) M := by
  intro p e R s m args below meth c H locs cells slots ls rc0 rs0 A A0 M0 hC hF
  subst hN
  obtain ⟨ws, hp, hD, hup⟩ := hF.1.push (r := r) (n := N) (cost := N) hr hfr hC.nE
  have hb := hF.2.2.1
  have hR := hC.2.2.2.2.2.2.2.2.2.1
  refine va_newq (N' := N) hC.1 hC.2.1 hC.2.2.2.2.1 (hC.2.2.2.2.2.1 _ hl) (hC.2.2.2.2.2.2.1.2.2.2.2.2.2.2.1 C hw) hC.2.2.2.2.2.2.1.1 hp hD hF.2.1 hC.wA (fun h => ?_) (jI_clamp (by omega)) (by omega) (by rw [hR]; show cells + 1 ≤ rc0; omega) (by rw [hR]; show slots + N ≤ rs0; omega) hd (fun q cA H1 hK1 hP1 hD1 hS1 => ?_)
  · exact absurd ((jI_lt ⟨by omega, by omega⟩ jI_r0).mp h) (by omega)
  · have hcA : cA = gA G d := tys_same h2.2 hC.2.2.2.2.2.2.1.1 (by rw [hC2]; exact hK1)
    subst hcA
    have he : ent (gA G) (upA A r q) (M.new r N N) r N = .inl (gA G d, N, .inr (.inr (.inr (.inr fun _ => none)))) := by rw [ent_ref hk h2.1, new_P]; rfl
    have hup1 := hup q H1
    rw [he] at hup1
    have k1 := kk p e R s m args below meth c H1 locs _ _ ls rc0 rs0 (upA A r q) A0 M0 hC (hF.push hfr hrc hrs (hup1 hP1 hD1) hS1 (fun _ hv => List.mem_cons_of_mem _ hv))
    rw [push_map hfr hF.wf.pop.1] at k1
    exact k1
theorem S_gets {idx : Nat} (hl : Cond.fieldLink mi.1.cls idx RJx4a65c nmZ nmO ∈ wG) (hd : decode mi.2.1 pc = .ok (.getstatic idx, 3)) (kk : Sf G mi Q (pc + 3) L (vR (20, 0) :: st) M) : Sf G mi Q pc L st M := by
  intro p e R s m args below meth c H locs cells slots ls rc0 rs0 A A0 M0 hC hF
  have k1 := kk p e R s m args below meth c H locs cells slots ls rc0 rs0 A A0 M0 hC (hF.st (fun h => h.push (fun r hr => by cases hr; rw [hF.1.2.2.2.1.1]; simp)))
  refine va_gets hC.1 hC.2.1 hC.2.2.2.2.2.2.1.2.1 hF.2.1 hC.2.2.2.2.1 (hC.2.2.2.2.2.1 _ hl) (fun _ h => h) hd ?_
  rw [← hF.1.2.2.2.1.2]
  exact k1
theorem Cf.recv {s : State} {H : Heap} {locs : List Loc} {ls : Array Slot} {rc0 rs0 cells slots ci : Nat} {A A0 : Role → Nat} {M0 : Mem} (hF : Cf G mi L st M s H locs cells slots ls rc0 rs0 A A0 M0) (hK : va_K (gD G) vwCl (tysL (gA G)) s) {r : Role} (h : okV M (vR r)) (hk : kd r.1 = .inl ci) (hci : ci < 11) : ∃ cell : Cell, H[A r]? = some cell ∧ cell.vm.isStatics = false ∧ s.vm.findClass (cR ci) = some cell.cls := by
  obtain ⟨n, hn⟩ := h.get
  obtain ⟨ws, k0, h0, hp, -⟩ := hF.1.upd (M' := M) hn (ro_obj hk) rfl (fun _ _ _ => ⟨rfl, rfl⟩) hF.1.2.2.1
  rw [ent_obj hk] at h0
  exact va_recv hK hp (vwCl_at ci hci) h0
theorem S_castS {idx ci : Nat} {r : Role} (hl : Cond.classLink mi.1.cls idx (cR ci) ∈ wG) (hci : ci < 11) (hd : decode mi.2.1 pc = .ok (.checkcast idx, 3)) (hk : kd r.1 = .inl ci) (kk : Sf G mi Q (pc + 3) L (vR r :: st) M) : Sf G mi Q pc L (vR r :: st) M := by
  intro p e R s m args below meth c H locs cells slots ls rc0 rs0 A A0 M0 hC hF
  exact va_castS hC.1 hC.2.1 hC.2.2.2.2.1 (hC.2.2.2.2.2.1 _ hl) (hC.2.2.2.2.2.2.1.1.1 ci _ (vwCl_at ci hci)).2 (hF.recv hC.2.2.2.2.2.2.1.1 hF.wf.top hk hci) hd (kk p e R s m args below meth c H locs cells slots ls rc0 rs0 A A0 M0 hC hF)
theorem S_instS {idx ci : Nat} {r : Role} (hl : Cond.classLink mi.1.cls idx (cR ci) ∈ wG) (hci : ci < 11) (hd : decode mi.2.1 pc = .ok (.instanceof idx, 3)) (hk : kd r.1 = .inl ci) (kk : Sf G mi Q (pc + 3) L (vI 1 :: st) M) : Sf G mi Q pc L (vR r :: st) M := by
  intro p e R s m args below meth c H locs cells slots ls rc0 rs0 A A0 M0 hC hF
  exact va_instS hC.1 hC.2.1 hC.2.2.2.2.1 (hC.2.2.2.2.2.1 _ hl) (hC.2.2.2.2.2.2.1.1.1 ci _ (vwCl_at ci hci)).2 (hF.recv hC.2.2.2.2.2.2.1.1 hF.wf.top hk hci) hd (kk p e R s m args below meth c H locs cells slots ls rc0 rs0 A A0 M0 hC (hF.st (fun h => h.pop.pushI 1)))
theorem S_instNo {idx : Nat} {r : Role} (hl : Cond.classLink mi.1.cls idx RX3 ∈ wG) (hd : decode mi.2.1 pc = .ok (.instanceof idx, 3)) (hk : kd r.1 = .inl 5) (kk : Sf G mi Q (pc + 3) L (vI 0 :: st) M) : Sf G mi Q pc L (vR r :: st) M := by
  intro p e R s m args below meth c H locs cells slots ls rc0 rs0 A A0 M0 hC hF
  exact va_instNo hC.1 hC.2.1 hC.2.2.2.2.1 (hC.2.2.2.2.2.1 _ hl) hC.2.2.2.2.2.2.1.2.2.2.2.2.1 (hF.recv hC.2.2.2.2.2.2.1.1 hF.wf.top hk (by decide)) hd (kk p e R s m args below meth c H locs cells slots ls rc0 rs0 A A0 M0 hC (hF.st (fun h => h.pop.pushI 0)))
-- the script
theorem S_slen (hd : decode mi.2.1 pc = .ok (.arraylength, 1)) (kk : Sf G mi Q (pc + 1) L (vI (gN G) :: st) M) : Sf G mi Q pc L (vR (40, 0) :: st) M := by
  intro p e R s m args below meth c H locs cells slots ls rc0 rs0 A A0 M0 hC hF
  obtain ⟨x1, x2, x3⟩ := hC.2.2.2.2.2.2.1.2.2.2.1
  have k1 := kk p e R s m args below meth c H locs cells slots ls rc0 rs0 A A0 M0 hC (hF.st (fun h => h.pop.pushI _))
  have e1 : A (40, 0) = gS G := hF.1.2.2.2.2.1.2.1
  show W _ _ _ _ _ _ _ _ _ _ _ _ _ _ _ (F0 m pc ls (.ref (A (40, 0)) :: _))
  rw [e1]
  refine va_slen hC.1 hC.2.1 x1 ?_ x2 hF.2.1 hd k1
  exact x3
theorem S_sld {i v : Int} (j : Nat) (hd : decode mi.2.1 pc = .ok (.iaload, 1)) (hj : i = (j : Int)) (hjn : j < gN G ∧ j < 2147483648) (hv : (gX G j).toInt = v) (kk : Sf G mi Q (pc + 1) L (vI v :: st) M) : Sf G mi Q pc L (vI i :: vR (40, 0) :: st) M := by
  intro p e R s m args below meth c H locs cells slots ls rc0 rs0 A A0 M0 hC hF
  subst hj; subst hv
  obtain ⟨x1, x2, x3⟩ := hC.2.2.2.2.2.2.1.2.2.2.1
  have k1 := kk p e R s m args below meth c H locs cells slots ls rc0 rs0 A A0 M0 hC (hF.st (fun h => h.pop.pop.pushI _))
  have e1 : A (40, 0) = gS G := hF.1.2.2.2.2.1.2.1
  show W _ _ _ _ _ _ _ _ _ _ _ _ _ _ _ (F0 m pc ls (.int (jI j) :: .ref (A (40, 0)) :: _))
  rw [e1]
  refine va_sld hC.1 hC.2.1 x1 x3 x2 hF.2.1 (jI_in hjn) hd ?_
  rw [jI_clamp hjn.2]
  have e2 : conc A (vI (gX G j).toInt) = .int (gX G j) := congrArg Value.int (jI_of _)
  rw [List.map_cons, e2] at k1
  exact k1
-- Object.getClass and the mirror, of an array of Object
theorem S_ldcM {idx : Nat} (hl : Cond.classLink mi.1.cls idx nmO ∈ wG) (hd : decode mi.2.1 pc = .ok (.ldc idx, 2)) (kk : Sf G mi Q (pc + 2) L (vR (41, 0) :: st) M) : Sf G mi Q pc L st M := by
  intro p e R s m args below meth c H locs cells slots ls rc0 rs0 A A0 M0 hC hF
  have k1 := kk p e R s m args below meth c H locs cells slots ls rc0 rs0 A A0 M0 hC (hF.st (fun h => h.push (fun r hr => by cases hr; rw [hF.1.2.2.2.2.1.2.2.1]; simp)))
  refine va_ldcM hC.1 hC.2.1 hC.2.2.2.2.1 (hC.2.2.2.2.2.1 _ hl) hC.2.2.2.2.2.2.1.2.2.2.2.1 hd ?_
  rw [← hF.1.2.2.2.2.1.2.2.2]
  exact k1
def nmG : MethodName := ⟨"java/lang/Object", "getClass", "()Ljava/lang/Class;"⟩
theorem S_getClass {idx : Nat} {r : Role} (hl : Cond.methodLink mi.1.cls idx nmG ∈ wG ∧ Cond.selects nmO nmG nmG ∈ wG ∧ Cond.instanceMethod nmG ∈ wG ∧ Cond.native nmG ∈ wG) (hd : decode mi.2.1 pc = .ok (.invokevirtual idx, 3)) (hk : kd r.1 = .inr 7) (hr : ro r.1 = false) (hD : 1 ≤ mi.2.2.2.2) (hst : st.length ≤ 8) (kk : Sf G mi Q (pc + 3) L (vR (41, 0) :: st) M) : Sf G mi Q pc L (vR r :: st) M := by
  intro p e R s m args below meth c H locs cells slots ls rc0 rs0 A A0 M0 hC hF
  have k1 := kk p e R s m args below meth c H locs cells slots ls rc0 rs0 A A0 M0 hC (hF.st (fun h => h.pop.push (fun r hr => by cases hr; rw [hF.1.2.2.2.2.1.2.2.1]; simp)))
  have hsum : ((st.map (conc A)).map fun v => v.category).sum ≤ 8 := Nat.le_trans (cat_sum A st) hst
  obtain ⟨n, hn⟩ := hF.wf.top.get
  obtain ⟨ws, k0, h0, hp, -⟩ := hF.1.upd (M' := M) hn hr rfl (fun _ _ _ => ⟨rfl, rfl⟩) hF.1.2.2.1
  rw [ent_ref hk (by decide)] at h0
  have hcell := hp k0 _ h0
  refine va_getC hC.1 hC.2.1 (hC.2.2.2.1.trans hF.2.2.2.1.1.symm) hC.2.2.2.2.1 (hC.2.2.2.2.2.1 _ hl.1) (va_Dc.use hC.2.2.2.2.2.2.1.2.2.2.2.2.2.2.2.2.2) (hC.2.2.2.2.2.1 _ hl.2.1) (hC.2.2.2.2.2.1 _ hl.2.2.1) (hC.2.2.2.2.2.1 _ hl.2.2.2) hC.2.2.2.2.2.2.1.2.2.2.2.1 ⟨_, hcell, rfl, ?_⟩ ?_ ?_ hd ?_
  · exact va_nmO ((hC.2.2.2.2.2.2.1.1.2 7 _ (tysL_at _ 7 (by decide))).2) rfl
  · rw [hC.2.2.2.2.2.2.2.2.2.1]; exact hD
  · rw [hC.2.2.2.2.2.2.2.2.2.1]; show _ + 14 ≤ 64 * mi.2.2.2.2; omega
  · rw [← hF.1.2.2.2.2.1.2.2.2]
    exact k1
-- System.arraycopy of rows of Things, from the first place to the first place
def Mem.cpy (M : Mem) (r q : Role) (n : Nat) : Mem := (M.1, M.2.1, fun r' k => if r' = q ∧ k < n then M.2.2.1 r k else M.2.2.1 r' k, M.2.2.2)
theorem S_acopy {idx n0 n1 : Nat} {r q : Role} {z : Int} (n : Nat) (hl : Cond.methodLink mi.1.cls idx arraycopyName ∈ wG ∧ Cond.native arraycopyName ∈ wG ∧ Cond.static arraycopyName ∈ wG ∧ Cond.initialized "java/lang/System" ∈ wG) (hd : decode mi.2.1 pc = .ok (.invokestatic idx, 3)) (hk : kd r.1 = .inr 7) (hr : ro r.1 = false) (hkq : kd q.1 = .inr 7) (hq : ro q.1 = false) (hl0 : M.len r = some n0) (hl1 : M.len q = some n1) (hz : z = (n : Int)) (hn : n ≤ n0 ∧ n ≤ n1 ∧ n < 2147483648) (hel : ∀ i r', i < n → M.P r i = some r' → kd r'.1 = .inl 5) (hD : 1 ≤ mi.2.2.2.2) (hst : st.length ≤ 8)
    (kk : Sf G mi Q (pc + 3) L st (M.cpy r q n)) : Sf G mi Q pc L (vI z :: vI 0 :: vR q :: vI 0 :: vR r :: st) M := by
  intro p e R s m args below meth c H locs cells slots ls rc0 rs0 A A0 M0 hC hF
  subst hz
  have hsum : ((st.map (conc A)).map fun v => v.category).sum ≤ 8 := Nat.le_trans (cat_sum A st) hst
  have hclo : Clo (M.cpy r q n) := fun r1 k r2 h1 h2 => by
    have h2 : (if r1 = q ∧ k < n then M.2.2.1 r k else M.2.2.1 r1 k) = some r2 := h2
    by_cases a : r1 = q ∧ k < n
    · rw [if_pos a] at h2; exact hF.1.2.2.1 r k r2 (by rw [hl0]; simp) h2
    · rw [if_neg a] at h2; exact hF.1.2.2.1 r1 k r2 h1 h2
  obtain ⟨ws, k0, ⟨h0, kq, h1⟩, hp, hDD, hup⟩ := hF.1.upd2 (M' := M.cpy r q n) hl1 hq hl0 hr rfl (fun r' h j => ⟨rfl, if_neg (fun hh => h hh.1)⟩) hclo
  rw [ent_ref hkq (by decide)] at hup h0
  rw [ent_ref hk (by decide)] at h1
  have hz0 : (jI 0).toNatClampNeg = 0 := rfl
  have hzn : (jI (n : Int)).toNatClampNeg = n := jI_clamp hn.2.2
  refine va_copyq (C := RX4) (E0 := "java/lang/Object") (E1 := "java/lang/Object") hC.1 hC.2.1 (hC.2.2.2.1.trans hF.2.2.2.1.1.symm) hC.2.2.2.2.1 (hC.2.2.2.2.2.1 _ hl.1) (hC.2.2.2.2.2.1 _ hl.2.1) (hC.2.2.2.2.2.1 _ hl.2.2.1) (hC.2.2.2.2.2.1 _ hl.2.2.2) hC.2.2.2.2.2.2.1.1 hp hDD hF.2.1 kq k0 7 7 h1 h0 (tysL_at _ 7 (by decide)) (tysL_at _ 7 (by decide)) (fun h => by revert h; decide) (fun h => by revert h; decide) (fun h => absurd ((jI_lt ⟨by omega, by omega⟩ jI_r0).mp h) (by omega)) (by rw [hz0, hzn]; omega) (by rw [hz0, hzn]; omega) (fun i hi y hy => ?_) (fun comp c0 f1 f2 => ?_) ?_ ?_ hd (fun H1 locs1 hP1 hD1 hS1 => ?_)
  · rw [hzn] at hi
    rw [hz0, Nat.zero_add] at hy
    have hy : (M.P r i).map A = some y := hy
    cases hp2 : M.P r i with
    | none => rw [hp2] at hy; cases hy
    | some r' =>
      rw [hp2] at hy
      cases hy
      exact hF.recv hC.2.2.2.2.2.2.1.1 (fun r2 e2 => by cases e2; exact hF.1.2.2.1 r i r' (by rw [hl0]; simp) hp2) (hel i r' hi hp2) (by decide)
  · obtain ⟨c1, t1, g1, g2, g3⟩ := Cond.castable_spec (va_Nw.use (A := args) rfl hC.2.2.2.2.2.2.1.2.2.2.2.2.2.2.2.1)
    cases f2.symm.trans g1
    cases f1.symm.trans g2
    exact g3
  · rw [hC.2.2.2.2.2.2.2.2.2.1]; exact hD
  · rw [hC.2.2.2.2.2.2.2.2.2.1]
    have hw : nativeFrameWords "java/lang/System" "arraycopy" 5 ≤ 40 := by decide
    show _ + (_ + 11) ≤ 64 * mi.2.2.2.2
    omega
  · have he : ∀ k, ((M.cpy r q n).P q k).map A = va_cpy (fun k => (M.P r k).map A) (fun k => (M.P q k).map A) (jI 0).toNatClampNeg (jI 0).toNatClampNeg (jI (n : Int)).toNatClampNeg k := fun k => by
      rw [hz0, hzn]
      show (if q = q ∧ k < n then M.2.2.1 r k else M.2.2.1 q k).map A = if 0 ≤ k ∧ k < 0 + n then (M.P r (0 + (k - 0))).map A else (M.P q k).map A
      by_cases hkn : k < n
      · rw [if_pos ⟨rfl, hkn⟩, if_pos ⟨Nat.zero_le _, by omega⟩, Nat.zero_add, Nat.sub_zero]; rfl
      · rw [if_neg (fun h => hkn h.2), if_neg (fun h => hkn (by omega))]; rfl
    rw [show (fun k => ((M.cpy r q n).P q k).map A) = _ from funext he] at hup
    exact kk p e R s m args below meth c H1 locs1 cells slots ls rc0 rs0 A A0 M0 hC (hF.mem (hup H1 hP1 hD1) hS1 rfl ⟨rfl, rfl⟩ (fun v hv => List.mem_cons_of_mem _ (List.mem_cons_of_mem _ (List.mem_cons_of_mem _ (List.mem_cons_of_mem _ (List.mem_cons_of_mem _ hv))))))
theorem S_ldcI {idx : Nat} {v : Int32} (hl : Cond.constant mi.1.cls idx v ∈ wG) (hd : decode mi.2.1 pc = .ok (.ldc idx, 2)) (kk : Sf G mi Q (pc + 2) L (vI v.toInt :: st) M) : Sf G mi Q pc L st M := by
  intro p e R s m args below meth c H locs cells slots ls rc0 rs0 A A0 M0 hC hF
  have k1 := kk p e R s m args below meth c H locs cells slots ls rc0 rs0 A A0 M0 hC (hF.st (fun h => h.pushI _))
  have e2 : conc A (vI v.toInt) = .int v := congrArg Value.int (jI_of _)
  rw [List.map_cons, e2] at k1
  exact lv_ldc hC.1 hC.2.1 hC.2.2.2.2.1 (hC.2.2.2.2.2.1 _ hl) hd k1
theorem S_max {idx : Nat} {x y : Int} (hl : Cond.methodLink mi.1.cls idx Lib.Math.max.name ∈ wG ∧ Cond.static Lib.Math.max.name ∈ wG ∧ Cond.initialized "java/lang/Math" ∈ wG ∧ Cond.code Lib.Math.max.name Lib.Math.max.code 2 (some .int) ∈ wG) (hd : decode mi.2.1 pc = .ok (.invokestatic idx, 3)) (hD : 1 ≤ mi.2.2.2.2) (hst : st.length ≤ 8) (hx : (-2147483648 ≤ x ∧ x < 2147483648) ∧ (-2147483648 ≤ y ∧ y < 2147483648)) (kk : Sf G mi Q (pc + 3) L (vI (if x < y then y else x) :: st) M) : Sf G mi Q pc L (vI y :: vI x :: st) M := by
  intro p e R s m args below meth c H locs cells slots ls rc0 rs0 A A0 M0 hC hF
  have k1 := kk p e R s m args below meth c H locs cells slots ls rc0 rs0 A A0 M0 hC (hF.st (fun h => h.pop.pop.pushI _))
  have hsum : ((st.map (conc A)).map fun v => v.category).sum ≤ 8 := Nat.le_trans (cat_sum A st) hst
  have hb := hF.2.2.1
  have hR := hC.2.2.2.2.2.2.2.2.2.1
  refine va_mmax hC.1 hC.2.1 (hC.2.2.2.1.trans hF.2.2.2.1.1.symm) hC.2.2.2.2.1 (hC.2.2.2.2.2.1 _ hl.1) (hC.2.2.2.2.2.1 _ hl.2.1) (hC.2.2.2.2.2.1 _ hl.2.2.1) (hC.2.2.2.2.2.1 _ hl.2.2.2) (by rw [hR]; exact hD) (by rw [hR]; show _ + 13 ≤ 64 * mi.2.2.2.2; omega) (by rw [hR]; show cells ≤ rc0; omega) (by rw [hR]; show slots ≤ rs0; omega) hd ?_
  have e1 : conc A (vI (if x < y then y else x)) = .int (if jI x < jI y then jI y else jI x) := by
    by_cases h : x < y
    · rw [if_pos h, if_pos ((jI_lt hx.1 hx.2).mpr h)]; rfl
    · rw [if_neg h, if_neg (fun h2 => h ((jI_lt hx.1 hx.2).mp h2))]; rfl
  rw [List.map_cons, e1] at k1
  exact k1
theorem S_min {idx : Nat} {x y : Int} (hl : Cond.methodLink mi.1.cls idx Lib.Math.min.name ∈ wG ∧ Cond.static Lib.Math.min.name ∈ wG ∧ Cond.initialized "java/lang/Math" ∈ wG ∧ Cond.code Lib.Math.min.name Lib.Math.min.code 2 (some .int) ∈ wG) (hd : decode mi.2.1 pc = .ok (.invokestatic idx, 3)) (hD : 1 ≤ mi.2.2.2.2) (hst : st.length ≤ 8) (hx : (-2147483648 ≤ x ∧ x < 2147483648) ∧ (-2147483648 ≤ y ∧ y < 2147483648)) (kk : Sf G mi Q (pc + 3) L (vI (if y < x then y else x) :: st) M) : Sf G mi Q pc L (vI y :: vI x :: st) M := by
  intro p e R s m args below meth c H locs cells slots ls rc0 rs0 A A0 M0 hC hF
  have k1 := kk p e R s m args below meth c H locs cells slots ls rc0 rs0 A A0 M0 hC (hF.st (fun h => h.pop.pop.pushI _))
  have hsum : ((st.map (conc A)).map fun v => v.category).sum ≤ 8 := Nat.le_trans (cat_sum A st) hst
  have hb := hF.2.2.1
  have hR := hC.2.2.2.2.2.2.2.2.2.1
  refine va_mmin hC.1 hC.2.1 (hC.2.2.2.1.trans hF.2.2.2.1.1.symm) hC.2.2.2.2.1 (hC.2.2.2.2.2.1 _ hl.1) (hC.2.2.2.2.2.1 _ hl.2.1) (hC.2.2.2.2.2.1 _ hl.2.2.1) (hC.2.2.2.2.2.1 _ hl.2.2.2) (by rw [hR]; exact hD) (by rw [hR]; show _ + 13 ≤ 64 * mi.2.2.2.2; omega) (by rw [hR]; show cells ≤ rc0; omega) (by rw [hR]; show slots ≤ rs0; omega) hd ?_
  have e1 : conc A (vI (if y < x then y else x)) = .int (if jI y < jI x then jI y else jI x) := by
    by_cases h : y < x
    · rw [if_pos h, if_pos ((jI_lt hx.2 hx.1).mpr h)]; rfl
    · rw [if_neg h, if_neg (fun h2 => h ((jI_lt hx.2 hx.1).mp h2))]; rfl
  rw [List.map_cons, e1] at k1
  exact k1
end
