/-! THE CLASS: what the host does -/
theorem mt_ofWF {l : Launch} {y : MethodName} {ws ws' : List Cond} {rm : Room} {Pc : Array Value → State → Prop} {Qc : Array Value → State → Outcome → State → Prop} {mc ms : Nat} {free : Addr → Prop} {cc : ByteArray} {maxL : Nat} {ret : Option FieldType}
    (hy : plainFor y = true) (hw : ws = Cond.code y cc maxL ret :: ws')
    (body : ∀ p e s m args below meth c s₁, BodyLoose p l y (headSpec ws rm) cc maxL ret e s m args below meth c s₁ → c.maxLocals = maxL → Pc args s →
      W p l e (headSpec ws rm).room s m args below meth c s.heap [] 0 0 (MQ below Qc args s mc ms free) (entryFrame m args maxL)) : Met l y ws rm Pc Qc mc ms free := by
  refine MetFree.of_bodySF (code := cc) (maxLocals := maxL) (ret := ret) hy ?_ ?_
  · intro args s m h hn
    obtain ⟨meth, c, h1, h2, h3, h4, h5, h6, -, -⟩ := Cond.code_spec hn (atoms_spec (ws := ws) h _ (by rw [hw]; exact List.mem_cons_self))
    exact ⟨meth, c, h1, h2, h3, h4, h5, h6⟩
  · intro p e s m args below meth c s₁ B hml hP _
    have hh0 : s₁.heap = s.heap := by rw [B.state]; rfl
    obtain ⟨t, a1, o, b1, b2, b3⟩ := body p e s m args below meth c s₁ B hml hP s₁ hh0 (Stand.of_body B)
    exact ⟨t, o, a1, b1, b2, ⟨b3.1, b3.2⟩⟩
theorem ct_ofF {G : Ge} {mi : Mi} {as : List AVal} {M : Mem} {Q : Option AVal → Mem → Prop} (hy : plainFor mi.1 = true) (L : List (Option AVal)) (hL : L = as.map some ++ List.replicate (mi.2.2.1 - as.length) none) (hn : as.length ≤ mi.2.2.1) (hb : Sf G mi Q 0 L [] M) : Ct G mi as M Q := by
  intro A
  subst hL
  refine mt_ofWF (cc := mi.2.1) (maxL := mi.2.2.1) (ret := mi.2.2.2.1) hy rfl ?_
  intro p e s m args below meth c s₁ B hml hv
  obtain ⟨rfl, hP, hK, hB, hok⟩ := hv
  have hcat : ∀ w ∈ as.map (conc A), w.category = 1 := fun w hw => by
    obtain ⟨v, -, rfl⟩ := List.mem_map.mp hw
    exact conc_cat A v
  have hl := lv_entry (as.map (conc A)) (n := mi.2.2.1) (by rw [sl_len _ hcat, List.length_map]; exact hn)
  rw [lg_entry_eq]
  generalize (lg_sl (as.map (conc A)) ++ List.replicate (mi.2.2.1 - (lg_sl (as.map (conc A))).length) Slot.unset).toArray = ls at hl ⊢
  refine hb p e _ s m _ below meth c s.heap [] 0 0 ls M.rc M.rs A A M ⟨B.exec, B.bytes, B.returns, hml, findClass_of_methodNamed B.named, fun w hw => atoms_spec B.pre w (List.mem_cons_of_mem _ hw), hK, B.notSynchronized, (name_of_methodNamed B.named B.method).1, rfl, hB⟩ ⟨hP, va_S.rf, by omega, ⟨hl.1, hl.2.1, fun i v hi => ?_⟩, ⟨fun v hv => absurd hv List.not_mem_nil, fun v hv => ?_⟩, fun r hr => ⟨hr, rfl⟩⟩
  · rw [List.getElem?_append] at hi
    split at hi
    · rw [List.getElem?_map] at hi
      cases h : as[i]? with
      | none => rw [h] at hi; cases hi
      | some w =>
        rw [h] at hi
        cases hi
        have := lv_args_mem (as.map (conc A)) 0 i (conc A v) hcat (by rw [List.getElem?_map, h]; rfl)
        rw [Nat.zero_add] at this
        exact hl.2.2 _ this
    · rw [List.getElem?_replicate] at hi
      split at hi
      · cases hi
      · cases hi
  · rcases List.mem_append.mp hv with h | h
    · obtain ⟨w, hw, e1⟩ := List.mem_map.mp h
      cases e1
      exact hok v hw
    · have := (List.mem_replicate.mp h).2
      cases this
theorem fmod6 : ∀ k : Fin 201, (((jI ((k.val : Int) - 100) ^^^ jI 6).toInt < 0 ↔ (k.val : Int) - 100 < 0) ∧ ((k.val : Int) - 100 < 0 → (((k.val : Int) - 100).tmod 6 = 0 ∧ ((k.val : Int) - 100) % 6 = 0 ∨ ((k.val : Int) - 100).tmod 6 ≠ 0 ∧ ((k.val : Int) - 100).tmod 6 + 6 = ((k.val : Int) - 100) % 6))) ∧ (0 ≤ (k.val : Int) - 100 → ((k.val : Int) - 100).tmod 6 = ((k.val : Int) - 100) % 6) ∧ (-6 < ((k.val : Int) - 100).tmod 6 ∧ ((k.val : Int) - 100).tmod 6 < 6) ∧ k6 ((k.val : Int) - 100) = ((k.val : Int) - 100) % 6 := by decide +kernel
theorem fmod2 : ∀ k : Fin 201, (((jI ((k.val : Int) - 100) ^^^ jI 2).toInt < 0 ↔ (k.val : Int) - 100 < 0) ∧ ((k.val : Int) - 100 < 0 → (((k.val : Int) - 100).tmod 2 = 0 ∧ ((k.val : Int) - 100) % 2 = 0 ∨ ((k.val : Int) - 100).tmod 2 ≠ 0 ∧ ((k.val : Int) - 100).tmod 2 + 2 = ((k.val : Int) - 100) % 2))) ∧ (0 ≤ (k.val : Int) - 100 → ((k.val : Int) - 100).tmod 2 = ((k.val : Int) - 100) % 2) ∧ (-2 < ((k.val : Int) - 100).tmod 2 ∧ ((k.val : Int) - 100).tmod 2 < 2) := by decide +kernel
theorem fmx6 {n : Int} (h : -100 ≤ n ∧ n ≤ 100) : (((jI n ^^^ jI 6).toInt < 0 ↔ n < 0) ∧ (n < 0 → (n.tmod 6 = 0 ∧ n % 6 = 0 ∨ n.tmod 6 ≠ 0 ∧ n.tmod 6 + 6 = n % 6))) ∧ (0 ≤ n → n.tmod 6 = n % 6) ∧ (-6 < n.tmod 6 ∧ n.tmod 6 < 6) ∧ k6 n = n % 6 := by
  have q := fmod6 ⟨(n + 100).toNat, by omega⟩
  rw [show (((⟨(n + 100).toNat, by omega⟩ : Fin 201).val : Int) - 100) = n from by show ((n + 100).toNat : Int) - 100 = n; omega] at q
  exact q
theorem fmx2 {n : Int} (h : -100 ≤ n ∧ n ≤ 100) : (((jI n ^^^ jI 2).toInt < 0 ↔ n < 0) ∧ (n < 0 → (n.tmod 2 = 0 ∧ n % 2 = 0 ∨ n.tmod 2 ≠ 0 ∧ n.tmod 2 + 2 = n % 2))) ∧ (0 ≤ n → n.tmod 2 = n % 2) ∧ (-2 < n.tmod 2 ∧ n.tmod 2 < 2) := by
  have q := fmod2 ⟨(n + 100).toNat, by omega⟩
  rw [show (((⟨(n + 100).toNat, by omega⟩ : Fin 201).val : Int) - 100) = n from by show ((n + 100).toNat : Int) - 100 = n; omega] at q
  exact q
def isU (k w : Int) : Prop := k = w ∨ w = 0 ∨ (k = 2 ∧ w = 1) ∨ (k = 5 ∧ w = 3)
def fgK (ρ : RS) (i : Nat) (k : Int) : Int × RS := if ρ.2 39 i = 0 then (-1, ρ.setS 42 10) else if ρ.2 39 i = 1 ∨ ¬ (ρ.2 39 i - 2 = k ∨ k = 0 ∨ (ρ.2 39 i - 2 = 2 ∧ k = 1) ∨ (ρ.2 39 i - 2 = 5 ∧ k = 3)) then (-1, ρ.setS 42 11) else (ρ.2 9 (ρ.2 40 i).toNat, ρ.setS 42 0)
def fgH (ρ : RS) (i : Nat) (n : Int) : Int × RS := if ρ.2 39 i = 0 then (-1, ρ.setS 42 10) else if ρ.2 39 i ≠ 1 then (-1, ρ.setS 42 11) else if 0 ≤ n ∧ n ≤ 2 then (hdV ρ (ρ.2 40 i).toNat n, ρ.setS 42 0) else (-1, ρ.setS 42 12)
def fgC (ρ : RS) (i : Nat) (n : Int) : Int × RS := if ρ.2 39 i = 0 then (-1, ρ.setS 42 10) else if ρ.2 39 i ≠ 1 then (-1, ρ.setS 42 11) else if 0 ≤ n ∧ n ≤ 2 then ((if 0 < n then ρ.2 33 (ρ.2 40 i).toNat else 0) + (if 1 < n then ρ.2 34 (ρ.2 40 i).toNat else 0), ρ.setS 42 0) else (-1, ρ.setS 42 12)
def fgR (ρ : RS) (i : Nat) : Int × RS := if ρ.2 39 i = 0 then (0, ρ.setS 42 0) else if ρ.2 39 i = 1 then (-1, ρ.setS 42 11) else if ρ.2 39 i - 2 = 1 ∨ ρ.2 39 i - 2 = 2 then (1, ρ.setS 42 0) else (-1, ρ.setS 42 14)

set_option maxRecDepth 100000 in
theorem c_floorMod6 {G : Ge} {M : Mem} (n : Int) (hn : -100 ≤ n ∧ n ≤ 100) : Ct G mi_J9_floorMod_7cf53 [vI n, vI 6] M (fun v' M' => v' = some (vI (n % 6)) ∧ M' = M) := by
  refine ct_ofF (by decide +kernel) [some (vI n), some (vI 6), none] rfl (Nat.le_of_ble_eq_true rfl) ?_
  have h := fmx6 hn
  have hxb := jI_bd (jI n ^^^ jI 6)
  refine S_iload_n dJ9_floorMod_7cf53_0 rfl ?_
  refine S_iload_n dJ9_floorMod_7cf53_1 rfl ?_
  refine S_irem dJ9_floorMod_7cf53_2 (by omega) (by decide) ?_
  refine S_istore_n dJ9_floorMod_7cf53_3 (by decide) ?_
  refine S_iload_n dJ9_floorMod_7cf53_4 rfl ?_
  refine S_iload_n dJ9_floorMod_7cf53_5 rfl ?_
  refine S_ixor dJ9_floorMod_7cf53_6 ?_
  refine S_if_ge 18 dJ9_floorMod_7cf53_7 (by decide) (by omega) (fun c_7 => ?_) (fun c_7 => ?_)
  · refine S_iload_n dJ9_floorMod_7cf53_18 rfl ?_
    exact S_iret dJ9_floorMod_7cf53_19 rfl (Or.inl rfl) (by rw [show (n % 6 : Int) = Int.tmod n 6 from by omega]; exact ⟨rfl, rfl⟩)
  · refine S_iload_n dJ9_floorMod_7cf53_10 rfl ?_
    refine S_if_eq 18 dJ9_floorMod_7cf53_11 (by decide) (by omega) (fun c_11 => ?_) (fun c_11 => ?_)
    · refine S_iload_n dJ9_floorMod_7cf53_18 rfl ?_
      exact S_iret dJ9_floorMod_7cf53_19 rfl (Or.inl rfl) (by rw [show (n % 6 : Int) = Int.tmod n 6 from by omega]; exact ⟨rfl, rfl⟩)
    · refine S_iload_n dJ9_floorMod_7cf53_14 rfl ?_
      refine S_iload_n dJ9_floorMod_7cf53_15 rfl ?_
      refine S_iadd dJ9_floorMod_7cf53_16 ?_
      exact S_iret dJ9_floorMod_7cf53_17 rfl (Or.inl rfl) (by rw [show (n % 6 : Int) = (Int.tmod n 6) + 6 from by omega]; exact ⟨rfl, rfl⟩)
set_option maxRecDepth 100000 in
theorem c_floorMod2 {G : Ge} {M : Mem} (n : Int) (hn : -100 ≤ n ∧ n ≤ 100) : Ct G mi_J9_floorMod_7cf53 [vI n, vI 2] M (fun v' M' => v' = some (vI (n % 2)) ∧ M' = M) := by
  refine ct_ofF (by decide +kernel) [some (vI n), some (vI 2), none] rfl (Nat.le_of_ble_eq_true rfl) ?_
  have h := fmx2 hn
  have hxb := jI_bd (jI n ^^^ jI 2)
  refine S_iload_n dJ9_floorMod_7cf53_0 rfl ?_
  refine S_iload_n dJ9_floorMod_7cf53_1 rfl ?_
  refine S_irem dJ9_floorMod_7cf53_2 (by omega) (by decide) ?_
  refine S_istore_n dJ9_floorMod_7cf53_3 (by decide) ?_
  refine S_iload_n dJ9_floorMod_7cf53_4 rfl ?_
  refine S_iload_n dJ9_floorMod_7cf53_5 rfl ?_
  refine S_ixor dJ9_floorMod_7cf53_6 ?_
  refine S_if_ge 18 dJ9_floorMod_7cf53_7 (by decide) (by omega) (fun c_7 => ?_) (fun c_7 => ?_)
  · refine S_iload_n dJ9_floorMod_7cf53_18 rfl ?_
    exact S_iret dJ9_floorMod_7cf53_19 rfl (Or.inl rfl) (by rw [show (n % 2 : Int) = Int.tmod n 2 from by omega]; exact ⟨rfl, rfl⟩)
  · refine S_iload_n dJ9_floorMod_7cf53_10 rfl ?_
    refine S_if_eq 18 dJ9_floorMod_7cf53_11 (by decide) (by omega) (fun c_11 => ?_) (fun c_11 => ?_)
    · refine S_iload_n dJ9_floorMod_7cf53_18 rfl ?_
      exact S_iret dJ9_floorMod_7cf53_19 rfl (Or.inl rfl) (by rw [show (n % 2 : Int) = Int.tmod n 2 from by omega]; exact ⟨rfl, rfl⟩)
    · refine S_iload_n dJ9_floorMod_7cf53_14 rfl ?_
      refine S_iload_n dJ9_floorMod_7cf53_15 rfl ?_
      refine S_iadd dJ9_floorMod_7cf53_16 ?_
      exact S_iret dJ9_floorMod_7cf53_17 rfl (Or.inl rfl) (by rw [show (n % 2 : Int) = (Int.tmod n 2) + 2 from by omega]; exact ⟨rfl, rfl⟩)
set_option maxRecDepth 100000 in
theorem c_above_m {G : Ge} {M : Mem}  : Ct G mi_X8_above [vI ((-1))] M (fun v' M' => v' = some (vI (-1)) ∧ M' = M) := by
  refine Ct.of pl_X8_above [some (vI ((-1)))] rfl (Nat.le_of_ble_eq_true rfl) ?_
  refine S_iload_n dX8_above_0 rfl ?_
  refine S_tableOut 42 dX8_above_1 (by omega) (by omega) (by decide) ?_
  refine S_iconst dX8_above_42 ?_
  exact S_iret dX8_above_43 rfl (Or.inl rfl) ⟨rfl, rfl⟩
set_option maxRecDepth 100000 in
theorem c_isUnder_0_0 {G : Ge} {M : Mem}  : Ct G mi_X8_isUnder [vI 0, vI 0] M (fun v' M' => v' = some (vI (1)) ∧ M' = M) := by
  refine Ct.of pl_X8_isUnder [some (vI 0), some (vI 0), none, none] rfl (Nat.le_of_ble_eq_true rfl) ?_
  refine S_iload_n dX8_isUnder_0 rfl ?_
  refine S_istore_n dX8_isUnder_1 (by decide) ?_
  refine S_iconst dX8_isUnder_2 ?_
  refine S_istore_n dX8_isUnder_3 (by decide) ?_
  refine S_iload_n dX8_isUnder_4 rfl ?_
  refine S_bipush dX8_isUnder_5 (by decide) ?_
  refine S_icmp_ge 26 dX8_isUnder_7 (by decide) (by omega) (fun c_7 => absurd c_7 (by omega)) (fun c_7 => ?_)
  refine S_iload_n dX8_isUnder_10 rfl ?_
  refine S_iload_n dX8_isUnder_11 rfl ?_
  refine S_icmp_eq 26 dX8_isUnder_12 (by decide) (by omega) (fun c_12 => ?_) (fun c_12 => absurd c_12 (by omega))
  refine S_iload_n dX8_isUnder_26 rfl ?_
  refine S_iload_n dX8_isUnder_27 rfl ?_
  refine S_icmp_ne 35 dX8_isUnder_28 (by decide) (by omega) (fun c_28 => absurd c_28 (by omega)) (fun c_28 => ?_)
  refine S_iconst dX8_isUnder_31 ?_
  refine S_goto 36 dX8_isUnder_32 (by decide) ?_
  exact S_iret dX8_isUnder_36 rfl (Or.inr ⟨rfl, by omega⟩) ⟨rfl, rfl⟩
set_option maxRecDepth 100000 in
theorem c_isUnder_0_1 {G : Ge} {M : Mem}  : Ct G mi_X8_isUnder [vI 0, vI 1] M (fun v' M' => v' = some (vI (0)) ∧ M' = M) := by
  refine Ct.of pl_X8_isUnder [some (vI 0), some (vI 1), none, none] rfl (Nat.le_of_ble_eq_true rfl) ?_
  refine S_iload_n dX8_isUnder_0 rfl ?_
  refine S_istore_n dX8_isUnder_1 (by decide) ?_
  refine S_iconst dX8_isUnder_2 ?_
  refine S_istore_n dX8_isUnder_3 (by decide) ?_
  refine S_iload_n dX8_isUnder_4 rfl ?_
  refine S_bipush dX8_isUnder_5 (by decide) ?_
  refine S_icmp_ge 26 dX8_isUnder_7 (by decide) (by omega) (fun c_7 => absurd c_7 (by omega)) (fun c_7 => ?_)
  refine S_iload_n dX8_isUnder_10 rfl ?_
  refine S_iload_n dX8_isUnder_11 rfl ?_
  refine S_icmp_eq 26 dX8_isUnder_12 (by decide) (by omega) (fun c_12 => absurd c_12 (by omega)) (fun c_12 => ?_)
  refine S_iload_n dX8_isUnder_15 rfl ?_
  refine S_callS (mi := mi_X8_isUnder) [vI 0] ok_X8_above ml_X8_370 dX8_isUnder_16 (by decide) rfl (Nat.le_of_ble_eq_true rfl) rfl (c_above_0) ?_
  rintro v' M1 ⟨rfl, hM1⟩
  rw [hM1]
  clear hM1
  refine S_istore_n dX8_isUnder_19 (by decide) ?_
  refine S_iinc dX8_isUnder_20 rfl (by decide) ?_
  rw [show ((0 : Int) + 1) = 1 from rfl]
  refine S_goto 4 dX8_isUnder_23 (by decide) ?_
  refine S_iload_n dX8_isUnder_4 rfl ?_
  refine S_bipush dX8_isUnder_5 (by decide) ?_
  refine S_icmp_ge 26 dX8_isUnder_7 (by decide) (by omega) (fun c_7 => absurd c_7 (by omega)) (fun c_7 => ?_)
  refine S_iload_n dX8_isUnder_10 rfl ?_
  refine S_iload_n dX8_isUnder_11 rfl ?_
  refine S_icmp_eq 26 dX8_isUnder_12 (by decide) (by omega) (fun c_12 => absurd c_12 (by omega)) (fun c_12 => ?_)
  refine S_iload_n dX8_isUnder_15 rfl ?_
  refine S_callS (mi := mi_X8_isUnder) [vI ((-1))] ok_X8_above ml_X8_370 dX8_isUnder_16 (by decide) rfl (Nat.le_of_ble_eq_true rfl) rfl (c_above_m) ?_
  rintro v' M2 ⟨rfl, hM2⟩
  rw [hM2]
  clear hM2
  refine S_istore_n dX8_isUnder_19 (by decide) ?_
  refine S_iinc dX8_isUnder_20 rfl (by decide) ?_
  rw [show ((1 : Int) + 1) = 2 from rfl]
  refine S_goto 4 dX8_isUnder_23 (by decide) ?_
  refine S_iload_n dX8_isUnder_4 rfl ?_
  refine S_bipush dX8_isUnder_5 (by decide) ?_
  refine S_icmp_ge 26 dX8_isUnder_7 (by decide) (by omega) (fun c_7 => absurd c_7 (by omega)) (fun c_7 => ?_)
  refine S_iload_n dX8_isUnder_10 rfl ?_
  refine S_iload_n dX8_isUnder_11 rfl ?_
  refine S_icmp_eq 26 dX8_isUnder_12 (by decide) (by omega) (fun c_12 => absurd c_12 (by omega)) (fun c_12 => ?_)
  refine S_iload_n dX8_isUnder_15 rfl ?_
  refine S_callS (mi := mi_X8_isUnder) [vI ((-1))] ok_X8_above ml_X8_370 dX8_isUnder_16 (by decide) rfl (Nat.le_of_ble_eq_true rfl) rfl (c_above_m) ?_
  rintro v' M3 ⟨rfl, hM3⟩
  rw [hM3]
  clear hM3
  refine S_istore_n dX8_isUnder_19 (by decide) ?_
  refine S_iinc dX8_isUnder_20 rfl (by decide) ?_
  rw [show ((2 : Int) + 1) = 3 from rfl]
  refine S_goto 4 dX8_isUnder_23 (by decide) ?_
  refine S_iload_n dX8_isUnder_4 rfl ?_
  refine S_bipush dX8_isUnder_5 (by decide) ?_
  refine S_icmp_ge 26 dX8_isUnder_7 (by decide) (by omega) (fun c_7 => absurd c_7 (by omega)) (fun c_7 => ?_)
  refine S_iload_n dX8_isUnder_10 rfl ?_
  refine S_iload_n dX8_isUnder_11 rfl ?_
  refine S_icmp_eq 26 dX8_isUnder_12 (by decide) (by omega) (fun c_12 => absurd c_12 (by omega)) (fun c_12 => ?_)
  refine S_iload_n dX8_isUnder_15 rfl ?_
  refine S_callS (mi := mi_X8_isUnder) [vI ((-1))] ok_X8_above ml_X8_370 dX8_isUnder_16 (by decide) rfl (Nat.le_of_ble_eq_true rfl) rfl (c_above_m) ?_
  rintro v' M4 ⟨rfl, hM4⟩
  rw [hM4]
  clear hM4
  refine S_istore_n dX8_isUnder_19 (by decide) ?_
  refine S_iinc dX8_isUnder_20 rfl (by decide) ?_
  rw [show ((3 : Int) + 1) = 4 from rfl]
  refine S_goto 4 dX8_isUnder_23 (by decide) ?_
  refine S_iload_n dX8_isUnder_4 rfl ?_
  refine S_bipush dX8_isUnder_5 (by decide) ?_
  refine S_icmp_ge 26 dX8_isUnder_7 (by decide) (by omega) (fun c_7 => absurd c_7 (by omega)) (fun c_7 => ?_)
  refine S_iload_n dX8_isUnder_10 rfl ?_
  refine S_iload_n dX8_isUnder_11 rfl ?_
  refine S_icmp_eq 26 dX8_isUnder_12 (by decide) (by omega) (fun c_12 => absurd c_12 (by omega)) (fun c_12 => ?_)
  refine S_iload_n dX8_isUnder_15 rfl ?_
  refine S_callS (mi := mi_X8_isUnder) [vI ((-1))] ok_X8_above ml_X8_370 dX8_isUnder_16 (by decide) rfl (Nat.le_of_ble_eq_true rfl) rfl (c_above_m) ?_
  rintro v' M5 ⟨rfl, hM5⟩
  rw [hM5]
  clear hM5
  refine S_istore_n dX8_isUnder_19 (by decide) ?_
  refine S_iinc dX8_isUnder_20 rfl (by decide) ?_
  rw [show ((4 : Int) + 1) = 5 from rfl]
  refine S_goto 4 dX8_isUnder_23 (by decide) ?_
  refine S_iload_n dX8_isUnder_4 rfl ?_
  refine S_bipush dX8_isUnder_5 (by decide) ?_
  refine S_icmp_ge 26 dX8_isUnder_7 (by decide) (by omega) (fun c_7 => absurd c_7 (by omega)) (fun c_7 => ?_)
  refine S_iload_n dX8_isUnder_10 rfl ?_
  refine S_iload_n dX8_isUnder_11 rfl ?_
  refine S_icmp_eq 26 dX8_isUnder_12 (by decide) (by omega) (fun c_12 => absurd c_12 (by omega)) (fun c_12 => ?_)
  refine S_iload_n dX8_isUnder_15 rfl ?_
  refine S_callS (mi := mi_X8_isUnder) [vI ((-1))] ok_X8_above ml_X8_370 dX8_isUnder_16 (by decide) rfl (Nat.le_of_ble_eq_true rfl) rfl (c_above_m) ?_
  rintro v' M6 ⟨rfl, hM6⟩
  rw [hM6]
  clear hM6
  refine S_istore_n dX8_isUnder_19 (by decide) ?_
  refine S_iinc dX8_isUnder_20 rfl (by decide) ?_
  rw [show ((5 : Int) + 1) = 6 from rfl]
  refine S_goto 4 dX8_isUnder_23 (by decide) ?_
  refine S_iload_n dX8_isUnder_4 rfl ?_
  refine S_bipush dX8_isUnder_5 (by decide) ?_
  refine S_icmp_ge 26 dX8_isUnder_7 (by decide) (by omega) (fun c_7 => ?_) (fun c_7 => absurd c_7 (by omega))
  refine S_iload_n dX8_isUnder_26 rfl ?_
  refine S_iload_n dX8_isUnder_27 rfl ?_
  refine S_icmp_ne 35 dX8_isUnder_28 (by decide) (by omega) (fun c_28 => ?_) (fun c_28 => absurd c_28 (by omega))
  refine S_iconst dX8_isUnder_35 ?_
  exact S_iret dX8_isUnder_36 rfl (Or.inr ⟨rfl, by omega⟩) ⟨rfl, rfl⟩
set_option maxRecDepth 100000 in
theorem c_isUnder_0_2 {G : Ge} {M : Mem}  : Ct G mi_X8_isUnder [vI 0, vI 2] M (fun v' M' => v' = some (vI (0)) ∧ M' = M) := by
  refine Ct.of pl_X8_isUnder [some (vI 0), some (vI 2), none, none] rfl (Nat.le_of_ble_eq_true rfl) ?_
  refine S_iload_n dX8_isUnder_0 rfl ?_
  refine S_istore_n dX8_isUnder_1 (by decide) ?_
  refine S_iconst dX8_isUnder_2 ?_
  refine S_istore_n dX8_isUnder_3 (by decide) ?_
  refine S_iload_n dX8_isUnder_4 rfl ?_
  refine S_bipush dX8_isUnder_5 (by decide) ?_
  refine S_icmp_ge 26 dX8_isUnder_7 (by decide) (by omega) (fun c_7 => absurd c_7 (by omega)) (fun c_7 => ?_)
  refine S_iload_n dX8_isUnder_10 rfl ?_
  refine S_iload_n dX8_isUnder_11 rfl ?_
  refine S_icmp_eq 26 dX8_isUnder_12 (by decide) (by omega) (fun c_12 => absurd c_12 (by omega)) (fun c_12 => ?_)
  refine S_iload_n dX8_isUnder_15 rfl ?_
  refine S_callS (mi := mi_X8_isUnder) [vI 0] ok_X8_above ml_X8_370 dX8_isUnder_16 (by decide) rfl (Nat.le_of_ble_eq_true rfl) rfl (c_above_0) ?_
  rintro v' M1 ⟨rfl, hM1⟩
  rw [hM1]
  clear hM1
  refine S_istore_n dX8_isUnder_19 (by decide) ?_
  refine S_iinc dX8_isUnder_20 rfl (by decide) ?_
  rw [show ((0 : Int) + 1) = 1 from rfl]
  refine S_goto 4 dX8_isUnder_23 (by decide) ?_
  refine S_iload_n dX8_isUnder_4 rfl ?_
  refine S_bipush dX8_isUnder_5 (by decide) ?_
  refine S_icmp_ge 26 dX8_isUnder_7 (by decide) (by omega) (fun c_7 => absurd c_7 (by omega)) (fun c_7 => ?_)
  refine S_iload_n dX8_isUnder_10 rfl ?_
  refine S_iload_n dX8_isUnder_11 rfl ?_
  refine S_icmp_eq 26 dX8_isUnder_12 (by decide) (by omega) (fun c_12 => absurd c_12 (by omega)) (fun c_12 => ?_)
  refine S_iload_n dX8_isUnder_15 rfl ?_
  refine S_callS (mi := mi_X8_isUnder) [vI ((-1))] ok_X8_above ml_X8_370 dX8_isUnder_16 (by decide) rfl (Nat.le_of_ble_eq_true rfl) rfl (c_above_m) ?_
  rintro v' M2 ⟨rfl, hM2⟩
  rw [hM2]
  clear hM2
  refine S_istore_n dX8_isUnder_19 (by decide) ?_
  refine S_iinc dX8_isUnder_20 rfl (by decide) ?_
  rw [show ((1 : Int) + 1) = 2 from rfl]
  refine S_goto 4 dX8_isUnder_23 (by decide) ?_
  refine S_iload_n dX8_isUnder_4 rfl ?_
  refine S_bipush dX8_isUnder_5 (by decide) ?_
  refine S_icmp_ge 26 dX8_isUnder_7 (by decide) (by omega) (fun c_7 => absurd c_7 (by omega)) (fun c_7 => ?_)
  refine S_iload_n dX8_isUnder_10 rfl ?_
  refine S_iload_n dX8_isUnder_11 rfl ?_
  refine S_icmp_eq 26 dX8_isUnder_12 (by decide) (by omega) (fun c_12 => absurd c_12 (by omega)) (fun c_12 => ?_)
  refine S_iload_n dX8_isUnder_15 rfl ?_
  refine S_callS (mi := mi_X8_isUnder) [vI ((-1))] ok_X8_above ml_X8_370 dX8_isUnder_16 (by decide) rfl (Nat.le_of_ble_eq_true rfl) rfl (c_above_m) ?_
  rintro v' M3 ⟨rfl, hM3⟩
  rw [hM3]
  clear hM3
  refine S_istore_n dX8_isUnder_19 (by decide) ?_
  refine S_iinc dX8_isUnder_20 rfl (by decide) ?_
  rw [show ((2 : Int) + 1) = 3 from rfl]
  refine S_goto 4 dX8_isUnder_23 (by decide) ?_
  refine S_iload_n dX8_isUnder_4 rfl ?_
  refine S_bipush dX8_isUnder_5 (by decide) ?_
  refine S_icmp_ge 26 dX8_isUnder_7 (by decide) (by omega) (fun c_7 => absurd c_7 (by omega)) (fun c_7 => ?_)
  refine S_iload_n dX8_isUnder_10 rfl ?_
  refine S_iload_n dX8_isUnder_11 rfl ?_
  refine S_icmp_eq 26 dX8_isUnder_12 (by decide) (by omega) (fun c_12 => absurd c_12 (by omega)) (fun c_12 => ?_)
  refine S_iload_n dX8_isUnder_15 rfl ?_
  refine S_callS (mi := mi_X8_isUnder) [vI ((-1))] ok_X8_above ml_X8_370 dX8_isUnder_16 (by decide) rfl (Nat.le_of_ble_eq_true rfl) rfl (c_above_m) ?_
  rintro v' M4 ⟨rfl, hM4⟩
  rw [hM4]
  clear hM4
  refine S_istore_n dX8_isUnder_19 (by decide) ?_
  refine S_iinc dX8_isUnder_20 rfl (by decide) ?_
  rw [show ((3 : Int) + 1) = 4 from rfl]
  refine S_goto 4 dX8_isUnder_23 (by decide) ?_
  refine S_iload_n dX8_isUnder_4 rfl ?_
  refine S_bipush dX8_isUnder_5 (by decide) ?_
  refine S_icmp_ge 26 dX8_isUnder_7 (by decide) (by omega) (fun c_7 => absurd c_7 (by omega)) (fun c_7 => ?_)
  refine S_iload_n dX8_isUnder_10 rfl ?_
  refine S_iload_n dX8_isUnder_11 rfl ?_
  refine S_icmp_eq 26 dX8_isUnder_12 (by decide) (by omega) (fun c_12 => absurd c_12 (by omega)) (fun c_12 => ?_)
  refine S_iload_n dX8_isUnder_15 rfl ?_
  refine S_callS (mi := mi_X8_isUnder) [vI ((-1))] ok_X8_above ml_X8_370 dX8_isUnder_16 (by decide) rfl (Nat.le_of_ble_eq_true rfl) rfl (c_above_m) ?_
  rintro v' M5 ⟨rfl, hM5⟩
  rw [hM5]
  clear hM5
  refine S_istore_n dX8_isUnder_19 (by decide) ?_
  refine S_iinc dX8_isUnder_20 rfl (by decide) ?_
  rw [show ((4 : Int) + 1) = 5 from rfl]
  refine S_goto 4 dX8_isUnder_23 (by decide) ?_
  refine S_iload_n dX8_isUnder_4 rfl ?_
  refine S_bipush dX8_isUnder_5 (by decide) ?_
  refine S_icmp_ge 26 dX8_isUnder_7 (by decide) (by omega) (fun c_7 => absurd c_7 (by omega)) (fun c_7 => ?_)
  refine S_iload_n dX8_isUnder_10 rfl ?_
  refine S_iload_n dX8_isUnder_11 rfl ?_
  refine S_icmp_eq 26 dX8_isUnder_12 (by decide) (by omega) (fun c_12 => absurd c_12 (by omega)) (fun c_12 => ?_)
  refine S_iload_n dX8_isUnder_15 rfl ?_
  refine S_callS (mi := mi_X8_isUnder) [vI ((-1))] ok_X8_above ml_X8_370 dX8_isUnder_16 (by decide) rfl (Nat.le_of_ble_eq_true rfl) rfl (c_above_m) ?_
  rintro v' M6 ⟨rfl, hM6⟩
  rw [hM6]
  clear hM6
  refine S_istore_n dX8_isUnder_19 (by decide) ?_
  refine S_iinc dX8_isUnder_20 rfl (by decide) ?_
  rw [show ((5 : Int) + 1) = 6 from rfl]
  refine S_goto 4 dX8_isUnder_23 (by decide) ?_
  refine S_iload_n dX8_isUnder_4 rfl ?_
  refine S_bipush dX8_isUnder_5 (by decide) ?_
  refine S_icmp_ge 26 dX8_isUnder_7 (by decide) (by omega) (fun c_7 => ?_) (fun c_7 => absurd c_7 (by omega))
  refine S_iload_n dX8_isUnder_26 rfl ?_
  refine S_iload_n dX8_isUnder_27 rfl ?_
  refine S_icmp_ne 35 dX8_isUnder_28 (by decide) (by omega) (fun c_28 => ?_) (fun c_28 => absurd c_28 (by omega))
  refine S_iconst dX8_isUnder_35 ?_
  exact S_iret dX8_isUnder_36 rfl (Or.inr ⟨rfl, by omega⟩) ⟨rfl, rfl⟩
set_option maxRecDepth 100000 in
theorem c_isUnder_0_3 {G : Ge} {M : Mem}  : Ct G mi_X8_isUnder [vI 0, vI 3] M (fun v' M' => v' = some (vI (0)) ∧ M' = M) := by
  refine Ct.of pl_X8_isUnder [some (vI 0), some (vI 3), none, none] rfl (Nat.le_of_ble_eq_true rfl) ?_
  refine S_iload_n dX8_isUnder_0 rfl ?_
  refine S_istore_n dX8_isUnder_1 (by decide) ?_
  refine S_iconst dX8_isUnder_2 ?_
  refine S_istore_n dX8_isUnder_3 (by decide) ?_
  refine S_iload_n dX8_isUnder_4 rfl ?_
  refine S_bipush dX8_isUnder_5 (by decide) ?_
  refine S_icmp_ge 26 dX8_isUnder_7 (by decide) (by omega) (fun c_7 => absurd c_7 (by omega)) (fun c_7 => ?_)
  refine S_iload_n dX8_isUnder_10 rfl ?_
  refine S_iload_n dX8_isUnder_11 rfl ?_
  refine S_icmp_eq 26 dX8_isUnder_12 (by decide) (by omega) (fun c_12 => absurd c_12 (by omega)) (fun c_12 => ?_)
  refine S_iload_n dX8_isUnder_15 rfl ?_
  refine S_callS (mi := mi_X8_isUnder) [vI 0] ok_X8_above ml_X8_370 dX8_isUnder_16 (by decide) rfl (Nat.le_of_ble_eq_true rfl) rfl (c_above_0) ?_
  rintro v' M1 ⟨rfl, hM1⟩
  rw [hM1]
  clear hM1
  refine S_istore_n dX8_isUnder_19 (by decide) ?_
  refine S_iinc dX8_isUnder_20 rfl (by decide) ?_
  rw [show ((0 : Int) + 1) = 1 from rfl]
  refine S_goto 4 dX8_isUnder_23 (by decide) ?_
  refine S_iload_n dX8_isUnder_4 rfl ?_
  refine S_bipush dX8_isUnder_5 (by decide) ?_
  refine S_icmp_ge 26 dX8_isUnder_7 (by decide) (by omega) (fun c_7 => absurd c_7 (by omega)) (fun c_7 => ?_)
  refine S_iload_n dX8_isUnder_10 rfl ?_
  refine S_iload_n dX8_isUnder_11 rfl ?_
  refine S_icmp_eq 26 dX8_isUnder_12 (by decide) (by omega) (fun c_12 => absurd c_12 (by omega)) (fun c_12 => ?_)
  refine S_iload_n dX8_isUnder_15 rfl ?_
  refine S_callS (mi := mi_X8_isUnder) [vI ((-1))] ok_X8_above ml_X8_370 dX8_isUnder_16 (by decide) rfl (Nat.le_of_ble_eq_true rfl) rfl (c_above_m) ?_
  rintro v' M2 ⟨rfl, hM2⟩
  rw [hM2]
  clear hM2
  refine S_istore_n dX8_isUnder_19 (by decide) ?_
  refine S_iinc dX8_isUnder_20 rfl (by decide) ?_
  rw [show ((1 : Int) + 1) = 2 from rfl]
  refine S_goto 4 dX8_isUnder_23 (by decide) ?_
  refine S_iload_n dX8_isUnder_4 rfl ?_
  refine S_bipush dX8_isUnder_5 (by decide) ?_
  refine S_icmp_ge 26 dX8_isUnder_7 (by decide) (by omega) (fun c_7 => absurd c_7 (by omega)) (fun c_7 => ?_)
  refine S_iload_n dX8_isUnder_10 rfl ?_
  refine S_iload_n dX8_isUnder_11 rfl ?_
  refine S_icmp_eq 26 dX8_isUnder_12 (by decide) (by omega) (fun c_12 => absurd c_12 (by omega)) (fun c_12 => ?_)
  refine S_iload_n dX8_isUnder_15 rfl ?_
  refine S_callS (mi := mi_X8_isUnder) [vI ((-1))] ok_X8_above ml_X8_370 dX8_isUnder_16 (by decide) rfl (Nat.le_of_ble_eq_true rfl) rfl (c_above_m) ?_
  rintro v' M3 ⟨rfl, hM3⟩
  rw [hM3]
  clear hM3
  refine S_istore_n dX8_isUnder_19 (by decide) ?_
  refine S_iinc dX8_isUnder_20 rfl (by decide) ?_
  rw [show ((2 : Int) + 1) = 3 from rfl]
  refine S_goto 4 dX8_isUnder_23 (by decide) ?_
  refine S_iload_n dX8_isUnder_4 rfl ?_
  refine S_bipush dX8_isUnder_5 (by decide) ?_
  refine S_icmp_ge 26 dX8_isUnder_7 (by decide) (by omega) (fun c_7 => absurd c_7 (by omega)) (fun c_7 => ?_)
  refine S_iload_n dX8_isUnder_10 rfl ?_
  refine S_iload_n dX8_isUnder_11 rfl ?_
  refine S_icmp_eq 26 dX8_isUnder_12 (by decide) (by omega) (fun c_12 => absurd c_12 (by omega)) (fun c_12 => ?_)
  refine S_iload_n dX8_isUnder_15 rfl ?_
  refine S_callS (mi := mi_X8_isUnder) [vI ((-1))] ok_X8_above ml_X8_370 dX8_isUnder_16 (by decide) rfl (Nat.le_of_ble_eq_true rfl) rfl (c_above_m) ?_
  rintro v' M4 ⟨rfl, hM4⟩
  rw [hM4]
  clear hM4
  refine S_istore_n dX8_isUnder_19 (by decide) ?_
  refine S_iinc dX8_isUnder_20 rfl (by decide) ?_
  rw [show ((3 : Int) + 1) = 4 from rfl]
  refine S_goto 4 dX8_isUnder_23 (by decide) ?_
  refine S_iload_n dX8_isUnder_4 rfl ?_
  refine S_bipush dX8_isUnder_5 (by decide) ?_
  refine S_icmp_ge 26 dX8_isUnder_7 (by decide) (by omega) (fun c_7 => absurd c_7 (by omega)) (fun c_7 => ?_)
  refine S_iload_n dX8_isUnder_10 rfl ?_
  refine S_iload_n dX8_isUnder_11 rfl ?_
  refine S_icmp_eq 26 dX8_isUnder_12 (by decide) (by omega) (fun c_12 => absurd c_12 (by omega)) (fun c_12 => ?_)
  refine S_iload_n dX8_isUnder_15 rfl ?_
  refine S_callS (mi := mi_X8_isUnder) [vI ((-1))] ok_X8_above ml_X8_370 dX8_isUnder_16 (by decide) rfl (Nat.le_of_ble_eq_true rfl) rfl (c_above_m) ?_
  rintro v' M5 ⟨rfl, hM5⟩
  rw [hM5]
  clear hM5
  refine S_istore_n dX8_isUnder_19 (by decide) ?_
  refine S_iinc dX8_isUnder_20 rfl (by decide) ?_
  rw [show ((4 : Int) + 1) = 5 from rfl]
  refine S_goto 4 dX8_isUnder_23 (by decide) ?_
  refine S_iload_n dX8_isUnder_4 rfl ?_
  refine S_bipush dX8_isUnder_5 (by decide) ?_
  refine S_icmp_ge 26 dX8_isUnder_7 (by decide) (by omega) (fun c_7 => absurd c_7 (by omega)) (fun c_7 => ?_)
  refine S_iload_n dX8_isUnder_10 rfl ?_
  refine S_iload_n dX8_isUnder_11 rfl ?_
  refine S_icmp_eq 26 dX8_isUnder_12 (by decide) (by omega) (fun c_12 => absurd c_12 (by omega)) (fun c_12 => ?_)
  refine S_iload_n dX8_isUnder_15 rfl ?_
  refine S_callS (mi := mi_X8_isUnder) [vI ((-1))] ok_X8_above ml_X8_370 dX8_isUnder_16 (by decide) rfl (Nat.le_of_ble_eq_true rfl) rfl (c_above_m) ?_
  rintro v' M6 ⟨rfl, hM6⟩
  rw [hM6]
  clear hM6
  refine S_istore_n dX8_isUnder_19 (by decide) ?_
  refine S_iinc dX8_isUnder_20 rfl (by decide) ?_
  rw [show ((5 : Int) + 1) = 6 from rfl]
  refine S_goto 4 dX8_isUnder_23 (by decide) ?_
  refine S_iload_n dX8_isUnder_4 rfl ?_
  refine S_bipush dX8_isUnder_5 (by decide) ?_
  refine S_icmp_ge 26 dX8_isUnder_7 (by decide) (by omega) (fun c_7 => ?_) (fun c_7 => absurd c_7 (by omega))
  refine S_iload_n dX8_isUnder_26 rfl ?_
  refine S_iload_n dX8_isUnder_27 rfl ?_
  refine S_icmp_ne 35 dX8_isUnder_28 (by decide) (by omega) (fun c_28 => ?_) (fun c_28 => absurd c_28 (by omega))
  refine S_iconst dX8_isUnder_35 ?_
  exact S_iret dX8_isUnder_36 rfl (Or.inr ⟨rfl, by omega⟩) ⟨rfl, rfl⟩
set_option maxRecDepth 100000 in
theorem c_isUnder_0_4 {G : Ge} {M : Mem}  : Ct G mi_X8_isUnder [vI 0, vI 4] M (fun v' M' => v' = some (vI (0)) ∧ M' = M) := by
  refine Ct.of pl_X8_isUnder [some (vI 0), some (vI 4), none, none] rfl (Nat.le_of_ble_eq_true rfl) ?_
  refine S_iload_n dX8_isUnder_0 rfl ?_
  refine S_istore_n dX8_isUnder_1 (by decide) ?_
  refine S_iconst dX8_isUnder_2 ?_
  refine S_istore_n dX8_isUnder_3 (by decide) ?_
  refine S_iload_n dX8_isUnder_4 rfl ?_
  refine S_bipush dX8_isUnder_5 (by decide) ?_
  refine S_icmp_ge 26 dX8_isUnder_7 (by decide) (by omega) (fun c_7 => absurd c_7 (by omega)) (fun c_7 => ?_)
  refine S_iload_n dX8_isUnder_10 rfl ?_
  refine S_iload_n dX8_isUnder_11 rfl ?_
  refine S_icmp_eq 26 dX8_isUnder_12 (by decide) (by omega) (fun c_12 => absurd c_12 (by omega)) (fun c_12 => ?_)
  refine S_iload_n dX8_isUnder_15 rfl ?_
  refine S_callS (mi := mi_X8_isUnder) [vI 0] ok_X8_above ml_X8_370 dX8_isUnder_16 (by decide) rfl (Nat.le_of_ble_eq_true rfl) rfl (c_above_0) ?_
  rintro v' M1 ⟨rfl, hM1⟩
  rw [hM1]
  clear hM1
  refine S_istore_n dX8_isUnder_19 (by decide) ?_
  refine S_iinc dX8_isUnder_20 rfl (by decide) ?_
  rw [show ((0 : Int) + 1) = 1 from rfl]
  refine S_goto 4 dX8_isUnder_23 (by decide) ?_
  refine S_iload_n dX8_isUnder_4 rfl ?_
  refine S_bipush dX8_isUnder_5 (by decide) ?_
  refine S_icmp_ge 26 dX8_isUnder_7 (by decide) (by omega) (fun c_7 => absurd c_7 (by omega)) (fun c_7 => ?_)
  refine S_iload_n dX8_isUnder_10 rfl ?_
  refine S_iload_n dX8_isUnder_11 rfl ?_
  refine S_icmp_eq 26 dX8_isUnder_12 (by decide) (by omega) (fun c_12 => absurd c_12 (by omega)) (fun c_12 => ?_)
  refine S_iload_n dX8_isUnder_15 rfl ?_
  refine S_callS (mi := mi_X8_isUnder) [vI ((-1))] ok_X8_above ml_X8_370 dX8_isUnder_16 (by decide) rfl (Nat.le_of_ble_eq_true rfl) rfl (c_above_m) ?_
  rintro v' M2 ⟨rfl, hM2⟩
  rw [hM2]
  clear hM2
  refine S_istore_n dX8_isUnder_19 (by decide) ?_
  refine S_iinc dX8_isUnder_20 rfl (by decide) ?_
  rw [show ((1 : Int) + 1) = 2 from rfl]
  refine S_goto 4 dX8_isUnder_23 (by decide) ?_
  refine S_iload_n dX8_isUnder_4 rfl ?_
  refine S_bipush dX8_isUnder_5 (by decide) ?_
  refine S_icmp_ge 26 dX8_isUnder_7 (by decide) (by omega) (fun c_7 => absurd c_7 (by omega)) (fun c_7 => ?_)
  refine S_iload_n dX8_isUnder_10 rfl ?_
  refine S_iload_n dX8_isUnder_11 rfl ?_
  refine S_icmp_eq 26 dX8_isUnder_12 (by decide) (by omega) (fun c_12 => absurd c_12 (by omega)) (fun c_12 => ?_)
  refine S_iload_n dX8_isUnder_15 rfl ?_
  refine S_callS (mi := mi_X8_isUnder) [vI ((-1))] ok_X8_above ml_X8_370 dX8_isUnder_16 (by decide) rfl (Nat.le_of_ble_eq_true rfl) rfl (c_above_m) ?_
  rintro v' M3 ⟨rfl, hM3⟩
  rw [hM3]
  clear hM3
  refine S_istore_n dX8_isUnder_19 (by decide) ?_
  refine S_iinc dX8_isUnder_20 rfl (by decide) ?_
  rw [show ((2 : Int) + 1) = 3 from rfl]
  refine S_goto 4 dX8_isUnder_23 (by decide) ?_
  refine S_iload_n dX8_isUnder_4 rfl ?_
  refine S_bipush dX8_isUnder_5 (by decide) ?_
  refine S_icmp_ge 26 dX8_isUnder_7 (by decide) (by omega) (fun c_7 => absurd c_7 (by omega)) (fun c_7 => ?_)
  refine S_iload_n dX8_isUnder_10 rfl ?_
  refine S_iload_n dX8_isUnder_11 rfl ?_
  refine S_icmp_eq 26 dX8_isUnder_12 (by decide) (by omega) (fun c_12 => absurd c_12 (by omega)) (fun c_12 => ?_)
  refine S_iload_n dX8_isUnder_15 rfl ?_
  refine S_callS (mi := mi_X8_isUnder) [vI ((-1))] ok_X8_above ml_X8_370 dX8_isUnder_16 (by decide) rfl (Nat.le_of_ble_eq_true rfl) rfl (c_above_m) ?_
  rintro v' M4 ⟨rfl, hM4⟩
  rw [hM4]
  clear hM4
  refine S_istore_n dX8_isUnder_19 (by decide) ?_
  refine S_iinc dX8_isUnder_20 rfl (by decide) ?_
  rw [show ((3 : Int) + 1) = 4 from rfl]
  refine S_goto 4 dX8_isUnder_23 (by decide) ?_
  refine S_iload_n dX8_isUnder_4 rfl ?_
  refine S_bipush dX8_isUnder_5 (by decide) ?_
  refine S_icmp_ge 26 dX8_isUnder_7 (by decide) (by omega) (fun c_7 => absurd c_7 (by omega)) (fun c_7 => ?_)
  refine S_iload_n dX8_isUnder_10 rfl ?_
  refine S_iload_n dX8_isUnder_11 rfl ?_
  refine S_icmp_eq 26 dX8_isUnder_12 (by decide) (by omega) (fun c_12 => absurd c_12 (by omega)) (fun c_12 => ?_)
  refine S_iload_n dX8_isUnder_15 rfl ?_
  refine S_callS (mi := mi_X8_isUnder) [vI ((-1))] ok_X8_above ml_X8_370 dX8_isUnder_16 (by decide) rfl (Nat.le_of_ble_eq_true rfl) rfl (c_above_m) ?_
  rintro v' M5 ⟨rfl, hM5⟩
  rw [hM5]
  clear hM5
  refine S_istore_n dX8_isUnder_19 (by decide) ?_
  refine S_iinc dX8_isUnder_20 rfl (by decide) ?_
  rw [show ((4 : Int) + 1) = 5 from rfl]
  refine S_goto 4 dX8_isUnder_23 (by decide) ?_
  refine S_iload_n dX8_isUnder_4 rfl ?_
  refine S_bipush dX8_isUnder_5 (by decide) ?_
  refine S_icmp_ge 26 dX8_isUnder_7 (by decide) (by omega) (fun c_7 => absurd c_7 (by omega)) (fun c_7 => ?_)
  refine S_iload_n dX8_isUnder_10 rfl ?_
  refine S_iload_n dX8_isUnder_11 rfl ?_
  refine S_icmp_eq 26 dX8_isUnder_12 (by decide) (by omega) (fun c_12 => absurd c_12 (by omega)) (fun c_12 => ?_)
  refine S_iload_n dX8_isUnder_15 rfl ?_
  refine S_callS (mi := mi_X8_isUnder) [vI ((-1))] ok_X8_above ml_X8_370 dX8_isUnder_16 (by decide) rfl (Nat.le_of_ble_eq_true rfl) rfl (c_above_m) ?_
  rintro v' M6 ⟨rfl, hM6⟩
  rw [hM6]
  clear hM6
  refine S_istore_n dX8_isUnder_19 (by decide) ?_
  refine S_iinc dX8_isUnder_20 rfl (by decide) ?_
  rw [show ((5 : Int) + 1) = 6 from rfl]
  refine S_goto 4 dX8_isUnder_23 (by decide) ?_
  refine S_iload_n dX8_isUnder_4 rfl ?_
  refine S_bipush dX8_isUnder_5 (by decide) ?_
  refine S_icmp_ge 26 dX8_isUnder_7 (by decide) (by omega) (fun c_7 => ?_) (fun c_7 => absurd c_7 (by omega))
  refine S_iload_n dX8_isUnder_26 rfl ?_
  refine S_iload_n dX8_isUnder_27 rfl ?_
  refine S_icmp_ne 35 dX8_isUnder_28 (by decide) (by omega) (fun c_28 => ?_) (fun c_28 => absurd c_28 (by omega))
  refine S_iconst dX8_isUnder_35 ?_
  exact S_iret dX8_isUnder_36 rfl (Or.inr ⟨rfl, by omega⟩) ⟨rfl, rfl⟩
set_option maxRecDepth 100000 in
theorem c_isUnder_0_5 {G : Ge} {M : Mem}  : Ct G mi_X8_isUnder [vI 0, vI 5] M (fun v' M' => v' = some (vI (0)) ∧ M' = M) := by
  refine Ct.of pl_X8_isUnder [some (vI 0), some (vI 5), none, none] rfl (Nat.le_of_ble_eq_true rfl) ?_
  refine S_iload_n dX8_isUnder_0 rfl ?_
  refine S_istore_n dX8_isUnder_1 (by decide) ?_
  refine S_iconst dX8_isUnder_2 ?_
  refine S_istore_n dX8_isUnder_3 (by decide) ?_
  refine S_iload_n dX8_isUnder_4 rfl ?_
  refine S_bipush dX8_isUnder_5 (by decide) ?_
  refine S_icmp_ge 26 dX8_isUnder_7 (by decide) (by omega) (fun c_7 => absurd c_7 (by omega)) (fun c_7 => ?_)
  refine S_iload_n dX8_isUnder_10 rfl ?_
  refine S_iload_n dX8_isUnder_11 rfl ?_
  refine S_icmp_eq 26 dX8_isUnder_12 (by decide) (by omega) (fun c_12 => absurd c_12 (by omega)) (fun c_12 => ?_)
  refine S_iload_n dX8_isUnder_15 rfl ?_
  refine S_callS (mi := mi_X8_isUnder) [vI 0] ok_X8_above ml_X8_370 dX8_isUnder_16 (by decide) rfl (Nat.le_of_ble_eq_true rfl) rfl (c_above_0) ?_
  rintro v' M1 ⟨rfl, hM1⟩
  rw [hM1]
  clear hM1
  refine S_istore_n dX8_isUnder_19 (by decide) ?_
  refine S_iinc dX8_isUnder_20 rfl (by decide) ?_
  rw [show ((0 : Int) + 1) = 1 from rfl]
  refine S_goto 4 dX8_isUnder_23 (by decide) ?_
  refine S_iload_n dX8_isUnder_4 rfl ?_
  refine S_bipush dX8_isUnder_5 (by decide) ?_
  refine S_icmp_ge 26 dX8_isUnder_7 (by decide) (by omega) (fun c_7 => absurd c_7 (by omega)) (fun c_7 => ?_)
  refine S_iload_n dX8_isUnder_10 rfl ?_
  refine S_iload_n dX8_isUnder_11 rfl ?_
  refine S_icmp_eq 26 dX8_isUnder_12 (by decide) (by omega) (fun c_12 => absurd c_12 (by omega)) (fun c_12 => ?_)
  refine S_iload_n dX8_isUnder_15 rfl ?_
  refine S_callS (mi := mi_X8_isUnder) [vI ((-1))] ok_X8_above ml_X8_370 dX8_isUnder_16 (by decide) rfl (Nat.le_of_ble_eq_true rfl) rfl (c_above_m) ?_
  rintro v' M2 ⟨rfl, hM2⟩
  rw [hM2]
  clear hM2
  refine S_istore_n dX8_isUnder_19 (by decide) ?_
  refine S_iinc dX8_isUnder_20 rfl (by decide) ?_
  rw [show ((1 : Int) + 1) = 2 from rfl]
  refine S_goto 4 dX8_isUnder_23 (by decide) ?_
  refine S_iload_n dX8_isUnder_4 rfl ?_
  refine S_bipush dX8_isUnder_5 (by decide) ?_
  refine S_icmp_ge 26 dX8_isUnder_7 (by decide) (by omega) (fun c_7 => absurd c_7 (by omega)) (fun c_7 => ?_)
  refine S_iload_n dX8_isUnder_10 rfl ?_
  refine S_iload_n dX8_isUnder_11 rfl ?_
  refine S_icmp_eq 26 dX8_isUnder_12 (by decide) (by omega) (fun c_12 => absurd c_12 (by omega)) (fun c_12 => ?_)
  refine S_iload_n dX8_isUnder_15 rfl ?_
  refine S_callS (mi := mi_X8_isUnder) [vI ((-1))] ok_X8_above ml_X8_370 dX8_isUnder_16 (by decide) rfl (Nat.le_of_ble_eq_true rfl) rfl (c_above_m) ?_
  rintro v' M3 ⟨rfl, hM3⟩
  rw [hM3]
  clear hM3
  refine S_istore_n dX8_isUnder_19 (by decide) ?_
  refine S_iinc dX8_isUnder_20 rfl (by decide) ?_
  rw [show ((2 : Int) + 1) = 3 from rfl]
  refine S_goto 4 dX8_isUnder_23 (by decide) ?_
  refine S_iload_n dX8_isUnder_4 rfl ?_
  refine S_bipush dX8_isUnder_5 (by decide) ?_
  refine S_icmp_ge 26 dX8_isUnder_7 (by decide) (by omega) (fun c_7 => absurd c_7 (by omega)) (fun c_7 => ?_)
  refine S_iload_n dX8_isUnder_10 rfl ?_
  refine S_iload_n dX8_isUnder_11 rfl ?_
  refine S_icmp_eq 26 dX8_isUnder_12 (by decide) (by omega) (fun c_12 => absurd c_12 (by omega)) (fun c_12 => ?_)
  refine S_iload_n dX8_isUnder_15 rfl ?_
  refine S_callS (mi := mi_X8_isUnder) [vI ((-1))] ok_X8_above ml_X8_370 dX8_isUnder_16 (by decide) rfl (Nat.le_of_ble_eq_true rfl) rfl (c_above_m) ?_
  rintro v' M4 ⟨rfl, hM4⟩
  rw [hM4]
  clear hM4
  refine S_istore_n dX8_isUnder_19 (by decide) ?_
  refine S_iinc dX8_isUnder_20 rfl (by decide) ?_
  rw [show ((3 : Int) + 1) = 4 from rfl]
  refine S_goto 4 dX8_isUnder_23 (by decide) ?_
  refine S_iload_n dX8_isUnder_4 rfl ?_
  refine S_bipush dX8_isUnder_5 (by decide) ?_
  refine S_icmp_ge 26 dX8_isUnder_7 (by decide) (by omega) (fun c_7 => absurd c_7 (by omega)) (fun c_7 => ?_)
  refine S_iload_n dX8_isUnder_10 rfl ?_
  refine S_iload_n dX8_isUnder_11 rfl ?_
  refine S_icmp_eq 26 dX8_isUnder_12 (by decide) (by omega) (fun c_12 => absurd c_12 (by omega)) (fun c_12 => ?_)
  refine S_iload_n dX8_isUnder_15 rfl ?_
  refine S_callS (mi := mi_X8_isUnder) [vI ((-1))] ok_X8_above ml_X8_370 dX8_isUnder_16 (by decide) rfl (Nat.le_of_ble_eq_true rfl) rfl (c_above_m) ?_
  rintro v' M5 ⟨rfl, hM5⟩
  rw [hM5]
  clear hM5
  refine S_istore_n dX8_isUnder_19 (by decide) ?_
  refine S_iinc dX8_isUnder_20 rfl (by decide) ?_
  rw [show ((4 : Int) + 1) = 5 from rfl]
  refine S_goto 4 dX8_isUnder_23 (by decide) ?_
  refine S_iload_n dX8_isUnder_4 rfl ?_
  refine S_bipush dX8_isUnder_5 (by decide) ?_
  refine S_icmp_ge 26 dX8_isUnder_7 (by decide) (by omega) (fun c_7 => absurd c_7 (by omega)) (fun c_7 => ?_)
  refine S_iload_n dX8_isUnder_10 rfl ?_
  refine S_iload_n dX8_isUnder_11 rfl ?_
  refine S_icmp_eq 26 dX8_isUnder_12 (by decide) (by omega) (fun c_12 => absurd c_12 (by omega)) (fun c_12 => ?_)
  refine S_iload_n dX8_isUnder_15 rfl ?_
  refine S_callS (mi := mi_X8_isUnder) [vI ((-1))] ok_X8_above ml_X8_370 dX8_isUnder_16 (by decide) rfl (Nat.le_of_ble_eq_true rfl) rfl (c_above_m) ?_
  rintro v' M6 ⟨rfl, hM6⟩
  rw [hM6]
  clear hM6
  refine S_istore_n dX8_isUnder_19 (by decide) ?_
  refine S_iinc dX8_isUnder_20 rfl (by decide) ?_
  rw [show ((5 : Int) + 1) = 6 from rfl]
  refine S_goto 4 dX8_isUnder_23 (by decide) ?_
  refine S_iload_n dX8_isUnder_4 rfl ?_
  refine S_bipush dX8_isUnder_5 (by decide) ?_
  refine S_icmp_ge 26 dX8_isUnder_7 (by decide) (by omega) (fun c_7 => ?_) (fun c_7 => absurd c_7 (by omega))
  refine S_iload_n dX8_isUnder_26 rfl ?_
  refine S_iload_n dX8_isUnder_27 rfl ?_
  refine S_icmp_ne 35 dX8_isUnder_28 (by decide) (by omega) (fun c_28 => ?_) (fun c_28 => absurd c_28 (by omega))
  refine S_iconst dX8_isUnder_35 ?_
  exact S_iret dX8_isUnder_36 rfl (Or.inr ⟨rfl, by omega⟩) ⟨rfl, rfl⟩
set_option maxRecDepth 100000 in
theorem c_isUnder_1_0 {G : Ge} {M : Mem}  : Ct G mi_X8_isUnder [vI 1, vI 0] M (fun v' M' => v' = some (vI (1)) ∧ M' = M) := by
  refine Ct.of pl_X8_isUnder [some (vI 1), some (vI 0), none, none] rfl (Nat.le_of_ble_eq_true rfl) ?_
  refine S_iload_n dX8_isUnder_0 rfl ?_
  refine S_istore_n dX8_isUnder_1 (by decide) ?_
  refine S_iconst dX8_isUnder_2 ?_
  refine S_istore_n dX8_isUnder_3 (by decide) ?_
  refine S_iload_n dX8_isUnder_4 rfl ?_
  refine S_bipush dX8_isUnder_5 (by decide) ?_
  refine S_icmp_ge 26 dX8_isUnder_7 (by decide) (by omega) (fun c_7 => absurd c_7 (by omega)) (fun c_7 => ?_)
  refine S_iload_n dX8_isUnder_10 rfl ?_
  refine S_iload_n dX8_isUnder_11 rfl ?_
  refine S_icmp_eq 26 dX8_isUnder_12 (by decide) (by omega) (fun c_12 => absurd c_12 (by omega)) (fun c_12 => ?_)
  refine S_iload_n dX8_isUnder_15 rfl ?_
  refine S_callS (mi := mi_X8_isUnder) [vI 1] ok_X8_above ml_X8_370 dX8_isUnder_16 (by decide) rfl (Nat.le_of_ble_eq_true rfl) rfl (c_above_1) ?_
  rintro v' M1 ⟨rfl, hM1⟩
  rw [hM1]
  clear hM1
  refine S_istore_n dX8_isUnder_19 (by decide) ?_
  refine S_iinc dX8_isUnder_20 rfl (by decide) ?_
  rw [show ((0 : Int) + 1) = 1 from rfl]
  refine S_goto 4 dX8_isUnder_23 (by decide) ?_
  refine S_iload_n dX8_isUnder_4 rfl ?_
  refine S_bipush dX8_isUnder_5 (by decide) ?_
  refine S_icmp_ge 26 dX8_isUnder_7 (by decide) (by omega) (fun c_7 => absurd c_7 (by omega)) (fun c_7 => ?_)
  refine S_iload_n dX8_isUnder_10 rfl ?_
  refine S_iload_n dX8_isUnder_11 rfl ?_
  refine S_icmp_eq 26 dX8_isUnder_12 (by decide) (by omega) (fun c_12 => ?_) (fun c_12 => absurd c_12 (by omega))
  refine S_iload_n dX8_isUnder_26 rfl ?_
  refine S_iload_n dX8_isUnder_27 rfl ?_
  refine S_icmp_ne 35 dX8_isUnder_28 (by decide) (by omega) (fun c_28 => absurd c_28 (by omega)) (fun c_28 => ?_)
  refine S_iconst dX8_isUnder_31 ?_
  refine S_goto 36 dX8_isUnder_32 (by decide) ?_
  exact S_iret dX8_isUnder_36 rfl (Or.inr ⟨rfl, by omega⟩) ⟨rfl, rfl⟩
set_option maxRecDepth 100000 in
theorem c_isUnder_1_1 {G : Ge} {M : Mem}  : Ct G mi_X8_isUnder [vI 1, vI 1] M (fun v' M' => v' = some (vI (1)) ∧ M' = M) := by
  refine Ct.of pl_X8_isUnder [some (vI 1), some (vI 1), none, none] rfl (Nat.le_of_ble_eq_true rfl) ?_
  refine S_iload_n dX8_isUnder_0 rfl ?_
  refine S_istore_n dX8_isUnder_1 (by decide) ?_
  refine S_iconst dX8_isUnder_2 ?_
  refine S_istore_n dX8_isUnder_3 (by decide) ?_
  refine S_iload_n dX8_isUnder_4 rfl ?_
  refine S_bipush dX8_isUnder_5 (by decide) ?_
  refine S_icmp_ge 26 dX8_isUnder_7 (by decide) (by omega) (fun c_7 => absurd c_7 (by omega)) (fun c_7 => ?_)
  refine S_iload_n dX8_isUnder_10 rfl ?_
  refine S_iload_n dX8_isUnder_11 rfl ?_
  refine S_icmp_eq 26 dX8_isUnder_12 (by decide) (by omega) (fun c_12 => ?_) (fun c_12 => absurd c_12 (by omega))
  refine S_iload_n dX8_isUnder_26 rfl ?_
  refine S_iload_n dX8_isUnder_27 rfl ?_
  refine S_icmp_ne 35 dX8_isUnder_28 (by decide) (by omega) (fun c_28 => absurd c_28 (by omega)) (fun c_28 => ?_)
  refine S_iconst dX8_isUnder_31 ?_
  refine S_goto 36 dX8_isUnder_32 (by decide) ?_
  exact S_iret dX8_isUnder_36 rfl (Or.inr ⟨rfl, by omega⟩) ⟨rfl, rfl⟩
set_option maxRecDepth 100000 in
theorem c_isUnder_1_2 {G : Ge} {M : Mem}  : Ct G mi_X8_isUnder [vI 1, vI 2] M (fun v' M' => v' = some (vI (0)) ∧ M' = M) := by
  refine Ct.of pl_X8_isUnder [some (vI 1), some (vI 2), none, none] rfl (Nat.le_of_ble_eq_true rfl) ?_
  refine S_iload_n dX8_isUnder_0 rfl ?_
  refine S_istore_n dX8_isUnder_1 (by decide) ?_
  refine S_iconst dX8_isUnder_2 ?_
  refine S_istore_n dX8_isUnder_3 (by decide) ?_
  refine S_iload_n dX8_isUnder_4 rfl ?_
  refine S_bipush dX8_isUnder_5 (by decide) ?_
  refine S_icmp_ge 26 dX8_isUnder_7 (by decide) (by omega) (fun c_7 => absurd c_7 (by omega)) (fun c_7 => ?_)
  refine S_iload_n dX8_isUnder_10 rfl ?_
  refine S_iload_n dX8_isUnder_11 rfl ?_
  refine S_icmp_eq 26 dX8_isUnder_12 (by decide) (by omega) (fun c_12 => absurd c_12 (by omega)) (fun c_12 => ?_)
  refine S_iload_n dX8_isUnder_15 rfl ?_
  refine S_callS (mi := mi_X8_isUnder) [vI 1] ok_X8_above ml_X8_370 dX8_isUnder_16 (by decide) rfl (Nat.le_of_ble_eq_true rfl) rfl (c_above_1) ?_
  rintro v' M1 ⟨rfl, hM1⟩
  rw [hM1]
  clear hM1
  refine S_istore_n dX8_isUnder_19 (by decide) ?_
  refine S_iinc dX8_isUnder_20 rfl (by decide) ?_
  rw [show ((0 : Int) + 1) = 1 from rfl]
  refine S_goto 4 dX8_isUnder_23 (by decide) ?_
  refine S_iload_n dX8_isUnder_4 rfl ?_
  refine S_bipush dX8_isUnder_5 (by decide) ?_
  refine S_icmp_ge 26 dX8_isUnder_7 (by decide) (by omega) (fun c_7 => absurd c_7 (by omega)) (fun c_7 => ?_)
  refine S_iload_n dX8_isUnder_10 rfl ?_
  refine S_iload_n dX8_isUnder_11 rfl ?_
  refine S_icmp_eq 26 dX8_isUnder_12 (by decide) (by omega) (fun c_12 => absurd c_12 (by omega)) (fun c_12 => ?_)
  refine S_iload_n dX8_isUnder_15 rfl ?_
  refine S_callS (mi := mi_X8_isUnder) [vI 0] ok_X8_above ml_X8_370 dX8_isUnder_16 (by decide) rfl (Nat.le_of_ble_eq_true rfl) rfl (c_above_0) ?_
  rintro v' M2 ⟨rfl, hM2⟩
  rw [hM2]
  clear hM2
  refine S_istore_n dX8_isUnder_19 (by decide) ?_
  refine S_iinc dX8_isUnder_20 rfl (by decide) ?_
  rw [show ((1 : Int) + 1) = 2 from rfl]
  refine S_goto 4 dX8_isUnder_23 (by decide) ?_
  refine S_iload_n dX8_isUnder_4 rfl ?_
  refine S_bipush dX8_isUnder_5 (by decide) ?_
  refine S_icmp_ge 26 dX8_isUnder_7 (by decide) (by omega) (fun c_7 => absurd c_7 (by omega)) (fun c_7 => ?_)
  refine S_iload_n dX8_isUnder_10 rfl ?_
  refine S_iload_n dX8_isUnder_11 rfl ?_
  refine S_icmp_eq 26 dX8_isUnder_12 (by decide) (by omega) (fun c_12 => absurd c_12 (by omega)) (fun c_12 => ?_)
  refine S_iload_n dX8_isUnder_15 rfl ?_
  refine S_callS (mi := mi_X8_isUnder) [vI ((-1))] ok_X8_above ml_X8_370 dX8_isUnder_16 (by decide) rfl (Nat.le_of_ble_eq_true rfl) rfl (c_above_m) ?_
  rintro v' M3 ⟨rfl, hM3⟩
  rw [hM3]
  clear hM3
  refine S_istore_n dX8_isUnder_19 (by decide) ?_
  refine S_iinc dX8_isUnder_20 rfl (by decide) ?_
  rw [show ((2 : Int) + 1) = 3 from rfl]
  refine S_goto 4 dX8_isUnder_23 (by decide) ?_
  refine S_iload_n dX8_isUnder_4 rfl ?_
  refine S_bipush dX8_isUnder_5 (by decide) ?_
  refine S_icmp_ge 26 dX8_isUnder_7 (by decide) (by omega) (fun c_7 => absurd c_7 (by omega)) (fun c_7 => ?_)
  refine S_iload_n dX8_isUnder_10 rfl ?_
  refine S_iload_n dX8_isUnder_11 rfl ?_
  refine S_icmp_eq 26 dX8_isUnder_12 (by decide) (by omega) (fun c_12 => absurd c_12 (by omega)) (fun c_12 => ?_)
  refine S_iload_n dX8_isUnder_15 rfl ?_
  refine S_callS (mi := mi_X8_isUnder) [vI ((-1))] ok_X8_above ml_X8_370 dX8_isUnder_16 (by decide) rfl (Nat.le_of_ble_eq_true rfl) rfl (c_above_m) ?_
  rintro v' M4 ⟨rfl, hM4⟩
  rw [hM4]
  clear hM4
  refine S_istore_n dX8_isUnder_19 (by decide) ?_
  refine S_iinc dX8_isUnder_20 rfl (by decide) ?_
  rw [show ((3 : Int) + 1) = 4 from rfl]
  refine S_goto 4 dX8_isUnder_23 (by decide) ?_
  refine S_iload_n dX8_isUnder_4 rfl ?_
  refine S_bipush dX8_isUnder_5 (by decide) ?_
  refine S_icmp_ge 26 dX8_isUnder_7 (by decide) (by omega) (fun c_7 => absurd c_7 (by omega)) (fun c_7 => ?_)
  refine S_iload_n dX8_isUnder_10 rfl ?_
  refine S_iload_n dX8_isUnder_11 rfl ?_
  refine S_icmp_eq 26 dX8_isUnder_12 (by decide) (by omega) (fun c_12 => absurd c_12 (by omega)) (fun c_12 => ?_)
  refine S_iload_n dX8_isUnder_15 rfl ?_
  refine S_callS (mi := mi_X8_isUnder) [vI ((-1))] ok_X8_above ml_X8_370 dX8_isUnder_16 (by decide) rfl (Nat.le_of_ble_eq_true rfl) rfl (c_above_m) ?_
  rintro v' M5 ⟨rfl, hM5⟩
  rw [hM5]
  clear hM5
  refine S_istore_n dX8_isUnder_19 (by decide) ?_
  refine S_iinc dX8_isUnder_20 rfl (by decide) ?_
  rw [show ((4 : Int) + 1) = 5 from rfl]
  refine S_goto 4 dX8_isUnder_23 (by decide) ?_
  refine S_iload_n dX8_isUnder_4 rfl ?_
  refine S_bipush dX8_isUnder_5 (by decide) ?_
  refine S_icmp_ge 26 dX8_isUnder_7 (by decide) (by omega) (fun c_7 => absurd c_7 (by omega)) (fun c_7 => ?_)
  refine S_iload_n dX8_isUnder_10 rfl ?_
  refine S_iload_n dX8_isUnder_11 rfl ?_
  refine S_icmp_eq 26 dX8_isUnder_12 (by decide) (by omega) (fun c_12 => absurd c_12 (by omega)) (fun c_12 => ?_)
  refine S_iload_n dX8_isUnder_15 rfl ?_
  refine S_callS (mi := mi_X8_isUnder) [vI ((-1))] ok_X8_above ml_X8_370 dX8_isUnder_16 (by decide) rfl (Nat.le_of_ble_eq_true rfl) rfl (c_above_m) ?_
  rintro v' M6 ⟨rfl, hM6⟩
  rw [hM6]
  clear hM6
  refine S_istore_n dX8_isUnder_19 (by decide) ?_
  refine S_iinc dX8_isUnder_20 rfl (by decide) ?_
  rw [show ((5 : Int) + 1) = 6 from rfl]
  refine S_goto 4 dX8_isUnder_23 (by decide) ?_
  refine S_iload_n dX8_isUnder_4 rfl ?_
  refine S_bipush dX8_isUnder_5 (by decide) ?_
  refine S_icmp_ge 26 dX8_isUnder_7 (by decide) (by omega) (fun c_7 => ?_) (fun c_7 => absurd c_7 (by omega))
  refine S_iload_n dX8_isUnder_26 rfl ?_
  refine S_iload_n dX8_isUnder_27 rfl ?_
  refine S_icmp_ne 35 dX8_isUnder_28 (by decide) (by omega) (fun c_28 => ?_) (fun c_28 => absurd c_28 (by omega))
  refine S_iconst dX8_isUnder_35 ?_
  exact S_iret dX8_isUnder_36 rfl (Or.inr ⟨rfl, by omega⟩) ⟨rfl, rfl⟩
set_option maxRecDepth 100000 in
theorem c_isUnder_1_3 {G : Ge} {M : Mem}  : Ct G mi_X8_isUnder [vI 1, vI 3] M (fun v' M' => v' = some (vI (0)) ∧ M' = M) := by
  refine Ct.of pl_X8_isUnder [some (vI 1), some (vI 3), none, none] rfl (Nat.le_of_ble_eq_true rfl) ?_
  refine S_iload_n dX8_isUnder_0 rfl ?_
  refine S_istore_n dX8_isUnder_1 (by decide) ?_
  refine S_iconst dX8_isUnder_2 ?_
  refine S_istore_n dX8_isUnder_3 (by decide) ?_
  refine S_iload_n dX8_isUnder_4 rfl ?_
  refine S_bipush dX8_isUnder_5 (by decide) ?_
  refine S_icmp_ge 26 dX8_isUnder_7 (by decide) (by omega) (fun c_7 => absurd c_7 (by omega)) (fun c_7 => ?_)
  refine S_iload_n dX8_isUnder_10 rfl ?_
  refine S_iload_n dX8_isUnder_11 rfl ?_
  refine S_icmp_eq 26 dX8_isUnder_12 (by decide) (by omega) (fun c_12 => absurd c_12 (by omega)) (fun c_12 => ?_)
  refine S_iload_n dX8_isUnder_15 rfl ?_
  refine S_callS (mi := mi_X8_isUnder) [vI 1] ok_X8_above ml_X8_370 dX8_isUnder_16 (by decide) rfl (Nat.le_of_ble_eq_true rfl) rfl (c_above_1) ?_
  rintro v' M1 ⟨rfl, hM1⟩
  rw [hM1]
  clear hM1
  refine S_istore_n dX8_isUnder_19 (by decide) ?_
  refine S_iinc dX8_isUnder_20 rfl (by decide) ?_
  rw [show ((0 : Int) + 1) = 1 from rfl]
  refine S_goto 4 dX8_isUnder_23 (by decide) ?_
  refine S_iload_n dX8_isUnder_4 rfl ?_
  refine S_bipush dX8_isUnder_5 (by decide) ?_
  refine S_icmp_ge 26 dX8_isUnder_7 (by decide) (by omega) (fun c_7 => absurd c_7 (by omega)) (fun c_7 => ?_)
  refine S_iload_n dX8_isUnder_10 rfl ?_
  refine S_iload_n dX8_isUnder_11 rfl ?_
  refine S_icmp_eq 26 dX8_isUnder_12 (by decide) (by omega) (fun c_12 => absurd c_12 (by omega)) (fun c_12 => ?_)
  refine S_iload_n dX8_isUnder_15 rfl ?_
  refine S_callS (mi := mi_X8_isUnder) [vI 0] ok_X8_above ml_X8_370 dX8_isUnder_16 (by decide) rfl (Nat.le_of_ble_eq_true rfl) rfl (c_above_0) ?_
  rintro v' M2 ⟨rfl, hM2⟩
  rw [hM2]
  clear hM2
  refine S_istore_n dX8_isUnder_19 (by decide) ?_
  refine S_iinc dX8_isUnder_20 rfl (by decide) ?_
  rw [show ((1 : Int) + 1) = 2 from rfl]
  refine S_goto 4 dX8_isUnder_23 (by decide) ?_
  refine S_iload_n dX8_isUnder_4 rfl ?_
  refine S_bipush dX8_isUnder_5 (by decide) ?_
  refine S_icmp_ge 26 dX8_isUnder_7 (by decide) (by omega) (fun c_7 => absurd c_7 (by omega)) (fun c_7 => ?_)
  refine S_iload_n dX8_isUnder_10 rfl ?_
  refine S_iload_n dX8_isUnder_11 rfl ?_
  refine S_icmp_eq 26 dX8_isUnder_12 (by decide) (by omega) (fun c_12 => absurd c_12 (by omega)) (fun c_12 => ?_)
  refine S_iload_n dX8_isUnder_15 rfl ?_
  refine S_callS (mi := mi_X8_isUnder) [vI ((-1))] ok_X8_above ml_X8_370 dX8_isUnder_16 (by decide) rfl (Nat.le_of_ble_eq_true rfl) rfl (c_above_m) ?_
  rintro v' M3 ⟨rfl, hM3⟩
  rw [hM3]
  clear hM3
  refine S_istore_n dX8_isUnder_19 (by decide) ?_
  refine S_iinc dX8_isUnder_20 rfl (by decide) ?_
  rw [show ((2 : Int) + 1) = 3 from rfl]
  refine S_goto 4 dX8_isUnder_23 (by decide) ?_
  refine S_iload_n dX8_isUnder_4 rfl ?_
  refine S_bipush dX8_isUnder_5 (by decide) ?_
  refine S_icmp_ge 26 dX8_isUnder_7 (by decide) (by omega) (fun c_7 => absurd c_7 (by omega)) (fun c_7 => ?_)
  refine S_iload_n dX8_isUnder_10 rfl ?_
  refine S_iload_n dX8_isUnder_11 rfl ?_
  refine S_icmp_eq 26 dX8_isUnder_12 (by decide) (by omega) (fun c_12 => absurd c_12 (by omega)) (fun c_12 => ?_)
  refine S_iload_n dX8_isUnder_15 rfl ?_
  refine S_callS (mi := mi_X8_isUnder) [vI ((-1))] ok_X8_above ml_X8_370 dX8_isUnder_16 (by decide) rfl (Nat.le_of_ble_eq_true rfl) rfl (c_above_m) ?_
  rintro v' M4 ⟨rfl, hM4⟩
  rw [hM4]
  clear hM4
  refine S_istore_n dX8_isUnder_19 (by decide) ?_
  refine S_iinc dX8_isUnder_20 rfl (by decide) ?_
  rw [show ((3 : Int) + 1) = 4 from rfl]
  refine S_goto 4 dX8_isUnder_23 (by decide) ?_
  refine S_iload_n dX8_isUnder_4 rfl ?_
  refine S_bipush dX8_isUnder_5 (by decide) ?_
  refine S_icmp_ge 26 dX8_isUnder_7 (by decide) (by omega) (fun c_7 => absurd c_7 (by omega)) (fun c_7 => ?_)
  refine S_iload_n dX8_isUnder_10 rfl ?_
  refine S_iload_n dX8_isUnder_11 rfl ?_
  refine S_icmp_eq 26 dX8_isUnder_12 (by decide) (by omega) (fun c_12 => absurd c_12 (by omega)) (fun c_12 => ?_)
  refine S_iload_n dX8_isUnder_15 rfl ?_
  refine S_callS (mi := mi_X8_isUnder) [vI ((-1))] ok_X8_above ml_X8_370 dX8_isUnder_16 (by decide) rfl (Nat.le_of_ble_eq_true rfl) rfl (c_above_m) ?_
  rintro v' M5 ⟨rfl, hM5⟩
  rw [hM5]
  clear hM5
  refine S_istore_n dX8_isUnder_19 (by decide) ?_
  refine S_iinc dX8_isUnder_20 rfl (by decide) ?_
  rw [show ((4 : Int) + 1) = 5 from rfl]
  refine S_goto 4 dX8_isUnder_23 (by decide) ?_
  refine S_iload_n dX8_isUnder_4 rfl ?_
  refine S_bipush dX8_isUnder_5 (by decide) ?_
  refine S_icmp_ge 26 dX8_isUnder_7 (by decide) (by omega) (fun c_7 => absurd c_7 (by omega)) (fun c_7 => ?_)
  refine S_iload_n dX8_isUnder_10 rfl ?_
  refine S_iload_n dX8_isUnder_11 rfl ?_
  refine S_icmp_eq 26 dX8_isUnder_12 (by decide) (by omega) (fun c_12 => absurd c_12 (by omega)) (fun c_12 => ?_)
  refine S_iload_n dX8_isUnder_15 rfl ?_
  refine S_callS (mi := mi_X8_isUnder) [vI ((-1))] ok_X8_above ml_X8_370 dX8_isUnder_16 (by decide) rfl (Nat.le_of_ble_eq_true rfl) rfl (c_above_m) ?_
  rintro v' M6 ⟨rfl, hM6⟩
  rw [hM6]
  clear hM6
  refine S_istore_n dX8_isUnder_19 (by decide) ?_
  refine S_iinc dX8_isUnder_20 rfl (by decide) ?_
  rw [show ((5 : Int) + 1) = 6 from rfl]
  refine S_goto 4 dX8_isUnder_23 (by decide) ?_
  refine S_iload_n dX8_isUnder_4 rfl ?_
  refine S_bipush dX8_isUnder_5 (by decide) ?_
  refine S_icmp_ge 26 dX8_isUnder_7 (by decide) (by omega) (fun c_7 => ?_) (fun c_7 => absurd c_7 (by omega))
  refine S_iload_n dX8_isUnder_26 rfl ?_
  refine S_iload_n dX8_isUnder_27 rfl ?_
  refine S_icmp_ne 35 dX8_isUnder_28 (by decide) (by omega) (fun c_28 => ?_) (fun c_28 => absurd c_28 (by omega))
  refine S_iconst dX8_isUnder_35 ?_
  exact S_iret dX8_isUnder_36 rfl (Or.inr ⟨rfl, by omega⟩) ⟨rfl, rfl⟩
set_option maxRecDepth 100000 in
theorem c_isUnder_1_4 {G : Ge} {M : Mem}  : Ct G mi_X8_isUnder [vI 1, vI 4] M (fun v' M' => v' = some (vI (0)) ∧ M' = M) := by
  refine Ct.of pl_X8_isUnder [some (vI 1), some (vI 4), none, none] rfl (Nat.le_of_ble_eq_true rfl) ?_
  refine S_iload_n dX8_isUnder_0 rfl ?_
  refine S_istore_n dX8_isUnder_1 (by decide) ?_
  refine S_iconst dX8_isUnder_2 ?_
  refine S_istore_n dX8_isUnder_3 (by decide) ?_
  refine S_iload_n dX8_isUnder_4 rfl ?_
  refine S_bipush dX8_isUnder_5 (by decide) ?_
  refine S_icmp_ge 26 dX8_isUnder_7 (by decide) (by omega) (fun c_7 => absurd c_7 (by omega)) (fun c_7 => ?_)
  refine S_iload_n dX8_isUnder_10 rfl ?_
  refine S_iload_n dX8_isUnder_11 rfl ?_
  refine S_icmp_eq 26 dX8_isUnder_12 (by decide) (by omega) (fun c_12 => absurd c_12 (by omega)) (fun c_12 => ?_)
  refine S_iload_n dX8_isUnder_15 rfl ?_
  refine S_callS (mi := mi_X8_isUnder) [vI 1] ok_X8_above ml_X8_370 dX8_isUnder_16 (by decide) rfl (Nat.le_of_ble_eq_true rfl) rfl (c_above_1) ?_
  rintro v' M1 ⟨rfl, hM1⟩
  rw [hM1]
  clear hM1
  refine S_istore_n dX8_isUnder_19 (by decide) ?_
  refine S_iinc dX8_isUnder_20 rfl (by decide) ?_
  rw [show ((0 : Int) + 1) = 1 from rfl]
  refine S_goto 4 dX8_isUnder_23 (by decide) ?_
  refine S_iload_n dX8_isUnder_4 rfl ?_
  refine S_bipush dX8_isUnder_5 (by decide) ?_
  refine S_icmp_ge 26 dX8_isUnder_7 (by decide) (by omega) (fun c_7 => absurd c_7 (by omega)) (fun c_7 => ?_)
  refine S_iload_n dX8_isUnder_10 rfl ?_
  refine S_iload_n dX8_isUnder_11 rfl ?_
  refine S_icmp_eq 26 dX8_isUnder_12 (by decide) (by omega) (fun c_12 => absurd c_12 (by omega)) (fun c_12 => ?_)
  refine S_iload_n dX8_isUnder_15 rfl ?_
  refine S_callS (mi := mi_X8_isUnder) [vI 0] ok_X8_above ml_X8_370 dX8_isUnder_16 (by decide) rfl (Nat.le_of_ble_eq_true rfl) rfl (c_above_0) ?_
  rintro v' M2 ⟨rfl, hM2⟩
  rw [hM2]
  clear hM2
  refine S_istore_n dX8_isUnder_19 (by decide) ?_
  refine S_iinc dX8_isUnder_20 rfl (by decide) ?_
  rw [show ((1 : Int) + 1) = 2 from rfl]
  refine S_goto 4 dX8_isUnder_23 (by decide) ?_
  refine S_iload_n dX8_isUnder_4 rfl ?_
  refine S_bipush dX8_isUnder_5 (by decide) ?_
  refine S_icmp_ge 26 dX8_isUnder_7 (by decide) (by omega) (fun c_7 => absurd c_7 (by omega)) (fun c_7 => ?_)
  refine S_iload_n dX8_isUnder_10 rfl ?_
  refine S_iload_n dX8_isUnder_11 rfl ?_
  refine S_icmp_eq 26 dX8_isUnder_12 (by decide) (by omega) (fun c_12 => absurd c_12 (by omega)) (fun c_12 => ?_)
  refine S_iload_n dX8_isUnder_15 rfl ?_
  refine S_callS (mi := mi_X8_isUnder) [vI ((-1))] ok_X8_above ml_X8_370 dX8_isUnder_16 (by decide) rfl (Nat.le_of_ble_eq_true rfl) rfl (c_above_m) ?_
  rintro v' M3 ⟨rfl, hM3⟩
  rw [hM3]
  clear hM3
  refine S_istore_n dX8_isUnder_19 (by decide) ?_
  refine S_iinc dX8_isUnder_20 rfl (by decide) ?_
  rw [show ((2 : Int) + 1) = 3 from rfl]
  refine S_goto 4 dX8_isUnder_23 (by decide) ?_
  refine S_iload_n dX8_isUnder_4 rfl ?_
  refine S_bipush dX8_isUnder_5 (by decide) ?_
  refine S_icmp_ge 26 dX8_isUnder_7 (by decide) (by omega) (fun c_7 => absurd c_7 (by omega)) (fun c_7 => ?_)
  refine S_iload_n dX8_isUnder_10 rfl ?_
  refine S_iload_n dX8_isUnder_11 rfl ?_
  refine S_icmp_eq 26 dX8_isUnder_12 (by decide) (by omega) (fun c_12 => absurd c_12 (by omega)) (fun c_12 => ?_)
  refine S_iload_n dX8_isUnder_15 rfl ?_
  refine S_callS (mi := mi_X8_isUnder) [vI ((-1))] ok_X8_above ml_X8_370 dX8_isUnder_16 (by decide) rfl (Nat.le_of_ble_eq_true rfl) rfl (c_above_m) ?_
  rintro v' M4 ⟨rfl, hM4⟩
  rw [hM4]
  clear hM4
  refine S_istore_n dX8_isUnder_19 (by decide) ?_
  refine S_iinc dX8_isUnder_20 rfl (by decide) ?_
  rw [show ((3 : Int) + 1) = 4 from rfl]
  refine S_goto 4 dX8_isUnder_23 (by decide) ?_
  refine S_iload_n dX8_isUnder_4 rfl ?_
  refine S_bipush dX8_isUnder_5 (by decide) ?_
  refine S_icmp_ge 26 dX8_isUnder_7 (by decide) (by omega) (fun c_7 => absurd c_7 (by omega)) (fun c_7 => ?_)
  refine S_iload_n dX8_isUnder_10 rfl ?_
  refine S_iload_n dX8_isUnder_11 rfl ?_
  refine S_icmp_eq 26 dX8_isUnder_12 (by decide) (by omega) (fun c_12 => absurd c_12 (by omega)) (fun c_12 => ?_)
  refine S_iload_n dX8_isUnder_15 rfl ?_
  refine S_callS (mi := mi_X8_isUnder) [vI ((-1))] ok_X8_above ml_X8_370 dX8_isUnder_16 (by decide) rfl (Nat.le_of_ble_eq_true rfl) rfl (c_above_m) ?_
  rintro v' M5 ⟨rfl, hM5⟩
  rw [hM5]
  clear hM5
  refine S_istore_n dX8_isUnder_19 (by decide) ?_
  refine S_iinc dX8_isUnder_20 rfl (by decide) ?_
  rw [show ((4 : Int) + 1) = 5 from rfl]
  refine S_goto 4 dX8_isUnder_23 (by decide) ?_
  refine S_iload_n dX8_isUnder_4 rfl ?_
  refine S_bipush dX8_isUnder_5 (by decide) ?_
  refine S_icmp_ge 26 dX8_isUnder_7 (by decide) (by omega) (fun c_7 => absurd c_7 (by omega)) (fun c_7 => ?_)
  refine S_iload_n dX8_isUnder_10 rfl ?_
  refine S_iload_n dX8_isUnder_11 rfl ?_
  refine S_icmp_eq 26 dX8_isUnder_12 (by decide) (by omega) (fun c_12 => absurd c_12 (by omega)) (fun c_12 => ?_)
  refine S_iload_n dX8_isUnder_15 rfl ?_
  refine S_callS (mi := mi_X8_isUnder) [vI ((-1))] ok_X8_above ml_X8_370 dX8_isUnder_16 (by decide) rfl (Nat.le_of_ble_eq_true rfl) rfl (c_above_m) ?_
  rintro v' M6 ⟨rfl, hM6⟩
  rw [hM6]
  clear hM6
  refine S_istore_n dX8_isUnder_19 (by decide) ?_
  refine S_iinc dX8_isUnder_20 rfl (by decide) ?_
  rw [show ((5 : Int) + 1) = 6 from rfl]
  refine S_goto 4 dX8_isUnder_23 (by decide) ?_
  refine S_iload_n dX8_isUnder_4 rfl ?_
  refine S_bipush dX8_isUnder_5 (by decide) ?_
  refine S_icmp_ge 26 dX8_isUnder_7 (by decide) (by omega) (fun c_7 => ?_) (fun c_7 => absurd c_7 (by omega))
  refine S_iload_n dX8_isUnder_26 rfl ?_
  refine S_iload_n dX8_isUnder_27 rfl ?_
  refine S_icmp_ne 35 dX8_isUnder_28 (by decide) (by omega) (fun c_28 => ?_) (fun c_28 => absurd c_28 (by omega))
  refine S_iconst dX8_isUnder_35 ?_
  exact S_iret dX8_isUnder_36 rfl (Or.inr ⟨rfl, by omega⟩) ⟨rfl, rfl⟩
set_option maxRecDepth 100000 in
theorem c_isUnder_1_5 {G : Ge} {M : Mem}  : Ct G mi_X8_isUnder [vI 1, vI 5] M (fun v' M' => v' = some (vI (0)) ∧ M' = M) := by
  refine Ct.of pl_X8_isUnder [some (vI 1), some (vI 5), none, none] rfl (Nat.le_of_ble_eq_true rfl) ?_
  refine S_iload_n dX8_isUnder_0 rfl ?_
  refine S_istore_n dX8_isUnder_1 (by decide) ?_
  refine S_iconst dX8_isUnder_2 ?_
  refine S_istore_n dX8_isUnder_3 (by decide) ?_
  refine S_iload_n dX8_isUnder_4 rfl ?_
  refine S_bipush dX8_isUnder_5 (by decide) ?_
  refine S_icmp_ge 26 dX8_isUnder_7 (by decide) (by omega) (fun c_7 => absurd c_7 (by omega)) (fun c_7 => ?_)
  refine S_iload_n dX8_isUnder_10 rfl ?_
  refine S_iload_n dX8_isUnder_11 rfl ?_
  refine S_icmp_eq 26 dX8_isUnder_12 (by decide) (by omega) (fun c_12 => absurd c_12 (by omega)) (fun c_12 => ?_)
  refine S_iload_n dX8_isUnder_15 rfl ?_
  refine S_callS (mi := mi_X8_isUnder) [vI 1] ok_X8_above ml_X8_370 dX8_isUnder_16 (by decide) rfl (Nat.le_of_ble_eq_true rfl) rfl (c_above_1) ?_
  rintro v' M1 ⟨rfl, hM1⟩
  rw [hM1]
  clear hM1
  refine S_istore_n dX8_isUnder_19 (by decide) ?_
  refine S_iinc dX8_isUnder_20 rfl (by decide) ?_
  rw [show ((0 : Int) + 1) = 1 from rfl]
  refine S_goto 4 dX8_isUnder_23 (by decide) ?_
  refine S_iload_n dX8_isUnder_4 rfl ?_
  refine S_bipush dX8_isUnder_5 (by decide) ?_
  refine S_icmp_ge 26 dX8_isUnder_7 (by decide) (by omega) (fun c_7 => absurd c_7 (by omega)) (fun c_7 => ?_)
  refine S_iload_n dX8_isUnder_10 rfl ?_
  refine S_iload_n dX8_isUnder_11 rfl ?_
  refine S_icmp_eq 26 dX8_isUnder_12 (by decide) (by omega) (fun c_12 => absurd c_12 (by omega)) (fun c_12 => ?_)
  refine S_iload_n dX8_isUnder_15 rfl ?_
  refine S_callS (mi := mi_X8_isUnder) [vI 0] ok_X8_above ml_X8_370 dX8_isUnder_16 (by decide) rfl (Nat.le_of_ble_eq_true rfl) rfl (c_above_0) ?_
  rintro v' M2 ⟨rfl, hM2⟩
  rw [hM2]
  clear hM2
  refine S_istore_n dX8_isUnder_19 (by decide) ?_
  refine S_iinc dX8_isUnder_20 rfl (by decide) ?_
  rw [show ((1 : Int) + 1) = 2 from rfl]
  refine S_goto 4 dX8_isUnder_23 (by decide) ?_
  refine S_iload_n dX8_isUnder_4 rfl ?_
  refine S_bipush dX8_isUnder_5 (by decide) ?_
  refine S_icmp_ge 26 dX8_isUnder_7 (by decide) (by omega) (fun c_7 => absurd c_7 (by omega)) (fun c_7 => ?_)
  refine S_iload_n dX8_isUnder_10 rfl ?_
  refine S_iload_n dX8_isUnder_11 rfl ?_
  refine S_icmp_eq 26 dX8_isUnder_12 (by decide) (by omega) (fun c_12 => absurd c_12 (by omega)) (fun c_12 => ?_)
  refine S_iload_n dX8_isUnder_15 rfl ?_
  refine S_callS (mi := mi_X8_isUnder) [vI ((-1))] ok_X8_above ml_X8_370 dX8_isUnder_16 (by decide) rfl (Nat.le_of_ble_eq_true rfl) rfl (c_above_m) ?_
  rintro v' M3 ⟨rfl, hM3⟩
  rw [hM3]
  clear hM3
  refine S_istore_n dX8_isUnder_19 (by decide) ?_
  refine S_iinc dX8_isUnder_20 rfl (by decide) ?_
  rw [show ((2 : Int) + 1) = 3 from rfl]
  refine S_goto 4 dX8_isUnder_23 (by decide) ?_
  refine S_iload_n dX8_isUnder_4 rfl ?_
  refine S_bipush dX8_isUnder_5 (by decide) ?_
  refine S_icmp_ge 26 dX8_isUnder_7 (by decide) (by omega) (fun c_7 => absurd c_7 (by omega)) (fun c_7 => ?_)
  refine S_iload_n dX8_isUnder_10 rfl ?_
  refine S_iload_n dX8_isUnder_11 rfl ?_
  refine S_icmp_eq 26 dX8_isUnder_12 (by decide) (by omega) (fun c_12 => absurd c_12 (by omega)) (fun c_12 => ?_)
  refine S_iload_n dX8_isUnder_15 rfl ?_
  refine S_callS (mi := mi_X8_isUnder) [vI ((-1))] ok_X8_above ml_X8_370 dX8_isUnder_16 (by decide) rfl (Nat.le_of_ble_eq_true rfl) rfl (c_above_m) ?_
  rintro v' M4 ⟨rfl, hM4⟩
  rw [hM4]
  clear hM4
  refine S_istore_n dX8_isUnder_19 (by decide) ?_
  refine S_iinc dX8_isUnder_20 rfl (by decide) ?_
  rw [show ((3 : Int) + 1) = 4 from rfl]
  refine S_goto 4 dX8_isUnder_23 (by decide) ?_
  refine S_iload_n dX8_isUnder_4 rfl ?_
  refine S_bipush dX8_isUnder_5 (by decide) ?_
  refine S_icmp_ge 26 dX8_isUnder_7 (by decide) (by omega) (fun c_7 => absurd c_7 (by omega)) (fun c_7 => ?_)
  refine S_iload_n dX8_isUnder_10 rfl ?_
  refine S_iload_n dX8_isUnder_11 rfl ?_
  refine S_icmp_eq 26 dX8_isUnder_12 (by decide) (by omega) (fun c_12 => absurd c_12 (by omega)) (fun c_12 => ?_)
  refine S_iload_n dX8_isUnder_15 rfl ?_
  refine S_callS (mi := mi_X8_isUnder) [vI ((-1))] ok_X8_above ml_X8_370 dX8_isUnder_16 (by decide) rfl (Nat.le_of_ble_eq_true rfl) rfl (c_above_m) ?_
  rintro v' M5 ⟨rfl, hM5⟩
  rw [hM5]
  clear hM5
  refine S_istore_n dX8_isUnder_19 (by decide) ?_
  refine S_iinc dX8_isUnder_20 rfl (by decide) ?_
  rw [show ((4 : Int) + 1) = 5 from rfl]
  refine S_goto 4 dX8_isUnder_23 (by decide) ?_
  refine S_iload_n dX8_isUnder_4 rfl ?_
  refine S_bipush dX8_isUnder_5 (by decide) ?_
  refine S_icmp_ge 26 dX8_isUnder_7 (by decide) (by omega) (fun c_7 => absurd c_7 (by omega)) (fun c_7 => ?_)
  refine S_iload_n dX8_isUnder_10 rfl ?_
  refine S_iload_n dX8_isUnder_11 rfl ?_
  refine S_icmp_eq 26 dX8_isUnder_12 (by decide) (by omega) (fun c_12 => absurd c_12 (by omega)) (fun c_12 => ?_)
  refine S_iload_n dX8_isUnder_15 rfl ?_
  refine S_callS (mi := mi_X8_isUnder) [vI ((-1))] ok_X8_above ml_X8_370 dX8_isUnder_16 (by decide) rfl (Nat.le_of_ble_eq_true rfl) rfl (c_above_m) ?_
  rintro v' M6 ⟨rfl, hM6⟩
  rw [hM6]
  clear hM6
  refine S_istore_n dX8_isUnder_19 (by decide) ?_
  refine S_iinc dX8_isUnder_20 rfl (by decide) ?_
  rw [show ((5 : Int) + 1) = 6 from rfl]
  refine S_goto 4 dX8_isUnder_23 (by decide) ?_
  refine S_iload_n dX8_isUnder_4 rfl ?_
  refine S_bipush dX8_isUnder_5 (by decide) ?_
  refine S_icmp_ge 26 dX8_isUnder_7 (by decide) (by omega) (fun c_7 => ?_) (fun c_7 => absurd c_7 (by omega))
  refine S_iload_n dX8_isUnder_26 rfl ?_
  refine S_iload_n dX8_isUnder_27 rfl ?_
  refine S_icmp_ne 35 dX8_isUnder_28 (by decide) (by omega) (fun c_28 => ?_) (fun c_28 => absurd c_28 (by omega))
  refine S_iconst dX8_isUnder_35 ?_
  exact S_iret dX8_isUnder_36 rfl (Or.inr ⟨rfl, by omega⟩) ⟨rfl, rfl⟩
set_option maxRecDepth 100000 in
theorem c_isUnder_2_0 {G : Ge} {M : Mem}  : Ct G mi_X8_isUnder [vI 2, vI 0] M (fun v' M' => v' = some (vI (1)) ∧ M' = M) := by
  refine Ct.of pl_X8_isUnder [some (vI 2), some (vI 0), none, none] rfl (Nat.le_of_ble_eq_true rfl) ?_
  refine S_iload_n dX8_isUnder_0 rfl ?_
  refine S_istore_n dX8_isUnder_1 (by decide) ?_
  refine S_iconst dX8_isUnder_2 ?_
  refine S_istore_n dX8_isUnder_3 (by decide) ?_
  refine S_iload_n dX8_isUnder_4 rfl ?_
  refine S_bipush dX8_isUnder_5 (by decide) ?_
  refine S_icmp_ge 26 dX8_isUnder_7 (by decide) (by omega) (fun c_7 => absurd c_7 (by omega)) (fun c_7 => ?_)
  refine S_iload_n dX8_isUnder_10 rfl ?_
  refine S_iload_n dX8_isUnder_11 rfl ?_
  refine S_icmp_eq 26 dX8_isUnder_12 (by decide) (by omega) (fun c_12 => absurd c_12 (by omega)) (fun c_12 => ?_)
  refine S_iload_n dX8_isUnder_15 rfl ?_
  refine S_callS (mi := mi_X8_isUnder) [vI 2] ok_X8_above ml_X8_370 dX8_isUnder_16 (by decide) rfl (Nat.le_of_ble_eq_true rfl) rfl (c_above_2) ?_
  rintro v' M1 ⟨rfl, hM1⟩
  rw [hM1]
  clear hM1
  refine S_istore_n dX8_isUnder_19 (by decide) ?_
  refine S_iinc dX8_isUnder_20 rfl (by decide) ?_
  rw [show ((0 : Int) + 1) = 1 from rfl]
  refine S_goto 4 dX8_isUnder_23 (by decide) ?_
  refine S_iload_n dX8_isUnder_4 rfl ?_
  refine S_bipush dX8_isUnder_5 (by decide) ?_
  refine S_icmp_ge 26 dX8_isUnder_7 (by decide) (by omega) (fun c_7 => absurd c_7 (by omega)) (fun c_7 => ?_)
  refine S_iload_n dX8_isUnder_10 rfl ?_
  refine S_iload_n dX8_isUnder_11 rfl ?_
  refine S_icmp_eq 26 dX8_isUnder_12 (by decide) (by omega) (fun c_12 => absurd c_12 (by omega)) (fun c_12 => ?_)
  refine S_iload_n dX8_isUnder_15 rfl ?_
  refine S_callS (mi := mi_X8_isUnder) [vI 1] ok_X8_above ml_X8_370 dX8_isUnder_16 (by decide) rfl (Nat.le_of_ble_eq_true rfl) rfl (c_above_1) ?_
  rintro v' M2 ⟨rfl, hM2⟩
  rw [hM2]
  clear hM2
  refine S_istore_n dX8_isUnder_19 (by decide) ?_
  refine S_iinc dX8_isUnder_20 rfl (by decide) ?_
  rw [show ((1 : Int) + 1) = 2 from rfl]
  refine S_goto 4 dX8_isUnder_23 (by decide) ?_
  refine S_iload_n dX8_isUnder_4 rfl ?_
  refine S_bipush dX8_isUnder_5 (by decide) ?_
  refine S_icmp_ge 26 dX8_isUnder_7 (by decide) (by omega) (fun c_7 => absurd c_7 (by omega)) (fun c_7 => ?_)
  refine S_iload_n dX8_isUnder_10 rfl ?_
  refine S_iload_n dX8_isUnder_11 rfl ?_
  refine S_icmp_eq 26 dX8_isUnder_12 (by decide) (by omega) (fun c_12 => ?_) (fun c_12 => absurd c_12 (by omega))
  refine S_iload_n dX8_isUnder_26 rfl ?_
  refine S_iload_n dX8_isUnder_27 rfl ?_
  refine S_icmp_ne 35 dX8_isUnder_28 (by decide) (by omega) (fun c_28 => absurd c_28 (by omega)) (fun c_28 => ?_)
  refine S_iconst dX8_isUnder_31 ?_
  refine S_goto 36 dX8_isUnder_32 (by decide) ?_
  exact S_iret dX8_isUnder_36 rfl (Or.inr ⟨rfl, by omega⟩) ⟨rfl, rfl⟩
set_option maxRecDepth 100000 in
theorem c_isUnder_2_1 {G : Ge} {M : Mem}  : Ct G mi_X8_isUnder [vI 2, vI 1] M (fun v' M' => v' = some (vI (1)) ∧ M' = M) := by
  refine Ct.of pl_X8_isUnder [some (vI 2), some (vI 1), none, none] rfl (Nat.le_of_ble_eq_true rfl) ?_
  refine S_iload_n dX8_isUnder_0 rfl ?_
  refine S_istore_n dX8_isUnder_1 (by decide) ?_
  refine S_iconst dX8_isUnder_2 ?_
  refine S_istore_n dX8_isUnder_3 (by decide) ?_
  refine S_iload_n dX8_isUnder_4 rfl ?_
  refine S_bipush dX8_isUnder_5 (by decide) ?_
  refine S_icmp_ge 26 dX8_isUnder_7 (by decide) (by omega) (fun c_7 => absurd c_7 (by omega)) (fun c_7 => ?_)
  refine S_iload_n dX8_isUnder_10 rfl ?_
  refine S_iload_n dX8_isUnder_11 rfl ?_
  refine S_icmp_eq 26 dX8_isUnder_12 (by decide) (by omega) (fun c_12 => absurd c_12 (by omega)) (fun c_12 => ?_)
  refine S_iload_n dX8_isUnder_15 rfl ?_
  refine S_callS (mi := mi_X8_isUnder) [vI 2] ok_X8_above ml_X8_370 dX8_isUnder_16 (by decide) rfl (Nat.le_of_ble_eq_true rfl) rfl (c_above_2) ?_
  rintro v' M1 ⟨rfl, hM1⟩
  rw [hM1]
  clear hM1
  refine S_istore_n dX8_isUnder_19 (by decide) ?_
  refine S_iinc dX8_isUnder_20 rfl (by decide) ?_
  rw [show ((0 : Int) + 1) = 1 from rfl]
  refine S_goto 4 dX8_isUnder_23 (by decide) ?_
  refine S_iload_n dX8_isUnder_4 rfl ?_
  refine S_bipush dX8_isUnder_5 (by decide) ?_
  refine S_icmp_ge 26 dX8_isUnder_7 (by decide) (by omega) (fun c_7 => absurd c_7 (by omega)) (fun c_7 => ?_)
  refine S_iload_n dX8_isUnder_10 rfl ?_
  refine S_iload_n dX8_isUnder_11 rfl ?_
  refine S_icmp_eq 26 dX8_isUnder_12 (by decide) (by omega) (fun c_12 => ?_) (fun c_12 => absurd c_12 (by omega))
  refine S_iload_n dX8_isUnder_26 rfl ?_
  refine S_iload_n dX8_isUnder_27 rfl ?_
  refine S_icmp_ne 35 dX8_isUnder_28 (by decide) (by omega) (fun c_28 => absurd c_28 (by omega)) (fun c_28 => ?_)
  refine S_iconst dX8_isUnder_31 ?_
  refine S_goto 36 dX8_isUnder_32 (by decide) ?_
  exact S_iret dX8_isUnder_36 rfl (Or.inr ⟨rfl, by omega⟩) ⟨rfl, rfl⟩
set_option maxRecDepth 100000 in
theorem c_isUnder_2_2 {G : Ge} {M : Mem}  : Ct G mi_X8_isUnder [vI 2, vI 2] M (fun v' M' => v' = some (vI (1)) ∧ M' = M) := by
  refine Ct.of pl_X8_isUnder [some (vI 2), some (vI 2), none, none] rfl (Nat.le_of_ble_eq_true rfl) ?_
  refine S_iload_n dX8_isUnder_0 rfl ?_
  refine S_istore_n dX8_isUnder_1 (by decide) ?_
  refine S_iconst dX8_isUnder_2 ?_
  refine S_istore_n dX8_isUnder_3 (by decide) ?_
  refine S_iload_n dX8_isUnder_4 rfl ?_
  refine S_bipush dX8_isUnder_5 (by decide) ?_
  refine S_icmp_ge 26 dX8_isUnder_7 (by decide) (by omega) (fun c_7 => absurd c_7 (by omega)) (fun c_7 => ?_)
  refine S_iload_n dX8_isUnder_10 rfl ?_
  refine S_iload_n dX8_isUnder_11 rfl ?_
  refine S_icmp_eq 26 dX8_isUnder_12 (by decide) (by omega) (fun c_12 => ?_) (fun c_12 => absurd c_12 (by omega))
  refine S_iload_n dX8_isUnder_26 rfl ?_
  refine S_iload_n dX8_isUnder_27 rfl ?_
  refine S_icmp_ne 35 dX8_isUnder_28 (by decide) (by omega) (fun c_28 => absurd c_28 (by omega)) (fun c_28 => ?_)
  refine S_iconst dX8_isUnder_31 ?_
  refine S_goto 36 dX8_isUnder_32 (by decide) ?_
  exact S_iret dX8_isUnder_36 rfl (Or.inr ⟨rfl, by omega⟩) ⟨rfl, rfl⟩
set_option maxRecDepth 100000 in
theorem c_isUnder_2_3 {G : Ge} {M : Mem}  : Ct G mi_X8_isUnder [vI 2, vI 3] M (fun v' M' => v' = some (vI (0)) ∧ M' = M) := by
  refine Ct.of pl_X8_isUnder [some (vI 2), some (vI 3), none, none] rfl (Nat.le_of_ble_eq_true rfl) ?_
  refine S_iload_n dX8_isUnder_0 rfl ?_
  refine S_istore_n dX8_isUnder_1 (by decide) ?_
  refine S_iconst dX8_isUnder_2 ?_
  refine S_istore_n dX8_isUnder_3 (by decide) ?_
  refine S_iload_n dX8_isUnder_4 rfl ?_
  refine S_bipush dX8_isUnder_5 (by decide) ?_
  refine S_icmp_ge 26 dX8_isUnder_7 (by decide) (by omega) (fun c_7 => absurd c_7 (by omega)) (fun c_7 => ?_)
  refine S_iload_n dX8_isUnder_10 rfl ?_
  refine S_iload_n dX8_isUnder_11 rfl ?_
  refine S_icmp_eq 26 dX8_isUnder_12 (by decide) (by omega) (fun c_12 => absurd c_12 (by omega)) (fun c_12 => ?_)
  refine S_iload_n dX8_isUnder_15 rfl ?_
  refine S_callS (mi := mi_X8_isUnder) [vI 2] ok_X8_above ml_X8_370 dX8_isUnder_16 (by decide) rfl (Nat.le_of_ble_eq_true rfl) rfl (c_above_2) ?_
  rintro v' M1 ⟨rfl, hM1⟩
  rw [hM1]
  clear hM1
  refine S_istore_n dX8_isUnder_19 (by decide) ?_
  refine S_iinc dX8_isUnder_20 rfl (by decide) ?_
  rw [show ((0 : Int) + 1) = 1 from rfl]
  refine S_goto 4 dX8_isUnder_23 (by decide) ?_
  refine S_iload_n dX8_isUnder_4 rfl ?_
  refine S_bipush dX8_isUnder_5 (by decide) ?_
  refine S_icmp_ge 26 dX8_isUnder_7 (by decide) (by omega) (fun c_7 => absurd c_7 (by omega)) (fun c_7 => ?_)
  refine S_iload_n dX8_isUnder_10 rfl ?_
  refine S_iload_n dX8_isUnder_11 rfl ?_
  refine S_icmp_eq 26 dX8_isUnder_12 (by decide) (by omega) (fun c_12 => absurd c_12 (by omega)) (fun c_12 => ?_)
  refine S_iload_n dX8_isUnder_15 rfl ?_
  refine S_callS (mi := mi_X8_isUnder) [vI 1] ok_X8_above ml_X8_370 dX8_isUnder_16 (by decide) rfl (Nat.le_of_ble_eq_true rfl) rfl (c_above_1) ?_
  rintro v' M2 ⟨rfl, hM2⟩
  rw [hM2]
  clear hM2
  refine S_istore_n dX8_isUnder_19 (by decide) ?_
  refine S_iinc dX8_isUnder_20 rfl (by decide) ?_
  rw [show ((1 : Int) + 1) = 2 from rfl]
  refine S_goto 4 dX8_isUnder_23 (by decide) ?_
  refine S_iload_n dX8_isUnder_4 rfl ?_
  refine S_bipush dX8_isUnder_5 (by decide) ?_
  refine S_icmp_ge 26 dX8_isUnder_7 (by decide) (by omega) (fun c_7 => absurd c_7 (by omega)) (fun c_7 => ?_)
  refine S_iload_n dX8_isUnder_10 rfl ?_
  refine S_iload_n dX8_isUnder_11 rfl ?_
  refine S_icmp_eq 26 dX8_isUnder_12 (by decide) (by omega) (fun c_12 => absurd c_12 (by omega)) (fun c_12 => ?_)
  refine S_iload_n dX8_isUnder_15 rfl ?_
  refine S_callS (mi := mi_X8_isUnder) [vI 0] ok_X8_above ml_X8_370 dX8_isUnder_16 (by decide) rfl (Nat.le_of_ble_eq_true rfl) rfl (c_above_0) ?_
  rintro v' M3 ⟨rfl, hM3⟩
  rw [hM3]
  clear hM3
  refine S_istore_n dX8_isUnder_19 (by decide) ?_
  refine S_iinc dX8_isUnder_20 rfl (by decide) ?_
  rw [show ((2 : Int) + 1) = 3 from rfl]
  refine S_goto 4 dX8_isUnder_23 (by decide) ?_
  refine S_iload_n dX8_isUnder_4 rfl ?_
  refine S_bipush dX8_isUnder_5 (by decide) ?_
  refine S_icmp_ge 26 dX8_isUnder_7 (by decide) (by omega) (fun c_7 => absurd c_7 (by omega)) (fun c_7 => ?_)
  refine S_iload_n dX8_isUnder_10 rfl ?_
  refine S_iload_n dX8_isUnder_11 rfl ?_
  refine S_icmp_eq 26 dX8_isUnder_12 (by decide) (by omega) (fun c_12 => absurd c_12 (by omega)) (fun c_12 => ?_)
  refine S_iload_n dX8_isUnder_15 rfl ?_
  refine S_callS (mi := mi_X8_isUnder) [vI ((-1))] ok_X8_above ml_X8_370 dX8_isUnder_16 (by decide) rfl (Nat.le_of_ble_eq_true rfl) rfl (c_above_m) ?_
  rintro v' M4 ⟨rfl, hM4⟩
  rw [hM4]
  clear hM4
  refine S_istore_n dX8_isUnder_19 (by decide) ?_
  refine S_iinc dX8_isUnder_20 rfl (by decide) ?_
  rw [show ((3 : Int) + 1) = 4 from rfl]
  refine S_goto 4 dX8_isUnder_23 (by decide) ?_
  refine S_iload_n dX8_isUnder_4 rfl ?_
  refine S_bipush dX8_isUnder_5 (by decide) ?_
  refine S_icmp_ge 26 dX8_isUnder_7 (by decide) (by omega) (fun c_7 => absurd c_7 (by omega)) (fun c_7 => ?_)
  refine S_iload_n dX8_isUnder_10 rfl ?_
  refine S_iload_n dX8_isUnder_11 rfl ?_
  refine S_icmp_eq 26 dX8_isUnder_12 (by decide) (by omega) (fun c_12 => absurd c_12 (by omega)) (fun c_12 => ?_)
  refine S_iload_n dX8_isUnder_15 rfl ?_
  refine S_callS (mi := mi_X8_isUnder) [vI ((-1))] ok_X8_above ml_X8_370 dX8_isUnder_16 (by decide) rfl (Nat.le_of_ble_eq_true rfl) rfl (c_above_m) ?_
  rintro v' M5 ⟨rfl, hM5⟩
  rw [hM5]
  clear hM5
  refine S_istore_n dX8_isUnder_19 (by decide) ?_
  refine S_iinc dX8_isUnder_20 rfl (by decide) ?_
  rw [show ((4 : Int) + 1) = 5 from rfl]
  refine S_goto 4 dX8_isUnder_23 (by decide) ?_
  refine S_iload_n dX8_isUnder_4 rfl ?_
  refine S_bipush dX8_isUnder_5 (by decide) ?_
  refine S_icmp_ge 26 dX8_isUnder_7 (by decide) (by omega) (fun c_7 => absurd c_7 (by omega)) (fun c_7 => ?_)
  refine S_iload_n dX8_isUnder_10 rfl ?_
  refine S_iload_n dX8_isUnder_11 rfl ?_
  refine S_icmp_eq 26 dX8_isUnder_12 (by decide) (by omega) (fun c_12 => absurd c_12 (by omega)) (fun c_12 => ?_)
  refine S_iload_n dX8_isUnder_15 rfl ?_
  refine S_callS (mi := mi_X8_isUnder) [vI ((-1))] ok_X8_above ml_X8_370 dX8_isUnder_16 (by decide) rfl (Nat.le_of_ble_eq_true rfl) rfl (c_above_m) ?_
  rintro v' M6 ⟨rfl, hM6⟩
  rw [hM6]
  clear hM6
  refine S_istore_n dX8_isUnder_19 (by decide) ?_
  refine S_iinc dX8_isUnder_20 rfl (by decide) ?_
  rw [show ((5 : Int) + 1) = 6 from rfl]
  refine S_goto 4 dX8_isUnder_23 (by decide) ?_
  refine S_iload_n dX8_isUnder_4 rfl ?_
  refine S_bipush dX8_isUnder_5 (by decide) ?_
  refine S_icmp_ge 26 dX8_isUnder_7 (by decide) (by omega) (fun c_7 => ?_) (fun c_7 => absurd c_7 (by omega))
  refine S_iload_n dX8_isUnder_26 rfl ?_
  refine S_iload_n dX8_isUnder_27 rfl ?_
  refine S_icmp_ne 35 dX8_isUnder_28 (by decide) (by omega) (fun c_28 => ?_) (fun c_28 => absurd c_28 (by omega))
  refine S_iconst dX8_isUnder_35 ?_
  exact S_iret dX8_isUnder_36 rfl (Or.inr ⟨rfl, by omega⟩) ⟨rfl, rfl⟩
set_option maxRecDepth 100000 in
theorem c_isUnder_2_4 {G : Ge} {M : Mem}  : Ct G mi_X8_isUnder [vI 2, vI 4] M (fun v' M' => v' = some (vI (0)) ∧ M' = M) := by
  refine Ct.of pl_X8_isUnder [some (vI 2), some (vI 4), none, none] rfl (Nat.le_of_ble_eq_true rfl) ?_
  refine S_iload_n dX8_isUnder_0 rfl ?_
  refine S_istore_n dX8_isUnder_1 (by decide) ?_
  refine S_iconst dX8_isUnder_2 ?_
  refine S_istore_n dX8_isUnder_3 (by decide) ?_
  refine S_iload_n dX8_isUnder_4 rfl ?_
  refine S_bipush dX8_isUnder_5 (by decide) ?_
  refine S_icmp_ge 26 dX8_isUnder_7 (by decide) (by omega) (fun c_7 => absurd c_7 (by omega)) (fun c_7 => ?_)
  refine S_iload_n dX8_isUnder_10 rfl ?_
  refine S_iload_n dX8_isUnder_11 rfl ?_
  refine S_icmp_eq 26 dX8_isUnder_12 (by decide) (by omega) (fun c_12 => absurd c_12 (by omega)) (fun c_12 => ?_)
  refine S_iload_n dX8_isUnder_15 rfl ?_
  refine S_callS (mi := mi_X8_isUnder) [vI 2] ok_X8_above ml_X8_370 dX8_isUnder_16 (by decide) rfl (Nat.le_of_ble_eq_true rfl) rfl (c_above_2) ?_
  rintro v' M1 ⟨rfl, hM1⟩
  rw [hM1]
  clear hM1
  refine S_istore_n dX8_isUnder_19 (by decide) ?_
  refine S_iinc dX8_isUnder_20 rfl (by decide) ?_
  rw [show ((0 : Int) + 1) = 1 from rfl]
  refine S_goto 4 dX8_isUnder_23 (by decide) ?_
  refine S_iload_n dX8_isUnder_4 rfl ?_
  refine S_bipush dX8_isUnder_5 (by decide) ?_
  refine S_icmp_ge 26 dX8_isUnder_7 (by decide) (by omega) (fun c_7 => absurd c_7 (by omega)) (fun c_7 => ?_)
  refine S_iload_n dX8_isUnder_10 rfl ?_
  refine S_iload_n dX8_isUnder_11 rfl ?_
  refine S_icmp_eq 26 dX8_isUnder_12 (by decide) (by omega) (fun c_12 => absurd c_12 (by omega)) (fun c_12 => ?_)
  refine S_iload_n dX8_isUnder_15 rfl ?_
  refine S_callS (mi := mi_X8_isUnder) [vI 1] ok_X8_above ml_X8_370 dX8_isUnder_16 (by decide) rfl (Nat.le_of_ble_eq_true rfl) rfl (c_above_1) ?_
  rintro v' M2 ⟨rfl, hM2⟩
  rw [hM2]
  clear hM2
  refine S_istore_n dX8_isUnder_19 (by decide) ?_
  refine S_iinc dX8_isUnder_20 rfl (by decide) ?_
  rw [show ((1 : Int) + 1) = 2 from rfl]
  refine S_goto 4 dX8_isUnder_23 (by decide) ?_
  refine S_iload_n dX8_isUnder_4 rfl ?_
  refine S_bipush dX8_isUnder_5 (by decide) ?_
  refine S_icmp_ge 26 dX8_isUnder_7 (by decide) (by omega) (fun c_7 => absurd c_7 (by omega)) (fun c_7 => ?_)
  refine S_iload_n dX8_isUnder_10 rfl ?_
  refine S_iload_n dX8_isUnder_11 rfl ?_
  refine S_icmp_eq 26 dX8_isUnder_12 (by decide) (by omega) (fun c_12 => absurd c_12 (by omega)) (fun c_12 => ?_)
  refine S_iload_n dX8_isUnder_15 rfl ?_
  refine S_callS (mi := mi_X8_isUnder) [vI 0] ok_X8_above ml_X8_370 dX8_isUnder_16 (by decide) rfl (Nat.le_of_ble_eq_true rfl) rfl (c_above_0) ?_
  rintro v' M3 ⟨rfl, hM3⟩
  rw [hM3]
  clear hM3
  refine S_istore_n dX8_isUnder_19 (by decide) ?_
  refine S_iinc dX8_isUnder_20 rfl (by decide) ?_
  rw [show ((2 : Int) + 1) = 3 from rfl]
  refine S_goto 4 dX8_isUnder_23 (by decide) ?_
  refine S_iload_n dX8_isUnder_4 rfl ?_
  refine S_bipush dX8_isUnder_5 (by decide) ?_
  refine S_icmp_ge 26 dX8_isUnder_7 (by decide) (by omega) (fun c_7 => absurd c_7 (by omega)) (fun c_7 => ?_)
  refine S_iload_n dX8_isUnder_10 rfl ?_
  refine S_iload_n dX8_isUnder_11 rfl ?_
  refine S_icmp_eq 26 dX8_isUnder_12 (by decide) (by omega) (fun c_12 => absurd c_12 (by omega)) (fun c_12 => ?_)
  refine S_iload_n dX8_isUnder_15 rfl ?_
  refine S_callS (mi := mi_X8_isUnder) [vI ((-1))] ok_X8_above ml_X8_370 dX8_isUnder_16 (by decide) rfl (Nat.le_of_ble_eq_true rfl) rfl (c_above_m) ?_
  rintro v' M4 ⟨rfl, hM4⟩
  rw [hM4]
  clear hM4
  refine S_istore_n dX8_isUnder_19 (by decide) ?_
  refine S_iinc dX8_isUnder_20 rfl (by decide) ?_
  rw [show ((3 : Int) + 1) = 4 from rfl]
  refine S_goto 4 dX8_isUnder_23 (by decide) ?_
  refine S_iload_n dX8_isUnder_4 rfl ?_
  refine S_bipush dX8_isUnder_5 (by decide) ?_
  refine S_icmp_ge 26 dX8_isUnder_7 (by decide) (by omega) (fun c_7 => absurd c_7 (by omega)) (fun c_7 => ?_)
  refine S_iload_n dX8_isUnder_10 rfl ?_
  refine S_iload_n dX8_isUnder_11 rfl ?_
  refine S_icmp_eq 26 dX8_isUnder_12 (by decide) (by omega) (fun c_12 => absurd c_12 (by omega)) (fun c_12 => ?_)
  refine S_iload_n dX8_isUnder_15 rfl ?_
  refine S_callS (mi := mi_X8_isUnder) [vI ((-1))] ok_X8_above ml_X8_370 dX8_isUnder_16 (by decide) rfl (Nat.le_of_ble_eq_true rfl) rfl (c_above_m) ?_
  rintro v' M5 ⟨rfl, hM5⟩
  rw [hM5]
  clear hM5
  refine S_istore_n dX8_isUnder_19 (by decide) ?_
  refine S_iinc dX8_isUnder_20 rfl (by decide) ?_
  rw [show ((4 : Int) + 1) = 5 from rfl]
  refine S_goto 4 dX8_isUnder_23 (by decide) ?_
  refine S_iload_n dX8_isUnder_4 rfl ?_
  refine S_bipush dX8_isUnder_5 (by decide) ?_
  refine S_icmp_ge 26 dX8_isUnder_7 (by decide) (by omega) (fun c_7 => absurd c_7 (by omega)) (fun c_7 => ?_)
  refine S_iload_n dX8_isUnder_10 rfl ?_
  refine S_iload_n dX8_isUnder_11 rfl ?_
  refine S_icmp_eq 26 dX8_isUnder_12 (by decide) (by omega) (fun c_12 => absurd c_12 (by omega)) (fun c_12 => ?_)
  refine S_iload_n dX8_isUnder_15 rfl ?_
  refine S_callS (mi := mi_X8_isUnder) [vI ((-1))] ok_X8_above ml_X8_370 dX8_isUnder_16 (by decide) rfl (Nat.le_of_ble_eq_true rfl) rfl (c_above_m) ?_
  rintro v' M6 ⟨rfl, hM6⟩
  rw [hM6]
  clear hM6
  refine S_istore_n dX8_isUnder_19 (by decide) ?_
  refine S_iinc dX8_isUnder_20 rfl (by decide) ?_
  rw [show ((5 : Int) + 1) = 6 from rfl]
  refine S_goto 4 dX8_isUnder_23 (by decide) ?_
  refine S_iload_n dX8_isUnder_4 rfl ?_
  refine S_bipush dX8_isUnder_5 (by decide) ?_
  refine S_icmp_ge 26 dX8_isUnder_7 (by decide) (by omega) (fun c_7 => ?_) (fun c_7 => absurd c_7 (by omega))
  refine S_iload_n dX8_isUnder_26 rfl ?_
  refine S_iload_n dX8_isUnder_27 rfl ?_
  refine S_icmp_ne 35 dX8_isUnder_28 (by decide) (by omega) (fun c_28 => ?_) (fun c_28 => absurd c_28 (by omega))
  refine S_iconst dX8_isUnder_35 ?_
  exact S_iret dX8_isUnder_36 rfl (Or.inr ⟨rfl, by omega⟩) ⟨rfl, rfl⟩
set_option maxRecDepth 100000 in
theorem c_isUnder_2_5 {G : Ge} {M : Mem}  : Ct G mi_X8_isUnder [vI 2, vI 5] M (fun v' M' => v' = some (vI (0)) ∧ M' = M) := by
  refine Ct.of pl_X8_isUnder [some (vI 2), some (vI 5), none, none] rfl (Nat.le_of_ble_eq_true rfl) ?_
  refine S_iload_n dX8_isUnder_0 rfl ?_
  refine S_istore_n dX8_isUnder_1 (by decide) ?_
  refine S_iconst dX8_isUnder_2 ?_
  refine S_istore_n dX8_isUnder_3 (by decide) ?_
  refine S_iload_n dX8_isUnder_4 rfl ?_
  refine S_bipush dX8_isUnder_5 (by decide) ?_
  refine S_icmp_ge 26 dX8_isUnder_7 (by decide) (by omega) (fun c_7 => absurd c_7 (by omega)) (fun c_7 => ?_)
  refine S_iload_n dX8_isUnder_10 rfl ?_
  refine S_iload_n dX8_isUnder_11 rfl ?_
  refine S_icmp_eq 26 dX8_isUnder_12 (by decide) (by omega) (fun c_12 => absurd c_12 (by omega)) (fun c_12 => ?_)
  refine S_iload_n dX8_isUnder_15 rfl ?_
  refine S_callS (mi := mi_X8_isUnder) [vI 2] ok_X8_above ml_X8_370 dX8_isUnder_16 (by decide) rfl (Nat.le_of_ble_eq_true rfl) rfl (c_above_2) ?_
  rintro v' M1 ⟨rfl, hM1⟩
  rw [hM1]
  clear hM1
  refine S_istore_n dX8_isUnder_19 (by decide) ?_
  refine S_iinc dX8_isUnder_20 rfl (by decide) ?_
  rw [show ((0 : Int) + 1) = 1 from rfl]
  refine S_goto 4 dX8_isUnder_23 (by decide) ?_
  refine S_iload_n dX8_isUnder_4 rfl ?_
  refine S_bipush dX8_isUnder_5 (by decide) ?_
  refine S_icmp_ge 26 dX8_isUnder_7 (by decide) (by omega) (fun c_7 => absurd c_7 (by omega)) (fun c_7 => ?_)
  refine S_iload_n dX8_isUnder_10 rfl ?_
  refine S_iload_n dX8_isUnder_11 rfl ?_
  refine S_icmp_eq 26 dX8_isUnder_12 (by decide) (by omega) (fun c_12 => absurd c_12 (by omega)) (fun c_12 => ?_)
  refine S_iload_n dX8_isUnder_15 rfl ?_
  refine S_callS (mi := mi_X8_isUnder) [vI 1] ok_X8_above ml_X8_370 dX8_isUnder_16 (by decide) rfl (Nat.le_of_ble_eq_true rfl) rfl (c_above_1) ?_
  rintro v' M2 ⟨rfl, hM2⟩
  rw [hM2]
  clear hM2
  refine S_istore_n dX8_isUnder_19 (by decide) ?_
  refine S_iinc dX8_isUnder_20 rfl (by decide) ?_
  rw [show ((1 : Int) + 1) = 2 from rfl]
  refine S_goto 4 dX8_isUnder_23 (by decide) ?_
  refine S_iload_n dX8_isUnder_4 rfl ?_
  refine S_bipush dX8_isUnder_5 (by decide) ?_
  refine S_icmp_ge 26 dX8_isUnder_7 (by decide) (by omega) (fun c_7 => absurd c_7 (by omega)) (fun c_7 => ?_)
  refine S_iload_n dX8_isUnder_10 rfl ?_
  refine S_iload_n dX8_isUnder_11 rfl ?_
  refine S_icmp_eq 26 dX8_isUnder_12 (by decide) (by omega) (fun c_12 => absurd c_12 (by omega)) (fun c_12 => ?_)
  refine S_iload_n dX8_isUnder_15 rfl ?_
  refine S_callS (mi := mi_X8_isUnder) [vI 0] ok_X8_above ml_X8_370 dX8_isUnder_16 (by decide) rfl (Nat.le_of_ble_eq_true rfl) rfl (c_above_0) ?_
  rintro v' M3 ⟨rfl, hM3⟩
  rw [hM3]
  clear hM3
  refine S_istore_n dX8_isUnder_19 (by decide) ?_
  refine S_iinc dX8_isUnder_20 rfl (by decide) ?_
  rw [show ((2 : Int) + 1) = 3 from rfl]
  refine S_goto 4 dX8_isUnder_23 (by decide) ?_
  refine S_iload_n dX8_isUnder_4 rfl ?_
  refine S_bipush dX8_isUnder_5 (by decide) ?_
  refine S_icmp_ge 26 dX8_isUnder_7 (by decide) (by omega) (fun c_7 => absurd c_7 (by omega)) (fun c_7 => ?_)
  refine S_iload_n dX8_isUnder_10 rfl ?_
  refine S_iload_n dX8_isUnder_11 rfl ?_
  refine S_icmp_eq 26 dX8_isUnder_12 (by decide) (by omega) (fun c_12 => absurd c_12 (by omega)) (fun c_12 => ?_)
  refine S_iload_n dX8_isUnder_15 rfl ?_
  refine S_callS (mi := mi_X8_isUnder) [vI ((-1))] ok_X8_above ml_X8_370 dX8_isUnder_16 (by decide) rfl (Nat.le_of_ble_eq_true rfl) rfl (c_above_m) ?_
  rintro v' M4 ⟨rfl, hM4⟩
  rw [hM4]
  clear hM4
  refine S_istore_n dX8_isUnder_19 (by decide) ?_
  refine S_iinc dX8_isUnder_20 rfl (by decide) ?_
  rw [show ((3 : Int) + 1) = 4 from rfl]
  refine S_goto 4 dX8_isUnder_23 (by decide) ?_
  refine S_iload_n dX8_isUnder_4 rfl ?_
  refine S_bipush dX8_isUnder_5 (by decide) ?_
  refine S_icmp_ge 26 dX8_isUnder_7 (by decide) (by omega) (fun c_7 => absurd c_7 (by omega)) (fun c_7 => ?_)
  refine S_iload_n dX8_isUnder_10 rfl ?_
  refine S_iload_n dX8_isUnder_11 rfl ?_
  refine S_icmp_eq 26 dX8_isUnder_12 (by decide) (by omega) (fun c_12 => absurd c_12 (by omega)) (fun c_12 => ?_)
  refine S_iload_n dX8_isUnder_15 rfl ?_
  refine S_callS (mi := mi_X8_isUnder) [vI ((-1))] ok_X8_above ml_X8_370 dX8_isUnder_16 (by decide) rfl (Nat.le_of_ble_eq_true rfl) rfl (c_above_m) ?_
  rintro v' M5 ⟨rfl, hM5⟩
  rw [hM5]
  clear hM5
  refine S_istore_n dX8_isUnder_19 (by decide) ?_
  refine S_iinc dX8_isUnder_20 rfl (by decide) ?_
  rw [show ((4 : Int) + 1) = 5 from rfl]
  refine S_goto 4 dX8_isUnder_23 (by decide) ?_
  refine S_iload_n dX8_isUnder_4 rfl ?_
  refine S_bipush dX8_isUnder_5 (by decide) ?_
  refine S_icmp_ge 26 dX8_isUnder_7 (by decide) (by omega) (fun c_7 => absurd c_7 (by omega)) (fun c_7 => ?_)
  refine S_iload_n dX8_isUnder_10 rfl ?_
  refine S_iload_n dX8_isUnder_11 rfl ?_
  refine S_icmp_eq 26 dX8_isUnder_12 (by decide) (by omega) (fun c_12 => absurd c_12 (by omega)) (fun c_12 => ?_)
  refine S_iload_n dX8_isUnder_15 rfl ?_
  refine S_callS (mi := mi_X8_isUnder) [vI ((-1))] ok_X8_above ml_X8_370 dX8_isUnder_16 (by decide) rfl (Nat.le_of_ble_eq_true rfl) rfl (c_above_m) ?_
  rintro v' M6 ⟨rfl, hM6⟩
  rw [hM6]
  clear hM6
  refine S_istore_n dX8_isUnder_19 (by decide) ?_
  refine S_iinc dX8_isUnder_20 rfl (by decide) ?_
  rw [show ((5 : Int) + 1) = 6 from rfl]
  refine S_goto 4 dX8_isUnder_23 (by decide) ?_
  refine S_iload_n dX8_isUnder_4 rfl ?_
  refine S_bipush dX8_isUnder_5 (by decide) ?_
  refine S_icmp_ge 26 dX8_isUnder_7 (by decide) (by omega) (fun c_7 => ?_) (fun c_7 => absurd c_7 (by omega))
  refine S_iload_n dX8_isUnder_26 rfl ?_
  refine S_iload_n dX8_isUnder_27 rfl ?_
  refine S_icmp_ne 35 dX8_isUnder_28 (by decide) (by omega) (fun c_28 => ?_) (fun c_28 => absurd c_28 (by omega))
  refine S_iconst dX8_isUnder_35 ?_
  exact S_iret dX8_isUnder_36 rfl (Or.inr ⟨rfl, by omega⟩) ⟨rfl, rfl⟩
set_option maxRecDepth 100000 in
theorem c_isUnder_3_0 {G : Ge} {M : Mem}  : Ct G mi_X8_isUnder [vI 3, vI 0] M (fun v' M' => v' = some (vI (1)) ∧ M' = M) := by
  refine Ct.of pl_X8_isUnder [some (vI 3), some (vI 0), none, none] rfl (Nat.le_of_ble_eq_true rfl) ?_
  refine S_iload_n dX8_isUnder_0 rfl ?_
  refine S_istore_n dX8_isUnder_1 (by decide) ?_
  refine S_iconst dX8_isUnder_2 ?_
  refine S_istore_n dX8_isUnder_3 (by decide) ?_
  refine S_iload_n dX8_isUnder_4 rfl ?_
  refine S_bipush dX8_isUnder_5 (by decide) ?_
  refine S_icmp_ge 26 dX8_isUnder_7 (by decide) (by omega) (fun c_7 => absurd c_7 (by omega)) (fun c_7 => ?_)
  refine S_iload_n dX8_isUnder_10 rfl ?_
  refine S_iload_n dX8_isUnder_11 rfl ?_
  refine S_icmp_eq 26 dX8_isUnder_12 (by decide) (by omega) (fun c_12 => absurd c_12 (by omega)) (fun c_12 => ?_)
  refine S_iload_n dX8_isUnder_15 rfl ?_
  refine S_callS (mi := mi_X8_isUnder) [vI 3] ok_X8_above ml_X8_370 dX8_isUnder_16 (by decide) rfl (Nat.le_of_ble_eq_true rfl) rfl (c_above_3) ?_
  rintro v' M1 ⟨rfl, hM1⟩
  rw [hM1]
  clear hM1
  refine S_istore_n dX8_isUnder_19 (by decide) ?_
  refine S_iinc dX8_isUnder_20 rfl (by decide) ?_
  rw [show ((0 : Int) + 1) = 1 from rfl]
  refine S_goto 4 dX8_isUnder_23 (by decide) ?_
  refine S_iload_n dX8_isUnder_4 rfl ?_
  refine S_bipush dX8_isUnder_5 (by decide) ?_
  refine S_icmp_ge 26 dX8_isUnder_7 (by decide) (by omega) (fun c_7 => absurd c_7 (by omega)) (fun c_7 => ?_)
  refine S_iload_n dX8_isUnder_10 rfl ?_
  refine S_iload_n dX8_isUnder_11 rfl ?_
  refine S_icmp_eq 26 dX8_isUnder_12 (by decide) (by omega) (fun c_12 => ?_) (fun c_12 => absurd c_12 (by omega))
  refine S_iload_n dX8_isUnder_26 rfl ?_
  refine S_iload_n dX8_isUnder_27 rfl ?_
  refine S_icmp_ne 35 dX8_isUnder_28 (by decide) (by omega) (fun c_28 => absurd c_28 (by omega)) (fun c_28 => ?_)
  refine S_iconst dX8_isUnder_31 ?_
  refine S_goto 36 dX8_isUnder_32 (by decide) ?_
  exact S_iret dX8_isUnder_36 rfl (Or.inr ⟨rfl, by omega⟩) ⟨rfl, rfl⟩
set_option maxRecDepth 100000 in
theorem c_isUnder_3_1 {G : Ge} {M : Mem}  : Ct G mi_X8_isUnder [vI 3, vI 1] M (fun v' M' => v' = some (vI (0)) ∧ M' = M) := by
  refine Ct.of pl_X8_isUnder [some (vI 3), some (vI 1), none, none] rfl (Nat.le_of_ble_eq_true rfl) ?_
  refine S_iload_n dX8_isUnder_0 rfl ?_
  refine S_istore_n dX8_isUnder_1 (by decide) ?_
  refine S_iconst dX8_isUnder_2 ?_
  refine S_istore_n dX8_isUnder_3 (by decide) ?_
  refine S_iload_n dX8_isUnder_4 rfl ?_
  refine S_bipush dX8_isUnder_5 (by decide) ?_
  refine S_icmp_ge 26 dX8_isUnder_7 (by decide) (by omega) (fun c_7 => absurd c_7 (by omega)) (fun c_7 => ?_)
  refine S_iload_n dX8_isUnder_10 rfl ?_
  refine S_iload_n dX8_isUnder_11 rfl ?_
  refine S_icmp_eq 26 dX8_isUnder_12 (by decide) (by omega) (fun c_12 => absurd c_12 (by omega)) (fun c_12 => ?_)
  refine S_iload_n dX8_isUnder_15 rfl ?_
  refine S_callS (mi := mi_X8_isUnder) [vI 3] ok_X8_above ml_X8_370 dX8_isUnder_16 (by decide) rfl (Nat.le_of_ble_eq_true rfl) rfl (c_above_3) ?_
  rintro v' M1 ⟨rfl, hM1⟩
  rw [hM1]
  clear hM1
  refine S_istore_n dX8_isUnder_19 (by decide) ?_
  refine S_iinc dX8_isUnder_20 rfl (by decide) ?_
  rw [show ((0 : Int) + 1) = 1 from rfl]
  refine S_goto 4 dX8_isUnder_23 (by decide) ?_
  refine S_iload_n dX8_isUnder_4 rfl ?_
  refine S_bipush dX8_isUnder_5 (by decide) ?_
  refine S_icmp_ge 26 dX8_isUnder_7 (by decide) (by omega) (fun c_7 => absurd c_7 (by omega)) (fun c_7 => ?_)
  refine S_iload_n dX8_isUnder_10 rfl ?_
  refine S_iload_n dX8_isUnder_11 rfl ?_
  refine S_icmp_eq 26 dX8_isUnder_12 (by decide) (by omega) (fun c_12 => absurd c_12 (by omega)) (fun c_12 => ?_)
  refine S_iload_n dX8_isUnder_15 rfl ?_
  refine S_callS (mi := mi_X8_isUnder) [vI 0] ok_X8_above ml_X8_370 dX8_isUnder_16 (by decide) rfl (Nat.le_of_ble_eq_true rfl) rfl (c_above_0) ?_
  rintro v' M2 ⟨rfl, hM2⟩
  rw [hM2]
  clear hM2
  refine S_istore_n dX8_isUnder_19 (by decide) ?_
  refine S_iinc dX8_isUnder_20 rfl (by decide) ?_
  rw [show ((1 : Int) + 1) = 2 from rfl]
  refine S_goto 4 dX8_isUnder_23 (by decide) ?_
  refine S_iload_n dX8_isUnder_4 rfl ?_
  refine S_bipush dX8_isUnder_5 (by decide) ?_
  refine S_icmp_ge 26 dX8_isUnder_7 (by decide) (by omega) (fun c_7 => absurd c_7 (by omega)) (fun c_7 => ?_)
  refine S_iload_n dX8_isUnder_10 rfl ?_
  refine S_iload_n dX8_isUnder_11 rfl ?_
  refine S_icmp_eq 26 dX8_isUnder_12 (by decide) (by omega) (fun c_12 => absurd c_12 (by omega)) (fun c_12 => ?_)
  refine S_iload_n dX8_isUnder_15 rfl ?_
  refine S_callS (mi := mi_X8_isUnder) [vI ((-1))] ok_X8_above ml_X8_370 dX8_isUnder_16 (by decide) rfl (Nat.le_of_ble_eq_true rfl) rfl (c_above_m) ?_
  rintro v' M3 ⟨rfl, hM3⟩
  rw [hM3]
  clear hM3
  refine S_istore_n dX8_isUnder_19 (by decide) ?_
  refine S_iinc dX8_isUnder_20 rfl (by decide) ?_
  rw [show ((2 : Int) + 1) = 3 from rfl]
  refine S_goto 4 dX8_isUnder_23 (by decide) ?_
  refine S_iload_n dX8_isUnder_4 rfl ?_
  refine S_bipush dX8_isUnder_5 (by decide) ?_
  refine S_icmp_ge 26 dX8_isUnder_7 (by decide) (by omega) (fun c_7 => absurd c_7 (by omega)) (fun c_7 => ?_)
  refine S_iload_n dX8_isUnder_10 rfl ?_
  refine S_iload_n dX8_isUnder_11 rfl ?_
  refine S_icmp_eq 26 dX8_isUnder_12 (by decide) (by omega) (fun c_12 => absurd c_12 (by omega)) (fun c_12 => ?_)
  refine S_iload_n dX8_isUnder_15 rfl ?_
  refine S_callS (mi := mi_X8_isUnder) [vI ((-1))] ok_X8_above ml_X8_370 dX8_isUnder_16 (by decide) rfl (Nat.le_of_ble_eq_true rfl) rfl (c_above_m) ?_
  rintro v' M4 ⟨rfl, hM4⟩
  rw [hM4]
  clear hM4
  refine S_istore_n dX8_isUnder_19 (by decide) ?_
  refine S_iinc dX8_isUnder_20 rfl (by decide) ?_
  rw [show ((3 : Int) + 1) = 4 from rfl]
  refine S_goto 4 dX8_isUnder_23 (by decide) ?_
  refine S_iload_n dX8_isUnder_4 rfl ?_
  refine S_bipush dX8_isUnder_5 (by decide) ?_
  refine S_icmp_ge 26 dX8_isUnder_7 (by decide) (by omega) (fun c_7 => absurd c_7 (by omega)) (fun c_7 => ?_)
  refine S_iload_n dX8_isUnder_10 rfl ?_
  refine S_iload_n dX8_isUnder_11 rfl ?_
  refine S_icmp_eq 26 dX8_isUnder_12 (by decide) (by omega) (fun c_12 => absurd c_12 (by omega)) (fun c_12 => ?_)
  refine S_iload_n dX8_isUnder_15 rfl ?_
  refine S_callS (mi := mi_X8_isUnder) [vI ((-1))] ok_X8_above ml_X8_370 dX8_isUnder_16 (by decide) rfl (Nat.le_of_ble_eq_true rfl) rfl (c_above_m) ?_
  rintro v' M5 ⟨rfl, hM5⟩
  rw [hM5]
  clear hM5
  refine S_istore_n dX8_isUnder_19 (by decide) ?_
  refine S_iinc dX8_isUnder_20 rfl (by decide) ?_
  rw [show ((4 : Int) + 1) = 5 from rfl]
  refine S_goto 4 dX8_isUnder_23 (by decide) ?_
  refine S_iload_n dX8_isUnder_4 rfl ?_
  refine S_bipush dX8_isUnder_5 (by decide) ?_
  refine S_icmp_ge 26 dX8_isUnder_7 (by decide) (by omega) (fun c_7 => absurd c_7 (by omega)) (fun c_7 => ?_)
  refine S_iload_n dX8_isUnder_10 rfl ?_
  refine S_iload_n dX8_isUnder_11 rfl ?_
  refine S_icmp_eq 26 dX8_isUnder_12 (by decide) (by omega) (fun c_12 => absurd c_12 (by omega)) (fun c_12 => ?_)
  refine S_iload_n dX8_isUnder_15 rfl ?_
  refine S_callS (mi := mi_X8_isUnder) [vI ((-1))] ok_X8_above ml_X8_370 dX8_isUnder_16 (by decide) rfl (Nat.le_of_ble_eq_true rfl) rfl (c_above_m) ?_
  rintro v' M6 ⟨rfl, hM6⟩
  rw [hM6]
  clear hM6
  refine S_istore_n dX8_isUnder_19 (by decide) ?_
  refine S_iinc dX8_isUnder_20 rfl (by decide) ?_
  rw [show ((5 : Int) + 1) = 6 from rfl]
  refine S_goto 4 dX8_isUnder_23 (by decide) ?_
  refine S_iload_n dX8_isUnder_4 rfl ?_
  refine S_bipush dX8_isUnder_5 (by decide) ?_
  refine S_icmp_ge 26 dX8_isUnder_7 (by decide) (by omega) (fun c_7 => ?_) (fun c_7 => absurd c_7 (by omega))
  refine S_iload_n dX8_isUnder_26 rfl ?_
  refine S_iload_n dX8_isUnder_27 rfl ?_
  refine S_icmp_ne 35 dX8_isUnder_28 (by decide) (by omega) (fun c_28 => ?_) (fun c_28 => absurd c_28 (by omega))
  refine S_iconst dX8_isUnder_35 ?_
  exact S_iret dX8_isUnder_36 rfl (Or.inr ⟨rfl, by omega⟩) ⟨rfl, rfl⟩
set_option maxRecDepth 100000 in
theorem c_isUnder_3_2 {G : Ge} {M : Mem}  : Ct G mi_X8_isUnder [vI 3, vI 2] M (fun v' M' => v' = some (vI (0)) ∧ M' = M) := by
  refine Ct.of pl_X8_isUnder [some (vI 3), some (vI 2), none, none] rfl (Nat.le_of_ble_eq_true rfl) ?_
  refine S_iload_n dX8_isUnder_0 rfl ?_
  refine S_istore_n dX8_isUnder_1 (by decide) ?_
  refine S_iconst dX8_isUnder_2 ?_
  refine S_istore_n dX8_isUnder_3 (by decide) ?_
  refine S_iload_n dX8_isUnder_4 rfl ?_
  refine S_bipush dX8_isUnder_5 (by decide) ?_
  refine S_icmp_ge 26 dX8_isUnder_7 (by decide) (by omega) (fun c_7 => absurd c_7 (by omega)) (fun c_7 => ?_)
  refine S_iload_n dX8_isUnder_10 rfl ?_
  refine S_iload_n dX8_isUnder_11 rfl ?_
  refine S_icmp_eq 26 dX8_isUnder_12 (by decide) (by omega) (fun c_12 => absurd c_12 (by omega)) (fun c_12 => ?_)
  refine S_iload_n dX8_isUnder_15 rfl ?_
  refine S_callS (mi := mi_X8_isUnder) [vI 3] ok_X8_above ml_X8_370 dX8_isUnder_16 (by decide) rfl (Nat.le_of_ble_eq_true rfl) rfl (c_above_3) ?_
  rintro v' M1 ⟨rfl, hM1⟩
  rw [hM1]
  clear hM1
  refine S_istore_n dX8_isUnder_19 (by decide) ?_
  refine S_iinc dX8_isUnder_20 rfl (by decide) ?_
  rw [show ((0 : Int) + 1) = 1 from rfl]
  refine S_goto 4 dX8_isUnder_23 (by decide) ?_
  refine S_iload_n dX8_isUnder_4 rfl ?_
  refine S_bipush dX8_isUnder_5 (by decide) ?_
  refine S_icmp_ge 26 dX8_isUnder_7 (by decide) (by omega) (fun c_7 => absurd c_7 (by omega)) (fun c_7 => ?_)
  refine S_iload_n dX8_isUnder_10 rfl ?_
  refine S_iload_n dX8_isUnder_11 rfl ?_
  refine S_icmp_eq 26 dX8_isUnder_12 (by decide) (by omega) (fun c_12 => absurd c_12 (by omega)) (fun c_12 => ?_)
  refine S_iload_n dX8_isUnder_15 rfl ?_
  refine S_callS (mi := mi_X8_isUnder) [vI 0] ok_X8_above ml_X8_370 dX8_isUnder_16 (by decide) rfl (Nat.le_of_ble_eq_true rfl) rfl (c_above_0) ?_
  rintro v' M2 ⟨rfl, hM2⟩
  rw [hM2]
  clear hM2
  refine S_istore_n dX8_isUnder_19 (by decide) ?_
  refine S_iinc dX8_isUnder_20 rfl (by decide) ?_
  rw [show ((1 : Int) + 1) = 2 from rfl]
  refine S_goto 4 dX8_isUnder_23 (by decide) ?_
  refine S_iload_n dX8_isUnder_4 rfl ?_
  refine S_bipush dX8_isUnder_5 (by decide) ?_
  refine S_icmp_ge 26 dX8_isUnder_7 (by decide) (by omega) (fun c_7 => absurd c_7 (by omega)) (fun c_7 => ?_)
  refine S_iload_n dX8_isUnder_10 rfl ?_
  refine S_iload_n dX8_isUnder_11 rfl ?_
  refine S_icmp_eq 26 dX8_isUnder_12 (by decide) (by omega) (fun c_12 => absurd c_12 (by omega)) (fun c_12 => ?_)
  refine S_iload_n dX8_isUnder_15 rfl ?_
  refine S_callS (mi := mi_X8_isUnder) [vI ((-1))] ok_X8_above ml_X8_370 dX8_isUnder_16 (by decide) rfl (Nat.le_of_ble_eq_true rfl) rfl (c_above_m) ?_
  rintro v' M3 ⟨rfl, hM3⟩
  rw [hM3]
  clear hM3
  refine S_istore_n dX8_isUnder_19 (by decide) ?_
  refine S_iinc dX8_isUnder_20 rfl (by decide) ?_
  rw [show ((2 : Int) + 1) = 3 from rfl]
  refine S_goto 4 dX8_isUnder_23 (by decide) ?_
  refine S_iload_n dX8_isUnder_4 rfl ?_
  refine S_bipush dX8_isUnder_5 (by decide) ?_
  refine S_icmp_ge 26 dX8_isUnder_7 (by decide) (by omega) (fun c_7 => absurd c_7 (by omega)) (fun c_7 => ?_)
  refine S_iload_n dX8_isUnder_10 rfl ?_
  refine S_iload_n dX8_isUnder_11 rfl ?_
  refine S_icmp_eq 26 dX8_isUnder_12 (by decide) (by omega) (fun c_12 => absurd c_12 (by omega)) (fun c_12 => ?_)
  refine S_iload_n dX8_isUnder_15 rfl ?_
  refine S_callS (mi := mi_X8_isUnder) [vI ((-1))] ok_X8_above ml_X8_370 dX8_isUnder_16 (by decide) rfl (Nat.le_of_ble_eq_true rfl) rfl (c_above_m) ?_
  rintro v' M4 ⟨rfl, hM4⟩
  rw [hM4]
  clear hM4
  refine S_istore_n dX8_isUnder_19 (by decide) ?_
  refine S_iinc dX8_isUnder_20 rfl (by decide) ?_
  rw [show ((3 : Int) + 1) = 4 from rfl]
  refine S_goto 4 dX8_isUnder_23 (by decide) ?_
  refine S_iload_n dX8_isUnder_4 rfl ?_
  refine S_bipush dX8_isUnder_5 (by decide) ?_
  refine S_icmp_ge 26 dX8_isUnder_7 (by decide) (by omega) (fun c_7 => absurd c_7 (by omega)) (fun c_7 => ?_)
  refine S_iload_n dX8_isUnder_10 rfl ?_
  refine S_iload_n dX8_isUnder_11 rfl ?_
  refine S_icmp_eq 26 dX8_isUnder_12 (by decide) (by omega) (fun c_12 => absurd c_12 (by omega)) (fun c_12 => ?_)
  refine S_iload_n dX8_isUnder_15 rfl ?_
  refine S_callS (mi := mi_X8_isUnder) [vI ((-1))] ok_X8_above ml_X8_370 dX8_isUnder_16 (by decide) rfl (Nat.le_of_ble_eq_true rfl) rfl (c_above_m) ?_
  rintro v' M5 ⟨rfl, hM5⟩
  rw [hM5]
  clear hM5
  refine S_istore_n dX8_isUnder_19 (by decide) ?_
  refine S_iinc dX8_isUnder_20 rfl (by decide) ?_
  rw [show ((4 : Int) + 1) = 5 from rfl]
  refine S_goto 4 dX8_isUnder_23 (by decide) ?_
  refine S_iload_n dX8_isUnder_4 rfl ?_
  refine S_bipush dX8_isUnder_5 (by decide) ?_
  refine S_icmp_ge 26 dX8_isUnder_7 (by decide) (by omega) (fun c_7 => absurd c_7 (by omega)) (fun c_7 => ?_)
  refine S_iload_n dX8_isUnder_10 rfl ?_
  refine S_iload_n dX8_isUnder_11 rfl ?_
  refine S_icmp_eq 26 dX8_isUnder_12 (by decide) (by omega) (fun c_12 => absurd c_12 (by omega)) (fun c_12 => ?_)
  refine S_iload_n dX8_isUnder_15 rfl ?_
  refine S_callS (mi := mi_X8_isUnder) [vI ((-1))] ok_X8_above ml_X8_370 dX8_isUnder_16 (by decide) rfl (Nat.le_of_ble_eq_true rfl) rfl (c_above_m) ?_
  rintro v' M6 ⟨rfl, hM6⟩
  rw [hM6]
  clear hM6
  refine S_istore_n dX8_isUnder_19 (by decide) ?_
  refine S_iinc dX8_isUnder_20 rfl (by decide) ?_
  rw [show ((5 : Int) + 1) = 6 from rfl]
  refine S_goto 4 dX8_isUnder_23 (by decide) ?_
  refine S_iload_n dX8_isUnder_4 rfl ?_
  refine S_bipush dX8_isUnder_5 (by decide) ?_
  refine S_icmp_ge 26 dX8_isUnder_7 (by decide) (by omega) (fun c_7 => ?_) (fun c_7 => absurd c_7 (by omega))
  refine S_iload_n dX8_isUnder_26 rfl ?_
  refine S_iload_n dX8_isUnder_27 rfl ?_
  refine S_icmp_ne 35 dX8_isUnder_28 (by decide) (by omega) (fun c_28 => ?_) (fun c_28 => absurd c_28 (by omega))
  refine S_iconst dX8_isUnder_35 ?_
  exact S_iret dX8_isUnder_36 rfl (Or.inr ⟨rfl, by omega⟩) ⟨rfl, rfl⟩
set_option maxRecDepth 100000 in
theorem c_isUnder_3_3 {G : Ge} {M : Mem}  : Ct G mi_X8_isUnder [vI 3, vI 3] M (fun v' M' => v' = some (vI (1)) ∧ M' = M) := by
  refine Ct.of pl_X8_isUnder [some (vI 3), some (vI 3), none, none] rfl (Nat.le_of_ble_eq_true rfl) ?_
  refine S_iload_n dX8_isUnder_0 rfl ?_
  refine S_istore_n dX8_isUnder_1 (by decide) ?_
  refine S_iconst dX8_isUnder_2 ?_
  refine S_istore_n dX8_isUnder_3 (by decide) ?_
  refine S_iload_n dX8_isUnder_4 rfl ?_
  refine S_bipush dX8_isUnder_5 (by decide) ?_
  refine S_icmp_ge 26 dX8_isUnder_7 (by decide) (by omega) (fun c_7 => absurd c_7 (by omega)) (fun c_7 => ?_)
  refine S_iload_n dX8_isUnder_10 rfl ?_
  refine S_iload_n dX8_isUnder_11 rfl ?_
  refine S_icmp_eq 26 dX8_isUnder_12 (by decide) (by omega) (fun c_12 => ?_) (fun c_12 => absurd c_12 (by omega))
  refine S_iload_n dX8_isUnder_26 rfl ?_
  refine S_iload_n dX8_isUnder_27 rfl ?_
  refine S_icmp_ne 35 dX8_isUnder_28 (by decide) (by omega) (fun c_28 => absurd c_28 (by omega)) (fun c_28 => ?_)
  refine S_iconst dX8_isUnder_31 ?_
  refine S_goto 36 dX8_isUnder_32 (by decide) ?_
  exact S_iret dX8_isUnder_36 rfl (Or.inr ⟨rfl, by omega⟩) ⟨rfl, rfl⟩
set_option maxRecDepth 100000 in
theorem c_isUnder_3_4 {G : Ge} {M : Mem}  : Ct G mi_X8_isUnder [vI 3, vI 4] M (fun v' M' => v' = some (vI (0)) ∧ M' = M) := by
  refine Ct.of pl_X8_isUnder [some (vI 3), some (vI 4), none, none] rfl (Nat.le_of_ble_eq_true rfl) ?_
  refine S_iload_n dX8_isUnder_0 rfl ?_
  refine S_istore_n dX8_isUnder_1 (by decide) ?_
  refine S_iconst dX8_isUnder_2 ?_
  refine S_istore_n dX8_isUnder_3 (by decide) ?_
  refine S_iload_n dX8_isUnder_4 rfl ?_
  refine S_bipush dX8_isUnder_5 (by decide) ?_
  refine S_icmp_ge 26 dX8_isUnder_7 (by decide) (by omega) (fun c_7 => absurd c_7 (by omega)) (fun c_7 => ?_)
  refine S_iload_n dX8_isUnder_10 rfl ?_
  refine S_iload_n dX8_isUnder_11 rfl ?_
  refine S_icmp_eq 26 dX8_isUnder_12 (by decide) (by omega) (fun c_12 => absurd c_12 (by omega)) (fun c_12 => ?_)
  refine S_iload_n dX8_isUnder_15 rfl ?_
  refine S_callS (mi := mi_X8_isUnder) [vI 3] ok_X8_above ml_X8_370 dX8_isUnder_16 (by decide) rfl (Nat.le_of_ble_eq_true rfl) rfl (c_above_3) ?_
  rintro v' M1 ⟨rfl, hM1⟩
  rw [hM1]
  clear hM1
  refine S_istore_n dX8_isUnder_19 (by decide) ?_
  refine S_iinc dX8_isUnder_20 rfl (by decide) ?_
  rw [show ((0 : Int) + 1) = 1 from rfl]
  refine S_goto 4 dX8_isUnder_23 (by decide) ?_
  refine S_iload_n dX8_isUnder_4 rfl ?_
  refine S_bipush dX8_isUnder_5 (by decide) ?_
  refine S_icmp_ge 26 dX8_isUnder_7 (by decide) (by omega) (fun c_7 => absurd c_7 (by omega)) (fun c_7 => ?_)
  refine S_iload_n dX8_isUnder_10 rfl ?_
  refine S_iload_n dX8_isUnder_11 rfl ?_
  refine S_icmp_eq 26 dX8_isUnder_12 (by decide) (by omega) (fun c_12 => absurd c_12 (by omega)) (fun c_12 => ?_)
  refine S_iload_n dX8_isUnder_15 rfl ?_
  refine S_callS (mi := mi_X8_isUnder) [vI 0] ok_X8_above ml_X8_370 dX8_isUnder_16 (by decide) rfl (Nat.le_of_ble_eq_true rfl) rfl (c_above_0) ?_
  rintro v' M2 ⟨rfl, hM2⟩
  rw [hM2]
  clear hM2
  refine S_istore_n dX8_isUnder_19 (by decide) ?_
  refine S_iinc dX8_isUnder_20 rfl (by decide) ?_
  rw [show ((1 : Int) + 1) = 2 from rfl]
  refine S_goto 4 dX8_isUnder_23 (by decide) ?_
  refine S_iload_n dX8_isUnder_4 rfl ?_
  refine S_bipush dX8_isUnder_5 (by decide) ?_
  refine S_icmp_ge 26 dX8_isUnder_7 (by decide) (by omega) (fun c_7 => absurd c_7 (by omega)) (fun c_7 => ?_)
  refine S_iload_n dX8_isUnder_10 rfl ?_
  refine S_iload_n dX8_isUnder_11 rfl ?_
  refine S_icmp_eq 26 dX8_isUnder_12 (by decide) (by omega) (fun c_12 => absurd c_12 (by omega)) (fun c_12 => ?_)
  refine S_iload_n dX8_isUnder_15 rfl ?_
  refine S_callS (mi := mi_X8_isUnder) [vI ((-1))] ok_X8_above ml_X8_370 dX8_isUnder_16 (by decide) rfl (Nat.le_of_ble_eq_true rfl) rfl (c_above_m) ?_
  rintro v' M3 ⟨rfl, hM3⟩
  rw [hM3]
  clear hM3
  refine S_istore_n dX8_isUnder_19 (by decide) ?_
  refine S_iinc dX8_isUnder_20 rfl (by decide) ?_
  rw [show ((2 : Int) + 1) = 3 from rfl]
  refine S_goto 4 dX8_isUnder_23 (by decide) ?_
  refine S_iload_n dX8_isUnder_4 rfl ?_
  refine S_bipush dX8_isUnder_5 (by decide) ?_
  refine S_icmp_ge 26 dX8_isUnder_7 (by decide) (by omega) (fun c_7 => absurd c_7 (by omega)) (fun c_7 => ?_)
  refine S_iload_n dX8_isUnder_10 rfl ?_
  refine S_iload_n dX8_isUnder_11 rfl ?_
  refine S_icmp_eq 26 dX8_isUnder_12 (by decide) (by omega) (fun c_12 => absurd c_12 (by omega)) (fun c_12 => ?_)
  refine S_iload_n dX8_isUnder_15 rfl ?_
  refine S_callS (mi := mi_X8_isUnder) [vI ((-1))] ok_X8_above ml_X8_370 dX8_isUnder_16 (by decide) rfl (Nat.le_of_ble_eq_true rfl) rfl (c_above_m) ?_
  rintro v' M4 ⟨rfl, hM4⟩
  rw [hM4]
  clear hM4
  refine S_istore_n dX8_isUnder_19 (by decide) ?_
  refine S_iinc dX8_isUnder_20 rfl (by decide) ?_
  rw [show ((3 : Int) + 1) = 4 from rfl]
  refine S_goto 4 dX8_isUnder_23 (by decide) ?_
  refine S_iload_n dX8_isUnder_4 rfl ?_
  refine S_bipush dX8_isUnder_5 (by decide) ?_
  refine S_icmp_ge 26 dX8_isUnder_7 (by decide) (by omega) (fun c_7 => absurd c_7 (by omega)) (fun c_7 => ?_)
  refine S_iload_n dX8_isUnder_10 rfl ?_
  refine S_iload_n dX8_isUnder_11 rfl ?_
  refine S_icmp_eq 26 dX8_isUnder_12 (by decide) (by omega) (fun c_12 => absurd c_12 (by omega)) (fun c_12 => ?_)
  refine S_iload_n dX8_isUnder_15 rfl ?_
  refine S_callS (mi := mi_X8_isUnder) [vI ((-1))] ok_X8_above ml_X8_370 dX8_isUnder_16 (by decide) rfl (Nat.le_of_ble_eq_true rfl) rfl (c_above_m) ?_
  rintro v' M5 ⟨rfl, hM5⟩
  rw [hM5]
  clear hM5
  refine S_istore_n dX8_isUnder_19 (by decide) ?_
  refine S_iinc dX8_isUnder_20 rfl (by decide) ?_
  rw [show ((4 : Int) + 1) = 5 from rfl]
  refine S_goto 4 dX8_isUnder_23 (by decide) ?_
  refine S_iload_n dX8_isUnder_4 rfl ?_
  refine S_bipush dX8_isUnder_5 (by decide) ?_
  refine S_icmp_ge 26 dX8_isUnder_7 (by decide) (by omega) (fun c_7 => absurd c_7 (by omega)) (fun c_7 => ?_)
  refine S_iload_n dX8_isUnder_10 rfl ?_
  refine S_iload_n dX8_isUnder_11 rfl ?_
  refine S_icmp_eq 26 dX8_isUnder_12 (by decide) (by omega) (fun c_12 => absurd c_12 (by omega)) (fun c_12 => ?_)
  refine S_iload_n dX8_isUnder_15 rfl ?_
  refine S_callS (mi := mi_X8_isUnder) [vI ((-1))] ok_X8_above ml_X8_370 dX8_isUnder_16 (by decide) rfl (Nat.le_of_ble_eq_true rfl) rfl (c_above_m) ?_
  rintro v' M6 ⟨rfl, hM6⟩
  rw [hM6]
  clear hM6
  refine S_istore_n dX8_isUnder_19 (by decide) ?_
  refine S_iinc dX8_isUnder_20 rfl (by decide) ?_
  rw [show ((5 : Int) + 1) = 6 from rfl]
  refine S_goto 4 dX8_isUnder_23 (by decide) ?_
  refine S_iload_n dX8_isUnder_4 rfl ?_
  refine S_bipush dX8_isUnder_5 (by decide) ?_
  refine S_icmp_ge 26 dX8_isUnder_7 (by decide) (by omega) (fun c_7 => ?_) (fun c_7 => absurd c_7 (by omega))
  refine S_iload_n dX8_isUnder_26 rfl ?_
  refine S_iload_n dX8_isUnder_27 rfl ?_
  refine S_icmp_ne 35 dX8_isUnder_28 (by decide) (by omega) (fun c_28 => ?_) (fun c_28 => absurd c_28 (by omega))
  refine S_iconst dX8_isUnder_35 ?_
  exact S_iret dX8_isUnder_36 rfl (Or.inr ⟨rfl, by omega⟩) ⟨rfl, rfl⟩
set_option maxRecDepth 100000 in
theorem c_isUnder_3_5 {G : Ge} {M : Mem}  : Ct G mi_X8_isUnder [vI 3, vI 5] M (fun v' M' => v' = some (vI (0)) ∧ M' = M) := by
  refine Ct.of pl_X8_isUnder [some (vI 3), some (vI 5), none, none] rfl (Nat.le_of_ble_eq_true rfl) ?_
  refine S_iload_n dX8_isUnder_0 rfl ?_
  refine S_istore_n dX8_isUnder_1 (by decide) ?_
  refine S_iconst dX8_isUnder_2 ?_
  refine S_istore_n dX8_isUnder_3 (by decide) ?_
  refine S_iload_n dX8_isUnder_4 rfl ?_
  refine S_bipush dX8_isUnder_5 (by decide) ?_
  refine S_icmp_ge 26 dX8_isUnder_7 (by decide) (by omega) (fun c_7 => absurd c_7 (by omega)) (fun c_7 => ?_)
  refine S_iload_n dX8_isUnder_10 rfl ?_
  refine S_iload_n dX8_isUnder_11 rfl ?_
  refine S_icmp_eq 26 dX8_isUnder_12 (by decide) (by omega) (fun c_12 => absurd c_12 (by omega)) (fun c_12 => ?_)
  refine S_iload_n dX8_isUnder_15 rfl ?_
  refine S_callS (mi := mi_X8_isUnder) [vI 3] ok_X8_above ml_X8_370 dX8_isUnder_16 (by decide) rfl (Nat.le_of_ble_eq_true rfl) rfl (c_above_3) ?_
  rintro v' M1 ⟨rfl, hM1⟩
  rw [hM1]
  clear hM1
  refine S_istore_n dX8_isUnder_19 (by decide) ?_
  refine S_iinc dX8_isUnder_20 rfl (by decide) ?_
  rw [show ((0 : Int) + 1) = 1 from rfl]
  refine S_goto 4 dX8_isUnder_23 (by decide) ?_
  refine S_iload_n dX8_isUnder_4 rfl ?_
  refine S_bipush dX8_isUnder_5 (by decide) ?_
  refine S_icmp_ge 26 dX8_isUnder_7 (by decide) (by omega) (fun c_7 => absurd c_7 (by omega)) (fun c_7 => ?_)
  refine S_iload_n dX8_isUnder_10 rfl ?_
  refine S_iload_n dX8_isUnder_11 rfl ?_
  refine S_icmp_eq 26 dX8_isUnder_12 (by decide) (by omega) (fun c_12 => absurd c_12 (by omega)) (fun c_12 => ?_)
  refine S_iload_n dX8_isUnder_15 rfl ?_
  refine S_callS (mi := mi_X8_isUnder) [vI 0] ok_X8_above ml_X8_370 dX8_isUnder_16 (by decide) rfl (Nat.le_of_ble_eq_true rfl) rfl (c_above_0) ?_
  rintro v' M2 ⟨rfl, hM2⟩
  rw [hM2]
  clear hM2
  refine S_istore_n dX8_isUnder_19 (by decide) ?_
  refine S_iinc dX8_isUnder_20 rfl (by decide) ?_
  rw [show ((1 : Int) + 1) = 2 from rfl]
  refine S_goto 4 dX8_isUnder_23 (by decide) ?_
  refine S_iload_n dX8_isUnder_4 rfl ?_
  refine S_bipush dX8_isUnder_5 (by decide) ?_
  refine S_icmp_ge 26 dX8_isUnder_7 (by decide) (by omega) (fun c_7 => absurd c_7 (by omega)) (fun c_7 => ?_)
  refine S_iload_n dX8_isUnder_10 rfl ?_
  refine S_iload_n dX8_isUnder_11 rfl ?_
  refine S_icmp_eq 26 dX8_isUnder_12 (by decide) (by omega) (fun c_12 => absurd c_12 (by omega)) (fun c_12 => ?_)
  refine S_iload_n dX8_isUnder_15 rfl ?_
  refine S_callS (mi := mi_X8_isUnder) [vI ((-1))] ok_X8_above ml_X8_370 dX8_isUnder_16 (by decide) rfl (Nat.le_of_ble_eq_true rfl) rfl (c_above_m) ?_
  rintro v' M3 ⟨rfl, hM3⟩
  rw [hM3]
  clear hM3
  refine S_istore_n dX8_isUnder_19 (by decide) ?_
  refine S_iinc dX8_isUnder_20 rfl (by decide) ?_
  rw [show ((2 : Int) + 1) = 3 from rfl]
  refine S_goto 4 dX8_isUnder_23 (by decide) ?_
  refine S_iload_n dX8_isUnder_4 rfl ?_
  refine S_bipush dX8_isUnder_5 (by decide) ?_
  refine S_icmp_ge 26 dX8_isUnder_7 (by decide) (by omega) (fun c_7 => absurd c_7 (by omega)) (fun c_7 => ?_)
  refine S_iload_n dX8_isUnder_10 rfl ?_
  refine S_iload_n dX8_isUnder_11 rfl ?_
  refine S_icmp_eq 26 dX8_isUnder_12 (by decide) (by omega) (fun c_12 => absurd c_12 (by omega)) (fun c_12 => ?_)
  refine S_iload_n dX8_isUnder_15 rfl ?_
  refine S_callS (mi := mi_X8_isUnder) [vI ((-1))] ok_X8_above ml_X8_370 dX8_isUnder_16 (by decide) rfl (Nat.le_of_ble_eq_true rfl) rfl (c_above_m) ?_
  rintro v' M4 ⟨rfl, hM4⟩
  rw [hM4]
  clear hM4
  refine S_istore_n dX8_isUnder_19 (by decide) ?_
  refine S_iinc dX8_isUnder_20 rfl (by decide) ?_
  rw [show ((3 : Int) + 1) = 4 from rfl]
  refine S_goto 4 dX8_isUnder_23 (by decide) ?_
  refine S_iload_n dX8_isUnder_4 rfl ?_
  refine S_bipush dX8_isUnder_5 (by decide) ?_
  refine S_icmp_ge 26 dX8_isUnder_7 (by decide) (by omega) (fun c_7 => absurd c_7 (by omega)) (fun c_7 => ?_)
  refine S_iload_n dX8_isUnder_10 rfl ?_
  refine S_iload_n dX8_isUnder_11 rfl ?_
  refine S_icmp_eq 26 dX8_isUnder_12 (by decide) (by omega) (fun c_12 => absurd c_12 (by omega)) (fun c_12 => ?_)
  refine S_iload_n dX8_isUnder_15 rfl ?_
  refine S_callS (mi := mi_X8_isUnder) [vI ((-1))] ok_X8_above ml_X8_370 dX8_isUnder_16 (by decide) rfl (Nat.le_of_ble_eq_true rfl) rfl (c_above_m) ?_
  rintro v' M5 ⟨rfl, hM5⟩
  rw [hM5]
  clear hM5
  refine S_istore_n dX8_isUnder_19 (by decide) ?_
  refine S_iinc dX8_isUnder_20 rfl (by decide) ?_
  rw [show ((4 : Int) + 1) = 5 from rfl]
  refine S_goto 4 dX8_isUnder_23 (by decide) ?_
  refine S_iload_n dX8_isUnder_4 rfl ?_
  refine S_bipush dX8_isUnder_5 (by decide) ?_
  refine S_icmp_ge 26 dX8_isUnder_7 (by decide) (by omega) (fun c_7 => absurd c_7 (by omega)) (fun c_7 => ?_)
  refine S_iload_n dX8_isUnder_10 rfl ?_
  refine S_iload_n dX8_isUnder_11 rfl ?_
  refine S_icmp_eq 26 dX8_isUnder_12 (by decide) (by omega) (fun c_12 => absurd c_12 (by omega)) (fun c_12 => ?_)
  refine S_iload_n dX8_isUnder_15 rfl ?_
  refine S_callS (mi := mi_X8_isUnder) [vI ((-1))] ok_X8_above ml_X8_370 dX8_isUnder_16 (by decide) rfl (Nat.le_of_ble_eq_true rfl) rfl (c_above_m) ?_
  rintro v' M6 ⟨rfl, hM6⟩
  rw [hM6]
  clear hM6
  refine S_istore_n dX8_isUnder_19 (by decide) ?_
  refine S_iinc dX8_isUnder_20 rfl (by decide) ?_
  rw [show ((5 : Int) + 1) = 6 from rfl]
  refine S_goto 4 dX8_isUnder_23 (by decide) ?_
  refine S_iload_n dX8_isUnder_4 rfl ?_
  refine S_bipush dX8_isUnder_5 (by decide) ?_
  refine S_icmp_ge 26 dX8_isUnder_7 (by decide) (by omega) (fun c_7 => ?_) (fun c_7 => absurd c_7 (by omega))
  refine S_iload_n dX8_isUnder_26 rfl ?_
  refine S_iload_n dX8_isUnder_27 rfl ?_
  refine S_icmp_ne 35 dX8_isUnder_28 (by decide) (by omega) (fun c_28 => ?_) (fun c_28 => absurd c_28 (by omega))
  refine S_iconst dX8_isUnder_35 ?_
  exact S_iret dX8_isUnder_36 rfl (Or.inr ⟨rfl, by omega⟩) ⟨rfl, rfl⟩
set_option maxRecDepth 100000 in
theorem c_isUnder_4_0 {G : Ge} {M : Mem}  : Ct G mi_X8_isUnder [vI 4, vI 0] M (fun v' M' => v' = some (vI (1)) ∧ M' = M) := by
  refine Ct.of pl_X8_isUnder [some (vI 4), some (vI 0), none, none] rfl (Nat.le_of_ble_eq_true rfl) ?_
  refine S_iload_n dX8_isUnder_0 rfl ?_
  refine S_istore_n dX8_isUnder_1 (by decide) ?_
  refine S_iconst dX8_isUnder_2 ?_
  refine S_istore_n dX8_isUnder_3 (by decide) ?_
  refine S_iload_n dX8_isUnder_4 rfl ?_
  refine S_bipush dX8_isUnder_5 (by decide) ?_
  refine S_icmp_ge 26 dX8_isUnder_7 (by decide) (by omega) (fun c_7 => absurd c_7 (by omega)) (fun c_7 => ?_)
  refine S_iload_n dX8_isUnder_10 rfl ?_
  refine S_iload_n dX8_isUnder_11 rfl ?_
  refine S_icmp_eq 26 dX8_isUnder_12 (by decide) (by omega) (fun c_12 => absurd c_12 (by omega)) (fun c_12 => ?_)
  refine S_iload_n dX8_isUnder_15 rfl ?_
  refine S_callS (mi := mi_X8_isUnder) [vI 4] ok_X8_above ml_X8_370 dX8_isUnder_16 (by decide) rfl (Nat.le_of_ble_eq_true rfl) rfl (c_above_4) ?_
  rintro v' M1 ⟨rfl, hM1⟩
  rw [hM1]
  clear hM1
  refine S_istore_n dX8_isUnder_19 (by decide) ?_
  refine S_iinc dX8_isUnder_20 rfl (by decide) ?_
  rw [show ((0 : Int) + 1) = 1 from rfl]
  refine S_goto 4 dX8_isUnder_23 (by decide) ?_
  refine S_iload_n dX8_isUnder_4 rfl ?_
  refine S_bipush dX8_isUnder_5 (by decide) ?_
  refine S_icmp_ge 26 dX8_isUnder_7 (by decide) (by omega) (fun c_7 => absurd c_7 (by omega)) (fun c_7 => ?_)
  refine S_iload_n dX8_isUnder_10 rfl ?_
  refine S_iload_n dX8_isUnder_11 rfl ?_
  refine S_icmp_eq 26 dX8_isUnder_12 (by decide) (by omega) (fun c_12 => ?_) (fun c_12 => absurd c_12 (by omega))
  refine S_iload_n dX8_isUnder_26 rfl ?_
  refine S_iload_n dX8_isUnder_27 rfl ?_
  refine S_icmp_ne 35 dX8_isUnder_28 (by decide) (by omega) (fun c_28 => absurd c_28 (by omega)) (fun c_28 => ?_)
  refine S_iconst dX8_isUnder_31 ?_
  refine S_goto 36 dX8_isUnder_32 (by decide) ?_
  exact S_iret dX8_isUnder_36 rfl (Or.inr ⟨rfl, by omega⟩) ⟨rfl, rfl⟩
set_option maxRecDepth 100000 in
theorem c_isUnder_4_1 {G : Ge} {M : Mem}  : Ct G mi_X8_isUnder [vI 4, vI 1] M (fun v' M' => v' = some (vI (0)) ∧ M' = M) := by
  refine Ct.of pl_X8_isUnder [some (vI 4), some (vI 1), none, none] rfl (Nat.le_of_ble_eq_true rfl) ?_
  refine S_iload_n dX8_isUnder_0 rfl ?_
  refine S_istore_n dX8_isUnder_1 (by decide) ?_
  refine S_iconst dX8_isUnder_2 ?_
  refine S_istore_n dX8_isUnder_3 (by decide) ?_
  refine S_iload_n dX8_isUnder_4 rfl ?_
  refine S_bipush dX8_isUnder_5 (by decide) ?_
  refine S_icmp_ge 26 dX8_isUnder_7 (by decide) (by omega) (fun c_7 => absurd c_7 (by omega)) (fun c_7 => ?_)
  refine S_iload_n dX8_isUnder_10 rfl ?_
  refine S_iload_n dX8_isUnder_11 rfl ?_
  refine S_icmp_eq 26 dX8_isUnder_12 (by decide) (by omega) (fun c_12 => absurd c_12 (by omega)) (fun c_12 => ?_)
  refine S_iload_n dX8_isUnder_15 rfl ?_
  refine S_callS (mi := mi_X8_isUnder) [vI 4] ok_X8_above ml_X8_370 dX8_isUnder_16 (by decide) rfl (Nat.le_of_ble_eq_true rfl) rfl (c_above_4) ?_
  rintro v' M1 ⟨rfl, hM1⟩
  rw [hM1]
  clear hM1
  refine S_istore_n dX8_isUnder_19 (by decide) ?_
  refine S_iinc dX8_isUnder_20 rfl (by decide) ?_
  rw [show ((0 : Int) + 1) = 1 from rfl]
  refine S_goto 4 dX8_isUnder_23 (by decide) ?_
  refine S_iload_n dX8_isUnder_4 rfl ?_
  refine S_bipush dX8_isUnder_5 (by decide) ?_
  refine S_icmp_ge 26 dX8_isUnder_7 (by decide) (by omega) (fun c_7 => absurd c_7 (by omega)) (fun c_7 => ?_)
  refine S_iload_n dX8_isUnder_10 rfl ?_
  refine S_iload_n dX8_isUnder_11 rfl ?_
  refine S_icmp_eq 26 dX8_isUnder_12 (by decide) (by omega) (fun c_12 => absurd c_12 (by omega)) (fun c_12 => ?_)
  refine S_iload_n dX8_isUnder_15 rfl ?_
  refine S_callS (mi := mi_X8_isUnder) [vI 0] ok_X8_above ml_X8_370 dX8_isUnder_16 (by decide) rfl (Nat.le_of_ble_eq_true rfl) rfl (c_above_0) ?_
  rintro v' M2 ⟨rfl, hM2⟩
  rw [hM2]
  clear hM2
  refine S_istore_n dX8_isUnder_19 (by decide) ?_
  refine S_iinc dX8_isUnder_20 rfl (by decide) ?_
  rw [show ((1 : Int) + 1) = 2 from rfl]
  refine S_goto 4 dX8_isUnder_23 (by decide) ?_
  refine S_iload_n dX8_isUnder_4 rfl ?_
  refine S_bipush dX8_isUnder_5 (by decide) ?_
  refine S_icmp_ge 26 dX8_isUnder_7 (by decide) (by omega) (fun c_7 => absurd c_7 (by omega)) (fun c_7 => ?_)
  refine S_iload_n dX8_isUnder_10 rfl ?_
  refine S_iload_n dX8_isUnder_11 rfl ?_
  refine S_icmp_eq 26 dX8_isUnder_12 (by decide) (by omega) (fun c_12 => absurd c_12 (by omega)) (fun c_12 => ?_)
  refine S_iload_n dX8_isUnder_15 rfl ?_
  refine S_callS (mi := mi_X8_isUnder) [vI ((-1))] ok_X8_above ml_X8_370 dX8_isUnder_16 (by decide) rfl (Nat.le_of_ble_eq_true rfl) rfl (c_above_m) ?_
  rintro v' M3 ⟨rfl, hM3⟩
  rw [hM3]
  clear hM3
  refine S_istore_n dX8_isUnder_19 (by decide) ?_
  refine S_iinc dX8_isUnder_20 rfl (by decide) ?_
  rw [show ((2 : Int) + 1) = 3 from rfl]
  refine S_goto 4 dX8_isUnder_23 (by decide) ?_
  refine S_iload_n dX8_isUnder_4 rfl ?_
  refine S_bipush dX8_isUnder_5 (by decide) ?_
  refine S_icmp_ge 26 dX8_isUnder_7 (by decide) (by omega) (fun c_7 => absurd c_7 (by omega)) (fun c_7 => ?_)
  refine S_iload_n dX8_isUnder_10 rfl ?_
  refine S_iload_n dX8_isUnder_11 rfl ?_
  refine S_icmp_eq 26 dX8_isUnder_12 (by decide) (by omega) (fun c_12 => absurd c_12 (by omega)) (fun c_12 => ?_)
  refine S_iload_n dX8_isUnder_15 rfl ?_
  refine S_callS (mi := mi_X8_isUnder) [vI ((-1))] ok_X8_above ml_X8_370 dX8_isUnder_16 (by decide) rfl (Nat.le_of_ble_eq_true rfl) rfl (c_above_m) ?_
  rintro v' M4 ⟨rfl, hM4⟩
  rw [hM4]
  clear hM4
  refine S_istore_n dX8_isUnder_19 (by decide) ?_
  refine S_iinc dX8_isUnder_20 rfl (by decide) ?_
  rw [show ((3 : Int) + 1) = 4 from rfl]
  refine S_goto 4 dX8_isUnder_23 (by decide) ?_
  refine S_iload_n dX8_isUnder_4 rfl ?_
  refine S_bipush dX8_isUnder_5 (by decide) ?_
  refine S_icmp_ge 26 dX8_isUnder_7 (by decide) (by omega) (fun c_7 => absurd c_7 (by omega)) (fun c_7 => ?_)
  refine S_iload_n dX8_isUnder_10 rfl ?_
  refine S_iload_n dX8_isUnder_11 rfl ?_
  refine S_icmp_eq 26 dX8_isUnder_12 (by decide) (by omega) (fun c_12 => absurd c_12 (by omega)) (fun c_12 => ?_)
  refine S_iload_n dX8_isUnder_15 rfl ?_
  refine S_callS (mi := mi_X8_isUnder) [vI ((-1))] ok_X8_above ml_X8_370 dX8_isUnder_16 (by decide) rfl (Nat.le_of_ble_eq_true rfl) rfl (c_above_m) ?_
  rintro v' M5 ⟨rfl, hM5⟩
  rw [hM5]
  clear hM5
  refine S_istore_n dX8_isUnder_19 (by decide) ?_
  refine S_iinc dX8_isUnder_20 rfl (by decide) ?_
  rw [show ((4 : Int) + 1) = 5 from rfl]
  refine S_goto 4 dX8_isUnder_23 (by decide) ?_
  refine S_iload_n dX8_isUnder_4 rfl ?_
  refine S_bipush dX8_isUnder_5 (by decide) ?_
  refine S_icmp_ge 26 dX8_isUnder_7 (by decide) (by omega) (fun c_7 => absurd c_7 (by omega)) (fun c_7 => ?_)
  refine S_iload_n dX8_isUnder_10 rfl ?_
  refine S_iload_n dX8_isUnder_11 rfl ?_
  refine S_icmp_eq 26 dX8_isUnder_12 (by decide) (by omega) (fun c_12 => absurd c_12 (by omega)) (fun c_12 => ?_)
  refine S_iload_n dX8_isUnder_15 rfl ?_
  refine S_callS (mi := mi_X8_isUnder) [vI ((-1))] ok_X8_above ml_X8_370 dX8_isUnder_16 (by decide) rfl (Nat.le_of_ble_eq_true rfl) rfl (c_above_m) ?_
  rintro v' M6 ⟨rfl, hM6⟩
  rw [hM6]
  clear hM6
  refine S_istore_n dX8_isUnder_19 (by decide) ?_
  refine S_iinc dX8_isUnder_20 rfl (by decide) ?_
  rw [show ((5 : Int) + 1) = 6 from rfl]
  refine S_goto 4 dX8_isUnder_23 (by decide) ?_
  refine S_iload_n dX8_isUnder_4 rfl ?_
  refine S_bipush dX8_isUnder_5 (by decide) ?_
  refine S_icmp_ge 26 dX8_isUnder_7 (by decide) (by omega) (fun c_7 => ?_) (fun c_7 => absurd c_7 (by omega))
  refine S_iload_n dX8_isUnder_26 rfl ?_
  refine S_iload_n dX8_isUnder_27 rfl ?_
  refine S_icmp_ne 35 dX8_isUnder_28 (by decide) (by omega) (fun c_28 => ?_) (fun c_28 => absurd c_28 (by omega))
  refine S_iconst dX8_isUnder_35 ?_
  exact S_iret dX8_isUnder_36 rfl (Or.inr ⟨rfl, by omega⟩) ⟨rfl, rfl⟩
set_option maxRecDepth 100000 in
theorem c_isUnder_4_2 {G : Ge} {M : Mem}  : Ct G mi_X8_isUnder [vI 4, vI 2] M (fun v' M' => v' = some (vI (0)) ∧ M' = M) := by
  refine Ct.of pl_X8_isUnder [some (vI 4), some (vI 2), none, none] rfl (Nat.le_of_ble_eq_true rfl) ?_
  refine S_iload_n dX8_isUnder_0 rfl ?_
  refine S_istore_n dX8_isUnder_1 (by decide) ?_
  refine S_iconst dX8_isUnder_2 ?_
  refine S_istore_n dX8_isUnder_3 (by decide) ?_
  refine S_iload_n dX8_isUnder_4 rfl ?_
  refine S_bipush dX8_isUnder_5 (by decide) ?_
  refine S_icmp_ge 26 dX8_isUnder_7 (by decide) (by omega) (fun c_7 => absurd c_7 (by omega)) (fun c_7 => ?_)
  refine S_iload_n dX8_isUnder_10 rfl ?_
  refine S_iload_n dX8_isUnder_11 rfl ?_
  refine S_icmp_eq 26 dX8_isUnder_12 (by decide) (by omega) (fun c_12 => absurd c_12 (by omega)) (fun c_12 => ?_)
  refine S_iload_n dX8_isUnder_15 rfl ?_
  refine S_callS (mi := mi_X8_isUnder) [vI 4] ok_X8_above ml_X8_370 dX8_isUnder_16 (by decide) rfl (Nat.le_of_ble_eq_true rfl) rfl (c_above_4) ?_
  rintro v' M1 ⟨rfl, hM1⟩
  rw [hM1]
  clear hM1
  refine S_istore_n dX8_isUnder_19 (by decide) ?_
  refine S_iinc dX8_isUnder_20 rfl (by decide) ?_
  rw [show ((0 : Int) + 1) = 1 from rfl]
  refine S_goto 4 dX8_isUnder_23 (by decide) ?_
  refine S_iload_n dX8_isUnder_4 rfl ?_
  refine S_bipush dX8_isUnder_5 (by decide) ?_
  refine S_icmp_ge 26 dX8_isUnder_7 (by decide) (by omega) (fun c_7 => absurd c_7 (by omega)) (fun c_7 => ?_)
  refine S_iload_n dX8_isUnder_10 rfl ?_
  refine S_iload_n dX8_isUnder_11 rfl ?_
  refine S_icmp_eq 26 dX8_isUnder_12 (by decide) (by omega) (fun c_12 => absurd c_12 (by omega)) (fun c_12 => ?_)
  refine S_iload_n dX8_isUnder_15 rfl ?_
  refine S_callS (mi := mi_X8_isUnder) [vI 0] ok_X8_above ml_X8_370 dX8_isUnder_16 (by decide) rfl (Nat.le_of_ble_eq_true rfl) rfl (c_above_0) ?_
  rintro v' M2 ⟨rfl, hM2⟩
  rw [hM2]
  clear hM2
  refine S_istore_n dX8_isUnder_19 (by decide) ?_
  refine S_iinc dX8_isUnder_20 rfl (by decide) ?_
  rw [show ((1 : Int) + 1) = 2 from rfl]
  refine S_goto 4 dX8_isUnder_23 (by decide) ?_
  refine S_iload_n dX8_isUnder_4 rfl ?_
  refine S_bipush dX8_isUnder_5 (by decide) ?_
  refine S_icmp_ge 26 dX8_isUnder_7 (by decide) (by omega) (fun c_7 => absurd c_7 (by omega)) (fun c_7 => ?_)
  refine S_iload_n dX8_isUnder_10 rfl ?_
  refine S_iload_n dX8_isUnder_11 rfl ?_
  refine S_icmp_eq 26 dX8_isUnder_12 (by decide) (by omega) (fun c_12 => absurd c_12 (by omega)) (fun c_12 => ?_)
  refine S_iload_n dX8_isUnder_15 rfl ?_
  refine S_callS (mi := mi_X8_isUnder) [vI ((-1))] ok_X8_above ml_X8_370 dX8_isUnder_16 (by decide) rfl (Nat.le_of_ble_eq_true rfl) rfl (c_above_m) ?_
  rintro v' M3 ⟨rfl, hM3⟩
  rw [hM3]
  clear hM3
  refine S_istore_n dX8_isUnder_19 (by decide) ?_
  refine S_iinc dX8_isUnder_20 rfl (by decide) ?_
  rw [show ((2 : Int) + 1) = 3 from rfl]
  refine S_goto 4 dX8_isUnder_23 (by decide) ?_
  refine S_iload_n dX8_isUnder_4 rfl ?_
  refine S_bipush dX8_isUnder_5 (by decide) ?_
  refine S_icmp_ge 26 dX8_isUnder_7 (by decide) (by omega) (fun c_7 => absurd c_7 (by omega)) (fun c_7 => ?_)
  refine S_iload_n dX8_isUnder_10 rfl ?_
  refine S_iload_n dX8_isUnder_11 rfl ?_
  refine S_icmp_eq 26 dX8_isUnder_12 (by decide) (by omega) (fun c_12 => absurd c_12 (by omega)) (fun c_12 => ?_)
  refine S_iload_n dX8_isUnder_15 rfl ?_
  refine S_callS (mi := mi_X8_isUnder) [vI ((-1))] ok_X8_above ml_X8_370 dX8_isUnder_16 (by decide) rfl (Nat.le_of_ble_eq_true rfl) rfl (c_above_m) ?_
  rintro v' M4 ⟨rfl, hM4⟩
  rw [hM4]
  clear hM4
  refine S_istore_n dX8_isUnder_19 (by decide) ?_
  refine S_iinc dX8_isUnder_20 rfl (by decide) ?_
  rw [show ((3 : Int) + 1) = 4 from rfl]
  refine S_goto 4 dX8_isUnder_23 (by decide) ?_
  refine S_iload_n dX8_isUnder_4 rfl ?_
  refine S_bipush dX8_isUnder_5 (by decide) ?_
  refine S_icmp_ge 26 dX8_isUnder_7 (by decide) (by omega) (fun c_7 => absurd c_7 (by omega)) (fun c_7 => ?_)
  refine S_iload_n dX8_isUnder_10 rfl ?_
  refine S_iload_n dX8_isUnder_11 rfl ?_
  refine S_icmp_eq 26 dX8_isUnder_12 (by decide) (by omega) (fun c_12 => absurd c_12 (by omega)) (fun c_12 => ?_)
  refine S_iload_n dX8_isUnder_15 rfl ?_
  refine S_callS (mi := mi_X8_isUnder) [vI ((-1))] ok_X8_above ml_X8_370 dX8_isUnder_16 (by decide) rfl (Nat.le_of_ble_eq_true rfl) rfl (c_above_m) ?_
  rintro v' M5 ⟨rfl, hM5⟩
  rw [hM5]
  clear hM5
  refine S_istore_n dX8_isUnder_19 (by decide) ?_
  refine S_iinc dX8_isUnder_20 rfl (by decide) ?_
  rw [show ((4 : Int) + 1) = 5 from rfl]
  refine S_goto 4 dX8_isUnder_23 (by decide) ?_
  refine S_iload_n dX8_isUnder_4 rfl ?_
  refine S_bipush dX8_isUnder_5 (by decide) ?_
  refine S_icmp_ge 26 dX8_isUnder_7 (by decide) (by omega) (fun c_7 => absurd c_7 (by omega)) (fun c_7 => ?_)
  refine S_iload_n dX8_isUnder_10 rfl ?_
  refine S_iload_n dX8_isUnder_11 rfl ?_
  refine S_icmp_eq 26 dX8_isUnder_12 (by decide) (by omega) (fun c_12 => absurd c_12 (by omega)) (fun c_12 => ?_)
  refine S_iload_n dX8_isUnder_15 rfl ?_
  refine S_callS (mi := mi_X8_isUnder) [vI ((-1))] ok_X8_above ml_X8_370 dX8_isUnder_16 (by decide) rfl (Nat.le_of_ble_eq_true rfl) rfl (c_above_m) ?_
  rintro v' M6 ⟨rfl, hM6⟩
  rw [hM6]
  clear hM6
  refine S_istore_n dX8_isUnder_19 (by decide) ?_
  refine S_iinc dX8_isUnder_20 rfl (by decide) ?_
  rw [show ((5 : Int) + 1) = 6 from rfl]
  refine S_goto 4 dX8_isUnder_23 (by decide) ?_
  refine S_iload_n dX8_isUnder_4 rfl ?_
  refine S_bipush dX8_isUnder_5 (by decide) ?_
  refine S_icmp_ge 26 dX8_isUnder_7 (by decide) (by omega) (fun c_7 => ?_) (fun c_7 => absurd c_7 (by omega))
  refine S_iload_n dX8_isUnder_26 rfl ?_
  refine S_iload_n dX8_isUnder_27 rfl ?_
  refine S_icmp_ne 35 dX8_isUnder_28 (by decide) (by omega) (fun c_28 => ?_) (fun c_28 => absurd c_28 (by omega))
  refine S_iconst dX8_isUnder_35 ?_
  exact S_iret dX8_isUnder_36 rfl (Or.inr ⟨rfl, by omega⟩) ⟨rfl, rfl⟩
set_option maxRecDepth 100000 in
theorem c_isUnder_4_3 {G : Ge} {M : Mem}  : Ct G mi_X8_isUnder [vI 4, vI 3] M (fun v' M' => v' = some (vI (0)) ∧ M' = M) := by
  refine Ct.of pl_X8_isUnder [some (vI 4), some (vI 3), none, none] rfl (Nat.le_of_ble_eq_true rfl) ?_
  refine S_iload_n dX8_isUnder_0 rfl ?_
  refine S_istore_n dX8_isUnder_1 (by decide) ?_
  refine S_iconst dX8_isUnder_2 ?_
  refine S_istore_n dX8_isUnder_3 (by decide) ?_
  refine S_iload_n dX8_isUnder_4 rfl ?_
  refine S_bipush dX8_isUnder_5 (by decide) ?_
  refine S_icmp_ge 26 dX8_isUnder_7 (by decide) (by omega) (fun c_7 => absurd c_7 (by omega)) (fun c_7 => ?_)
  refine S_iload_n dX8_isUnder_10 rfl ?_
  refine S_iload_n dX8_isUnder_11 rfl ?_
  refine S_icmp_eq 26 dX8_isUnder_12 (by decide) (by omega) (fun c_12 => absurd c_12 (by omega)) (fun c_12 => ?_)
  refine S_iload_n dX8_isUnder_15 rfl ?_
  refine S_callS (mi := mi_X8_isUnder) [vI 4] ok_X8_above ml_X8_370 dX8_isUnder_16 (by decide) rfl (Nat.le_of_ble_eq_true rfl) rfl (c_above_4) ?_
  rintro v' M1 ⟨rfl, hM1⟩
  rw [hM1]
  clear hM1
  refine S_istore_n dX8_isUnder_19 (by decide) ?_
  refine S_iinc dX8_isUnder_20 rfl (by decide) ?_
  rw [show ((0 : Int) + 1) = 1 from rfl]
  refine S_goto 4 dX8_isUnder_23 (by decide) ?_
  refine S_iload_n dX8_isUnder_4 rfl ?_
  refine S_bipush dX8_isUnder_5 (by decide) ?_
  refine S_icmp_ge 26 dX8_isUnder_7 (by decide) (by omega) (fun c_7 => absurd c_7 (by omega)) (fun c_7 => ?_)
  refine S_iload_n dX8_isUnder_10 rfl ?_
  refine S_iload_n dX8_isUnder_11 rfl ?_
  refine S_icmp_eq 26 dX8_isUnder_12 (by decide) (by omega) (fun c_12 => absurd c_12 (by omega)) (fun c_12 => ?_)
  refine S_iload_n dX8_isUnder_15 rfl ?_
  refine S_callS (mi := mi_X8_isUnder) [vI 0] ok_X8_above ml_X8_370 dX8_isUnder_16 (by decide) rfl (Nat.le_of_ble_eq_true rfl) rfl (c_above_0) ?_
  rintro v' M2 ⟨rfl, hM2⟩
  rw [hM2]
  clear hM2
  refine S_istore_n dX8_isUnder_19 (by decide) ?_
  refine S_iinc dX8_isUnder_20 rfl (by decide) ?_
  rw [show ((1 : Int) + 1) = 2 from rfl]
  refine S_goto 4 dX8_isUnder_23 (by decide) ?_
  refine S_iload_n dX8_isUnder_4 rfl ?_
  refine S_bipush dX8_isUnder_5 (by decide) ?_
  refine S_icmp_ge 26 dX8_isUnder_7 (by decide) (by omega) (fun c_7 => absurd c_7 (by omega)) (fun c_7 => ?_)
  refine S_iload_n dX8_isUnder_10 rfl ?_
  refine S_iload_n dX8_isUnder_11 rfl ?_
  refine S_icmp_eq 26 dX8_isUnder_12 (by decide) (by omega) (fun c_12 => absurd c_12 (by omega)) (fun c_12 => ?_)
  refine S_iload_n dX8_isUnder_15 rfl ?_
  refine S_callS (mi := mi_X8_isUnder) [vI ((-1))] ok_X8_above ml_X8_370 dX8_isUnder_16 (by decide) rfl (Nat.le_of_ble_eq_true rfl) rfl (c_above_m) ?_
  rintro v' M3 ⟨rfl, hM3⟩
  rw [hM3]
  clear hM3
  refine S_istore_n dX8_isUnder_19 (by decide) ?_
  refine S_iinc dX8_isUnder_20 rfl (by decide) ?_
  rw [show ((2 : Int) + 1) = 3 from rfl]
  refine S_goto 4 dX8_isUnder_23 (by decide) ?_
  refine S_iload_n dX8_isUnder_4 rfl ?_
  refine S_bipush dX8_isUnder_5 (by decide) ?_
  refine S_icmp_ge 26 dX8_isUnder_7 (by decide) (by omega) (fun c_7 => absurd c_7 (by omega)) (fun c_7 => ?_)
  refine S_iload_n dX8_isUnder_10 rfl ?_
  refine S_iload_n dX8_isUnder_11 rfl ?_
  refine S_icmp_eq 26 dX8_isUnder_12 (by decide) (by omega) (fun c_12 => absurd c_12 (by omega)) (fun c_12 => ?_)
  refine S_iload_n dX8_isUnder_15 rfl ?_
  refine S_callS (mi := mi_X8_isUnder) [vI ((-1))] ok_X8_above ml_X8_370 dX8_isUnder_16 (by decide) rfl (Nat.le_of_ble_eq_true rfl) rfl (c_above_m) ?_
  rintro v' M4 ⟨rfl, hM4⟩
  rw [hM4]
  clear hM4
  refine S_istore_n dX8_isUnder_19 (by decide) ?_
  refine S_iinc dX8_isUnder_20 rfl (by decide) ?_
  rw [show ((3 : Int) + 1) = 4 from rfl]
  refine S_goto 4 dX8_isUnder_23 (by decide) ?_
  refine S_iload_n dX8_isUnder_4 rfl ?_
  refine S_bipush dX8_isUnder_5 (by decide) ?_
  refine S_icmp_ge 26 dX8_isUnder_7 (by decide) (by omega) (fun c_7 => absurd c_7 (by omega)) (fun c_7 => ?_)
  refine S_iload_n dX8_isUnder_10 rfl ?_
  refine S_iload_n dX8_isUnder_11 rfl ?_
  refine S_icmp_eq 26 dX8_isUnder_12 (by decide) (by omega) (fun c_12 => absurd c_12 (by omega)) (fun c_12 => ?_)
  refine S_iload_n dX8_isUnder_15 rfl ?_
  refine S_callS (mi := mi_X8_isUnder) [vI ((-1))] ok_X8_above ml_X8_370 dX8_isUnder_16 (by decide) rfl (Nat.le_of_ble_eq_true rfl) rfl (c_above_m) ?_
  rintro v' M5 ⟨rfl, hM5⟩
  rw [hM5]
  clear hM5
  refine S_istore_n dX8_isUnder_19 (by decide) ?_
  refine S_iinc dX8_isUnder_20 rfl (by decide) ?_
  rw [show ((4 : Int) + 1) = 5 from rfl]
  refine S_goto 4 dX8_isUnder_23 (by decide) ?_
  refine S_iload_n dX8_isUnder_4 rfl ?_
  refine S_bipush dX8_isUnder_5 (by decide) ?_
  refine S_icmp_ge 26 dX8_isUnder_7 (by decide) (by omega) (fun c_7 => absurd c_7 (by omega)) (fun c_7 => ?_)
  refine S_iload_n dX8_isUnder_10 rfl ?_
  refine S_iload_n dX8_isUnder_11 rfl ?_
  refine S_icmp_eq 26 dX8_isUnder_12 (by decide) (by omega) (fun c_12 => absurd c_12 (by omega)) (fun c_12 => ?_)
  refine S_iload_n dX8_isUnder_15 rfl ?_
  refine S_callS (mi := mi_X8_isUnder) [vI ((-1))] ok_X8_above ml_X8_370 dX8_isUnder_16 (by decide) rfl (Nat.le_of_ble_eq_true rfl) rfl (c_above_m) ?_
  rintro v' M6 ⟨rfl, hM6⟩
  rw [hM6]
  clear hM6
  refine S_istore_n dX8_isUnder_19 (by decide) ?_
  refine S_iinc dX8_isUnder_20 rfl (by decide) ?_
  rw [show ((5 : Int) + 1) = 6 from rfl]
  refine S_goto 4 dX8_isUnder_23 (by decide) ?_
  refine S_iload_n dX8_isUnder_4 rfl ?_
  refine S_bipush dX8_isUnder_5 (by decide) ?_
  refine S_icmp_ge 26 dX8_isUnder_7 (by decide) (by omega) (fun c_7 => ?_) (fun c_7 => absurd c_7 (by omega))
  refine S_iload_n dX8_isUnder_26 rfl ?_
  refine S_iload_n dX8_isUnder_27 rfl ?_
  refine S_icmp_ne 35 dX8_isUnder_28 (by decide) (by omega) (fun c_28 => ?_) (fun c_28 => absurd c_28 (by omega))
  refine S_iconst dX8_isUnder_35 ?_
  exact S_iret dX8_isUnder_36 rfl (Or.inr ⟨rfl, by omega⟩) ⟨rfl, rfl⟩
set_option maxRecDepth 100000 in
theorem c_isUnder_4_4 {G : Ge} {M : Mem}  : Ct G mi_X8_isUnder [vI 4, vI 4] M (fun v' M' => v' = some (vI (1)) ∧ M' = M) := by
  refine Ct.of pl_X8_isUnder [some (vI 4), some (vI 4), none, none] rfl (Nat.le_of_ble_eq_true rfl) ?_
  refine S_iload_n dX8_isUnder_0 rfl ?_
  refine S_istore_n dX8_isUnder_1 (by decide) ?_
  refine S_iconst dX8_isUnder_2 ?_
  refine S_istore_n dX8_isUnder_3 (by decide) ?_
  refine S_iload_n dX8_isUnder_4 rfl ?_
  refine S_bipush dX8_isUnder_5 (by decide) ?_
  refine S_icmp_ge 26 dX8_isUnder_7 (by decide) (by omega) (fun c_7 => absurd c_7 (by omega)) (fun c_7 => ?_)
  refine S_iload_n dX8_isUnder_10 rfl ?_
  refine S_iload_n dX8_isUnder_11 rfl ?_
  refine S_icmp_eq 26 dX8_isUnder_12 (by decide) (by omega) (fun c_12 => ?_) (fun c_12 => absurd c_12 (by omega))
  refine S_iload_n dX8_isUnder_26 rfl ?_
  refine S_iload_n dX8_isUnder_27 rfl ?_
  refine S_icmp_ne 35 dX8_isUnder_28 (by decide) (by omega) (fun c_28 => absurd c_28 (by omega)) (fun c_28 => ?_)
  refine S_iconst dX8_isUnder_31 ?_
  refine S_goto 36 dX8_isUnder_32 (by decide) ?_
  exact S_iret dX8_isUnder_36 rfl (Or.inr ⟨rfl, by omega⟩) ⟨rfl, rfl⟩
set_option maxRecDepth 100000 in
theorem c_isUnder_4_5 {G : Ge} {M : Mem}  : Ct G mi_X8_isUnder [vI 4, vI 5] M (fun v' M' => v' = some (vI (0)) ∧ M' = M) := by
  refine Ct.of pl_X8_isUnder [some (vI 4), some (vI 5), none, none] rfl (Nat.le_of_ble_eq_true rfl) ?_
  refine S_iload_n dX8_isUnder_0 rfl ?_
  refine S_istore_n dX8_isUnder_1 (by decide) ?_
  refine S_iconst dX8_isUnder_2 ?_
  refine S_istore_n dX8_isUnder_3 (by decide) ?_
  refine S_iload_n dX8_isUnder_4 rfl ?_
  refine S_bipush dX8_isUnder_5 (by decide) ?_
  refine S_icmp_ge 26 dX8_isUnder_7 (by decide) (by omega) (fun c_7 => absurd c_7 (by omega)) (fun c_7 => ?_)
  refine S_iload_n dX8_isUnder_10 rfl ?_
  refine S_iload_n dX8_isUnder_11 rfl ?_
  refine S_icmp_eq 26 dX8_isUnder_12 (by decide) (by omega) (fun c_12 => absurd c_12 (by omega)) (fun c_12 => ?_)
  refine S_iload_n dX8_isUnder_15 rfl ?_
  refine S_callS (mi := mi_X8_isUnder) [vI 4] ok_X8_above ml_X8_370 dX8_isUnder_16 (by decide) rfl (Nat.le_of_ble_eq_true rfl) rfl (c_above_4) ?_
  rintro v' M1 ⟨rfl, hM1⟩
  rw [hM1]
  clear hM1
  refine S_istore_n dX8_isUnder_19 (by decide) ?_
  refine S_iinc dX8_isUnder_20 rfl (by decide) ?_
  rw [show ((0 : Int) + 1) = 1 from rfl]
  refine S_goto 4 dX8_isUnder_23 (by decide) ?_
  refine S_iload_n dX8_isUnder_4 rfl ?_
  refine S_bipush dX8_isUnder_5 (by decide) ?_
  refine S_icmp_ge 26 dX8_isUnder_7 (by decide) (by omega) (fun c_7 => absurd c_7 (by omega)) (fun c_7 => ?_)
  refine S_iload_n dX8_isUnder_10 rfl ?_
  refine S_iload_n dX8_isUnder_11 rfl ?_
  refine S_icmp_eq 26 dX8_isUnder_12 (by decide) (by omega) (fun c_12 => absurd c_12 (by omega)) (fun c_12 => ?_)
  refine S_iload_n dX8_isUnder_15 rfl ?_
  refine S_callS (mi := mi_X8_isUnder) [vI 0] ok_X8_above ml_X8_370 dX8_isUnder_16 (by decide) rfl (Nat.le_of_ble_eq_true rfl) rfl (c_above_0) ?_
  rintro v' M2 ⟨rfl, hM2⟩
  rw [hM2]
  clear hM2
  refine S_istore_n dX8_isUnder_19 (by decide) ?_
  refine S_iinc dX8_isUnder_20 rfl (by decide) ?_
  rw [show ((1 : Int) + 1) = 2 from rfl]
  refine S_goto 4 dX8_isUnder_23 (by decide) ?_
  refine S_iload_n dX8_isUnder_4 rfl ?_
  refine S_bipush dX8_isUnder_5 (by decide) ?_
  refine S_icmp_ge 26 dX8_isUnder_7 (by decide) (by omega) (fun c_7 => absurd c_7 (by omega)) (fun c_7 => ?_)
  refine S_iload_n dX8_isUnder_10 rfl ?_
  refine S_iload_n dX8_isUnder_11 rfl ?_
  refine S_icmp_eq 26 dX8_isUnder_12 (by decide) (by omega) (fun c_12 => absurd c_12 (by omega)) (fun c_12 => ?_)
  refine S_iload_n dX8_isUnder_15 rfl ?_
  refine S_callS (mi := mi_X8_isUnder) [vI ((-1))] ok_X8_above ml_X8_370 dX8_isUnder_16 (by decide) rfl (Nat.le_of_ble_eq_true rfl) rfl (c_above_m) ?_
  rintro v' M3 ⟨rfl, hM3⟩
  rw [hM3]
  clear hM3
  refine S_istore_n dX8_isUnder_19 (by decide) ?_
  refine S_iinc dX8_isUnder_20 rfl (by decide) ?_
  rw [show ((2 : Int) + 1) = 3 from rfl]
  refine S_goto 4 dX8_isUnder_23 (by decide) ?_
  refine S_iload_n dX8_isUnder_4 rfl ?_
  refine S_bipush dX8_isUnder_5 (by decide) ?_
  refine S_icmp_ge 26 dX8_isUnder_7 (by decide) (by omega) (fun c_7 => absurd c_7 (by omega)) (fun c_7 => ?_)
  refine S_iload_n dX8_isUnder_10 rfl ?_
  refine S_iload_n dX8_isUnder_11 rfl ?_
  refine S_icmp_eq 26 dX8_isUnder_12 (by decide) (by omega) (fun c_12 => absurd c_12 (by omega)) (fun c_12 => ?_)
  refine S_iload_n dX8_isUnder_15 rfl ?_
  refine S_callS (mi := mi_X8_isUnder) [vI ((-1))] ok_X8_above ml_X8_370 dX8_isUnder_16 (by decide) rfl (Nat.le_of_ble_eq_true rfl) rfl (c_above_m) ?_
  rintro v' M4 ⟨rfl, hM4⟩
  rw [hM4]
  clear hM4
  refine S_istore_n dX8_isUnder_19 (by decide) ?_
  refine S_iinc dX8_isUnder_20 rfl (by decide) ?_
  rw [show ((3 : Int) + 1) = 4 from rfl]
  refine S_goto 4 dX8_isUnder_23 (by decide) ?_
  refine S_iload_n dX8_isUnder_4 rfl ?_
  refine S_bipush dX8_isUnder_5 (by decide) ?_
  refine S_icmp_ge 26 dX8_isUnder_7 (by decide) (by omega) (fun c_7 => absurd c_7 (by omega)) (fun c_7 => ?_)
  refine S_iload_n dX8_isUnder_10 rfl ?_
  refine S_iload_n dX8_isUnder_11 rfl ?_
  refine S_icmp_eq 26 dX8_isUnder_12 (by decide) (by omega) (fun c_12 => absurd c_12 (by omega)) (fun c_12 => ?_)
  refine S_iload_n dX8_isUnder_15 rfl ?_
  refine S_callS (mi := mi_X8_isUnder) [vI ((-1))] ok_X8_above ml_X8_370 dX8_isUnder_16 (by decide) rfl (Nat.le_of_ble_eq_true rfl) rfl (c_above_m) ?_
  rintro v' M5 ⟨rfl, hM5⟩
  rw [hM5]
  clear hM5
  refine S_istore_n dX8_isUnder_19 (by decide) ?_
  refine S_iinc dX8_isUnder_20 rfl (by decide) ?_
  rw [show ((4 : Int) + 1) = 5 from rfl]
  refine S_goto 4 dX8_isUnder_23 (by decide) ?_
  refine S_iload_n dX8_isUnder_4 rfl ?_
  refine S_bipush dX8_isUnder_5 (by decide) ?_
  refine S_icmp_ge 26 dX8_isUnder_7 (by decide) (by omega) (fun c_7 => absurd c_7 (by omega)) (fun c_7 => ?_)
  refine S_iload_n dX8_isUnder_10 rfl ?_
  refine S_iload_n dX8_isUnder_11 rfl ?_
  refine S_icmp_eq 26 dX8_isUnder_12 (by decide) (by omega) (fun c_12 => absurd c_12 (by omega)) (fun c_12 => ?_)
  refine S_iload_n dX8_isUnder_15 rfl ?_
  refine S_callS (mi := mi_X8_isUnder) [vI ((-1))] ok_X8_above ml_X8_370 dX8_isUnder_16 (by decide) rfl (Nat.le_of_ble_eq_true rfl) rfl (c_above_m) ?_
  rintro v' M6 ⟨rfl, hM6⟩
  rw [hM6]
  clear hM6
  refine S_istore_n dX8_isUnder_19 (by decide) ?_
  refine S_iinc dX8_isUnder_20 rfl (by decide) ?_
  rw [show ((5 : Int) + 1) = 6 from rfl]
  refine S_goto 4 dX8_isUnder_23 (by decide) ?_
  refine S_iload_n dX8_isUnder_4 rfl ?_
  refine S_bipush dX8_isUnder_5 (by decide) ?_
  refine S_icmp_ge 26 dX8_isUnder_7 (by decide) (by omega) (fun c_7 => ?_) (fun c_7 => absurd c_7 (by omega))
  refine S_iload_n dX8_isUnder_26 rfl ?_
  refine S_iload_n dX8_isUnder_27 rfl ?_
  refine S_icmp_ne 35 dX8_isUnder_28 (by decide) (by omega) (fun c_28 => ?_) (fun c_28 => absurd c_28 (by omega))
  refine S_iconst dX8_isUnder_35 ?_
  exact S_iret dX8_isUnder_36 rfl (Or.inr ⟨rfl, by omega⟩) ⟨rfl, rfl⟩
theorem c_isUnder {G : Ge} {M : Mem} (k w : Int) (hk : k = 0 ∨ k = 1 ∨ k = 2 ∨ k = 3 ∨ k = 4) (hw : 0 ≤ w ∧ w ≤ 5) : Ct G mi_X8_isUnder [vI k, vI w] M (fun v' M' => (v' = some (vI 1) ∧ isU k w ∨ v' = some (vI 0) ∧ ¬ isU k w) ∧ M' = M) := by
  unfold isU
  rcases (show w = 0 ∨ w = 1 ∨ w = 2 ∨ w = 3 ∨ w = 4 ∨ w = 5 by omega) with rfl | rfl | rfl | rfl | rfl | rfl
  · rcases hk with rfl | rfl | rfl | rfl | rfl
    · exact Ct.imp (fun v M1 h => ⟨Or.inl ⟨h.1, by decide⟩, h.2⟩) c_isUnder_0_0
    · exact Ct.imp (fun v M1 h => ⟨Or.inl ⟨h.1, by decide⟩, h.2⟩) c_isUnder_1_0
    · exact Ct.imp (fun v M1 h => ⟨Or.inl ⟨h.1, by decide⟩, h.2⟩) c_isUnder_2_0
    · exact Ct.imp (fun v M1 h => ⟨Or.inl ⟨h.1, by decide⟩, h.2⟩) c_isUnder_3_0
    · exact Ct.imp (fun v M1 h => ⟨Or.inl ⟨h.1, by decide⟩, h.2⟩) c_isUnder_4_0
  · rcases hk with rfl | rfl | rfl | rfl | rfl
    · exact Ct.imp (fun v M1 h => ⟨Or.inr ⟨h.1, by decide⟩, h.2⟩) c_isUnder_0_1
    · exact Ct.imp (fun v M1 h => ⟨Or.inl ⟨h.1, by decide⟩, h.2⟩) c_isUnder_1_1
    · exact Ct.imp (fun v M1 h => ⟨Or.inl ⟨h.1, by decide⟩, h.2⟩) c_isUnder_2_1
    · exact Ct.imp (fun v M1 h => ⟨Or.inr ⟨h.1, by decide⟩, h.2⟩) c_isUnder_3_1
    · exact Ct.imp (fun v M1 h => ⟨Or.inr ⟨h.1, by decide⟩, h.2⟩) c_isUnder_4_1
  · rcases hk with rfl | rfl | rfl | rfl | rfl
    · exact Ct.imp (fun v M1 h => ⟨Or.inr ⟨h.1, by decide⟩, h.2⟩) c_isUnder_0_2
    · exact Ct.imp (fun v M1 h => ⟨Or.inr ⟨h.1, by decide⟩, h.2⟩) c_isUnder_1_2
    · exact Ct.imp (fun v M1 h => ⟨Or.inl ⟨h.1, by decide⟩, h.2⟩) c_isUnder_2_2
    · exact Ct.imp (fun v M1 h => ⟨Or.inr ⟨h.1, by decide⟩, h.2⟩) c_isUnder_3_2
    · exact Ct.imp (fun v M1 h => ⟨Or.inr ⟨h.1, by decide⟩, h.2⟩) c_isUnder_4_2
  · rcases hk with rfl | rfl | rfl | rfl | rfl
    · exact Ct.imp (fun v M1 h => ⟨Or.inr ⟨h.1, by decide⟩, h.2⟩) c_isUnder_0_3
    · exact Ct.imp (fun v M1 h => ⟨Or.inr ⟨h.1, by decide⟩, h.2⟩) c_isUnder_1_3
    · exact Ct.imp (fun v M1 h => ⟨Or.inr ⟨h.1, by decide⟩, h.2⟩) c_isUnder_2_3
    · exact Ct.imp (fun v M1 h => ⟨Or.inl ⟨h.1, by decide⟩, h.2⟩) c_isUnder_3_3
    · exact Ct.imp (fun v M1 h => ⟨Or.inr ⟨h.1, by decide⟩, h.2⟩) c_isUnder_4_3
  · rcases hk with rfl | rfl | rfl | rfl | rfl
    · exact Ct.imp (fun v M1 h => ⟨Or.inr ⟨h.1, by decide⟩, h.2⟩) c_isUnder_0_4
    · exact Ct.imp (fun v M1 h => ⟨Or.inr ⟨h.1, by decide⟩, h.2⟩) c_isUnder_1_4
    · exact Ct.imp (fun v M1 h => ⟨Or.inr ⟨h.1, by decide⟩, h.2⟩) c_isUnder_2_4
    · exact Ct.imp (fun v M1 h => ⟨Or.inr ⟨h.1, by decide⟩, h.2⟩) c_isUnder_3_4
    · exact Ct.imp (fun v M1 h => ⟨Or.inl ⟨h.1, by decide⟩, h.2⟩) c_isUnder_4_4
  · rcases hk with rfl | rfl | rfl | rfl | rfl
    · exact Ct.imp (fun v M1 h => ⟨Or.inr ⟨h.1, by decide⟩, h.2⟩) c_isUnder_0_5
    · exact Ct.imp (fun v M1 h => ⟨Or.inr ⟨h.1, by decide⟩, h.2⟩) c_isUnder_1_5
    · exact Ct.imp (fun v M1 h => ⟨Or.inr ⟨h.1, by decide⟩, h.2⟩) c_isUnder_2_5
    · exact Ct.imp (fun v M1 h => ⟨Or.inr ⟨h.1, by decide⟩, h.2⟩) c_isUnder_3_5
    · exact Ct.imp (fun v M1 h => ⟨Or.inr ⟨h.1, by decide⟩, h.2⟩) c_isUnder_4_5
set_option maxRecDepth 100000 in
theorem c_forgeKind {G : Ge} {M : Mem} {Y : (Nat → Bool) × (Nat → Bool)} {ρ : RS} (hCs : Cs Y ρ M) (hIv : Iv Y ρ) (i : Nat) (hi : i < 8) (w9 : Int) (hw9 : 0 ≤ w9 ∧ w9 ≤ 5) : Ct G mi_X8_forgeKind [vR ((1, 0)), vR ((15, i)), vI w9] M (CP Y ((fgK ρ i w9).2) 0 0 (some (vI (fgK ρ i w9).1)) M) := by
  refine Ct.of pl_X8_forgeKind [some (vR ((1, 0))), some (vR ((15, i))), some (vI w9)] rfl (Nat.le_of_ble_eq_true rfl) ?_
  obtain ⟨sc, kn, hS, hCl⟩ := hCs
  have hF0 : Fr CLs M M := Fr.rf CLs M
  have hB0 : Bg 0 0 M M := Bg.rf M
  obtain ⟨hA, hB, hC, hD, hE, hN, hG, hH, hI, hJ, hK, hL⟩ := id hCl
  obtain ⟨⟨hp, hl, hm, hli, h44⟩, ⟨hTI, hSh⟩, ⟨hRo, hRp⟩, ⟨hEd, hOw, hYs, hSt⟩, hEn, hLf, ⟨hKo, hKy, hTs, hTl⟩, ⟨hLt, hLp⟩, hTr, hFe⟩ := hIv
  obtain ⟨o1, o2, hOb, hTq⟩ := (hK.2 i hi).2
  rcases hTq with ⟨h39, rfl, rfl⟩ | ⟨h39, rfl, l, rfl, h40, hll⟩ | ⟨h39, rfl, n0, k, rfl, h40, hk, fr, p, hSk⟩ | ⟨rfl, t2, rfl, h40, ht2, h39⟩
  · refine S_aload_n dX8_forgeKind_0 rfl ?_
    refine S_getP (o := none) fl_X8_274 dX8_forgeKind_1 rfl rfl (by rw [(show M.P (15, i) 1 = none from congrFun hOb.2.2 1)]) ?_
    refine S_ifnull 14 dX8_forgeKind_4 (by decide) (fun c_4 => ?_) (fun c_4 => absurd c_4 (by simp))
    refine S_aload_n dX8_forgeKind_14 rfl ?_
    refine S_getP (o := none) fl_X8_278 dX8_forgeKind_15 rfl rfl (by rw [(show M.P (15, i) 0 = none from congrFun hOb.2.2 0)]) ?_
    refine S_ifnonnull 28 dX8_forgeKind_18 (by decide) (fun c_18 => absurd c_18 (by simp)) (fun c_18 => ?_)
    refine S_aload_n dX8_forgeKind_21 rfl ?_
    refine S_bipush dX8_forgeKind_22 (by decide) ?_
    refine S_callV (mi := mi_X8_forgeKind) [vI 10] ok_X8_refuse ml_X8_54 dX8_forgeKind_24 rfl (by decide) rfl (by decide) rfl (Nat.le_of_ble_eq_true rfl) rfl (c_refuse (show Cs Y ρ M from ⟨sc, kn, hS, hCl⟩) 10) ?_
    rintro v' M1 ⟨rfl, hCs1, hF1', hB1'⟩
    obtain ⟨ρ2, e2⟩ : ∃ z9 : RS, z9 = (ρ.setS 42 10) := ⟨_, rfl⟩
    rw [← e2] at hCs1
    obtain ⟨sc, kn, hS2, hCl2⟩ := hCs1
    have hF2 : Fr CLs M M1 := hF0.trans hF1'
    have hB2 : Bg 0 0 M M1 := (hB0.trans hB1').le (by omega) (by omega)
    have s4_2 : ρ2.1 4 = ρ.1 4 := (by rw [e2, RS.setS_ne (by decide)])
    have s30_2 : ρ2.1 30 = ρ.1 30 := (by rw [e2, RS.setS_ne (by decide)])
    have t_2 : thN ρ2 = thN ρ := by rw [e2]; rfl
    clear hA hB hC hD hE hN hG hH hI hJ hK hL
    obtain ⟨hA, hB, hC, hD, hE, hN, hG, hH, hI, hJ, hK, hL⟩ := id hCl2
    exact S_iret dX8_forgeKind_27 rfl (Or.inl rfl) (by
      have e9 : fgK ρ i w9 = (((-1) : Int), ρ2) := by
        unfold fgK
        rw [if_pos h39]
        rw [e2]
      rw [e9]
      exact ⟨rfl, ⟨sc, kn, hS2, hCl2⟩, hF2, hB2.le (by omega) (by omega)⟩)
  · refine S_aload_n dX8_forgeKind_0 rfl ?_
    refine S_getP (o := some (12, l)) fl_X8_274 dX8_forgeKind_1 rfl rfl (by rw [(show M.P (15, i) 1 = some (12, l) from congrFun hOb.2.2 1)]) ?_
    refine S_ifnull 14 dX8_forgeKind_4 (by decide) (fun c_4 => absurd c_4 (by simp)) (fun c_4 => ?_)
    refine S_aload_n dX8_forgeKind_7 rfl ?_
    refine S_bipush dX8_forgeKind_8 (by decide) ?_
    refine S_callV (mi := mi_X8_forgeKind) [vI 11] ok_X8_refuse ml_X8_54 dX8_forgeKind_10 rfl (by decide) rfl (by decide) rfl (Nat.le_of_ble_eq_true rfl) rfl (c_refuse (show Cs Y ρ M from ⟨sc, kn, hS, hCl⟩) 11) ?_
    rintro v' M3 ⟨rfl, hCs3, hF3', hB3'⟩
    obtain ⟨ρ4, e4⟩ : ∃ z9 : RS, z9 = (ρ.setS 42 11) := ⟨_, rfl⟩
    rw [← e4] at hCs3
    obtain ⟨sc, kn, hS4, hCl4⟩ := hCs3
    have hF4 : Fr CLs M M3 := hF0.trans hF3'
    have hB4 : Bg 0 0 M M3 := (hB0.trans hB3').le (by omega) (by omega)
    have s4_4 : ρ4.1 4 = ρ.1 4 := (by rw [e4, RS.setS_ne (by decide)])
    have s30_4 : ρ4.1 30 = ρ.1 30 := (by rw [e4, RS.setS_ne (by decide)])
    have t_4 : thN ρ4 = thN ρ := by rw [e4]; rfl
    clear hA hB hC hD hE hN hG hH hI hJ hK hL
    obtain ⟨hA, hB, hC, hD, hE, hN, hG, hH, hI, hJ, hK, hL⟩ := id hCl4
    exact S_iret dX8_forgeKind_13 rfl (Or.inl rfl) (by
      have e9 : fgK ρ i w9 = (((-1) : Int), ρ4) := by
        unfold fgK
        rw [if_neg (by omega), if_pos (Or.inl h39)]
        rw [e4]
      rw [e9]
      exact ⟨rfl, ⟨sc, kn, hS4, hCl4⟩, hF4, hB4.le (by omega) (by omega)⟩)
  · refine S_aload_n dX8_forgeKind_0 rfl ?_
    refine S_getP (o := none) fl_X8_274 dX8_forgeKind_1 rfl rfl (by rw [(show M.P (15, i) 1 = none from congrFun hOb.2.2 1)]) ?_
    refine S_ifnull 14 dX8_forgeKind_4 (by decide) (fun c_4 => ?_) (fun c_4 => absurd c_4 (by simp))
    refine S_aload_n dX8_forgeKind_14 rfl ?_
    refine S_getP (o := some (19, n0)) fl_X8_278 dX8_forgeKind_15 rfl rfl (by rw [(show M.P (15, i) 0 = some (19, n0) from congrFun hOb.2.2 0)]) ?_
    refine S_ifnonnull 28 dX8_forgeKind_18 (by decide) (fun c_18 => ?_) (fun c_18 => absurd c_18 (by simp))
    refine S_aload_n dX8_forgeKind_28 rfl ?_
    refine S_getP (o := some (19, n0)) fl_X8_278 dX8_forgeKind_29 rfl rfl (by rw [(show M.P (15, i) 0 = some (19, n0) from congrFun hOb.2.2 0)]) ?_
    refine S_getI (v := 4) fl_X8_281_s dX8_forgeKind_32 rfl rfl (by rw [(show M.I (19, n0) 0 = 4 from congrFun hSk.2.1 0)]) ?_
    refine S_iload_n dX8_forgeKind_35 rfl ?_
    refine S_callS (mi := mi_X8_forgeKind) [vI 4, vI w9] ok_X8_isUnder ml_X8_366 dX8_forgeKind_36 (by decide) rfl (Nat.le_of_ble_eq_true rfl) rfl (c_isUnder 4 w9 (by omega) (by omega)) ?_
    rintro v' M5 ⟨⟨rfl, hu⟩ | ⟨rfl, hu⟩, hM5⟩
    · rw [hM5]
      clear hM5
      refine S_if_eq 56 dX8_forgeKind_39 (by decide) (by omega) (fun c_39 => absurd c_39 (by omega)) (fun c_39 => ?_)
      refine S_aload_n dX8_forgeKind_42 rfl ?_
      refine S_aload_n dX8_forgeKind_43 rfl ?_
      refine S_getP (o := some (19, n0)) fl_X8_278 dX8_forgeKind_44 rfl rfl (by rw [(show M.P (15, i) 0 = some (19, n0) from congrFun hOb.2.2 0)]) ?_
      refine S_getI (v := ρ.2 9 k) fl_X8_131_s dX8_forgeKind_47 rfl rfl (by rw [(show M.I (19, n0) 1 = ρ.2 9 k from congrFun hSk.2.1 1)]) ?_
      refine S_callV (mi := mi_X8_forgeKind) [vI (ρ.2 9 k)] ok_X8_done ml_X8_69 dX8_forgeKind_50 rfl (by decide) rfl (by decide) rfl (Nat.le_of_ble_eq_true rfl) rfl (c_done (show Cs Y ρ M from ⟨sc, kn, hS, hCl⟩) (ρ.2 9 k)) ?_
      rintro v' M6 ⟨rfl, hCs6, hF6', hB6'⟩
      obtain ⟨ρ7, e7⟩ : ∃ z9 : RS, z9 = (ρ.setS 42 0) := ⟨_, rfl⟩
      rw [← e7] at hCs6
      obtain ⟨sc, kn, hS7, hCl7⟩ := hCs6
      have hF7 : Fr CLs M M6 := hF0.trans hF6'
      have hB7 : Bg 0 0 M M6 := (hB0.trans hB6').le (by omega) (by omega)
      have s4_7 : ρ7.1 4 = ρ.1 4 := (by rw [e7, RS.setS_ne (by decide)])
      have s30_7 : ρ7.1 30 = ρ.1 30 := (by rw [e7, RS.setS_ne (by decide)])
      have t_7 : thN ρ7 = thN ρ := by rw [e7]; rfl
      clear hA hB hC hD hE hN hG hH hI hJ hK hL
      obtain ⟨hA, hB, hC, hD, hE, hN, hG, hH, hI, hJ, hK, hL⟩ := id hCl7
      refine S_goto 62 dX8_forgeKind_53 (by decide) ?_
      exact S_iret dX8_forgeKind_62 rfl (Or.inl rfl) (by
      have e9 : fgK ρ i w9 = ((ρ.2 9 k : Int), ρ7) := by
        unfold fgK
        unfold isU at hu
        rw [if_neg (by omega), if_neg (by omega), h40, Int.toNat_natCast]
        rw [e7]
      rw [e9]
      exact ⟨rfl, ⟨sc, kn, hS7, hCl7⟩, hF7, hB7.le (by omega) (by omega)⟩)
    · rw [hM5]
      clear hM5
      refine S_if_eq 56 dX8_forgeKind_39 (by decide) (by omega) (fun c_39 => ?_) (fun c_39 => absurd c_39 (by omega))
      refine S_aload_n dX8_forgeKind_56 rfl ?_
      refine S_bipush dX8_forgeKind_57 (by decide) ?_
      refine S_callV (mi := mi_X8_forgeKind) [vI 11] ok_X8_refuse ml_X8_54 dX8_forgeKind_59 rfl (by decide) rfl (by decide) rfl (Nat.le_of_ble_eq_true rfl) rfl (c_refuse (show Cs Y ρ M from ⟨sc, kn, hS, hCl⟩) 11) ?_
      rintro v' M8 ⟨rfl, hCs8, hF8', hB8'⟩
      obtain ⟨ρ9, e9⟩ : ∃ z9 : RS, z9 = (ρ.setS 42 11) := ⟨_, rfl⟩
      rw [← e9] at hCs8
      obtain ⟨sc, kn, hS9, hCl9⟩ := hCs8
      have hF9 : Fr CLs M M8 := hF0.trans hF8'
      have hB9 : Bg 0 0 M M8 := (hB0.trans hB8').le (by omega) (by omega)
      have s4_9 : ρ9.1 4 = ρ.1 4 := (by rw [e9, RS.setS_ne (by decide)])
      have s30_9 : ρ9.1 30 = ρ.1 30 := (by rw [e9, RS.setS_ne (by decide)])
      have t_9 : thN ρ9 = thN ρ := by rw [e9]; rfl
      clear hA hB hC hD hE hN hG hH hI hJ hK hL
      obtain ⟨hA, hB, hC, hD, hE, hN, hG, hH, hI, hJ, hK, hL⟩ := id hCl9
      exact S_iret dX8_forgeKind_62 rfl (Or.inl rfl) (by
      have e9 : fgK ρ i w9 = (((-1) : Int), ρ9) := by
        unfold fgK
        unfold isU at hu
        rw [if_neg (by omega), if_pos (by omega)]
        rw [e9]
      rw [e9]
      exact ⟨rfl, ⟨sc, kn, hS9, hCl9⟩, hF9, hB9.le (by omega) (by omega)⟩)
  · have hk4 : ρ.2 6 t2 = 0 ∨ ρ.2 6 t2 = 1 ∨ ρ.2 6 t2 = 2 ∨ ρ.2 6 t2 = 3 := by
      have q := hTI.2.2.1 t2 ht2
      have q2 := (hTr i hi).1
      unfold Kfm at q
      omega
    refine S_aload_n dX8_forgeKind_0 rfl ?_
    refine S_getP (o := none) fl_X8_274 dX8_forgeKind_1 rfl rfl (by rw [(show M.P (15, i) 1 = none from congrFun hOb.2.2 1)]) ?_
    refine S_ifnull 14 dX8_forgeKind_4 (by decide) (fun c_4 => ?_) (fun c_4 => absurd c_4 (by simp))
    refine S_aload_n dX8_forgeKind_14 rfl ?_
    refine S_getP (o := some (18, t2)) fl_X8_278 dX8_forgeKind_15 rfl rfl (by rw [(show M.P (15, i) 0 = some (18, t2) from congrFun hOb.2.2 0)]) ?_
    refine S_ifnonnull 28 dX8_forgeKind_18 (by decide) (fun c_18 => ?_) (fun c_18 => absurd c_18 (by simp))
    refine S_aload_n dX8_forgeKind_28 rfl ?_
    refine S_getP (o := some (18, t2)) fl_X8_278 dX8_forgeKind_29 rfl rfl (by rw [(show M.P (15, i) 0 = some (18, t2) from congrFun hOb.2.2 0)]) ?_
    refine S_getI (v := ρ.2 6 t2) fl_X8_281 dX8_forgeKind_32 rfl rfl (by rw [(show M.I (18, t2) 0 = ρ.2 6 t2 from (show M.I (18, t2) 0 = ρ.2 6 t2 from congrFun (hD.1 t2 (by omega)).2.1 0))]) ?_
    refine S_iload_n dX8_forgeKind_35 rfl ?_
    refine S_callS (mi := mi_X8_forgeKind) [vI (ρ.2 6 t2), vI w9] ok_X8_isUnder ml_X8_366 dX8_forgeKind_36 (by decide) rfl (Nat.le_of_ble_eq_true rfl) rfl (c_isUnder (ρ.2 6 t2) w9 (by omega) (by omega)) ?_
    rintro v' M10 ⟨⟨rfl, hu⟩ | ⟨rfl, hu⟩, hM10⟩
    · rw [hM10]
      clear hM10
      refine S_if_eq 56 dX8_forgeKind_39 (by decide) (by omega) (fun c_39 => absurd c_39 (by omega)) (fun c_39 => ?_)
      refine S_aload_n dX8_forgeKind_42 rfl ?_
      refine S_aload_n dX8_forgeKind_43 rfl ?_
      refine S_getP (o := some (18, t2)) fl_X8_278 dX8_forgeKind_44 rfl rfl (by rw [(show M.P (15, i) 0 = some (18, t2) from congrFun hOb.2.2 0)]) ?_
      refine S_getI (v := ρ.2 9 t2) fl_X8_131 dX8_forgeKind_47 rfl rfl (by rw [(show M.I (18, t2) 1 = ρ.2 9 t2 from (show M.I (18, t2) 1 = ρ.2 9 t2 from congrFun (hD.1 t2 (by omega)).2.1 1))]) ?_
      refine S_callV (mi := mi_X8_forgeKind) [vI (ρ.2 9 t2)] ok_X8_done ml_X8_69 dX8_forgeKind_50 rfl (by decide) rfl (by decide) rfl (Nat.le_of_ble_eq_true rfl) rfl (c_done (show Cs Y ρ M from ⟨sc, kn, hS, hCl⟩) (ρ.2 9 t2)) ?_
      rintro v' M11 ⟨rfl, hCs11, hF11', hB11'⟩
      obtain ⟨ρ12, e12⟩ : ∃ z9 : RS, z9 = (ρ.setS 42 0) := ⟨_, rfl⟩
      rw [← e12] at hCs11
      obtain ⟨sc, kn, hS12, hCl12⟩ := hCs11
      have hF12 : Fr CLs M M11 := hF0.trans hF11'
      have hB12 : Bg 0 0 M M11 := (hB0.trans hB11').le (by omega) (by omega)
      have s4_12 : ρ12.1 4 = ρ.1 4 := (by rw [e12, RS.setS_ne (by decide)])
      have s30_12 : ρ12.1 30 = ρ.1 30 := (by rw [e12, RS.setS_ne (by decide)])
      have t_12 : thN ρ12 = thN ρ := by rw [e12]; rfl
      clear hA hB hC hD hE hN hG hH hI hJ hK hL
      obtain ⟨hA, hB, hC, hD, hE, hN, hG, hH, hI, hJ, hK, hL⟩ := id hCl12
      refine S_goto 62 dX8_forgeKind_53 (by decide) ?_
      exact S_iret dX8_forgeKind_62 rfl (Or.inl rfl) (by
      have e9 : fgK ρ i w9 = ((ρ.2 9 t2 : Int), ρ12) := by
        unfold fgK
        unfold isU at hu
        rw [if_neg (by omega), if_neg (by omega), h40, Int.toNat_natCast]
        rw [e12]
      rw [e9]
      exact ⟨rfl, ⟨sc, kn, hS12, hCl12⟩, hF12, hB12.le (by omega) (by omega)⟩)
    · rw [hM10]
      clear hM10
      refine S_if_eq 56 dX8_forgeKind_39 (by decide) (by omega) (fun c_39 => ?_) (fun c_39 => absurd c_39 (by omega))
      refine S_aload_n dX8_forgeKind_56 rfl ?_
      refine S_bipush dX8_forgeKind_57 (by decide) ?_
      refine S_callV (mi := mi_X8_forgeKind) [vI 11] ok_X8_refuse ml_X8_54 dX8_forgeKind_59 rfl (by decide) rfl (by decide) rfl (Nat.le_of_ble_eq_true rfl) rfl (c_refuse (show Cs Y ρ M from ⟨sc, kn, hS, hCl⟩) 11) ?_
      rintro v' M13 ⟨rfl, hCs13, hF13', hB13'⟩
      obtain ⟨ρ14, e14⟩ : ∃ z9 : RS, z9 = (ρ.setS 42 11) := ⟨_, rfl⟩
      rw [← e14] at hCs13
      obtain ⟨sc, kn, hS14, hCl14⟩ := hCs13
      have hF14 : Fr CLs M M13 := hF0.trans hF13'
      have hB14 : Bg 0 0 M M13 := (hB0.trans hB13').le (by omega) (by omega)
      have s4_14 : ρ14.1 4 = ρ.1 4 := (by rw [e14, RS.setS_ne (by decide)])
      have s30_14 : ρ14.1 30 = ρ.1 30 := (by rw [e14, RS.setS_ne (by decide)])
      have t_14 : thN ρ14 = thN ρ := by rw [e14]; rfl
      clear hA hB hC hD hE hN hG hH hI hJ hK hL
      obtain ⟨hA, hB, hC, hD, hE, hN, hG, hH, hI, hJ, hK, hL⟩ := id hCl14
      exact S_iret dX8_forgeKind_62 rfl (Or.inl rfl) (by
      have e9 : fgK ρ i w9 = (((-1) : Int), ρ14) := by
        unfold fgK
        unfold isU at hu
        rw [if_neg (by omega), if_pos (by omega)]
        rw [e14]
      rw [e9]
      exact ⟨rfl, ⟨sc, kn, hS14, hCl14⟩, hF14, hB14.le (by omega) (by omega)⟩)
set_option maxRecDepth 100000 in
theorem c_forgeRow {G : Ge} {M : Mem} {Y : (Nat → Bool) × (Nat → Bool)} {ρ : RS} (hCs : Cs Y ρ M) (hIv : Iv Y ρ) (i : Nat) (hi : i < 8) : Ct G mi_X8_forgeRow [vR ((1, 0)), vR ((15, i))] M (CP Y ((fgR ρ i).2) 0 0 (some (vI (fgR ρ i).1)) M) := by
  refine Ct.of pl_X8_forgeRow [some (vR ((1, 0))), some (vR ((15, i)))] rfl (Nat.le_of_ble_eq_true rfl) ?_
  obtain ⟨sc, kn, hS, hCl⟩ := hCs
  have hF0 : Fr CLs M M := Fr.rf CLs M
  have hB0 : Bg 0 0 M M := Bg.rf M
  obtain ⟨hA, hB, hC, hD, hE, hN, hG, hH, hI, hJ, hK, hL⟩ := id hCl
  obtain ⟨⟨hp, hl, hm, hli, h44⟩, ⟨hTI, hSh⟩, ⟨hRo, hRp⟩, ⟨hEd, hOw, hYs, hSt⟩, hEn, hLf, ⟨hKo, hKy, hTs, hTl⟩, ⟨hLt, hLp⟩, hTr, hFe⟩ := hIv
  obtain ⟨o1, o2, hOb, hTq⟩ := (hK.2 i hi).2
  rcases hTq with ⟨h39, rfl, rfl⟩ | ⟨h39, rfl, l, rfl, h40, hll⟩ | ⟨h39, rfl, n0, k, rfl, h40, hk, fr, p, hSk⟩ | ⟨rfl, t2, rfl, h40, ht2, h39⟩
  · refine S_aload_n dX8_forgeRow_0 rfl ?_
    refine S_getP (o := none) fl_X8_274 dX8_forgeRow_1 rfl rfl (by rw [(show M.P (15, i) 1 = none from congrFun hOb.2.2 1)]) ?_
    refine S_ifnull 14 dX8_forgeRow_4 (by decide) (fun c_4 => ?_) (fun c_4 => absurd c_4 (by simp))
    refine S_aload_n dX8_forgeRow_14 rfl ?_
    refine S_getP (o := none) fl_X8_278 dX8_forgeRow_15 rfl rfl (by rw [(show M.P (15, i) 0 = none from congrFun hOb.2.2 0)]) ?_
    refine S_ifnonnull 27 dX8_forgeRow_18 (by decide) (fun c_18 => absurd c_18 (by simp)) (fun c_18 => ?_)
    refine S_aload_n dX8_forgeRow_21 rfl ?_
    refine S_iconst dX8_forgeRow_22 ?_
    refine S_callV (mi := mi_X8_forgeRow) [vI 0] ok_X8_done ml_X8_69 dX8_forgeRow_23 rfl (by decide) rfl (by decide) rfl (Nat.le_of_ble_eq_true rfl) rfl (c_done (show Cs Y ρ M from ⟨sc, kn, hS, hCl⟩) 0) ?_
    rintro v' M1 ⟨rfl, hCs1, hF1', hB1'⟩
    obtain ⟨ρ2, e2⟩ : ∃ z9 : RS, z9 = (ρ.setS 42 0) := ⟨_, rfl⟩
    rw [← e2] at hCs1
    obtain ⟨sc, kn, hS2, hCl2⟩ := hCs1
    have hF2 : Fr CLs M M1 := hF0.trans hF1'
    have hB2 : Bg 0 0 M M1 := (hB0.trans hB1').le (by omega) (by omega)
    have s4_2 : ρ2.1 4 = ρ.1 4 := (by rw [e2, RS.setS_ne (by decide)])
    have s30_2 : ρ2.1 30 = ρ.1 30 := (by rw [e2, RS.setS_ne (by decide)])
    have t_2 : thN ρ2 = thN ρ := by rw [e2]; rfl
    clear hA hB hC hD hE hN hG hH hI hJ hK hL
    obtain ⟨hA, hB, hC, hD, hE, hN, hG, hH, hI, hJ, hK, hL⟩ := id hCl2
    exact S_iret dX8_forgeRow_26 rfl (Or.inl rfl) (by
      have e9 : fgR ρ i = ((0 : Int), ρ2) := by
        unfold fgR
        rw [if_pos h39]
        rw [e2]
      rw [e9]
      exact ⟨rfl, ⟨sc, kn, hS2, hCl2⟩, hF2, hB2.le (by omega) (by omega)⟩)
  · refine S_aload_n dX8_forgeRow_0 rfl ?_
    refine S_getP (o := some (12, l)) fl_X8_274 dX8_forgeRow_1 rfl rfl (by rw [(show M.P (15, i) 1 = some (12, l) from congrFun hOb.2.2 1)]) ?_
    refine S_ifnull 14 dX8_forgeRow_4 (by decide) (fun c_4 => absurd c_4 (by simp)) (fun c_4 => ?_)
    refine S_aload_n dX8_forgeRow_7 rfl ?_
    refine S_bipush dX8_forgeRow_8 (by decide) ?_
    refine S_callV (mi := mi_X8_forgeRow) [vI 11] ok_X8_refuse ml_X8_54 dX8_forgeRow_10 rfl (by decide) rfl (by decide) rfl (Nat.le_of_ble_eq_true rfl) rfl (c_refuse (show Cs Y ρ M from ⟨sc, kn, hS, hCl⟩) 11) ?_
    rintro v' M3 ⟨rfl, hCs3, hF3', hB3'⟩
    obtain ⟨ρ4, e4⟩ : ∃ z9 : RS, z9 = (ρ.setS 42 11) := ⟨_, rfl⟩
    rw [← e4] at hCs3
    obtain ⟨sc, kn, hS4, hCl4⟩ := hCs3
    have hF4 : Fr CLs M M3 := hF0.trans hF3'
    have hB4 : Bg 0 0 M M3 := (hB0.trans hB3').le (by omega) (by omega)
    have s4_4 : ρ4.1 4 = ρ.1 4 := (by rw [e4, RS.setS_ne (by decide)])
    have s30_4 : ρ4.1 30 = ρ.1 30 := (by rw [e4, RS.setS_ne (by decide)])
    have t_4 : thN ρ4 = thN ρ := by rw [e4]; rfl
    clear hA hB hC hD hE hN hG hH hI hJ hK hL
    obtain ⟨hA, hB, hC, hD, hE, hN, hG, hH, hI, hJ, hK, hL⟩ := id hCl4
    exact S_iret dX8_forgeRow_13 rfl (Or.inl rfl) (by
      have e9 : fgR ρ i = (((-1) : Int), ρ4) := by
        unfold fgR
        rw [if_neg (by omega), if_pos h39]
        rw [e4]
      rw [e9]
      exact ⟨rfl, ⟨sc, kn, hS4, hCl4⟩, hF4, hB4.le (by omega) (by omega)⟩)
  · refine S_aload_n dX8_forgeRow_0 rfl ?_
    refine S_getP (o := none) fl_X8_274 dX8_forgeRow_1 rfl rfl (by rw [(show M.P (15, i) 1 = none from congrFun hOb.2.2 1)]) ?_
    refine S_ifnull 14 dX8_forgeRow_4 (by decide) (fun c_4 => ?_) (fun c_4 => absurd c_4 (by simp))
    refine S_aload_n dX8_forgeRow_14 rfl ?_
    refine S_getP (o := some (19, n0)) fl_X8_278 dX8_forgeRow_15 rfl rfl (by rw [(show M.P (15, i) 0 = some (19, n0) from congrFun hOb.2.2 0)]) ?_
    refine S_ifnonnull 27 dX8_forgeRow_18 (by decide) (fun c_18 => ?_) (fun c_18 => absurd c_18 (by simp))
    refine S_aload_n dX8_forgeRow_27 rfl ?_
    refine S_getP (o := some (19, n0)) fl_X8_278 dX8_forgeRow_28 rfl rfl (by rw [(show M.P (15, i) 0 = some (19, n0) from congrFun hOb.2.2 0)]) ?_
    refine S_getI (v := 4) fl_X8_281_s dX8_forgeRow_31 rfl rfl (by rw [(show M.I (19, n0) 0 = 4 from congrFun hSk.2.1 0)]) ?_
    refine S_iconst dX8_forgeRow_34 ?_
    refine S_callS (mi := mi_X8_forgeRow) [vI 4, vI 1] ok_X8_isUnder ml_X8_366 dX8_forgeRow_35 (by decide) rfl (Nat.le_of_ble_eq_true rfl) rfl (c_isUnder 4 1 (by omega) (by omega)) ?_
    rintro v' M5 ⟨⟨rfl, hu⟩ | ⟨rfl, hu⟩, hM5⟩
    · rw [hM5]
      clear hM5
      refine S_if_eq 49 dX8_forgeRow_38 (by decide) (by omega) (fun c_38 => absurd c_38 (by omega)) (fun c_38 => ?_)
      refine S_aload_n dX8_forgeRow_41 rfl ?_
      refine S_iconst dX8_forgeRow_42 ?_
      refine S_callV (mi := mi_X8_forgeRow) [vI 1] ok_X8_done ml_X8_69 dX8_forgeRow_43 rfl (by decide) rfl (by decide) rfl (Nat.le_of_ble_eq_true rfl) rfl (c_done (show Cs Y ρ M from ⟨sc, kn, hS, hCl⟩) 1) ?_
      rintro v' M6 ⟨rfl, hCs6, hF6', hB6'⟩
      obtain ⟨ρ7, e7⟩ : ∃ z9 : RS, z9 = (ρ.setS 42 0) := ⟨_, rfl⟩
      rw [← e7] at hCs6
      obtain ⟨sc, kn, hS7, hCl7⟩ := hCs6
      have hF7 : Fr CLs M M6 := hF0.trans hF6'
      have hB7 : Bg 0 0 M M6 := (hB0.trans hB6').le (by omega) (by omega)
      have s4_7 : ρ7.1 4 = ρ.1 4 := (by rw [e7, RS.setS_ne (by decide)])
      have s30_7 : ρ7.1 30 = ρ.1 30 := (by rw [e7, RS.setS_ne (by decide)])
      have t_7 : thN ρ7 = thN ρ := by rw [e7]; rfl
      clear hA hB hC hD hE hN hG hH hI hJ hK hL
      obtain ⟨hA, hB, hC, hD, hE, hN, hG, hH, hI, hJ, hK, hL⟩ := id hCl7
      refine S_goto 55 dX8_forgeRow_46 (by decide) ?_
      exact S_iret dX8_forgeRow_55 rfl (Or.inl rfl) (by
      have e9 : fgR ρ i = ((1 : Int), ρ7) := by
        unfold fgR
        unfold isU at hu
        rw [if_neg (by omega), if_neg (by omega), if_pos (by omega)]
        rw [e7]
      rw [e9]
      exact ⟨rfl, ⟨sc, kn, hS7, hCl7⟩, hF7, hB7.le (by omega) (by omega)⟩)
    · rw [hM5]
      clear hM5
      refine S_if_eq 49 dX8_forgeRow_38 (by decide) (by omega) (fun c_38 => ?_) (fun c_38 => absurd c_38 (by omega))
      refine S_aload_n dX8_forgeRow_49 rfl ?_
      refine S_bipush dX8_forgeRow_50 (by decide) ?_
      refine S_callV (mi := mi_X8_forgeRow) [vI 14] ok_X8_refuse ml_X8_54 dX8_forgeRow_52 rfl (by decide) rfl (by decide) rfl (Nat.le_of_ble_eq_true rfl) rfl (c_refuse (show Cs Y ρ M from ⟨sc, kn, hS, hCl⟩) 14) ?_
      rintro v' M8 ⟨rfl, hCs8, hF8', hB8'⟩
      obtain ⟨ρ9, e9⟩ : ∃ z9 : RS, z9 = (ρ.setS 42 14) := ⟨_, rfl⟩
      rw [← e9] at hCs8
      obtain ⟨sc, kn, hS9, hCl9⟩ := hCs8
      have hF9 : Fr CLs M M8 := hF0.trans hF8'
      have hB9 : Bg 0 0 M M8 := (hB0.trans hB8').le (by omega) (by omega)
      have s4_9 : ρ9.1 4 = ρ.1 4 := (by rw [e9, RS.setS_ne (by decide)])
      have s30_9 : ρ9.1 30 = ρ.1 30 := (by rw [e9, RS.setS_ne (by decide)])
      have t_9 : thN ρ9 = thN ρ := by rw [e9]; rfl
      clear hA hB hC hD hE hN hG hH hI hJ hK hL
      obtain ⟨hA, hB, hC, hD, hE, hN, hG, hH, hI, hJ, hK, hL⟩ := id hCl9
      exact S_iret dX8_forgeRow_55 rfl (Or.inl rfl) (by
      have e9 : fgR ρ i = (((-1) : Int), ρ9) := by
        unfold fgR
        unfold isU at hu
        rw [if_neg (by omega), if_neg (by omega), if_neg (by omega)]
        rw [e9]
      rw [e9]
      exact ⟨rfl, ⟨sc, kn, hS9, hCl9⟩, hF9, hB9.le (by omega) (by omega)⟩)
  · have hk4 : ρ.2 6 t2 = 0 ∨ ρ.2 6 t2 = 1 ∨ ρ.2 6 t2 = 2 ∨ ρ.2 6 t2 = 3 := by
      have q := hTI.2.2.1 t2 ht2
      have q2 := (hTr i hi).1
      unfold Kfm at q
      omega
    refine S_aload_n dX8_forgeRow_0 rfl ?_
    refine S_getP (o := none) fl_X8_274 dX8_forgeRow_1 rfl rfl (by rw [(show M.P (15, i) 1 = none from congrFun hOb.2.2 1)]) ?_
    refine S_ifnull 14 dX8_forgeRow_4 (by decide) (fun c_4 => ?_) (fun c_4 => absurd c_4 (by simp))
    refine S_aload_n dX8_forgeRow_14 rfl ?_
    refine S_getP (o := some (18, t2)) fl_X8_278 dX8_forgeRow_15 rfl rfl (by rw [(show M.P (15, i) 0 = some (18, t2) from congrFun hOb.2.2 0)]) ?_
    refine S_ifnonnull 27 dX8_forgeRow_18 (by decide) (fun c_18 => ?_) (fun c_18 => absurd c_18 (by simp))
    refine S_aload_n dX8_forgeRow_27 rfl ?_
    refine S_getP (o := some (18, t2)) fl_X8_278 dX8_forgeRow_28 rfl rfl (by rw [(show M.P (15, i) 0 = some (18, t2) from congrFun hOb.2.2 0)]) ?_
    refine S_getI (v := ρ.2 6 t2) fl_X8_281 dX8_forgeRow_31 rfl rfl (by rw [(show M.I (18, t2) 0 = ρ.2 6 t2 from (show M.I (18, t2) 0 = ρ.2 6 t2 from congrFun (hD.1 t2 (by omega)).2.1 0))]) ?_
    refine S_iconst dX8_forgeRow_34 ?_
    refine S_callS (mi := mi_X8_forgeRow) [vI (ρ.2 6 t2), vI 1] ok_X8_isUnder ml_X8_366 dX8_forgeRow_35 (by decide) rfl (Nat.le_of_ble_eq_true rfl) rfl (c_isUnder (ρ.2 6 t2) 1 (by omega) (by omega)) ?_
    rintro v' M10 ⟨⟨rfl, hu⟩ | ⟨rfl, hu⟩, hM10⟩
    · rw [hM10]
      clear hM10
      refine S_if_eq 49 dX8_forgeRow_38 (by decide) (by omega) (fun c_38 => absurd c_38 (by omega)) (fun c_38 => ?_)
      refine S_aload_n dX8_forgeRow_41 rfl ?_
      refine S_iconst dX8_forgeRow_42 ?_
      refine S_callV (mi := mi_X8_forgeRow) [vI 1] ok_X8_done ml_X8_69 dX8_forgeRow_43 rfl (by decide) rfl (by decide) rfl (Nat.le_of_ble_eq_true rfl) rfl (c_done (show Cs Y ρ M from ⟨sc, kn, hS, hCl⟩) 1) ?_
      rintro v' M11 ⟨rfl, hCs11, hF11', hB11'⟩
      obtain ⟨ρ12, e12⟩ : ∃ z9 : RS, z9 = (ρ.setS 42 0) := ⟨_, rfl⟩
      rw [← e12] at hCs11
      obtain ⟨sc, kn, hS12, hCl12⟩ := hCs11
      have hF12 : Fr CLs M M11 := hF0.trans hF11'
      have hB12 : Bg 0 0 M M11 := (hB0.trans hB11').le (by omega) (by omega)
      have s4_12 : ρ12.1 4 = ρ.1 4 := (by rw [e12, RS.setS_ne (by decide)])
      have s30_12 : ρ12.1 30 = ρ.1 30 := (by rw [e12, RS.setS_ne (by decide)])
      have t_12 : thN ρ12 = thN ρ := by rw [e12]; rfl
      clear hA hB hC hD hE hN hG hH hI hJ hK hL
      obtain ⟨hA, hB, hC, hD, hE, hN, hG, hH, hI, hJ, hK, hL⟩ := id hCl12
      refine S_goto 55 dX8_forgeRow_46 (by decide) ?_
      exact S_iret dX8_forgeRow_55 rfl (Or.inl rfl) (by
      have e9 : fgR ρ i = ((1 : Int), ρ12) := by
        unfold fgR
        unfold isU at hu
        rw [if_neg (by omega), if_neg (by omega), if_pos (by omega)]
        rw [e12]
      rw [e9]
      exact ⟨rfl, ⟨sc, kn, hS12, hCl12⟩, hF12, hB12.le (by omega) (by omega)⟩)
    · rw [hM10]
      clear hM10
      refine S_if_eq 49 dX8_forgeRow_38 (by decide) (by omega) (fun c_38 => ?_) (fun c_38 => absurd c_38 (by omega))
      refine S_aload_n dX8_forgeRow_49 rfl ?_
      refine S_bipush dX8_forgeRow_50 (by decide) ?_
      refine S_callV (mi := mi_X8_forgeRow) [vI 14] ok_X8_refuse ml_X8_54 dX8_forgeRow_52 rfl (by decide) rfl (by decide) rfl (Nat.le_of_ble_eq_true rfl) rfl (c_refuse (show Cs Y ρ M from ⟨sc, kn, hS, hCl⟩) 14) ?_
      rintro v' M13 ⟨rfl, hCs13, hF13', hB13'⟩
      obtain ⟨ρ14, e14⟩ : ∃ z9 : RS, z9 = (ρ.setS 42 14) := ⟨_, rfl⟩
      rw [← e14] at hCs13
      obtain ⟨sc, kn, hS14, hCl14⟩ := hCs13
      have hF14 : Fr CLs M M13 := hF0.trans hF13'
      have hB14 : Bg 0 0 M M13 := (hB0.trans hB13').le (by omega) (by omega)
      have s4_14 : ρ14.1 4 = ρ.1 4 := (by rw [e14, RS.setS_ne (by decide)])
      have s30_14 : ρ14.1 30 = ρ.1 30 := (by rw [e14, RS.setS_ne (by decide)])
      have t_14 : thN ρ14 = thN ρ := by rw [e14]; rfl
      clear hA hB hC hD hE hN hG hH hI hJ hK hL
      obtain ⟨hA, hB, hC, hD, hE, hN, hG, hH, hI, hJ, hK, hL⟩ := id hCl14
      exact S_iret dX8_forgeRow_55 rfl (Or.inl rfl) (by
      have e9 : fgR ρ i = (((-1) : Int), ρ14) := by
        unfold fgR
        unfold isU at hu
        rw [if_neg (by omega), if_neg (by omega), if_neg (by omega)]
        rw [e14]
      rw [e9]
      exact ⟨rfl, ⟨sc, kn, hS14, hCl14⟩, hF14, hB14.le (by omega) (by omega)⟩)
set_option maxRecDepth 100000 in
theorem c_forgeHeader {G : Ge} {M : Mem} {Y : (Nat → Bool) × (Nat → Bool)} {ρ : RS} (hCs : Cs Y ρ M) (hIv : Iv Y ρ) (i : Nat) (hi : i < 8) (n : Int) (hn : -100 ≤ n ∧ n ≤ 100) : Ct G mi_X8_forgeHeader [vR ((1, 0)), vR ((15, i)), vI n] M (CP Y ((fgH ρ i n).2) 0 0 (some (vI (fgH ρ i n).1)) M) := by
  refine Ct.of pl_X8_forgeHeader [some (vR ((1, 0))), some (vR ((15, i))), some (vI n), none] rfl (Nat.le_of_ble_eq_true rfl) ?_
  obtain ⟨sc, kn, hS, hCl⟩ := hCs
  have hF0 : Fr CLs M M := Fr.rf CLs M
  have hB0 : Bg 0 0 M M := Bg.rf M
  obtain ⟨hA, hB, hC, hD, hE, hN, hG, hH, hI, hJ, hK, hL⟩ := id hCl
  obtain ⟨⟨hp, hl, hm, hli, h44⟩, ⟨hTI, hSh⟩, ⟨hRo, hRp⟩, ⟨hEd, hOw, hYs, hSt⟩, hEn, hLf, ⟨hKo, hKy, hTs, hTl⟩, ⟨hLt, hLp⟩, hTr, hFe⟩ := hIv
  obtain ⟨o1, o2, hOb, hTq⟩ := (hK.2 i hi).2
  rcases hTq with ⟨h39, rfl, rfl⟩ | ⟨h39, rfl, l, rfl, h40, hll⟩ | ⟨h39, rfl, n0, k, rfl, h40, hk, fr, p, hSk⟩ | ⟨rfl, t2, rfl, h40, ht2, h39⟩
  · refine S_aload_n dX8_forgeHeader_0 rfl ?_
    refine S_getP (o := none) fl_X8_278 dX8_forgeHeader_1 rfl rfl (by rw [(show M.P (15, i) 0 = none from congrFun hOb.2.2 0)]) ?_
    refine S_ifnull 14 dX8_forgeHeader_4 (by decide) (fun c_4 => ?_) (fun c_4 => absurd c_4 (by simp))
    refine S_aload_n dX8_forgeHeader_14 rfl ?_
    refine S_getP (o := none) fl_X8_274 dX8_forgeHeader_15 rfl rfl (by rw [(show M.P (15, i) 1 = none from congrFun hOb.2.2 1)]) ?_
    refine S_ifnonnull 28 dX8_forgeHeader_18 (by decide) (fun c_18 => absurd c_18 (by simp)) (fun c_18 => ?_)
    refine S_aload_n dX8_forgeHeader_21 rfl ?_
    refine S_bipush dX8_forgeHeader_22 (by decide) ?_
    refine S_callV (mi := mi_X8_forgeHeader) [vI 10] ok_X8_refuse ml_X8_54 dX8_forgeHeader_24 rfl (by decide) rfl (by decide) rfl (Nat.le_of_ble_eq_true rfl) rfl (c_refuse (show Cs Y ρ M from ⟨sc, kn, hS, hCl⟩) 10) ?_
    rintro v' M1 ⟨rfl, hCs1, hF1', hB1'⟩
    obtain ⟨ρ2, e2⟩ : ∃ z9 : RS, z9 = (ρ.setS 42 10) := ⟨_, rfl⟩
    rw [← e2] at hCs1
    obtain ⟨sc, kn, hS2, hCl2⟩ := hCs1
    have hF2 : Fr CLs M M1 := hF0.trans hF1'
    have hB2 : Bg 0 0 M M1 := (hB0.trans hB1').le (by omega) (by omega)
    have s4_2 : ρ2.1 4 = ρ.1 4 := (by rw [e2, RS.setS_ne (by decide)])
    have s30_2 : ρ2.1 30 = ρ.1 30 := (by rw [e2, RS.setS_ne (by decide)])
    have t_2 : thN ρ2 = thN ρ := by rw [e2]; rfl
    clear hA hB hC hD hE hN hG hH hI hJ hK hL
    obtain ⟨hA, hB, hC, hD, hE, hN, hG, hH, hI, hJ, hK, hL⟩ := id hCl2
    exact S_iret dX8_forgeHeader_27 rfl (Or.inl rfl) (by
      have e9 : fgH ρ i n = (((-1) : Int), ρ2) := by
        unfold fgH
        rw [if_pos h39]
        rw [e2]
      rw [e9]
      exact ⟨rfl, ⟨sc, kn, hS2, hCl2⟩, hF2, hB2.le (by omega) (by omega)⟩)
  · refine S_aload_n dX8_forgeHeader_0 rfl ?_
    refine S_getP (o := none) fl_X8_278 dX8_forgeHeader_1 rfl rfl (by rw [(show M.P (15, i) 0 = none from congrFun hOb.2.2 0)]) ?_
    refine S_ifnull 14 dX8_forgeHeader_4 (by decide) (fun c_4 => ?_) (fun c_4 => absurd c_4 (by simp))
    refine S_aload_n dX8_forgeHeader_14 rfl ?_
    refine S_getP (o := some (12, l)) fl_X8_274 dX8_forgeHeader_15 rfl rfl (by rw [(show M.P (15, i) 1 = some (12, l) from congrFun hOb.2.2 1)]) ?_
    refine S_ifnonnull 28 dX8_forgeHeader_18 (by decide) (fun c_18 => ?_) (fun c_18 => absurd c_18 (by simp))
    refine S_aload_n dX8_forgeHeader_28 rfl ?_
    refine S_getP (o := some (12, l)) fl_X8_274 dX8_forgeHeader_29 rfl rfl (by rw [(show M.P (15, i) 1 = some (12, l) from congrFun hOb.2.2 1)]) ?_
    refine S_getP (o := some (13, l)) fl_X8_151 dX8_forgeHeader_32 rfl rfl (by rw [(show M.P (12, l) 3 = some (13, l) from congrFun (hJ.2.1 l (by omega)).2.1.2.2 3)]) ?_
    refine S_astore_n dX8_forgeHeader_35 (by decide) ?_
    refine S_iload_n dX8_forgeHeader_36 rfl ?_
    refine S_if_lt 56 dX8_forgeHeader_37 (by decide) (by omega) (fun c_37 => ?_) (fun c_37 => ?_)
    · refine S_aload_n dX8_forgeHeader_56 rfl ?_
      refine S_bipush dX8_forgeHeader_57 (by decide) ?_
      refine S_callV (mi := mi_X8_forgeHeader) [vI 12] ok_X8_refuse ml_X8_54 dX8_forgeHeader_59 rfl (by decide) rfl (by decide) rfl (Nat.le_of_ble_eq_true rfl) rfl (c_refuse (show Cs Y ρ M from ⟨sc, kn, hS, hCl⟩) 12) ?_
      rintro v' M3 ⟨rfl, hCs3, hF3', hB3'⟩
      obtain ⟨ρ4, e4⟩ : ∃ z9 : RS, z9 = (ρ.setS 42 12) := ⟨_, rfl⟩
      rw [← e4] at hCs3
      obtain ⟨sc, kn, hS4, hCl4⟩ := hCs3
      have hF4 : Fr CLs M M3 := hF0.trans hF3'
      have hB4 : Bg 0 0 M M3 := (hB0.trans hB3').le (by omega) (by omega)
      have s4_4 : ρ4.1 4 = ρ.1 4 := (by rw [e4, RS.setS_ne (by decide)])
      have s30_4 : ρ4.1 30 = ρ.1 30 := (by rw [e4, RS.setS_ne (by decide)])
      have t_4 : thN ρ4 = thN ρ := by rw [e4]; rfl
      clear hA hB hC hD hE hN hG hH hI hJ hK hL
      obtain ⟨hA, hB, hC, hD, hE, hN, hG, hH, hI, hJ, hK, hL⟩ := id hCl4
      exact S_iret dX8_forgeHeader_62 rfl (Or.inl rfl) (by
      have e9 : fgH ρ i n = (((-1) : Int), ρ4) := by
        unfold fgH
        rw [if_neg (by omega), if_neg (by omega), if_neg (by omega)]
        rw [e4]
      rw [e9]
      exact ⟨rfl, ⟨sc, kn, hS4, hCl4⟩, hF4, hB4.le (by omega) (by omega)⟩)
    · refine S_iload_n dX8_forgeHeader_40 rfl ?_
      refine S_aload_n dX8_forgeHeader_41 rfl ?_
      refine S_alen dX8_forgeHeader_42 rfl (by decide) rfl (by rw [(show M.len (13, l) = some 3 from (hJ.2.1 l (by omega)).2.2.1)]) ?_
      refine S_icmp_ge 56 dX8_forgeHeader_43 (by decide) (by omega) (fun c_43 => ?_) (fun c_43 => ?_)
      · refine S_aload_n dX8_forgeHeader_56 rfl ?_
        refine S_bipush dX8_forgeHeader_57 (by decide) ?_
        refine S_callV (mi := mi_X8_forgeHeader) [vI 12] ok_X8_refuse ml_X8_54 dX8_forgeHeader_59 rfl (by decide) rfl (by decide) rfl (Nat.le_of_ble_eq_true rfl) rfl (c_refuse (show Cs Y ρ M from ⟨sc, kn, hS, hCl⟩) 12) ?_
        rintro v' M5 ⟨rfl, hCs5, hF5', hB5'⟩
        obtain ⟨ρ6, e6⟩ : ∃ z9 : RS, z9 = (ρ.setS 42 12) := ⟨_, rfl⟩
        rw [← e6] at hCs5
        obtain ⟨sc, kn, hS6, hCl6⟩ := hCs5
        have hF6 : Fr CLs M M5 := hF0.trans hF5'
        have hB6 : Bg 0 0 M M5 := (hB0.trans hB5').le (by omega) (by omega)
        have s4_6 : ρ6.1 4 = ρ.1 4 := (by rw [e6, RS.setS_ne (by decide)])
        have s30_6 : ρ6.1 30 = ρ.1 30 := (by rw [e6, RS.setS_ne (by decide)])
        have t_6 : thN ρ6 = thN ρ := by rw [e6]; rfl
        clear hA hB hC hD hE hN hG hH hI hJ hK hL
        obtain ⟨hA, hB, hC, hD, hE, hN, hG, hH, hI, hJ, hK, hL⟩ := id hCl6
        exact S_iret dX8_forgeHeader_62 rfl (Or.inl rfl) (by
      have e9 : fgH ρ i n = (((-1) : Int), ρ6) := by
        unfold fgH
        rw [if_neg (by omega), if_neg (by omega), if_neg (by omega)]
        rw [e6]
      rw [e9]
      exact ⟨rfl, ⟨sc, kn, hS6, hCl6⟩, hF6, hB6.le (by omega) (by omega)⟩)
      · rcases (show n = 0 ∨ n = 1 ∨ n = 2 by omega) with rfl | rfl | rfl
        · refine S_aload_n dX8_forgeHeader_46 rfl ?_
          refine S_aload_n dX8_forgeHeader_47 rfl ?_
          refine S_iload_n dX8_forgeHeader_48 rfl ?_
          refine S_iald (v := ρ.2 32 l) 0 dX8_forgeHeader_49 rfl rfl (by rw [(show M.len (13, l) = some 3 from (hJ.2.1 l (by omega)).2.2.1)]) (by omega) (by omega) (by rw [(show M.I (13, l) 0 = ρ.2 32 l from (show M.I (13, l) 0 = ρ.2 32 l from congrFun (hJ.2.1 l (by omega)).2.2.2 0))]) ?_
          refine S_callV (mi := mi_X8_forgeHeader) [vI (ρ.2 32 l)] ok_X8_done ml_X8_69 dX8_forgeHeader_50 rfl (by decide) rfl (by decide) rfl (Nat.le_of_ble_eq_true rfl) rfl (c_done (show Cs Y ρ M from ⟨sc, kn, hS, hCl⟩) (ρ.2 32 l)) ?_
          rintro v' M7 ⟨rfl, hCs7, hF7', hB7'⟩
          obtain ⟨ρ8, e8⟩ : ∃ z9 : RS, z9 = (ρ.setS 42 0) := ⟨_, rfl⟩
          rw [← e8] at hCs7
          obtain ⟨sc, kn, hS8, hCl8⟩ := hCs7
          have hF8 : Fr CLs M M7 := hF0.trans hF7'
          have hB8 : Bg 0 0 M M7 := (hB0.trans hB7').le (by omega) (by omega)
          have s4_8 : ρ8.1 4 = ρ.1 4 := (by rw [e8, RS.setS_ne (by decide)])
          have s30_8 : ρ8.1 30 = ρ.1 30 := (by rw [e8, RS.setS_ne (by decide)])
          have t_8 : thN ρ8 = thN ρ := by rw [e8]; rfl
          clear hA hB hC hD hE hN hG hH hI hJ hK hL
          obtain ⟨hA, hB, hC, hD, hE, hN, hG, hH, hI, hJ, hK, hL⟩ := id hCl8
          refine S_goto 62 dX8_forgeHeader_53 (by decide) ?_
          exact S_iret dX8_forgeHeader_62 rfl (Or.inl rfl) (by
      have e9 : fgH ρ i 0 = ((ρ.2 32 l : Int), ρ8) := by
        unfold fgH
        rw [if_neg (by omega), if_neg (by omega), if_pos (by omega), h40, Int.toNat_natCast]
        unfold hdV
        rw [if_pos rfl]
        rw [e8]
      rw [e9]
      exact ⟨rfl, ⟨sc, kn, hS8, hCl8⟩, hF8, hB8.le (by omega) (by omega)⟩)
        · refine S_aload_n dX8_forgeHeader_46 rfl ?_
          refine S_aload_n dX8_forgeHeader_47 rfl ?_
          refine S_iload_n dX8_forgeHeader_48 rfl ?_
          refine S_iald (v := ρ.2 33 l) 1 dX8_forgeHeader_49 rfl rfl (by rw [(show M.len (13, l) = some 3 from (hJ.2.1 l (by omega)).2.2.1)]) (by omega) (by omega) (by rw [(show M.I (13, l) 1 = ρ.2 33 l from (show M.I (13, l) 1 = ρ.2 33 l from congrFun (hJ.2.1 l (by omega)).2.2.2 1))]) ?_
          refine S_callV (mi := mi_X8_forgeHeader) [vI (ρ.2 33 l)] ok_X8_done ml_X8_69 dX8_forgeHeader_50 rfl (by decide) rfl (by decide) rfl (Nat.le_of_ble_eq_true rfl) rfl (c_done (show Cs Y ρ M from ⟨sc, kn, hS, hCl⟩) (ρ.2 33 l)) ?_
          rintro v' M9 ⟨rfl, hCs9, hF9', hB9'⟩
          obtain ⟨ρ10, e10⟩ : ∃ z9 : RS, z9 = (ρ.setS 42 0) := ⟨_, rfl⟩
          rw [← e10] at hCs9
          obtain ⟨sc, kn, hS10, hCl10⟩ := hCs9
          have hF10 : Fr CLs M M9 := hF0.trans hF9'
          have hB10 : Bg 0 0 M M9 := (hB0.trans hB9').le (by omega) (by omega)
          have s4_10 : ρ10.1 4 = ρ.1 4 := (by rw [e10, RS.setS_ne (by decide)])
          have s30_10 : ρ10.1 30 = ρ.1 30 := (by rw [e10, RS.setS_ne (by decide)])
          have t_10 : thN ρ10 = thN ρ := by rw [e10]; rfl
          clear hA hB hC hD hE hN hG hH hI hJ hK hL
          obtain ⟨hA, hB, hC, hD, hE, hN, hG, hH, hI, hJ, hK, hL⟩ := id hCl10
          refine S_goto 62 dX8_forgeHeader_53 (by decide) ?_
          exact S_iret dX8_forgeHeader_62 rfl (Or.inl rfl) (by
      have e9 : fgH ρ i 1 = ((ρ.2 33 l : Int), ρ10) := by
        unfold fgH
        rw [if_neg (by omega), if_neg (by omega), if_pos (by omega), h40, Int.toNat_natCast]
        unfold hdV
        rw [if_neg (by decide), if_pos rfl]
        rw [e10]
      rw [e9]
      exact ⟨rfl, ⟨sc, kn, hS10, hCl10⟩, hF10, hB10.le (by omega) (by omega)⟩)
        · refine S_aload_n dX8_forgeHeader_46 rfl ?_
          refine S_aload_n dX8_forgeHeader_47 rfl ?_
          refine S_iload_n dX8_forgeHeader_48 rfl ?_
          refine S_iald (v := ρ.2 34 l) 2 dX8_forgeHeader_49 rfl rfl (by rw [(show M.len (13, l) = some 3 from (hJ.2.1 l (by omega)).2.2.1)]) (by omega) (by omega) (by rw [(show M.I (13, l) 2 = ρ.2 34 l from (show M.I (13, l) 2 = ρ.2 34 l from congrFun (hJ.2.1 l (by omega)).2.2.2 2))]) ?_
          refine S_callV (mi := mi_X8_forgeHeader) [vI (ρ.2 34 l)] ok_X8_done ml_X8_69 dX8_forgeHeader_50 rfl (by decide) rfl (by decide) rfl (Nat.le_of_ble_eq_true rfl) rfl (c_done (show Cs Y ρ M from ⟨sc, kn, hS, hCl⟩) (ρ.2 34 l)) ?_
          rintro v' M11 ⟨rfl, hCs11, hF11', hB11'⟩
          obtain ⟨ρ12, e12⟩ : ∃ z9 : RS, z9 = (ρ.setS 42 0) := ⟨_, rfl⟩
          rw [← e12] at hCs11
          obtain ⟨sc, kn, hS12, hCl12⟩ := hCs11
          have hF12 : Fr CLs M M11 := hF0.trans hF11'
          have hB12 : Bg 0 0 M M11 := (hB0.trans hB11').le (by omega) (by omega)
          have s4_12 : ρ12.1 4 = ρ.1 4 := (by rw [e12, RS.setS_ne (by decide)])
          have s30_12 : ρ12.1 30 = ρ.1 30 := (by rw [e12, RS.setS_ne (by decide)])
          have t_12 : thN ρ12 = thN ρ := by rw [e12]; rfl
          clear hA hB hC hD hE hN hG hH hI hJ hK hL
          obtain ⟨hA, hB, hC, hD, hE, hN, hG, hH, hI, hJ, hK, hL⟩ := id hCl12
          refine S_goto 62 dX8_forgeHeader_53 (by decide) ?_
          exact S_iret dX8_forgeHeader_62 rfl (Or.inl rfl) (by
      have e9 : fgH ρ i 2 = ((ρ.2 34 l : Int), ρ12) := by
        unfold fgH
        rw [if_neg (by omega), if_neg (by omega), if_pos (by omega), h40, Int.toNat_natCast]
        unfold hdV
        rw [if_neg (by decide), if_neg (by decide)]
        rw [e12]
      rw [e9]
      exact ⟨rfl, ⟨sc, kn, hS12, hCl12⟩, hF12, hB12.le (by omega) (by omega)⟩)
  · refine S_aload_n dX8_forgeHeader_0 rfl ?_
    refine S_getP (o := some (19, n0)) fl_X8_278 dX8_forgeHeader_1 rfl rfl (by rw [(show M.P (15, i) 0 = some (19, n0) from congrFun hOb.2.2 0)]) ?_
    refine S_ifnull 14 dX8_forgeHeader_4 (by decide) (fun c_4 => absurd c_4 (by simp)) (fun c_4 => ?_)
    refine S_aload_n dX8_forgeHeader_7 rfl ?_
    refine S_bipush dX8_forgeHeader_8 (by decide) ?_
    refine S_callV (mi := mi_X8_forgeHeader) [vI 11] ok_X8_refuse ml_X8_54 dX8_forgeHeader_10 rfl (by decide) rfl (by decide) rfl (Nat.le_of_ble_eq_true rfl) rfl (c_refuse (show Cs Y ρ M from ⟨sc, kn, hS, hCl⟩) 11) ?_
    rintro v' M13 ⟨rfl, hCs13, hF13', hB13'⟩
    obtain ⟨ρ14, e14⟩ : ∃ z9 : RS, z9 = (ρ.setS 42 11) := ⟨_, rfl⟩
    rw [← e14] at hCs13
    obtain ⟨sc, kn, hS14, hCl14⟩ := hCs13
    have hF14 : Fr CLs M M13 := hF0.trans hF13'
    have hB14 : Bg 0 0 M M13 := (hB0.trans hB13').le (by omega) (by omega)
    have s4_14 : ρ14.1 4 = ρ.1 4 := (by rw [e14, RS.setS_ne (by decide)])
    have s30_14 : ρ14.1 30 = ρ.1 30 := (by rw [e14, RS.setS_ne (by decide)])
    have t_14 : thN ρ14 = thN ρ := by rw [e14]; rfl
    clear hA hB hC hD hE hN hG hH hI hJ hK hL
    obtain ⟨hA, hB, hC, hD, hE, hN, hG, hH, hI, hJ, hK, hL⟩ := id hCl14
    exact S_iret dX8_forgeHeader_13 rfl (Or.inl rfl) (by
      have e9 : fgH ρ i n = (((-1) : Int), ρ14) := by
        unfold fgH
        rw [if_neg (by omega), if_pos (by omega)]
        rw [e14]
      rw [e9]
      exact ⟨rfl, ⟨sc, kn, hS14, hCl14⟩, hF14, hB14.le (by omega) (by omega)⟩)
  · have hk4 : ρ.2 6 t2 = 0 ∨ ρ.2 6 t2 = 1 ∨ ρ.2 6 t2 = 2 ∨ ρ.2 6 t2 = 3 := by
      have q := hTI.2.2.1 t2 ht2
      have q2 := (hTr i hi).1
      unfold Kfm at q
      omega
    refine S_aload_n dX8_forgeHeader_0 rfl ?_
    refine S_getP (o := some (18, t2)) fl_X8_278 dX8_forgeHeader_1 rfl rfl (by rw [(show M.P (15, i) 0 = some (18, t2) from congrFun hOb.2.2 0)]) ?_
    refine S_ifnull 14 dX8_forgeHeader_4 (by decide) (fun c_4 => absurd c_4 (by simp)) (fun c_4 => ?_)
    refine S_aload_n dX8_forgeHeader_7 rfl ?_
    refine S_bipush dX8_forgeHeader_8 (by decide) ?_
    refine S_callV (mi := mi_X8_forgeHeader) [vI 11] ok_X8_refuse ml_X8_54 dX8_forgeHeader_10 rfl (by decide) rfl (by decide) rfl (Nat.le_of_ble_eq_true rfl) rfl (c_refuse (show Cs Y ρ M from ⟨sc, kn, hS, hCl⟩) 11) ?_
    rintro v' M15 ⟨rfl, hCs15, hF15', hB15'⟩
    obtain ⟨ρ16, e16⟩ : ∃ z9 : RS, z9 = (ρ.setS 42 11) := ⟨_, rfl⟩
    rw [← e16] at hCs15
    obtain ⟨sc, kn, hS16, hCl16⟩ := hCs15
    have hF16 : Fr CLs M M15 := hF0.trans hF15'
    have hB16 : Bg 0 0 M M15 := (hB0.trans hB15').le (by omega) (by omega)
    have s4_16 : ρ16.1 4 = ρ.1 4 := (by rw [e16, RS.setS_ne (by decide)])
    have s30_16 : ρ16.1 30 = ρ.1 30 := (by rw [e16, RS.setS_ne (by decide)])
    have t_16 : thN ρ16 = thN ρ := by rw [e16]; rfl
    clear hA hB hC hD hE hN hG hH hI hJ hK hL
    obtain ⟨hA, hB, hC, hD, hE, hN, hG, hH, hI, hJ, hK, hL⟩ := id hCl16
    exact S_iret dX8_forgeHeader_13 rfl (Or.inl rfl) (by
      have e9 : fgH ρ i n = (((-1) : Int), ρ16) := by
        unfold fgH
        rw [if_neg (by omega), if_pos (by omega)]
        rw [e16]
      rw [e9]
      exact ⟨rfl, ⟨sc, kn, hS16, hCl16⟩, hF16, hB16.le (by omega) (by omega)⟩)
set_option maxRecDepth 100000 in
theorem c_forgeCopy {G : Ge} {M : Mem} {Y : (Nat → Bool) × (Nat → Bool)} {ρ : RS} (hCs : Cs Y ρ M) (hIv : Iv Y ρ) (i : Nat) (hi : i < 8) (n : Int) (hn : -100 ≤ n ∧ n ≤ 100) : Ct G mi_X8_forgeCopy [vR ((1, 0)), vR ((15, i)), vI n] M (CP Y ((fgC ρ i n).2) 0 0 (some (vI (fgC ρ i n).1)) M) := by
  refine Ct.of pl_X8_forgeCopy [some (vR ((1, 0))), some (vR ((15, i))), some (vI n), none, none, none] rfl (Nat.le_of_ble_eq_true rfl) ?_
  obtain ⟨sc, kn, hS, hCl⟩ := hCs
  have hF0 : Fr CLs M M := Fr.rf CLs M
  have hB0 : Bg 0 0 M M := Bg.rf M
  obtain ⟨hA, hB, hC, hD, hE, hN, hG, hH, hI, hJ, hK, hL⟩ := id hCl
  obtain ⟨⟨hp, hl, hm, hli, h44⟩, ⟨hTI, hSh⟩, ⟨hRo, hRp⟩, ⟨hEd, hOw, hYs, hSt⟩, hEn, hLf, ⟨hKo, hKy, hTs, hTl⟩, ⟨hLt, hLp⟩, hTr, hFe⟩ := hIv
  obtain ⟨o1, o2, hOb, hTq⟩ := (hK.2 i hi).2
  rcases hTq with ⟨h39, rfl, rfl⟩ | ⟨h39, rfl, l, rfl, h40, hll⟩ | ⟨h39, rfl, n0, k, rfl, h40, hk, fr, p, hSk⟩ | ⟨rfl, t2, rfl, h40, ht2, h39⟩
  · refine S_aload_n dX8_forgeCopy_0 rfl ?_
    refine S_getP (o := none) fl_X8_278 dX8_forgeCopy_1 rfl rfl (by rw [(show M.P (15, i) 0 = none from congrFun hOb.2.2 0)]) ?_
    refine S_ifnull 14 dX8_forgeCopy_4 (by decide) (fun c_4 => ?_) (fun c_4 => absurd c_4 (by simp))
    refine S_aload_n dX8_forgeCopy_14 rfl ?_
    refine S_getP (o := none) fl_X8_274 dX8_forgeCopy_15 rfl rfl (by rw [(show M.P (15, i) 1 = none from congrFun hOb.2.2 1)]) ?_
    refine S_ifnonnull 28 dX8_forgeCopy_18 (by decide) (fun c_18 => absurd c_18 (by simp)) (fun c_18 => ?_)
    refine S_aload_n dX8_forgeCopy_21 rfl ?_
    refine S_bipush dX8_forgeCopy_22 (by decide) ?_
    refine S_callV (mi := mi_X8_forgeCopy) [vI 10] ok_X8_refuse ml_X8_54 dX8_forgeCopy_24 rfl (by decide) rfl (by decide) rfl (Nat.le_of_ble_eq_true rfl) rfl (c_refuse (show Cs Y ρ M from ⟨sc, kn, hS, hCl⟩) 10) ?_
    rintro v' M1 ⟨rfl, hCs1, hF1', hB1'⟩
    obtain ⟨ρ2, e2⟩ : ∃ z9 : RS, z9 = (ρ.setS 42 10) := ⟨_, rfl⟩
    rw [← e2] at hCs1
    obtain ⟨sc, kn, hS2, hCl2⟩ := hCs1
    have hF2 : Fr CLs M M1 := hF0.trans hF1'
    have hB2 : Bg 0 0 M M1 := (hB0.trans hB1').le (by omega) (by omega)
    have s4_2 : ρ2.1 4 = ρ.1 4 := (by rw [e2, RS.setS_ne (by decide)])
    have s30_2 : ρ2.1 30 = ρ.1 30 := (by rw [e2, RS.setS_ne (by decide)])
    have t_2 : thN ρ2 = thN ρ := by rw [e2]; rfl
    clear hA hB hC hD hE hN hG hH hI hJ hK hL
    obtain ⟨hA, hB, hC, hD, hE, hN, hG, hH, hI, hJ, hK, hL⟩ := id hCl2
    exact S_iret dX8_forgeCopy_27 rfl (Or.inl rfl) (by
      have e9 : fgC ρ i n = (((-1) : Int), ρ2) := by
        unfold fgC
        rw [if_pos h39]
        rw [e2]
      rw [e9]
      exact ⟨rfl, ⟨sc, kn, hS2, hCl2⟩, hF2, hB2.le (by omega) (by omega)⟩)
  · refine S_aload_n dX8_forgeCopy_0 rfl ?_
    refine S_getP (o := none) fl_X8_278 dX8_forgeCopy_1 rfl rfl (by rw [(show M.P (15, i) 0 = none from congrFun hOb.2.2 0)]) ?_
    refine S_ifnull 14 dX8_forgeCopy_4 (by decide) (fun c_4 => ?_) (fun c_4 => absurd c_4 (by simp))
    refine S_aload_n dX8_forgeCopy_14 rfl ?_
    refine S_getP (o := some (12, l)) fl_X8_274 dX8_forgeCopy_15 rfl rfl (by rw [(show M.P (15, i) 1 = some (12, l) from congrFun hOb.2.2 1)]) ?_
    refine S_ifnonnull 28 dX8_forgeCopy_18 (by decide) (fun c_18 => ?_) (fun c_18 => absurd c_18 (by simp))
    refine S_aload_n dX8_forgeCopy_28 rfl ?_
    refine S_getP (o := some (12, l)) fl_X8_274 dX8_forgeCopy_29 rfl rfl (by rw [(show M.P (15, i) 1 = some (12, l) from congrFun hOb.2.2 1)]) ?_
    refine S_getP (o := some (13, l)) fl_X8_151 dX8_forgeCopy_32 rfl rfl (by rw [(show M.P (12, l) 3 = some (13, l) from congrFun (hJ.2.1 l (by omega)).2.1.2.2 3)]) ?_
    refine S_astore_n dX8_forgeCopy_35 (by decide) ?_
    rcases (show n = 0 ∨ n = 1 ∨ n = 2 ∨ ¬ (0 ≤ n ∧ n ≤ 2) by omega) with rfl | rfl | rfl | hnn
    · refine S_iload_n dX8_forgeCopy_36 rfl ?_
      refine S_if_lt 55 dX8_forgeCopy_37 (by decide) (by omega) (fun c_37 => absurd c_37 (by omega)) (fun c_37 => ?_)
      refine S_iconst dX8_forgeCopy_40 ?_
      refine S_iload_n dX8_forgeCopy_41 rfl ?_
      refine S_iadd dX8_forgeCopy_42 ?_
      rw [show ((1 : Int) + 0) = 1 from rfl]
      refine S_aload_n dX8_forgeCopy_43 rfl ?_
      refine S_alen dX8_forgeCopy_44 rfl (by decide) rfl (by rw [(show M.len (13, l) = some 3 from (hJ.2.1 l (by omega)).2.2.1)]) ?_
      refine S_icmp_gt 55 dX8_forgeCopy_45 (by decide) (by omega) (fun c_45 => absurd c_45 (by omega)) (fun c_45 => ?_)
      refine S_iload_n dX8_forgeCopy_48 rfl ?_
      refine S_iload_n dX8_forgeCopy_49 rfl ?_
      refine S_iadd dX8_forgeCopy_50 ?_
      rw [show ((0 : Int) + 0) = 0 from rfl]
      refine S_iconst dX8_forgeCopy_51 ?_
      refine S_icmp_le 62 dX8_forgeCopy_52 (by decide) (by omega) (fun c_52 => ?_) (fun c_52 => absurd c_52 (by omega))
      refine S_iconst dX8_forgeCopy_62 ?_
      refine S_istore dX8_forgeCopy_63 (by decide) ?_
      refine S_iconst dX8_forgeCopy_65 ?_
      refine S_istore dX8_forgeCopy_66 (by decide) ?_
      refine S_iload dX8_forgeCopy_68 rfl ?_
      refine S_iload_n dX8_forgeCopy_70 rfl ?_
      refine S_icmp_gt 89 dX8_forgeCopy_71 (by decide) (by omega) (fun c_71 => ?_) (fun c_71 => absurd c_71 (by omega))
      refine S_aload_n dX8_forgeCopy_89 rfl ?_
      refine S_iload dX8_forgeCopy_90 rfl ?_
      refine S_callV (mi := mi_X8_forgeCopy) [vI 0] ok_X8_done ml_X8_69 dX8_forgeCopy_92 rfl (by decide) rfl (by decide) rfl (Nat.le_of_ble_eq_true rfl) rfl (c_done (show Cs Y ρ M from ⟨sc, kn, hS, hCl⟩) 0) ?_
      rintro v' M3 ⟨rfl, hCs3, hF3', hB3'⟩
      obtain ⟨ρ4, e4⟩ : ∃ z9 : RS, z9 = (ρ.setS 42 0) := ⟨_, rfl⟩
      rw [← e4] at hCs3
      obtain ⟨sc, kn, hS4, hCl4⟩ := hCs3
      have hF4 : Fr CLs M M3 := hF0.trans hF3'
      have hB4 : Bg 0 0 M M3 := (hB0.trans hB3').le (by omega) (by omega)
      have s4_4 : ρ4.1 4 = ρ.1 4 := (by rw [e4, RS.setS_ne (by decide)])
      have s30_4 : ρ4.1 30 = ρ.1 30 := (by rw [e4, RS.setS_ne (by decide)])
      have t_4 : thN ρ4 = thN ρ := by rw [e4]; rfl
      clear hA hB hC hD hE hN hG hH hI hJ hK hL
      obtain ⟨hA, hB, hC, hD, hE, hN, hG, hH, hI, hJ, hK, hL⟩ := id hCl4
      exact S_iret dX8_forgeCopy_95 rfl (Or.inl rfl) (by
      have e9 : fgC ρ i 0 = ((0 : Int), ρ4) := by
        unfold fgC
        rw [if_neg (by omega), if_neg (by omega), if_pos (by decide), h40, Int.toNat_natCast, if_neg (by decide), if_neg (by decide), Int.add_zero]
        rw [e4]
      rw [e9]
      exact ⟨rfl, ⟨sc, kn, hS4, hCl4⟩, hF4, hB4.le (by omega) (by omega)⟩)
    · refine S_iload_n dX8_forgeCopy_36 rfl ?_
      refine S_if_lt 55 dX8_forgeCopy_37 (by decide) (by omega) (fun c_37 => absurd c_37 (by omega)) (fun c_37 => ?_)
      refine S_iconst dX8_forgeCopy_40 ?_
      refine S_iload_n dX8_forgeCopy_41 rfl ?_
      refine S_iadd dX8_forgeCopy_42 ?_
      rw [show ((1 : Int) + 1) = 2 from rfl]
      refine S_aload_n dX8_forgeCopy_43 rfl ?_
      refine S_alen dX8_forgeCopy_44 rfl (by decide) rfl (by rw [(show M.len (13, l) = some 3 from (hJ.2.1 l (by omega)).2.2.1)]) ?_
      refine S_icmp_gt 55 dX8_forgeCopy_45 (by decide) (by omega) (fun c_45 => absurd c_45 (by omega)) (fun c_45 => ?_)
      refine S_iload_n dX8_forgeCopy_48 rfl ?_
      refine S_iload_n dX8_forgeCopy_49 rfl ?_
      refine S_iadd dX8_forgeCopy_50 ?_
      rw [show ((1 : Int) + 1) = 2 from rfl]
      refine S_iconst dX8_forgeCopy_51 ?_
      refine S_icmp_le 62 dX8_forgeCopy_52 (by decide) (by omega) (fun c_52 => ?_) (fun c_52 => absurd c_52 (by omega))
      refine S_iconst dX8_forgeCopy_62 ?_
      refine S_istore dX8_forgeCopy_63 (by decide) ?_
      refine S_iconst dX8_forgeCopy_65 ?_
      refine S_istore dX8_forgeCopy_66 (by decide) ?_
      refine S_iload dX8_forgeCopy_68 rfl ?_
      refine S_iload_n dX8_forgeCopy_70 rfl ?_
      refine S_icmp_gt 89 dX8_forgeCopy_71 (by decide) (by omega) (fun c_71 => absurd c_71 (by omega)) (fun c_71 => ?_)
      refine S_iload dX8_forgeCopy_74 rfl ?_
      refine S_aload_n dX8_forgeCopy_76 rfl ?_
      refine S_iload dX8_forgeCopy_77 rfl ?_
      refine S_iald (v := ρ.2 33 l) 1 dX8_forgeCopy_79 rfl rfl (by rw [(show M.len (13, l) = some 3 from (hJ.2.1 l (by omega)).2.2.1)]) (by omega) (by omega) (by rw [(show M.I (13, l) 1 = ρ.2 33 l from (show M.I (13, l) 1 = ρ.2 33 l from congrFun (hJ.2.1 l (by omega)).2.2.2 1))]) ?_
      refine S_iadd dX8_forgeCopy_80 ?_
      refine S_istore dX8_forgeCopy_81 (by decide) ?_
      refine S_iinc dX8_forgeCopy_83 rfl (by decide) ?_
      rw [show ((1 : Int) + 1) = 2 from rfl]
      refine S_goto 68 dX8_forgeCopy_86 (by decide) ?_
      refine S_iload dX8_forgeCopy_68 rfl ?_
      refine S_iload_n dX8_forgeCopy_70 rfl ?_
      refine S_icmp_gt 89 dX8_forgeCopy_71 (by decide) (by omega) (fun c_71 => ?_) (fun c_71 => absurd c_71 (by omega))
      refine S_aload_n dX8_forgeCopy_89 rfl ?_
      refine S_iload dX8_forgeCopy_90 rfl ?_
      rw [show (0 + (ρ.2 33 l) : Int) = ρ.2 33 l + 0 from by omega]
      refine S_callV (mi := mi_X8_forgeCopy) [vI (ρ.2 33 l + 0)] ok_X8_done ml_X8_69 dX8_forgeCopy_92 rfl (by decide) rfl (by decide) rfl (Nat.le_of_ble_eq_true rfl) rfl (c_done (show Cs Y ρ M from ⟨sc, kn, hS, hCl⟩) (ρ.2 33 l + 0)) ?_
      rintro v' M5 ⟨rfl, hCs5, hF5', hB5'⟩
      obtain ⟨ρ6, e6⟩ : ∃ z9 : RS, z9 = (ρ.setS 42 0) := ⟨_, rfl⟩
      rw [← e6] at hCs5
      obtain ⟨sc, kn, hS6, hCl6⟩ := hCs5
      have hF6 : Fr CLs M M5 := hF0.trans hF5'
      have hB6 : Bg 0 0 M M5 := (hB0.trans hB5').le (by omega) (by omega)
      have s4_6 : ρ6.1 4 = ρ.1 4 := (by rw [e6, RS.setS_ne (by decide)])
      have s30_6 : ρ6.1 30 = ρ.1 30 := (by rw [e6, RS.setS_ne (by decide)])
      have t_6 : thN ρ6 = thN ρ := by rw [e6]; rfl
      clear hA hB hC hD hE hN hG hH hI hJ hK hL
      obtain ⟨hA, hB, hC, hD, hE, hN, hG, hH, hI, hJ, hK, hL⟩ := id hCl6
      exact S_iret dX8_forgeCopy_95 rfl (Or.inl rfl) (by
      have e9 : fgC ρ i 1 = ((ρ.2 33 l + 0 : Int), ρ6) := by
        unfold fgC
        rw [if_neg (by omega), if_neg (by omega), if_pos (by decide), h40, Int.toNat_natCast, if_pos (by decide), if_neg (by decide)]
        rw [e6]
      rw [e9]
      exact ⟨rfl, ⟨sc, kn, hS6, hCl6⟩, hF6, hB6.le (by omega) (by omega)⟩)
    · refine S_iload_n dX8_forgeCopy_36 rfl ?_
      refine S_if_lt 55 dX8_forgeCopy_37 (by decide) (by omega) (fun c_37 => absurd c_37 (by omega)) (fun c_37 => ?_)
      refine S_iconst dX8_forgeCopy_40 ?_
      refine S_iload_n dX8_forgeCopy_41 rfl ?_
      refine S_iadd dX8_forgeCopy_42 ?_
      rw [show ((1 : Int) + 2) = 3 from rfl]
      refine S_aload_n dX8_forgeCopy_43 rfl ?_
      refine S_alen dX8_forgeCopy_44 rfl (by decide) rfl (by rw [(show M.len (13, l) = some 3 from (hJ.2.1 l (by omega)).2.2.1)]) ?_
      refine S_icmp_gt 55 dX8_forgeCopy_45 (by decide) (by omega) (fun c_45 => absurd c_45 (by omega)) (fun c_45 => ?_)
      refine S_iload_n dX8_forgeCopy_48 rfl ?_
      refine S_iload_n dX8_forgeCopy_49 rfl ?_
      refine S_iadd dX8_forgeCopy_50 ?_
      rw [show ((2 : Int) + 2) = 4 from rfl]
      refine S_iconst dX8_forgeCopy_51 ?_
      refine S_icmp_le 62 dX8_forgeCopy_52 (by decide) (by omega) (fun c_52 => ?_) (fun c_52 => absurd c_52 (by omega))
      refine S_iconst dX8_forgeCopy_62 ?_
      refine S_istore dX8_forgeCopy_63 (by decide) ?_
      refine S_iconst dX8_forgeCopy_65 ?_
      refine S_istore dX8_forgeCopy_66 (by decide) ?_
      refine S_iload dX8_forgeCopy_68 rfl ?_
      refine S_iload_n dX8_forgeCopy_70 rfl ?_
      refine S_icmp_gt 89 dX8_forgeCopy_71 (by decide) (by omega) (fun c_71 => absurd c_71 (by omega)) (fun c_71 => ?_)
      refine S_iload dX8_forgeCopy_74 rfl ?_
      refine S_aload_n dX8_forgeCopy_76 rfl ?_
      refine S_iload dX8_forgeCopy_77 rfl ?_
      refine S_iald (v := ρ.2 33 l) 1 dX8_forgeCopy_79 rfl rfl (by rw [(show M.len (13, l) = some 3 from (hJ.2.1 l (by omega)).2.2.1)]) (by omega) (by omega) (by rw [(show M.I (13, l) 1 = ρ.2 33 l from (show M.I (13, l) 1 = ρ.2 33 l from congrFun (hJ.2.1 l (by omega)).2.2.2 1))]) ?_
      refine S_iadd dX8_forgeCopy_80 ?_
      refine S_istore dX8_forgeCopy_81 (by decide) ?_
      refine S_iinc dX8_forgeCopy_83 rfl (by decide) ?_
      rw [show ((1 : Int) + 1) = 2 from rfl]
      refine S_goto 68 dX8_forgeCopy_86 (by decide) ?_
      refine S_iload dX8_forgeCopy_68 rfl ?_
      refine S_iload_n dX8_forgeCopy_70 rfl ?_
      refine S_icmp_gt 89 dX8_forgeCopy_71 (by decide) (by omega) (fun c_71 => absurd c_71 (by omega)) (fun c_71 => ?_)
      refine S_iload dX8_forgeCopy_74 rfl ?_
      refine S_aload_n dX8_forgeCopy_76 rfl ?_
      refine S_iload dX8_forgeCopy_77 rfl ?_
      refine S_iald (v := ρ.2 34 l) 2 dX8_forgeCopy_79 rfl rfl (by rw [(show M.len (13, l) = some 3 from (hJ.2.1 l (by omega)).2.2.1)]) (by omega) (by omega) (by rw [(show M.I (13, l) 2 = ρ.2 34 l from (show M.I (13, l) 2 = ρ.2 34 l from congrFun (hJ.2.1 l (by omega)).2.2.2 2))]) ?_
      refine S_iadd dX8_forgeCopy_80 ?_
      refine S_istore dX8_forgeCopy_81 (by decide) ?_
      refine S_iinc dX8_forgeCopy_83 rfl (by decide) ?_
      rw [show ((2 : Int) + 1) = 3 from rfl]
      refine S_goto 68 dX8_forgeCopy_86 (by decide) ?_
      refine S_iload dX8_forgeCopy_68 rfl ?_
      refine S_iload_n dX8_forgeCopy_70 rfl ?_
      refine S_icmp_gt 89 dX8_forgeCopy_71 (by decide) (by omega) (fun c_71 => ?_) (fun c_71 => absurd c_71 (by omega))
      refine S_aload_n dX8_forgeCopy_89 rfl ?_
      refine S_iload dX8_forgeCopy_90 rfl ?_
      rw [show ((0 + (ρ.2 33 l)) + (ρ.2 34 l) : Int) = ρ.2 33 l + ρ.2 34 l from by omega]
      refine S_callV (mi := mi_X8_forgeCopy) [vI (ρ.2 33 l + ρ.2 34 l)] ok_X8_done ml_X8_69 dX8_forgeCopy_92 rfl (by decide) rfl (by decide) rfl (Nat.le_of_ble_eq_true rfl) rfl (c_done (show Cs Y ρ M from ⟨sc, kn, hS, hCl⟩) (ρ.2 33 l + ρ.2 34 l)) ?_
      rintro v' M7 ⟨rfl, hCs7, hF7', hB7'⟩
      obtain ⟨ρ8, e8⟩ : ∃ z9 : RS, z9 = (ρ.setS 42 0) := ⟨_, rfl⟩
      rw [← e8] at hCs7
      obtain ⟨sc, kn, hS8, hCl8⟩ := hCs7
      have hF8 : Fr CLs M M7 := hF0.trans hF7'
      have hB8 : Bg 0 0 M M7 := (hB0.trans hB7').le (by omega) (by omega)
      have s4_8 : ρ8.1 4 = ρ.1 4 := (by rw [e8, RS.setS_ne (by decide)])
      have s30_8 : ρ8.1 30 = ρ.1 30 := (by rw [e8, RS.setS_ne (by decide)])
      have t_8 : thN ρ8 = thN ρ := by rw [e8]; rfl
      clear hA hB hC hD hE hN hG hH hI hJ hK hL
      obtain ⟨hA, hB, hC, hD, hE, hN, hG, hH, hI, hJ, hK, hL⟩ := id hCl8
      exact S_iret dX8_forgeCopy_95 rfl (Or.inl rfl) (by
      have e9 : fgC ρ i 2 = ((ρ.2 33 l + ρ.2 34 l : Int), ρ8) := by
        unfold fgC
        rw [if_neg (by omega), if_neg (by omega), if_pos (by decide), h40, Int.toNat_natCast, if_pos (by decide), if_pos (by decide)]
        rw [e8]
      rw [e9]
      exact ⟨rfl, ⟨sc, kn, hS8, hCl8⟩, hF8, hB8.le (by omega) (by omega)⟩)
    · refine S_iload_n dX8_forgeCopy_36 rfl ?_
      refine S_if_lt 55 dX8_forgeCopy_37 (by decide) (by omega) (fun c_37 => ?_) (fun c_37 => ?_)
      · refine S_aload_n dX8_forgeCopy_55 rfl ?_
        refine S_bipush dX8_forgeCopy_56 (by decide) ?_
        refine S_callV (mi := mi_X8_forgeCopy) [vI 12] ok_X8_refuse ml_X8_54 dX8_forgeCopy_58 rfl (by decide) rfl (by decide) rfl (Nat.le_of_ble_eq_true rfl) rfl (c_refuse (show Cs Y ρ M from ⟨sc, kn, hS, hCl⟩) 12) ?_
        rintro v' M9 ⟨rfl, hCs9, hF9', hB9'⟩
        obtain ⟨ρ10, e10⟩ : ∃ z9 : RS, z9 = (ρ.setS 42 12) := ⟨_, rfl⟩
        rw [← e10] at hCs9
        obtain ⟨sc, kn, hS10, hCl10⟩ := hCs9
        have hF10 : Fr CLs M M9 := hF0.trans hF9'
        have hB10 : Bg 0 0 M M9 := (hB0.trans hB9').le (by omega) (by omega)
        have s4_10 : ρ10.1 4 = ρ.1 4 := (by rw [e10, RS.setS_ne (by decide)])
        have s30_10 : ρ10.1 30 = ρ.1 30 := (by rw [e10, RS.setS_ne (by decide)])
        have t_10 : thN ρ10 = thN ρ := by rw [e10]; rfl
        clear hA hB hC hD hE hN hG hH hI hJ hK hL
        obtain ⟨hA, hB, hC, hD, hE, hN, hG, hH, hI, hJ, hK, hL⟩ := id hCl10
        exact S_iret dX8_forgeCopy_61 rfl (Or.inl rfl) (by
      have e9 : fgC ρ i n = (((-1) : Int), ρ10) := by
        unfold fgC
        rw [if_neg (by omega), if_neg (by omega), if_neg hnn]
        rw [e10]
      rw [e9]
      exact ⟨rfl, ⟨sc, kn, hS10, hCl10⟩, hF10, hB10.le (by omega) (by omega)⟩)
      · refine S_iconst dX8_forgeCopy_40 ?_
        refine S_iload_n dX8_forgeCopy_41 rfl ?_
        refine S_iadd dX8_forgeCopy_42 ?_
        refine S_aload_n dX8_forgeCopy_43 rfl ?_
        refine S_alen dX8_forgeCopy_44 rfl (by decide) rfl (by rw [(show M.len (13, l) = some 3 from (hJ.2.1 l (by omega)).2.2.1)]) ?_
        refine S_icmp_gt 55 dX8_forgeCopy_45 (by decide) (by omega) (fun c_45 => ?_) (fun c_45 => absurd c_45 (by omega))
        refine S_aload_n dX8_forgeCopy_55 rfl ?_
        refine S_bipush dX8_forgeCopy_56 (by decide) ?_
        refine S_callV (mi := mi_X8_forgeCopy) [vI 12] ok_X8_refuse ml_X8_54 dX8_forgeCopy_58 rfl (by decide) rfl (by decide) rfl (Nat.le_of_ble_eq_true rfl) rfl (c_refuse (show Cs Y ρ M from ⟨sc, kn, hS, hCl⟩) 12) ?_
        rintro v' M11 ⟨rfl, hCs11, hF11', hB11'⟩
        obtain ⟨ρ12, e12⟩ : ∃ z9 : RS, z9 = (ρ.setS 42 12) := ⟨_, rfl⟩
        rw [← e12] at hCs11
        obtain ⟨sc, kn, hS12, hCl12⟩ := hCs11
        have hF12 : Fr CLs M M11 := hF0.trans hF11'
        have hB12 : Bg 0 0 M M11 := (hB0.trans hB11').le (by omega) (by omega)
        have s4_12 : ρ12.1 4 = ρ.1 4 := (by rw [e12, RS.setS_ne (by decide)])
        have s30_12 : ρ12.1 30 = ρ.1 30 := (by rw [e12, RS.setS_ne (by decide)])
        have t_12 : thN ρ12 = thN ρ := by rw [e12]; rfl
        clear hA hB hC hD hE hN hG hH hI hJ hK hL
        obtain ⟨hA, hB, hC, hD, hE, hN, hG, hH, hI, hJ, hK, hL⟩ := id hCl12
        exact S_iret dX8_forgeCopy_61 rfl (Or.inl rfl) (by
      have e9 : fgC ρ i n = (((-1) : Int), ρ12) := by
        unfold fgC
        rw [if_neg (by omega), if_neg (by omega), if_neg hnn]
        rw [e12]
      rw [e9]
      exact ⟨rfl, ⟨sc, kn, hS12, hCl12⟩, hF12, hB12.le (by omega) (by omega)⟩)
  · refine S_aload_n dX8_forgeCopy_0 rfl ?_
    refine S_getP (o := some (19, n0)) fl_X8_278 dX8_forgeCopy_1 rfl rfl (by rw [(show M.P (15, i) 0 = some (19, n0) from congrFun hOb.2.2 0)]) ?_
    refine S_ifnull 14 dX8_forgeCopy_4 (by decide) (fun c_4 => absurd c_4 (by simp)) (fun c_4 => ?_)
    refine S_aload_n dX8_forgeCopy_7 rfl ?_
    refine S_bipush dX8_forgeCopy_8 (by decide) ?_
    refine S_callV (mi := mi_X8_forgeCopy) [vI 11] ok_X8_refuse ml_X8_54 dX8_forgeCopy_10 rfl (by decide) rfl (by decide) rfl (Nat.le_of_ble_eq_true rfl) rfl (c_refuse (show Cs Y ρ M from ⟨sc, kn, hS, hCl⟩) 11) ?_
    rintro v' M13 ⟨rfl, hCs13, hF13', hB13'⟩
    obtain ⟨ρ14, e14⟩ : ∃ z9 : RS, z9 = (ρ.setS 42 11) := ⟨_, rfl⟩
    rw [← e14] at hCs13
    obtain ⟨sc, kn, hS14, hCl14⟩ := hCs13
    have hF14 : Fr CLs M M13 := hF0.trans hF13'
    have hB14 : Bg 0 0 M M13 := (hB0.trans hB13').le (by omega) (by omega)
    have s4_14 : ρ14.1 4 = ρ.1 4 := (by rw [e14, RS.setS_ne (by decide)])
    have s30_14 : ρ14.1 30 = ρ.1 30 := (by rw [e14, RS.setS_ne (by decide)])
    have t_14 : thN ρ14 = thN ρ := by rw [e14]; rfl
    clear hA hB hC hD hE hN hG hH hI hJ hK hL
    obtain ⟨hA, hB, hC, hD, hE, hN, hG, hH, hI, hJ, hK, hL⟩ := id hCl14
    exact S_iret dX8_forgeCopy_13 rfl (Or.inl rfl) (by
      have e9 : fgC ρ i n = (((-1) : Int), ρ14) := by
        unfold fgC
        rw [if_neg (by omega), if_pos (by omega)]
        rw [e14]
      rw [e9]
      exact ⟨rfl, ⟨sc, kn, hS14, hCl14⟩, hF14, hB14.le (by omega) (by omega)⟩)
  · have hk4 : ρ.2 6 t2 = 0 ∨ ρ.2 6 t2 = 1 ∨ ρ.2 6 t2 = 2 ∨ ρ.2 6 t2 = 3 := by
      have q := hTI.2.2.1 t2 ht2
      have q2 := (hTr i hi).1
      unfold Kfm at q
      omega
    refine S_aload_n dX8_forgeCopy_0 rfl ?_
    refine S_getP (o := some (18, t2)) fl_X8_278 dX8_forgeCopy_1 rfl rfl (by rw [(show M.P (15, i) 0 = some (18, t2) from congrFun hOb.2.2 0)]) ?_
    refine S_ifnull 14 dX8_forgeCopy_4 (by decide) (fun c_4 => absurd c_4 (by simp)) (fun c_4 => ?_)
    refine S_aload_n dX8_forgeCopy_7 rfl ?_
    refine S_bipush dX8_forgeCopy_8 (by decide) ?_
    refine S_callV (mi := mi_X8_forgeCopy) [vI 11] ok_X8_refuse ml_X8_54 dX8_forgeCopy_10 rfl (by decide) rfl (by decide) rfl (Nat.le_of_ble_eq_true rfl) rfl (c_refuse (show Cs Y ρ M from ⟨sc, kn, hS, hCl⟩) 11) ?_
    rintro v' M15 ⟨rfl, hCs15, hF15', hB15'⟩
    obtain ⟨ρ16, e16⟩ : ∃ z9 : RS, z9 = (ρ.setS 42 11) := ⟨_, rfl⟩
    rw [← e16] at hCs15
    obtain ⟨sc, kn, hS16, hCl16⟩ := hCs15
    have hF16 : Fr CLs M M15 := hF0.trans hF15'
    have hB16 : Bg 0 0 M M15 := (hB0.trans hB15').le (by omega) (by omega)
    have s4_16 : ρ16.1 4 = ρ.1 4 := (by rw [e16, RS.setS_ne (by decide)])
    have s30_16 : ρ16.1 30 = ρ.1 30 := (by rw [e16, RS.setS_ne (by decide)])
    have t_16 : thN ρ16 = thN ρ := by rw [e16]; rfl
    clear hA hB hC hD hE hN hG hH hI hJ hK hL
    obtain ⟨hA, hB, hC, hD, hE, hN, hG, hH, hI, hJ, hK, hL⟩ := id hCl16
    exact S_iret dX8_forgeCopy_13 rfl (Or.inl rfl) (by
      have e9 : fgC ρ i n = (((-1) : Int), ρ16) := by
        unfold fgC
        rw [if_neg (by omega), if_pos (by omega)]
        rw [e16]
      rw [e9]
      exact ⟨rfl, ⟨sc, kn, hS16, hCl16⟩, hF16, hB16.le (by omega) (by omega)⟩)
set_option maxHeartbeats 20000000 in
set_option maxRecDepth 100000 in
theorem c_forge {G : Ge} {M : Mem} {Y : (Nat → Bool) × (Nat → Bool)} {ρ : RS} (hCs : Cs Y ρ M) (hIv : Iv Y ρ) (t w9 n : Int) (t32 : -2147483648 ≤ t ∧ t < 2147483648) (w932 : -2147483648 ≤ w9 ∧ w9 < 2147483648) (n32 : -2147483648 ≤ n ∧ n < 2147483648) : Ct G mi_X8_forge [vR ((1, 0)), vI t, vI w9, vI n] M (CP Y ((forgeF ρ t w9 n).2) 0 0 (some (vI (forgeF ρ t w9 n).1)) M) := by
  refine Ct.of pl_X8_forge [some (vR ((1, 0))), some (vI t), some (vI w9), some (vI n), none] rfl (Nat.le_of_ble_eq_true rfl) ?_
  obtain ⟨sc, kn, hS, hCl⟩ := hCs
  have hF0 : Fr CLs M M := Fr.rf CLs M
  have hB0 : Bg 0 0 M M := Bg.rf M
  obtain ⟨hA, hB, hC, hD, hE, hN, hG, hH, hI, hJ, hK, hL⟩ := id hCl
  obtain ⟨⟨hp, hl, hm, hli, h44⟩, ⟨hTI, hSh⟩, ⟨hRo, hRp⟩, ⟨hEd, hOw, hYs, hSt⟩, hEn, hLf, ⟨hKo, hKy, hTs, hTl⟩, ⟨hLt, hLp⟩, hTr, hFe⟩ := id hIv
  refine S_aload_n dX8_forge_0 rfl ?_
  refine S_iload_n dX8_forge_1 rfl ?_
  by_cases hvt : 0 ≤ t ∧ t < 8
  · obtain ⟨i, rfl⟩ : ∃ i : Nat, t = ↑i := ⟨t.toNat, by omega⟩
    have hi8 : i < 8 := by omega
    refine S_callV (mi := mi_X8_forge) [vI (↑i)] ok_X8_trayAt ml_X8_258 dX8_forge_2 rfl (by decide) rfl (by decide) rfl (Nat.le_of_ble_eq_true rfl) rfl (c_trayAt hCl i (by omega)) ?_
    rintro v' M1 ⟨rfl, hM1⟩
    rw [hM1]
    clear hM1
    refine S_astore dX8_forge_5 (by decide) ?_
    refine S_aload dX8_forge_7 rfl ?_
    refine S_ifnull 24 dX8_forge_9 (by decide) (fun c_9 => absurd c_9 (by simp)) (fun c_9 => ?_)
    refine S_iload_n dX8_forge_12 rfl ?_
    refine S_bipush dX8_forge_13 (by decide) ?_
    refine S_icmp_lt 24 dX8_forge_15 (by decide) (by omega) (fun c_15 => ?_) (fun c_15 => ?_)
    · refine S_aload_n dX8_forge_24 rfl ?_
      refine S_iconst dX8_forge_25 ?_
      refine S_callV (mi := mi_X8_forge) [vI 1] ok_X8_refuse ml_X8_54 dX8_forge_26 rfl (by decide) rfl (by decide) rfl (Nat.le_of_ble_eq_true rfl) rfl (c_refuse (show Cs Y ρ M from ⟨sc, kn, hS, hCl⟩) 1) ?_
      rintro v' M2 ⟨rfl, hCs2, hF2', hB2'⟩
      obtain ⟨ρ3, e3⟩ : ∃ z9 : RS, z9 = (ρ.setS 42 1) := ⟨_, rfl⟩
      rw [← e3] at hCs2
      obtain ⟨sc, kn, hS3, hCl3⟩ := hCs2
      have hF3 : Fr CLs M M2 := hF0.trans hF2'
      have hB3 : Bg 0 0 M M2 := (hB0.trans hB2').le (by omega) (by omega)
      have s4_3 : ρ3.1 4 = ρ.1 4 := (by rw [e3, RS.setS_ne (by decide)])
      have s30_3 : ρ3.1 30 = ρ.1 30 := (by rw [e3, RS.setS_ne (by decide)])
      have t_3 : thN ρ3 = thN ρ := by rw [e3]; rfl
      clear hA hB hC hD hE hN hG hH hI hJ hK hL
      obtain ⟨hA, hB, hC, hD, hE, hN, hG, hH, hI, hJ, hK, hL⟩ := id hCl3
      exact S_iret dX8_forge_29 rfl (Or.inl rfl) (by
      have e9 : forgeF ρ (↑i) w9 n = (((-1) : Int), ρ3) := by
        unfold forgeF
        rw [if_pos (by omega), e3]
      rw [e9]
      exact ⟨rfl, ⟨sc, kn, hS3, hCl3⟩, hF3, hB3.le (by omega) (by omega)⟩)
    · refine S_iload_n dX8_forge_18 rfl ?_
      refine S_bipush dX8_forge_19 (by decide) ?_
      refine S_icmp_le 30 dX8_forge_21 (by decide) (by omega) (fun c_21 => ?_) (fun c_21 => ?_)
      · refine S_iload_n dX8_forge_30 rfl ?_
        rcases (show w9 = 0 ∨ w9 = 1 ∨ w9 = 2 ∨ w9 = 3 ∨ w9 = 4 ∨ w9 = 5 ∨ w9 = 6 ∨ (w9 < 0 ∨ 6 < w9) from by omega) with t_31 | t_31 | t_31 | t_31 | t_31 | t_31 | t_31 | t_31
        · refine S_tableIn 72 dX8_forge_31 (by omega) (by omega) (by rw [t_31]; rfl) (by decide) ?_
          refine S_aload_n dX8_forge_72 rfl ?_
          refine S_aload dX8_forge_73 rfl ?_
          refine S_iload_n dX8_forge_75 rfl ?_
          refine S_bipush dX8_forge_76 (by decide) ?_
          refine S_callS (mi := mi_X8_forge) [vI n, vI 6] ok_J9_floorMod_7cf53 ml_X8_291 dX8_forge_78 (by decide) rfl (Nat.le_of_ble_eq_true rfl) rfl (c_floorMod6 n (by omega)) ?_
          rintro v' M4 ⟨rfl, hM4⟩
          rw [hM4]
          clear hM4
          refine S_callV (mi := mi_X8_forge) [vR ((15, i)), vI (n % 6)] ok_X8_forgeKind ml_X8_296 dX8_forge_81 rfl (by decide) rfl (by decide) rfl (Nat.le_of_ble_eq_true rfl) rfl (c_forgeKind (show Cs Y ρ M from ⟨sc, kn, hS, hCl⟩) hIv i hi8 (n % 6) (by omega)) ?_
          rintro v' M5 ⟨rfl, hCs5, hF5, hB5⟩
          exact S_iret dX8_forge_84 rfl (Or.inl rfl) (by
      have e9 : forgeF ρ (↑i) w9 n = fgK ρ i (n % 6) := by
        unfold forgeF
        rw [if_neg (by omega), Int.toNat_natCast, if_pos (by omega), (fmx6 (n := n) (by omega)).2.2.2]
        rfl
      rw [e9]
      exact ⟨rfl, hCs5, hF5, hB5.le (by omega) (by omega)⟩)
        · refine S_tableIn 85 dX8_forge_31 (by omega) (by omega) (by rw [t_31]; rfl) (by decide) ?_
          refine S_aload_n dX8_forge_85 rfl ?_
          refine S_aload dX8_forge_86 rfl ?_
          refine S_iload_n dX8_forge_88 rfl ?_
          refine S_callV (mi := mi_X8_forge) [vR ((15, i)), vI n] ok_X8_forgeHeader ml_X8_300 dX8_forge_89 rfl (by decide) rfl (by decide) rfl (Nat.le_of_ble_eq_true rfl) rfl (c_forgeHeader (show Cs Y ρ M from ⟨sc, kn, hS, hCl⟩) hIv i hi8 n (by omega)) ?_
          rintro v' M6 ⟨rfl, hCs6, hF6, hB6⟩
          exact S_iret dX8_forge_92 rfl (Or.inl rfl) (by
      have e9 : forgeF ρ (↑i) w9 n = fgH ρ i n := by
        unfold forgeF
        rw [if_neg (by omega), Int.toNat_natCast, if_neg (by omega), if_pos (by omega)]
        rfl
      rw [e9]
      exact ⟨rfl, hCs6, hF6, hB6.le (by omega) (by omega)⟩)
        · refine S_tableIn 93 dX8_forge_31 (by omega) (by omega) (by rw [t_31]; rfl) (by decide) ?_
          refine S_iload_n dX8_forge_93 rfl ?_
          refine S_if_ge 106 dX8_forge_94 (by decide) (by omega) (fun c_94 => ?_) (fun c_94 => ?_)
          · refine S_aload_n dX8_forge_106 rfl ?_
            refine S_iload_n dX8_forge_107 rfl ?_
            refine S_callV (mi := mi_X8_forge) [vI n] ok_X8_done ml_X8_69 dX8_forge_108 rfl (by decide) rfl (by decide) rfl (Nat.le_of_ble_eq_true rfl) rfl (c_done (show Cs Y ρ M from ⟨sc, kn, hS, hCl⟩) n) ?_
            rintro v' M7 ⟨rfl, hCs7, hF7', hB7'⟩
            obtain ⟨ρ8, e8⟩ : ∃ z9 : RS, z9 = (ρ.setS 42 0) := ⟨_, rfl⟩
            rw [← e8] at hCs7
            obtain ⟨sc, kn, hS8, hCl8⟩ := hCs7
            have hF8 : Fr CLs M M7 := hF0.trans hF7'
            have hB8 : Bg 0 0 M M7 := (hB0.trans hB7').le (by omega) (by omega)
            have s4_8 : ρ8.1 4 = ρ.1 4 := (by rw [e8, RS.setS_ne (by decide)])
            have s30_8 : ρ8.1 30 = ρ.1 30 := (by rw [e8, RS.setS_ne (by decide)])
            have t_8 : thN ρ8 = thN ρ := by rw [e8]; rfl
            clear hA hB hC hD hE hN hG hH hI hJ hK hL
            obtain ⟨hA, hB, hC, hD, hE, hN, hG, hH, hI, hJ, hK, hL⟩ := id hCl8
            exact S_iret dX8_forge_111 rfl (Or.inl rfl) (by
      have e9 : forgeF ρ (↑i) w9 n = ((n : Int), ρ8) := by
        unfold forgeF
        rw [if_neg (by omega), if_neg (by omega), if_neg (by omega), if_pos (by omega), if_neg (by omega), e8]
      rw [e9]
      exact ⟨rfl, ⟨sc, kn, hS8, hCl8⟩, hF8, hB8.le (by omega) (by omega)⟩)
          · refine S_aload_n dX8_forge_97 rfl ?_
            refine S_bipush dX8_forge_98 (by decide) ?_
            refine S_callV (mi := mi_X8_forge) [vI 13] ok_X8_refuse ml_X8_54 dX8_forge_100 rfl (by decide) rfl (by decide) rfl (Nat.le_of_ble_eq_true rfl) rfl (c_refuse (show Cs Y ρ M from ⟨sc, kn, hS, hCl⟩) 13) ?_
            rintro v' M9 ⟨rfl, hCs9, hF9', hB9'⟩
            obtain ⟨ρ10, e10⟩ : ∃ z9 : RS, z9 = (ρ.setS 42 13) := ⟨_, rfl⟩
            rw [← e10] at hCs9
            obtain ⟨sc, kn, hS10, hCl10⟩ := hCs9
            have hF10 : Fr CLs M M9 := hF0.trans hF9'
            have hB10 : Bg 0 0 M M9 := (hB0.trans hB9').le (by omega) (by omega)
            have s4_10 : ρ10.1 4 = ρ.1 4 := (by rw [e10, RS.setS_ne (by decide)])
            have s30_10 : ρ10.1 30 = ρ.1 30 := (by rw [e10, RS.setS_ne (by decide)])
            have t_10 : thN ρ10 = thN ρ := by rw [e10]; rfl
            clear hA hB hC hD hE hN hG hH hI hJ hK hL
            obtain ⟨hA, hB, hC, hD, hE, hN, hG, hH, hI, hJ, hK, hL⟩ := id hCl10
            refine S_goto 111 dX8_forge_103 (by decide) ?_
            exact S_iret dX8_forge_111 rfl (Or.inl rfl) (by
      have e9 : forgeF ρ (↑i) w9 n = (((-1) : Int), ρ10) := by
        unfold forgeF
        rw [if_neg (by omega), if_neg (by omega), if_neg (by omega), if_pos (by omega), if_pos (by omega), e10]
      rw [e9]
      exact ⟨rfl, ⟨sc, kn, hS10, hCl10⟩, hF10, hB10.le (by omega) (by omega)⟩)
        · refine S_tableIn 112 dX8_forge_31 (by omega) (by omega) (by rw [t_31]; rfl) (by decide) ?_
          refine S_aload_n dX8_forge_112 rfl ?_
          refine S_aload dX8_forge_113 rfl ?_
          refine S_iload_n dX8_forge_115 rfl ?_
          refine S_callV (mi := mi_X8_forge) [vR ((15, i)), vI n] ok_X8_forgeCopy ml_X8_303 dX8_forge_116 rfl (by decide) rfl (by decide) rfl (Nat.le_of_ble_eq_true rfl) rfl (c_forgeCopy (show Cs Y ρ M from ⟨sc, kn, hS, hCl⟩) hIv i hi8 n (by omega)) ?_
          rintro v' M11 ⟨rfl, hCs11, hF11, hB11⟩
          exact S_iret dX8_forge_119 rfl (Or.inl rfl) (by
      have e9 : forgeF ρ (↑i) w9 n = fgC ρ i n := by
        unfold forgeF
        rw [if_neg (by omega), Int.toNat_natCast, if_neg (by omega), if_neg (by omega), if_neg (by omega), if_pos (by omega)]
        rfl
      rw [e9]
      exact ⟨rfl, hCs11, hF11, hB11.le (by omega) (by omega)⟩)
        · refine S_tableIn 120 dX8_forge_31 (by omega) (by omega) (by rw [t_31]; rfl) (by decide) ?_
          refine S_aload_n dX8_forge_120 rfl ?_
          refine S_aload dX8_forge_121 rfl ?_
          refine S_callV (mi := mi_X8_forge) [vR ((15, i))] ok_X8_forgeRow ml_X8_306 dX8_forge_123 rfl (by decide) rfl (by decide) rfl (Nat.le_of_ble_eq_true rfl) rfl (c_forgeRow (show Cs Y ρ M from ⟨sc, kn, hS, hCl⟩) hIv i hi8) ?_
          rintro v' M12 ⟨rfl, hCs12, hF12, hB12⟩
          exact S_iret dX8_forge_126 rfl (Or.inl rfl) (by
      have e9 : forgeF ρ (↑i) w9 n = fgR ρ i := by
        unfold forgeF
        rw [if_neg (by omega), Int.toNat_natCast, if_neg (by omega), if_neg (by omega), if_neg (by omega), if_neg (by omega), if_pos (by omega)]
        rfl
      rw [e9]
      exact ⟨rfl, hCs12, hF12, hB12.le (by omega) (by omega)⟩)
        · refine S_tableIn 127 dX8_forge_31 (by omega) (by omega) (by rw [t_31]; rfl) (by decide) ?_
          refine S_iload_n dX8_forge_127 rfl ?_
          refine S_if_ne 140 dX8_forge_128 (by decide) (by omega) (fun c_128 => ?_) (fun c_128 => ?_)
          · refine S_aload_n dX8_forge_140 rfl ?_
            refine S_bipush dX8_forge_141 (by decide) ?_
            refine S_iload_n dX8_forge_143 rfl ?_
            refine S_idivV dX8_forge_144 (by omega) (by omega) ?_
            refine S_callV (mi := mi_X8_forge) [vI ((jI 100 / jI n).toInt)] ok_X8_done ml_X8_69 dX8_forge_145 rfl (by decide) rfl (by decide) rfl (Nat.le_of_ble_eq_true rfl) rfl (c_done (show Cs Y ρ M from ⟨sc, kn, hS, hCl⟩) ((jI 100 / jI n).toInt)) ?_
            rintro v' M13 ⟨rfl, hCs13, hF13', hB13'⟩
            obtain ⟨ρ14, e14⟩ : ∃ z9 : RS, z9 = (ρ.setS 42 0) := ⟨_, rfl⟩
            rw [← e14] at hCs13
            obtain ⟨sc, kn, hS14, hCl14⟩ := hCs13
            have hF14 : Fr CLs M M13 := hF0.trans hF13'
            have hB14 : Bg 0 0 M M13 := (hB0.trans hB13').le (by omega) (by omega)
            have s4_14 : ρ14.1 4 = ρ.1 4 := (by rw [e14, RS.setS_ne (by decide)])
            have s30_14 : ρ14.1 30 = ρ.1 30 := (by rw [e14, RS.setS_ne (by decide)])
            have t_14 : thN ρ14 = thN ρ := by rw [e14]; rfl
            clear hA hB hC hD hE hN hG hH hI hJ hK hL
            obtain ⟨hA, hB, hC, hD, hE, hN, hG, hH, hI, hJ, hK, hL⟩ := id hCl14
            exact S_iret dX8_forge_148 rfl (Or.inl rfl) (by
      have e9 : forgeF ρ (↑i) w9 n = (((jI 100 / jI n).toInt : Int), ρ14) := by
        unfold forgeF
        rw [if_neg (by omega), if_neg (by omega), if_neg (by omega), if_neg (by omega), if_neg (by omega), if_neg (by omega), if_pos (by omega), if_neg (by omega), e14]
      rw [e9]
      exact ⟨rfl, ⟨sc, kn, hS14, hCl14⟩, hF14, hB14.le (by omega) (by omega)⟩)
          · refine S_aload_n dX8_forge_131 rfl ?_
            refine S_bipush dX8_forge_132 (by decide) ?_
            refine S_callV (mi := mi_X8_forge) [vI 15] ok_X8_refuse ml_X8_54 dX8_forge_134 rfl (by decide) rfl (by decide) rfl (Nat.le_of_ble_eq_true rfl) rfl (c_refuse (show Cs Y ρ M from ⟨sc, kn, hS, hCl⟩) 15) ?_
            rintro v' M15 ⟨rfl, hCs15, hF15', hB15'⟩
            obtain ⟨ρ16, e16⟩ : ∃ z9 : RS, z9 = (ρ.setS 42 15) := ⟨_, rfl⟩
            rw [← e16] at hCs15
            obtain ⟨sc, kn, hS16, hCl16⟩ := hCs15
            have hF16 : Fr CLs M M15 := hF0.trans hF15'
            have hB16 : Bg 0 0 M M15 := (hB0.trans hB15').le (by omega) (by omega)
            have s4_16 : ρ16.1 4 = ρ.1 4 := (by rw [e16, RS.setS_ne (by decide)])
            have s30_16 : ρ16.1 30 = ρ.1 30 := (by rw [e16, RS.setS_ne (by decide)])
            have t_16 : thN ρ16 = thN ρ := by rw [e16]; rfl
            clear hA hB hC hD hE hN hG hH hI hJ hK hL
            obtain ⟨hA, hB, hC, hD, hE, hN, hG, hH, hI, hJ, hK, hL⟩ := id hCl16
            refine S_goto 148 dX8_forge_137 (by decide) ?_
            exact S_iret dX8_forge_148 rfl (Or.inl rfl) (by
      have e9 : forgeF ρ (↑i) w9 n = (((-1) : Int), ρ16) := by
        unfold forgeF
        rw [if_neg (by omega), if_neg (by omega), if_neg (by omega), if_neg (by omega), if_neg (by omega), if_neg (by omega), if_pos (by omega), if_pos (by omega), e16]
      rw [e9]
      exact ⟨rfl, ⟨sc, kn, hS16, hCl16⟩, hF16, hB16.le (by omega) (by omega)⟩)
        · refine S_tableIn 149 dX8_forge_31 (by omega) (by omega) (by rw [t_31]; rfl) (by decide) ?_
          refine S_iload_n dX8_forge_149 rfl ?_
          refine S_iconst dX8_forge_150 ?_
          refine S_callS (mi := mi_X8_forge) [vI n, vI 2] ok_J9_floorMod_7cf53 ml_X8_291 dX8_forge_151 (by decide) rfl (Nat.le_of_ble_eq_true rfl) rfl (c_floorMod2 n (by omega)) ?_
          rintro v' M17 ⟨rfl, hM17⟩
          rw [hM17]
          clear hM17
          refine S_if_ne 166 dX8_forge_154 (by decide) (by omega) (fun c_154 => ?_) (fun c_154 => ?_)
          · refine S_aload_n dX8_forge_166 rfl ?_
            refine S_iconst dX8_forge_167 ?_
            refine S_callV (mi := mi_X8_forge) [vI 1] ok_X8_done ml_X8_69 dX8_forge_168 rfl (by decide) rfl (by decide) rfl (Nat.le_of_ble_eq_true rfl) rfl (c_done (show Cs Y ρ M from ⟨sc, kn, hS, hCl⟩) 1) ?_
            rintro v' M18 ⟨rfl, hCs18, hF18', hB18'⟩
            obtain ⟨ρ19, e19⟩ : ∃ z9 : RS, z9 = (ρ.setS 42 0) := ⟨_, rfl⟩
            rw [← e19] at hCs18
            obtain ⟨sc, kn, hS19, hCl19⟩ := hCs18
            have hF19 : Fr CLs M M18 := hF0.trans hF18'
            have hB19 : Bg 0 0 M M18 := (hB0.trans hB18').le (by omega) (by omega)
            have s4_19 : ρ19.1 4 = ρ.1 4 := (by rw [e19, RS.setS_ne (by decide)])
            have s30_19 : ρ19.1 30 = ρ.1 30 := (by rw [e19, RS.setS_ne (by decide)])
            have t_19 : thN ρ19 = thN ρ := by rw [e19]; rfl
            clear hA hB hC hD hE hN hG hH hI hJ hK hL
            obtain ⟨hA, hB, hC, hD, hE, hN, hG, hH, hI, hJ, hK, hL⟩ := id hCl19
            exact S_iret dX8_forge_171 rfl (Or.inl rfl) (by
      have e9 : forgeF ρ (↑i) w9 n = ((1 : Int), ρ19) := by
        unfold forgeF
        rw [if_neg (by omega), if_neg (by omega), if_neg (by omega), if_neg (by omega), if_neg (by omega), if_neg (by omega), if_neg (by omega), and1, if_neg (by omega), e19]
      rw [e9]
      exact ⟨rfl, ⟨sc, kn, hS19, hCl19⟩, hF19, hB19.le (by omega) (by omega)⟩)
          · refine S_aload_n dX8_forge_157 rfl ?_
            refine S_bipush dX8_forge_158 (by decide) ?_
            refine S_callV (mi := mi_X8_forge) [vI 10] ok_X8_refuse ml_X8_54 dX8_forge_160 rfl (by decide) rfl (by decide) rfl (Nat.le_of_ble_eq_true rfl) rfl (c_refuse (show Cs Y ρ M from ⟨sc, kn, hS, hCl⟩) 10) ?_
            rintro v' M20 ⟨rfl, hCs20, hF20', hB20'⟩
            obtain ⟨ρ21, e21⟩ : ∃ z9 : RS, z9 = (ρ.setS 42 10) := ⟨_, rfl⟩
            rw [← e21] at hCs20
            obtain ⟨sc, kn, hS21, hCl21⟩ := hCs20
            have hF21 : Fr CLs M M20 := hF0.trans hF20'
            have hB21 : Bg 0 0 M M20 := (hB0.trans hB20').le (by omega) (by omega)
            have s4_21 : ρ21.1 4 = ρ.1 4 := (by rw [e21, RS.setS_ne (by decide)])
            have s30_21 : ρ21.1 30 = ρ.1 30 := (by rw [e21, RS.setS_ne (by decide)])
            have t_21 : thN ρ21 = thN ρ := by rw [e21]; rfl
            clear hA hB hC hD hE hN hG hH hI hJ hK hL
            obtain ⟨hA, hB, hC, hD, hE, hN, hG, hH, hI, hJ, hK, hL⟩ := id hCl21
            refine S_goto 171 dX8_forge_163 (by decide) ?_
            exact S_iret dX8_forge_171 rfl (Or.inl rfl) (by
      have e9 : forgeF ρ (↑i) w9 n = (((-1) : Int), ρ21) := by
        unfold forgeF
        rw [if_neg (by omega), if_neg (by omega), if_neg (by omega), if_neg (by omega), if_neg (by omega), if_neg (by omega), if_neg (by omega), and1, if_pos (by omega), e21]
      rw [e9]
      exact ⟨rfl, ⟨sc, kn, hS21, hCl21⟩, hF21, hB21.le (by omega) (by omega)⟩)
        · refine S_tableOut 172 dX8_forge_31 (by omega) t_31 (by decide) ?_
          refine S_aload_n dX8_forge_172 rfl ?_
          refine S_iconst dX8_forge_173 ?_
          refine S_callV (mi := mi_X8_forge) [vI 1] ok_X8_refuse ml_X8_54 dX8_forge_174 rfl (by decide) rfl (by decide) rfl (Nat.le_of_ble_eq_true rfl) rfl (c_refuse (show Cs Y ρ M from ⟨sc, kn, hS, hCl⟩) 1) ?_
          rintro v' M22 ⟨rfl, hCs22, hF22', hB22'⟩
          obtain ⟨ρ23, e23⟩ : ∃ z9 : RS, z9 = (ρ.setS 42 1) := ⟨_, rfl⟩
          rw [← e23] at hCs22
          obtain ⟨sc, kn, hS23, hCl23⟩ := hCs22
          have hF23 : Fr CLs M M22 := hF0.trans hF22'
          have hB23 : Bg 0 0 M M22 := (hB0.trans hB22').le (by omega) (by omega)
          have s4_23 : ρ23.1 4 = ρ.1 4 := (by rw [e23, RS.setS_ne (by decide)])
          have s30_23 : ρ23.1 30 = ρ.1 30 := (by rw [e23, RS.setS_ne (by decide)])
          have t_23 : thN ρ23 = thN ρ := by rw [e23]; rfl
          clear hA hB hC hD hE hN hG hH hI hJ hK hL
          obtain ⟨hA, hB, hC, hD, hE, hN, hG, hH, hI, hJ, hK, hL⟩ := id hCl23
          exact S_iret dX8_forge_177 rfl (Or.inl rfl) (by
      have e9 : forgeF ρ (↑i) w9 n = (((-1) : Int), ρ23) := by
        unfold forgeF
        rw [if_pos (by omega), e23]
      rw [e9]
      exact ⟨rfl, ⟨sc, kn, hS23, hCl23⟩, hF23, hB23.le (by omega) (by omega)⟩)
      · refine S_aload_n dX8_forge_24 rfl ?_
        refine S_iconst dX8_forge_25 ?_
        refine S_callV (mi := mi_X8_forge) [vI 1] ok_X8_refuse ml_X8_54 dX8_forge_26 rfl (by decide) rfl (by decide) rfl (Nat.le_of_ble_eq_true rfl) rfl (c_refuse (show Cs Y ρ M from ⟨sc, kn, hS, hCl⟩) 1) ?_
        rintro v' M24 ⟨rfl, hCs24, hF24', hB24'⟩
        obtain ⟨ρ25, e25⟩ : ∃ z9 : RS, z9 = (ρ.setS 42 1) := ⟨_, rfl⟩
        rw [← e25] at hCs24
        obtain ⟨sc, kn, hS25, hCl25⟩ := hCs24
        have hF25 : Fr CLs M M24 := hF0.trans hF24'
        have hB25 : Bg 0 0 M M24 := (hB0.trans hB24').le (by omega) (by omega)
        have s4_25 : ρ25.1 4 = ρ.1 4 := (by rw [e25, RS.setS_ne (by decide)])
        have s30_25 : ρ25.1 30 = ρ.1 30 := (by rw [e25, RS.setS_ne (by decide)])
        have t_25 : thN ρ25 = thN ρ := by rw [e25]; rfl
        clear hA hB hC hD hE hN hG hH hI hJ hK hL
        obtain ⟨hA, hB, hC, hD, hE, hN, hG, hH, hI, hJ, hK, hL⟩ := id hCl25
        exact S_iret dX8_forge_29 rfl (Or.inl rfl) (by
      have e9 : forgeF ρ (↑i) w9 n = (((-1) : Int), ρ25) := by
        unfold forgeF
        rw [if_pos (by omega), e25]
      rw [e9]
      exact ⟨rfl, ⟨sc, kn, hS25, hCl25⟩, hF25, hB25.le (by omega) (by omega)⟩)
  · refine S_callV (mi := mi_X8_forge) [vI t] ok_X8_trayAt ml_X8_258 dX8_forge_2 rfl (by decide) rfl (by decide) rfl (Nat.le_of_ble_eq_true rfl) rfl (c_trayAtN hCl t t32 hvt) ?_
    rintro v' M26 ⟨rfl, hM26⟩
    rw [hM26]
    clear hM26
    refine S_astore dX8_forge_5 (by decide) ?_
    refine S_aload dX8_forge_7 rfl ?_
    refine S_ifnull 24 dX8_forge_9 (by decide) (fun c_9 => ?_) (fun c_9 => absurd c_9 (by simp))
    refine S_aload_n dX8_forge_24 rfl ?_
    refine S_iconst dX8_forge_25 ?_
    refine S_callV (mi := mi_X8_forge) [vI 1] ok_X8_refuse ml_X8_54 dX8_forge_26 rfl (by decide) rfl (by decide) rfl (Nat.le_of_ble_eq_true rfl) rfl (c_refuse (show Cs Y ρ M from ⟨sc, kn, hS, hCl⟩) 1) ?_
    rintro v' M27 ⟨rfl, hCs27, hF27', hB27'⟩
    obtain ⟨ρ28, e28⟩ : ∃ z9 : RS, z9 = (ρ.setS 42 1) := ⟨_, rfl⟩
    rw [← e28] at hCs27
    obtain ⟨sc, kn, hS28, hCl28⟩ := hCs27
    have hF28 : Fr CLs M M27 := hF0.trans hF27'
    have hB28 : Bg 0 0 M M27 := (hB0.trans hB27').le (by omega) (by omega)
    have s4_28 : ρ28.1 4 = ρ.1 4 := (by rw [e28, RS.setS_ne (by decide)])
    have s30_28 : ρ28.1 30 = ρ.1 30 := (by rw [e28, RS.setS_ne (by decide)])
    have t_28 : thN ρ28 = thN ρ := by rw [e28]; rfl
    clear hA hB hC hD hE hN hG hH hI hJ hK hL
    obtain ⟨hA, hB, hC, hD, hE, hN, hG, hH, hI, hJ, hK, hL⟩ := id hCl28
    exact S_iret dX8_forge_29 rfl (Or.inl rfl) (by
      have e9 : forgeF ρ t w9 n = (((-1) : Int), ρ28) := by
        unfold forgeF
        rw [if_pos (by omega), e28]
      rw [e9]
      exact ⟨rfl, ⟨sc, kn, hS28, hCl28⟩, hF28, hB28.le (by omega) (by omega)⟩)
