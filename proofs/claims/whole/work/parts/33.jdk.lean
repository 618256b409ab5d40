/-! THE CLASS: memories; the JDK's list -/
theorem rne {a b c d : Nat} (h : a ≠ c) : ((a, b) : Role) ≠ (c, d) := fun e => h (congrArg Prod.fst e)
theorem rni {a b d : Nat} (h : b ≠ d) : ((a, b) : Role) ≠ (a, d) := fun e => h (congrArg Prod.snd e)
section
variable {M : Mem} {r r' : Role} {k k' n cost : Nat} {v : Int} {o : Option Role}
theorem Mem.putI_eq : (M.putI r k v).I r k = v := if_pos ⟨rfl, rfl⟩
theorem Mem.putI_at (h : r' ≠ r ∨ k' ≠ k) : (M.putI r k v).I r' k' = M.I r' k' := if_neg (fun q => by rcases h with h | h; exact h q.1; exact h q.2)
theorem Mem.putI_P : (M.putI r k v).P r' k' = M.P r' k' := rfl
theorem Mem.putI_len : (M.putI r k v).len r' = M.len r' := rfl
theorem Mem.putP_eq : (M.putP r k o).P r k = o := if_pos ⟨rfl, rfl⟩
theorem Mem.putP_at (h : r' ≠ r ∨ k' ≠ k) : (M.putP r k o).P r' k' = M.P r' k' := if_neg (fun q => by rcases h with h | h; exact h q.1; exact h q.2)
theorem Mem.putP_I : (M.putP r k o).I r' k' = M.I r' k' := rfl
theorem Mem.putP_len : (M.putP r k o).len r' = M.len r' := rfl
theorem Mem.new_I_eq : (M.new r n cost).I r k = 0 := if_pos rfl
theorem Mem.new_P_eq : (M.new r n cost).P r k = none := if_pos rfl
theorem Mem.new_len_eq : (M.new r n cost).len r = some n := if_pos rfl
theorem Mem.new_I_ne (h : r' ≠ r) : (M.new r n cost).I r' k = M.I r' k := if_neg h
theorem Mem.new_P_ne (h : r' ≠ r) : (M.new r n cost).P r' k = M.P r' k := if_neg h
theorem Mem.new_len_ne (h : r' ≠ r) : (M.new r n cost).len r' = M.len r' := if_neg h
end
-- only roles of these codes are touched
def Fr (cs : List Nat) (M M' : Mem) : Prop := ∀ r : Role, r.1 ∉ cs → M'.len r = M.len r ∧ M'.I r = M.I r ∧ M'.P r = M.P r
theorem Fr.rf (cs : List Nat) (M : Mem) : Fr cs M M := fun _ _ => ⟨rfl, rfl, rfl⟩
theorem Fr.trans {cs : List Nat} {M M1 M2 : Mem} (h : Fr cs M M1) (g : Fr cs M1 M2) : Fr cs M M2 := fun r hr => ⟨(g r hr).1.trans (h r hr).1, (g r hr).2.1.trans (h r hr).2.1, (g r hr).2.2.trans (h r hr).2.2⟩
theorem Fr.mono {cs ds : List Nat} {M M' : Mem} (h : Fr cs M M') (hs : ∀ c ∈ cs, c ∈ ds) : Fr ds M M' := fun r hr => h r (fun q => hr (hs _ q))
theorem Fr.I {cs : List Nat} {M M' : Mem} (h : Fr cs M M') (r : Role) (hr : r.1 ∉ cs) {k : Nat} : M'.I r k = M.I r k := congrFun (h r hr).2.1 k
theorem Fr.P {cs : List Nat} {M M' : Mem} (h : Fr cs M M') (r : Role) (hr : r.1 ∉ cs) {k : Nat} : M'.P r k = M.P r k := congrFun (h r hr).2.2 k
theorem Fr.len {cs : List Nat} {M M' : Mem} (h : Fr cs M M') (r : Role) (hr : r.1 ∉ cs) : M'.len r = M.len r := (h r hr).1
theorem Fr.putI {cs : List Nat} (M : Mem) (r : Role) (k : Nat) (v : Int) (hr : r.1 ∈ cs) : Fr cs M (M.putI r k v) := fun r' h => by
  have hne : r' ≠ r := fun e => h (by rw [e]; exact hr)
  exact ⟨rfl, funext fun k' => if_neg (fun q => hne q.1), rfl⟩
theorem Fr.putP {cs : List Nat} (M : Mem) (r : Role) (k : Nat) (o : Option Role) (hr : r.1 ∈ cs) : Fr cs M (M.putP r k o) := fun r' h => by
  have hne : r' ≠ r := fun e => h (by rw [e]; exact hr)
  exact ⟨rfl, rfl, funext fun k' => if_neg (fun q => hne q.1)⟩
theorem Fr.new {cs : List Nat} (M : Mem) (r : Role) (n cost : Nat) (hr : r.1 ∈ cs) : Fr cs M (M.new r n cost) := fun r' h => by
  have hne : r' ≠ r := fun e => h (by rw [e]; exact hr)
  exact ⟨if_neg hne, funext fun k' => if_neg hne, funext fun k' => if_neg hne⟩
theorem Fr.pI {cs : List Nat} (c i : Nat) (hc : c ∈ cs) {M : Mem} {k : Nat} {v : Int} : Fr cs M (M.putI (c, i) k v) := Fr.putI M (c, i) k v hc
theorem Fr.pP {cs : List Nat} (c i : Nat) (hc : c ∈ cs) {M : Mem} {k : Nat} {o : Option Role} : Fr cs M (M.putP (c, i) k o) := Fr.putP M (c, i) k o hc
theorem Fr.nw {cs : List Nat} (c i : Nat) (hc : c ∈ cs) {M : Mem} {n cost : Nat} : Fr cs M (M.new (c, i) n cost) := Fr.new M (c, i) n cost hc
theorem jI_shr {x : Int} (h : 0 ≤ x ∧ x < 2147483648) : jI x >>> (jI 1 &&& 31) = jI (x / 2) := by
  apply Int32.toInt_inj.mp
  rw [jI_toInt (z := x / 2) (by omega)]
  have e1 : (jI x >>> (jI 1 &&& 31)).toInt = (jI x).toInt >>> 1 := by
    show ((jI x).toBitVec.sshiftRight' ((jI 1 &&& 31).toBitVec.smod 32)).toInt = _
    rw [show ((jI 1 &&& 31).toBitVec.smod 32) = 1#32 from by decide]
    exact BitVec.toInt_sshiftRight
  rw [e1, jI_toInt (by omega), Int.shiftRight_eq_div_pow]
  rfl
theorem S_ishr1 {G : Ge} {mi : Mi} {Q : Option AVal → Mem → Prop} {pc : Nat} {L : List (Option AVal)} {st : List AVal} {M : Mem} {x : Int} (hd : decode mi.2.1 pc = .ok (.ishr, 1)) (hx : 0 ≤ x ∧ x < 2147483648) (k : Sf G mi Q (pc + 1) L (vI (x / 2) :: st) M) : Sf G mi Q pc L (vI 1 :: vI x :: st) M := by
  intro p e R s m args below meth c H locs cells slots ls rc0 rs0 A A0 M0 hC hF
  exact lv_ishr hC.1 hC.2.1 hd (by rw [jI_shr hx]; exact k p e R s m args below meth c H locs cells slots ls rc0 rs0 A A0 M0 hC (hF.st (fun h => h.pop.pop.pushI _)))
theorem Sf.nm {G : Ge} {mi : Mi} {Q : Option AVal → Mem → Prop} {pc : Nat} {L : List (Option AVal)} {st : List AVal} {X : Mem} (h : ∀ M', M' = X → Sf G mi Q pc L st M') : Sf G mi Q pc L st X := h X rfl
def capM (M : Mem) : Nat := match M.P (4, 0) 1 with
  | some r => (M.len r).getD 0
  | none => 0
-- the JDK's list of things: n of them, the cells (5, c) and behind are free
def Ls (n : Nat) (M : Mem) : Prop := M.len (4, 0) = some 0 ∧ M.I (4, 0) 2 = ↑n ∧ ∃ (lr : Role) (cap c : Nat), M.P (4, 0) 1 = some lr ∧ M.len lr = some cap ∧ (lr = (20, 0) ∧ cap = 0 ∨ lr.1 = 5 ∧ lr.2 < c ∧ 10 ≤ cap) ∧ n ≤ cap ∧ cap ≤ 12000 ∧ (∀ t, t < n → M.P lr t = some (18, t)) ∧ ∀ c', c ≤ c' → M.len (5, c') = none
theorem lc_J8_200 : Cond.constant RJ8 200 2147483639 ∈ wG := wG_of 398 (by decide +kernel) (by decide +kernel)
set_option maxRecDepth 100000 in
theorem c_Jxa1e45_init_da8c8 {G : Ge} {M : Mem} (r : Nat) : Ct G mi_Jxa1e45_init_da8c8 [vR ((4, r))] M (fun v' M' => v' = none ∧ M' = M) := by
  refine Ct.of pl_Jxa1e45_init_da8c8 [some (vR ((4, r)))] rfl (Nat.le_of_ble_eq_true rfl) ?_
  refine S_aload_n dJxa1e45_init_da8c8_0 rfl ?_
  refine S_objInit oi_Jxa1e45_1 dJxa1e45_init_da8c8_1 (by decide) (Nat.le_of_ble_eq_true rfl) ?_
  exact S_vret dJxa1e45_init_da8c8_4 rfl ⟨rfl, rfl⟩
set_option maxRecDepth 100000 in
theorem c_Jxc12de_init_da8c8 {G : Ge} {M : Mem}  : Ct G mi_Jxc12de_init_da8c8 [vR ((4, 0))] M (fun v' M' => v' = none ∧ M' = M.putI (4, 0) 0 0) := by
  refine Ct.of pl_Jxc12de_init_da8c8 [some (vR ((4, 0)))] rfl (Nat.le_of_ble_eq_true rfl) ?_
  refine S_aload_n dJxc12de_init_da8c8_0 rfl ?_
  refine S_callI (mi := mi_Jxc12de_init_da8c8) [] ok_Jxa1e45_init_da8c8 ml_Jxc12de_1 dJxc12de_init_da8c8_1 rfl rfl (by decide) rfl (Nat.le_of_ble_eq_true rfl) rfl (c_Jxa1e45_init_da8c8 0) ?_
  rintro v' M1 ⟨rfl, hM1⟩
  rw [hM1]
  clear hM1
  refine S_aload_n dJxc12de_init_da8c8_4 rfl ?_
  refine S_iconst dJxc12de_init_da8c8_5 ?_
  refine S_putI fl_Jxc12de_7 dJxc12de_init_da8c8_6 rfl rfl rfl  (Or.inl rfl) ?_
  refine Sf.nm (fun M2 hM2 => ?_)
  exact S_vret dJxc12de_init_da8c8_9 rfl ⟨rfl, hM2⟩
set_option maxRecDepth 100000 in
theorem c_Jx4a65c_init_da8c8 {G : Ge} {M : Mem}  : Ct G mi_Jx4a65c_init_da8c8 [vR ((4, 0))] M (fun v' M' => v' = none ∧ M' = (M.putI (4, 0) 0 0).putP (4, 0) 1 (some (20, 0))) := by
  refine Ct.of pl_Jx4a65c_init_da8c8 [some (vR ((4, 0)))] rfl (Nat.le_of_ble_eq_true rfl) ?_
  refine S_aload_n dJx4a65c_init_da8c8_0 rfl ?_
  refine S_callI (mi := mi_Jx4a65c_init_da8c8) [] ok_Jxc12de_init_da8c8 ml_Jx4a65c_1 dJx4a65c_init_da8c8_1 rfl rfl (by decide) rfl (Nat.le_of_ble_eq_true rfl) rfl (c_Jxc12de_init_da8c8) ?_
  rintro v' M1 ⟨rfl, hM1⟩
  refine S_aload_n dJx4a65c_init_da8c8_4 rfl ?_
  refine S_gets gs_Jx4a65c_39 dJx4a65c_init_da8c8_5 ?_
  refine S_putP fl_Jx4a65c_9 dJx4a65c_init_da8c8_8 rfl rfl rfl  ?_
  refine Sf.nm (fun M2 hM2 => ?_)
  exact S_vret dJx4a65c_init_da8c8_11 rfl ⟨rfl, by rw [hM2, hM1]⟩
set_option maxRecDepth 100000 in
theorem c_Jx4a65c_size_8abf5 {G : Ge} {M : Mem} (n : Nat) (h : Ls n M) : Ct G mi_Jx4a65c_size_8abf5 [vR ((4, 0))] M (fun v' M' => v' = some (vI ↑n) ∧ M' = M) := by
  refine Ct.of pl_Jx4a65c_size_8abf5 [some (vR ((4, 0)))] rfl (Nat.le_of_ble_eq_true rfl) ?_
  refine S_aload_n dJx4a65c_size_8abf5_0 rfl ?_
  refine S_getI (v := ↑n) fl_Jx4a65c_48 dJx4a65c_size_8abf5_1 rfl rfl (by rw [h.2.1]) ?_
  exact S_iret dJx4a65c_size_8abf5_4 rfl (Or.inl rfl) ⟨rfl, rfl⟩
set_option maxRecDepth 100000 in
theorem c_Jx4a65c_elementData_915e3 {G : Ge} {M : Mem} (n t : Nat) (h : Ls n M) (ht : t < n) : Ct G mi_Jx4a65c_elementData_915e3 [vR ((4, 0)), vI (↑t)] M (fun v' M' => v' = some (vR (18, t)) ∧ M' = M) := by
  refine Ct.of pl_Jx4a65c_elementData_915e3 [some (vR ((4, 0))), some (vI (↑t))] rfl (Nat.le_of_ble_eq_true rfl) ?_
  obtain ⟨h1, h2, lr, cap, c, h3, h4, h5, h6, h7, h8, h9⟩ := h
  have hlr : lr.1 = 5 := by
    rcases h5 with ⟨_, q⟩ | q
    · exfalso; omega
    · exact q.1
  obtain ⟨x, hx⟩ : ∃ x : Nat, lr = (5, x) := ⟨lr.2, by rw [← hlr]⟩
  subst hx
  refine S_aload_n dJx4a65c_elementData_915e3_0 rfl ?_
  refine S_getP (o := some (5, x)) fl_Jx4a65c_9 dJx4a65c_elementData_915e3_1 rfl rfl (by rw [h3]) ?_
  refine S_iload_n dJx4a65c_elementData_915e3_4 rfl ?_
  refine S_aald (o := some (18, t)) t dJx4a65c_elementData_915e3_5 rfl (by decide) rfl (by rw [h4]) (by omega) (by omega) (by rw [h8 t ht]) ?_
  exact S_aret dJx4a65c_elementData_915e3_6 rfl rfl ⟨rfl, rfl⟩
set_option maxRecDepth 100000 in
theorem c_J3_checkIndex_8e157 {G : Ge} {M : Mem} (t n : Nat) (ht : t < n) (hn : n < 100000) : Ct G mi_J3_checkIndex_8e157 [vI (↑t), vI (↑n), vN] M (fun v' M' => v' = some (vI ↑t) ∧ M' = M) := by
  refine Ct.of pl_J3_checkIndex_8e157 [some (vI (↑t)), some (vI (↑n)), some vN] rfl (Nat.le_of_ble_eq_true rfl) ?_
  refine S_iload_n dJ3_checkIndex_8e157_0 rfl ?_
  refine S_if_lt 9 dJ3_checkIndex_8e157_1 (by decide) (by omega) (fun c_1 => absurd c_1 (by omega)) (fun c_1 => ?_)
  refine S_iload_n dJ3_checkIndex_8e157_4 rfl ?_
  refine S_iload_n dJ3_checkIndex_8e157_5 rfl ?_
  refine S_icmp_lt 16 dJ3_checkIndex_8e157_6 (by decide) (by omega) (fun c_6 => ?_) (fun c_6 => absurd c_6 (by omega))
  refine S_iload_n dJ3_checkIndex_8e157_16 rfl ?_
  exact S_iret dJ3_checkIndex_8e157_17 rfl (Or.inl rfl) ⟨rfl, rfl⟩
set_option maxRecDepth 100000 in
theorem c_J15_checkIndex_7cf53 {G : Ge} {M : Mem} (t n : Nat) (ht : t < n) (hn : n < 100000) : Ct G mi_J15_checkIndex_7cf53 [vI (↑t), vI (↑n)] M (fun v' M' => v' = some (vI ↑t) ∧ M' = M) := by
  refine Ct.of pl_J15_checkIndex_7cf53 [some (vI (↑t)), some (vI (↑n))] rfl (Nat.le_of_ble_eq_true rfl) ?_
  refine S_iload_n dJ15_checkIndex_7cf53_0 rfl ?_
  refine S_iload_n dJ15_checkIndex_7cf53_1 rfl ?_
  refine S_null dJ15_checkIndex_7cf53_2 ?_
  refine S_callS (mi := mi_J15_checkIndex_7cf53) [vI (↑t), vI (↑n), vN] ok_J3_checkIndex_8e157 ml_J15_105 dJ15_checkIndex_7cf53_3 (by decide) rfl (Nat.le_of_ble_eq_true rfl) rfl (c_J3_checkIndex_8e157 t n ht hn) ?_
  rintro v' M1 ⟨rfl, hM1⟩
  rw [hM1]
  clear hM1
  exact S_iret dJ15_checkIndex_7cf53_6 rfl (Or.inl rfl) ⟨rfl, rfl⟩
set_option maxRecDepth 100000 in
theorem c_Jx4a65c_get_915e3 {G : Ge} {M : Mem} (n t : Nat) (h : Ls n M) (ht : t < n) (hn : n < 100000) : Ct G mi_Jx4a65c_get_915e3 [vR ((4, 0)), vI (↑t)] M (fun v' M' => v' = some (vR (18, t)) ∧ M' = M) := by
  refine Ct.of pl_Jx4a65c_get_915e3 [some (vR ((4, 0))), some (vI (↑t))] rfl (Nat.le_of_ble_eq_true rfl) ?_
  refine S_iload_n dJx4a65c_get_915e3_0 rfl ?_
  refine S_aload_n dJx4a65c_get_915e3_1 rfl ?_
  refine S_getI (v := ↑n) fl_Jx4a65c_48 dJx4a65c_get_915e3_2 rfl rfl (by rw [h.2.1]) ?_
  refine S_callS (mi := mi_Jx4a65c_get_915e3) [vI (↑t), vI (↑n)] ok_J15_checkIndex_7cf53 ml_Jx4a65c_118 dJx4a65c_get_915e3_5 (by decide) rfl (Nat.le_of_ble_eq_true rfl) rfl (c_J15_checkIndex_7cf53 t n ht hn) ?_
  rintro v' M1 ⟨rfl, hM1⟩
  rw [hM1]
  clear hM1
  refine S_pop dJx4a65c_get_915e3_8 ?_
  refine S_aload_n dJx4a65c_get_915e3_9 rfl ?_
  refine S_iload_n dJx4a65c_get_915e3_10 rfl ?_
  refine S_callV (mi := mi_Jx4a65c_get_915e3) [vI (↑t)] ok_Jx4a65c_elementData_915e3 ml_Jx4a65c_123 dJx4a65c_get_915e3_11 rfl (by decide) rfl (by decide) rfl (Nat.le_of_ble_eq_true rfl) rfl (c_Jx4a65c_elementData_915e3 n t h ht) ?_
  rintro v' M2 ⟨rfl, hM2⟩
  rw [hM2]
  clear hM2
  exact S_aret dJx4a65c_get_915e3_14 rfl rfl ⟨rfl, rfl⟩
set_option maxRecDepth 100000 in
theorem c_J8_newLength_cabcc {G : Ge} {M : Mem} (n : Nat) (hn : 10 ≤ n ∧ n ≤ 8000) : Ct G mi_J8_newLength_cabcc [vI (↑n), vI 1, vI (↑(n / 2))] M (fun v' M' => v' = some (vI ↑(n + n / 2)) ∧ M' = M) := by
  refine Ct.of pl_J8_newLength_cabcc [some (vI (↑n)), some (vI 1), some (vI (↑(n / 2))), none] rfl (Nat.le_of_ble_eq_true rfl) ?_
  refine S_iload_n dJ8_newLength_cabcc_0 rfl ?_
  refine S_iload_n dJ8_newLength_cabcc_1 rfl ?_
  refine S_iload_n dJ8_newLength_cabcc_2 rfl ?_
  refine S_max mm_J8_194 dJ8_newLength_cabcc_3 (by decide) (Nat.le_of_ble_eq_true rfl) (by omega) ?_
  rw [show (if (1 : Int) < ↑(n / 2) then ↑(n / 2) else 1) = (↑(n / 2) : Int) from by rw [if_pos (by omega)]]
  refine S_iadd dJ8_newLength_cabcc_6 ?_
  rw [show ((↑n + ↑(n / 2) : Int)) = ↑(n + n / 2) from by omega]
  refine S_istore_n dJ8_newLength_cabcc_7 (by decide) ?_
  refine S_iconst dJ8_newLength_cabcc_8 ?_
  refine S_iload_n dJ8_newLength_cabcc_9 rfl ?_
  refine S_icmp_ge 21 dJ8_newLength_cabcc_10 (by decide) (by omega) (fun c_10 => absurd c_10 (by omega)) (fun c_10 => ?_)
  refine S_iload_n dJ8_newLength_cabcc_13 rfl ?_
  refine S_ldcI (v := 2147483639) lc_J8_200 dJ8_newLength_cabcc_14 ?_
  rw [show ((2147483639 : Int32)).toInt = 2147483639 from by decide]
  refine S_icmp_gt 21 dJ8_newLength_cabcc_16 (by decide) (by omega) (fun c_16 => absurd c_16 (by omega)) (fun c_16 => ?_)
  refine S_iload_n dJ8_newLength_cabcc_19 rfl ?_
  exact S_iret dJ8_newLength_cabcc_20 rfl (Or.inl rfl) ⟨rfl, rfl⟩
set_option maxRecDepth 100000 in
theorem c_J7_copyOf_6403c {G : Ge} {M : Mem} (x c m n : Nat) (hx : M.len (5, x) = some m) (hc : M.len (5, c) = none) (hmn : m ≤ n) (hn : n ≤ 12000) (hrc : 1 ≤ M.rc) (hrs : n ≤ M.rs) (hel : ∀ i r, i < m → M.P (5, x) i = some r → kd r.1 = .inl 5) : Ct G mi_J7_copyOf_6403c [vR ((5, x)), vI (↑n), vR ((41, 0))] M (fun v' M' => v' = some (vR (5, c)) ∧ M' = (M.new (5, c) n n).cpy (5, x) (5, c) m) := by
  refine Ct.of pl_J7_copyOf_6403c [some (vR ((5, x))), some (vI (↑n)), some (vR ((41, 0))), none] rfl (Nat.le_of_ble_eq_true rfl) ?_
  have hne0 : ((5, x) : Role) ≠ (5, c) := rni (fun e => by rw [e, hc] at hx; cases hx)
  refine S_aload_n dJ7_copyOf_6403c_0 rfl ?_
  refine S_ldcM cl_J7_110 dJ7_copyOf_6403c_1 ?_
  refine S_acmp_same 13 dJ7_copyOf_6403c_3 (by decide) ?_
  refine S_iload_n dJ7_copyOf_6403c_6 rfl ?_
  refine S_newarrA (5, c) n cl_J7_2 (by decide) dJ7_copyOf_6403c_7 rfl (by omega) rfl (by decide) rfl rfl hc hrc hrs ?_
  refine Sf.nm (fun M1 hM1 => ?_)
  refine S_goto 24 dJ7_copyOf_6403c_10 (by decide) ?_
  refine S_astore_n dJ7_copyOf_6403c_24 (by decide) ?_
  refine S_aload_n dJ7_copyOf_6403c_25 rfl ?_
  refine S_iconst dJ7_copyOf_6403c_26 ?_
  refine S_aload_n dJ7_copyOf_6403c_27 rfl ?_
  refine S_iconst dJ7_copyOf_6403c_28 ?_
  refine S_aload_n dJ7_copyOf_6403c_29 rfl ?_
  refine S_alen dJ7_copyOf_6403c_30 rfl (by decide) rfl (by rw [hM1, Mem.new_len_ne hne0, hx]) ?_
  refine S_iload_n dJ7_copyOf_6403c_31 rfl ?_
  refine S_min mm_J7_304 dJ7_copyOf_6403c_32 (by decide) (Nat.le_of_ble_eq_true rfl) (by omega) ?_
  rw [show (if (↑n : Int) < ↑m then ↑n else ↑m) = (↑m : Int) from by split <;> omega]
  have hne : ((5, x) : Role) ≠ (5, c) := rni (fun e => by rw [e, hc] at hx; cases hx)
  refine S_acopy m ml_J7_150 dJ7_copyOf_6403c_35 rfl rfl rfl rfl (by rw [hM1, Mem.new_len_ne hne0, hx]) (by rw [hM1, Mem.new_len_eq]) rfl (by omega) (fun i r hi hr => ?_) (by decide) (Nat.le_of_ble_eq_true rfl) ?_
  · rw [hM1, Mem.new_P_ne hne0] at hr; exact hel i r hi hr
  refine S_aload_n dJ7_copyOf_6403c_38 rfl ?_
  exact S_aret dJ7_copyOf_6403c_39 rfl rfl ⟨rfl, by rw [hM1]⟩
set_option maxRecDepth 100000 in
theorem c_J7_copyOf_1904c {G : Ge} {M : Mem} (x c m n : Nat) (hx : M.len (5, x) = some m) (hc : M.len (5, c) = none) (hmn : m ≤ n) (hn : n ≤ 12000) (hrc : 1 ≤ M.rc) (hrs : n ≤ M.rs) (hel : ∀ i r, i < m → M.P (5, x) i = some r → kd r.1 = .inl 5) : Ct G mi_J7_copyOf_1904c [vR ((5, x)), vI (↑n)] M (fun v' M' => v' = some (vR (5, c)) ∧ M' = (M.new (5, c) n n).cpy (5, x) (5, c) m) := by
  refine Ct.of pl_J7_copyOf_1904c [some (vR ((5, x))), some (vI (↑n))] rfl (Nat.le_of_ble_eq_true rfl) ?_
  refine S_aload_n dJ7_copyOf_1904c_0 rfl ?_
  refine S_iload_n dJ7_copyOf_1904c_1 rfl ?_
  refine S_aload_n dJ7_copyOf_1904c_2 rfl ?_
  refine S_getClass ml_J7_86 dJ7_copyOf_1904c_3 rfl rfl (by decide) (Nat.le_of_ble_eq_true rfl) ?_
  refine S_callS (mi := mi_J7_copyOf_1904c) [vR ((5, x)), vI (↑n), vR ((41, 0))] ok_J7_copyOf_6403c ml_J7_300 dJ7_copyOf_1904c_6 (by decide) rfl (Nat.le_of_ble_eq_true rfl) rfl (c_J7_copyOf_6403c x c m n hx hc hmn hn hrc hrs hel) ?_
  rintro v' M1 ⟨rfl, hM1⟩
  exact S_aret dJ7_copyOf_1904c_9 rfl rfl ⟨rfl, hM1⟩
