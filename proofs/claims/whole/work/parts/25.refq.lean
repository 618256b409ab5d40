/-! THE REFERENCE: reads through what was done; start -/
theorem RS.setS_eq {ρ : RS} {k : Nat} {v : Int} : (ρ.setS k v).1 k = v := if_pos rfl
theorem RS.setS_ne {ρ : RS} {k i : Nat} {v : Int} (h : i ≠ k) : (ρ.setS k v).1 i = ρ.1 i := if_neg h
theorem RS.setA_s {ρ : RS} {k j i : Nat} {v : Int} : (ρ.setA k j v).1 i = ρ.1 i := rfl
theorem RS.setS_a {ρ : RS} {k i j : Nat} {v : Int} : (ρ.setS k v).2 i j = ρ.2 i j := rfl
theorem nextR_s {ρ : RS} {e n k : Nat} : (nextR ρ e n).1 k = ρ.1 k := rfl
theorem nextR_at {ρ : RS} {e n k j : Nat} (h : k ≠ 12 ∧ k ≠ 13) : (nextR ρ e n).2 k j = ρ.2 k j := by
  unfold nextR
  rw [RS.sh1_at _ _ _ _ _ _ (by omega), RS.setA_ne (by omega)]
theorem nextR_12 {ρ : RS} {e n : Nat} : (nextR ρ e n).2 12 e = ↑n := by
  unfold nextR
  rw [RS.sh1_at _ _ _ _ _ _ (by omega), RS.setA_eq]
theorem nextR_12ne {ρ : RS} {e n e' : Nat} (h : e' ≠ e) : (nextR ρ e n).2 12 e' = ρ.2 12 e' := by
  unfold nextR
  rw [RS.sh1_at _ _ _ _ _ _ (by omega), RS.setA_ne (by omega)]
theorem nextR_13 {ρ : RS} {e n j : Nat} (h : j < 12 * e ∨ 12 * e + n ≤ j) : (nextR ρ e n).2 13 j = ρ.2 13 j := by
  unfold nextR
  rw [RS.sh1_at _ _ _ _ _ _ (by omega), RS.setA_ne (by omega)]
theorem nextR_13s {ρ : RS} {e n j : Nat} (h : 12 * e ≤ j ∧ j < 12 * e + n) : (nextR ρ e n).2 13 j = ρ.2 13 (j + 1) :=
  if_pos ⟨rfl, h⟩
def RowOK (ρ : RS) : Prop := ∀ e, e < 12 → ∃ n : Nat, n ≤ 12 ∧ ρ.2 12 e = ↑n ∧ ∀ i, i < n → ∃ t : Nat, ρ.2 13 (12 * e + i) = ↑t ∧ t < thN ρ ∧ ρ.2 6 t = 3
def rmI (ρ : RS) (r : Int) (a b : Nat) : Nat := rtI (meR ρ a b) r (meI ρ a b)
def rmR (ρ : RS) (r : Int) (a b : Nat) : RS := rtR (meR ρ a b) r (meI ρ a b)
def st1 (ρ : RS) (p e o n m : Nat) : RS := nextR (nextR (ρ.setA 14 p 1) e (n + 1)) o m
def st2 (ρ : RS) (o n b r : Nat) : RS := ((((ρ.setA 15 o b).setA 16 o r).setA 17 o (-1)).setA 18 o (-1)).setA 19 o (-1)
def st3 (ρ : RS) (e n c : Nat) : RS := (nextR ρ e n).setA 15 e c
def st4 (ρ : RS) (e s : Nat) (v : Int) : RS := ((((chR ρ s).setA 17 e ↑(chI ρ s)).setA 18 e (-1)).setA 19 e v).setS 42 0
def st5 (ρ : RS) (e o n a b c : Nat) : RS := st3 (st2 (rmR ρ (-1) a b) o n b (rmI ρ (-1) a b)) e n c
def st6 (ρ : RS) (r e b c : Nat) : RS := (rmR ρ r c b).setA 16 e ↑(rmI ρ r c b)
def stG (ρ : RS) (p e o n m a b c : Nat) : RS := st4 (st6 (st5 (st1 ρ p e o n m) e o n a b c) (rmI (st1 ρ p e o n m) (-1) a b) e b c) e (rmI (st5 (st1 ρ p e o n m) e o n a b c) ↑(rmI (st1 ρ p e o n m) (-1) a b) c b) (powF (ρ.1 0) (ρ.1 1) (ρ.2 9 b).toNat)
def startF (ρ : RS) (p : Int) : Int × RS := if ¬ (0 ≤ p ∧ p ≤ ρ.1 4 - 1) then (-1, ρ.setS 42 1) else
  if ρ.2 14 p.toNat ≠ 0 ∨ ρ.2 12 (2 * p.toNat) < 2 ∨ ρ.2 12 (2 * p.toNat + 1) < 1 then (-1, ρ.setS 42 3) else
  (1, stG ρ p.toNat (2 * p.toNat) (2 * p.toNat + 1) ((ρ.2 12 (2 * p.toNat)).toNat - 2) ((ρ.2 12 (2 * p.toNat + 1)).toNat - 1) (ρ.2 13 (12 * (2 * p.toNat))).toNat (ρ.2 13 (12 * (2 * p.toNat + 1))).toNat (ρ.2 13 (12 * (2 * p.toNat) + 1)).toNat)
set_option maxRecDepth 100000 in
theorem r_X9_start {G : Ge} {ρ : RS} (p : Int) (p32 : -2147483648 ≤ p ∧ p < 2147483648) (hp : 0 ≤ ρ.1 4 ∧ ρ.1 4 ≤ 6) (N : Nat) (h : ThOK ρ N) (hN : N < 7990) (hst : ∀ p, p < 6 → ρ.2 14 p = 0 ∨ ρ.2 14 p = 1) (hSe : SecOK ρ) (hRo : RowOK ρ) : RC G mi_X9_start [vR ((30, 0)), vI p] ρ (some (vI (startF ρ p).1)) ((startF ρ p).2) := by
  intro M hR
  have hS := SameR.rf M
  refine Ct.of pl_X9_start [some (vR ((30, 0))), some (vI p), none, none, none, none, none] rfl (Nat.le_of_ble_eq_true rfl) ?_
  refine S_iload_n dX9_start_0 rfl ?_
  refine S_iconst dX9_start_1 ?_
  refine S_aload_n dX9_start_2 rfl ?_
  refine S_getI (v := ρ.1 4) fl_X9_135 dX9_start_3 rfl rfl ((hR.s 4).trans rfl) ?_
  refine S_iconst dX9_start_6 ?_
  refine S_isub dX9_start_7 ?_
  refine S_callS (mi := mi_X9_start) [vI p, vI 0, vI ((ρ.1 4) - 1)] ok_X9_in ml_X9_138 dX9_start_8 (by decide) rfl (Nat.le_of_ble_eq_true rfl) rfl (r_X9_in (ρ := ρ) p 0 ((ρ.1 4) - 1) (by omega) (by omega) (by omega) M hR) ?_
  rintro v' M1 ⟨⟨rfl, b_8⟩ | ⟨rfl, b_8⟩, hR1, hS1'⟩
  · have hS1 := hS.trans hS1'
    obtain ⟨i, rfl⟩ : ∃ i : Nat, p = ↑i := ⟨p.toNat, by omega⟩
    obtain ⟨e, he⟩ : ∃ e : Nat, e = 2 * i := ⟨_, rfl⟩
    obtain ⟨o, ho⟩ : ∃ o : Nat, o = e + 1 := ⟨_, rfl⟩
    obtain ⟨n0, hn0, hr0, hro0⟩ := hRo e (by omega)
    obtain ⟨m0, hm0, hr1, hro1⟩ := hRo o (by omega)
    have hl8 := h.2.1
    have hst9 := hst i (by omega)
    refine S_if_ne 20 dX9_start_11 (by decide) (by omega) (fun c_11 => ?_) (fun c_11 => absurd c_11 (by omega))
    refine S_iconst dX9_start_20 ?_
    refine S_iload_n dX9_start_21 rfl ?_
    refine S_imul dX9_start_22 ?_
    rw [show ((2 * ↑i : Int)) = ↑e from by omega]
    refine S_istore_n dX9_start_23 (by decide) ?_
    refine S_iload_n dX9_start_24 rfl ?_
    refine S_iconst dX9_start_25 ?_
    refine S_iadd dX9_start_26 ?_
    rw [show ((↑e + 1 : Int)) = ↑o from by omega]
    refine S_istore_n dX9_start_27 (by decide) ?_
    refine S_aload_n dX9_start_28 rfl ?_
    refine S_getP fl_X9_48 dX9_start_29 rfl rfl (hR1.p 14 rfl) ?_
    refine S_iload_n dX9_start_32 rfl ?_
    refine R_bld (v := ρ.2 14 i) i hR1 dX9_start_33 rfl rfl (by omega) (show _ < 6 from by omega) rfl ?_
    refine S_if_ne 57 dX9_start_34 (by decide) (by omega) (fun c_34 => ?_) (fun c_34 => ?_)
    · refine S_aload_n dX9_start_57 rfl ?_
      refine S_iconst dX9_start_58 ?_
      refine S_callV (mi := mi_X9_start) [vI 3] ok_X9_refused ml_X9_163 dX9_start_59 rfl (by decide) rfl (by decide) rfl (Nat.le_of_ble_eq_true rfl) rfl (r_X9_refused (ρ := ρ) 3 M1 hR1) ?_
      rintro v' M2 ⟨rfl, hR2, hS2'⟩
      have hS2 := hS1.trans hS2'
      exact S_iret dX9_start_62 rfl (Or.inl rfl) (by have e9 : startF ρ ↑i = (((-1) : Int), (ρ.setS 42 3)) := (by unfold startF; rw [if_neg (by omega), Int.toNat_natCast, ← he, ← ho, hr0, hr1, if_pos (by omega)]); rw [e9]; exact ⟨rfl, hR2, hS2⟩)
    · refine S_aload_n dX9_start_37 rfl ?_
      refine S_getP fl_X9_42 dX9_start_38 rfl rfl (hR1.p 12 rfl) ?_
      refine S_iload_n dX9_start_41 rfl ?_
      refine R_ald (v := ↑n0) e hR1 dX9_start_42 rfl rfl (by omega) (show _ < 12 from by omega) (by rw [hr0]) ?_
      refine S_iconst dX9_start_43 ?_
      refine S_icmp_lt 57 dX9_start_44 (by decide) (by omega) (fun c_44 => ?_) (fun c_44 => ?_)
      · refine S_aload_n dX9_start_57 rfl ?_
        refine S_iconst dX9_start_58 ?_
        refine S_callV (mi := mi_X9_start) [vI 3] ok_X9_refused ml_X9_163 dX9_start_59 rfl (by decide) rfl (by decide) rfl (Nat.le_of_ble_eq_true rfl) rfl (r_X9_refused (ρ := ρ) 3 M1 hR1) ?_
        rintro v' M3 ⟨rfl, hR3, hS3'⟩
        have hS3 := hS1.trans hS3'
        exact S_iret dX9_start_62 rfl (Or.inl rfl) (by have e9 : startF ρ ↑i = (((-1) : Int), (ρ.setS 42 3)) := (by unfold startF; rw [if_neg (by omega), Int.toNat_natCast, ← he, ← ho, hr0, hr1, if_pos (by omega)]); rw [e9]; exact ⟨rfl, hR3, hS3⟩)
      · obtain ⟨n, rfl⟩ : ∃ n : Nat, n0 = n + 1 + 1 := ⟨n0 - 2, by omega⟩
        refine S_aload_n dX9_start_47 rfl ?_
        refine S_getP fl_X9_42 dX9_start_48 rfl rfl (hR1.p 12 rfl) ?_
        refine S_iload_n dX9_start_51 rfl ?_
        refine R_ald (v := ↑m0) o hR1 dX9_start_52 rfl rfl (by omega) (show _ < 12 from by omega) (by rw [hr1]) ?_
        refine S_iconst dX9_start_53 ?_
        refine S_icmp_ge 63 dX9_start_54 (by decide) (by omega) (fun c_54 => ?_) (fun c_54 => ?_)
        · obtain ⟨m, rfl⟩ : ∃ m : Nat, m0 = m + 1 := ⟨m0 - 1, by omega⟩
          obtain ⟨a, ha, hal, hak⟩ := hro0 0 (by omega)
          obtain ⟨b, hb, hbl, hbk⟩ := hro1 0 (by omega)
          obtain ⟨c, hc, hcl, hck⟩ := hro0 1 (by omega)
          rw [Nat.add_zero] at ha hb
          have hwa := hSe a hal hak
          have hwb := hSe b hbl hbk
          have hwc := hSe c hcl hck
          have hgg := h.2.2.2.1
          refine S_aload_n dX9_start_63 rfl ?_
          refine S_getP fl_X9_48 dX9_start_64 rfl rfl (hR1.p 14 rfl) ?_
          refine S_iload_n dX9_start_67 rfl ?_
          refine S_iconst dX9_start_68 ?_
          refine R_bst i dX9_start_69 rfl rfl (by omega) (show _ < 6 from by omega) (by omega) hR1 hS1 (fun M4 hR4 hS4 => ?_)
          refine S_aload_n dX9_start_70 rfl ?_
          refine S_iload_n dX9_start_71 rfl ?_
          obtain ⟨ρ5, e5⟩ : ∃ x : RS, x = (ρ.setA 14 i 1) := ⟨_, rfl⟩
          rw [← e5] at hR4
          refine S_callV (mi := mi_X9_start) [vI (↑e)] ok_X9_next ml_X9_176 dX9_start_72 rfl (by decide) rfl (by decide) rfl (Nat.le_of_ble_eq_true rfl) rfl (r_X9_next (ρ := ρ5) e (n + 1) (by omega) (by omega) (by rw [e5, RS.setA_ne (Or.inl (by decide)), hr0]) M4 hR4) ?_
          rintro v' M6 ⟨rfl, hR6, hS6'⟩
          have hS6 := hS4.trans hS6'
          obtain ⟨ρ7, e7⟩ : ∃ x : RS, x = (nextR ρ5 e (n + 1)) := ⟨_, rfl⟩
          rw [← e7] at hR6
          rw [show ρ5.2 13 (12 * e) = (↑a : Int) from (by rw [e5, RS.setA_ne (Or.inl (by decide)), ha])]
          refine S_istore dX9_start_75 (by decide) ?_
          refine S_aload_n dX9_start_77 rfl ?_
          refine S_iload_n dX9_start_78 rfl ?_
          refine S_callV (mi := mi_X9_start) [vI (↑o)] ok_X9_next ml_X9_176 dX9_start_79 rfl (by decide) rfl (by decide) rfl (Nat.le_of_ble_eq_true rfl) rfl (r_X9_next (ρ := ρ7) o m (by omega) (by omega) (by rw [e7, nextR_12ne (by omega), e5, RS.setA_ne (Or.inl (by decide)), hr1]) M6 hR6) ?_
          rintro v' M8 ⟨rfl, hR8, hS8'⟩
          have hS8 := hS6.trans hS8'
          obtain ⟨ρ9, e9⟩ : ∃ x : RS, x = (nextR ρ7 o m) := ⟨_, rfl⟩
          rw [← e9] at hR8
          rw [show ρ7.2 13 (12 * o) = (↑b : Int) from (by rw [e7, nextR_13 (by omega), e5, RS.setA_ne (Or.inl (by decide)), hb])]
          refine S_istore dX9_start_82 (by decide) ?_
          refine S_aload_n dX9_start_84 rfl ?_
          refine S_iconst dX9_start_85 ?_
          refine S_aload_n dX9_start_86 rfl ?_
          refine S_iload dX9_start_87 rfl ?_
          refine S_iload dX9_start_89 rfl ?_
          have hT10 : ThOK ρ9 N := h.congr ⟨(by rw [e9, nextR_s, e7, nextR_s, e5, RS.setA_s]), (by rw [e9, nextR_s, e7, nextR_s, e5, RS.setA_s]), (by rw [e9, nextR_s, e7, nextR_s, e5, RS.setA_s])⟩ (fun k j a1 a2 => (by rw [e9, nextR_at (by omega), e7, nextR_at (by omega), e5, RS.setA_ne (Or.inl (by omega))]))
          have g10 : thN ρ9 = thN ρ := thN_congr (by rw [e9, nextR_s, e7, nextR_s, e5, RS.setA_s])
          refine S_callV (mi := mi_X9_start) [vI (↑a), vI (↑b)] ok_X9_meeting ml_X9_179 dX9_start_91 rfl (by decide) rfl (by decide) rfl (Nat.le_of_ble_eq_true rfl) rfl (r_X9_meeting (ρ := ρ9) a b (N) hT10 (by omega) (by omega) (by omega) (by rw [e9, nextR_at (by decide), e7, nextR_at (by decide), e5, RS.setA_ne (Or.inl (by decide))]; exact hwa.2) (by rw [e9, nextR_at (by decide), e7, nextR_at (by decide), e5, RS.setA_ne (Or.inl (by decide))]; exact hwb.2) M8 hR8) ?_
          rintro v' M12 ⟨rfl, hR12, hS12'⟩
          have hS12 := hS8.trans hS12'
          obtain ⟨ρ13, e13⟩ : ∃ x : RS, x = (meR ρ9 a b) := ⟨_, rfl⟩
          rw [← e13] at hR12
          obtain ⟨m11, em11⟩ : ∃ x : Nat, x = meI ρ9 a b := ⟨_, rfl⟩
          rw [← em11]
          have q14 : ThOK (meR ρ9 a b) (N + 1) ∧ meI ρ9 a b < thN (meR ρ9 a b) ∧ thN ρ9 ≤ thN (meR ρ9 a b) := hT10.me (by omega) (by omega)
          rw [← e13, ← em11] at q14
          obtain ⟨hT14, hi14, g14⟩ := q14
          refine S_callV (mi := mi_X9_start) [vI ((-1)), vI (↑m11)] ok_X9_rootOf ml_X9_182 dX9_start_94 rfl (by decide) rfl (by decide) rfl (Nat.le_of_ble_eq_true rfl) rfl (r_X9_rootOf (ρ := ρ13) ((-1)) m11 (N + 1) hT14 (by omega) (by omega) (by omega) M12 hR12) ?_
          rintro v' M16 ⟨rfl, hR16, hS16'⟩
          have hS16 := hS12.trans hS16'
          obtain ⟨ρ17, e17⟩ : ∃ x : RS, x = (rtR ρ13 ((-1)) m11) := ⟨_, rfl⟩
          rw [← e17] at hR16
          obtain ⟨r15, er15⟩ : ∃ x : Nat, x = rtI ρ13 ((-1)) m11 := ⟨_, rfl⟩
          rw [← er15]
          have q18 : ThOK (rtR ρ13 ((-1)) m11) (N + 2) ∧ rtI ρ13 ((-1)) m11 < thN (rtR ρ13 ((-1)) m11) ∧ thN ρ13 ≤ thN (rtR ρ13 ((-1)) m11) := hT14.rt (by omega) (by omega)
          rw [← e17, ← er15] at q18
          obtain ⟨hT18, hi18, g18⟩ := q18
          refine S_istore dX9_start_97 (by decide) ?_
          refine S_aload_n dX9_start_99 rfl ?_
          refine S_getP fl_X9_51 dX9_start_100 rfl rfl (hR16.p 15 rfl) ?_
          refine S_iload_n dX9_start_103 rfl ?_
          refine S_iload dX9_start_104 rfl ?_
          refine R_ast o dX9_start_106 rfl rfl (by omega) (show _ < 12 from by omega) hR16 hS16 (fun M19 hR19 hS19 => ?_)
          refine S_aload_n dX9_start_107 rfl ?_
          refine S_getP fl_X9_54 dX9_start_108 rfl rfl (hR19.p 16 rfl) ?_
          refine S_iload_n dX9_start_111 rfl ?_
          refine S_iload dX9_start_112 rfl ?_
          refine R_ast o dX9_start_114 rfl rfl (by omega) (show _ < 12 from by omega) hR19 hS19 (fun M20 hR20 hS20 => ?_)
          refine S_aload_n dX9_start_115 rfl ?_
          refine S_getP fl_X9_57 dX9_start_116 rfl rfl (hR20.p 17 rfl) ?_
          refine S_iload_n dX9_start_119 rfl ?_
          refine S_iconst dX9_start_120 ?_
          refine R_ast o dX9_start_121 rfl rfl (by omega) (show _ < 12 from by omega) hR20 hS20 (fun M21 hR21 hS21 => ?_)
          refine S_aload_n dX9_start_122 rfl ?_
          refine S_getP fl_X9_60 dX9_start_123 rfl rfl (hR21.p 18 rfl) ?_
          refine S_iload_n dX9_start_126 rfl ?_
          refine S_iconst dX9_start_127 ?_
          refine R_ast o dX9_start_128 rfl rfl (by omega) (show _ < 12 from by omega) hR21 hS21 (fun M22 hR22 hS22 => ?_)
          refine S_aload_n dX9_start_129 rfl ?_
          refine S_getP fl_X9_63 dX9_start_130 rfl rfl (hR22.p 19 rfl) ?_
          refine S_iload_n dX9_start_133 rfl ?_
          refine S_iconst dX9_start_134 ?_
          refine R_ast o dX9_start_135 rfl rfl (by omega) (show _ < 12 from by omega) hR22 hS22 (fun M23 hR23 hS23 => ?_)
          refine S_aload_n dX9_start_136 rfl ?_
          refine S_getP fl_X9_51 dX9_start_137 rfl rfl (hR23.p 15 rfl) ?_
          refine S_iload_n dX9_start_140 rfl ?_
          refine S_aload_n dX9_start_141 rfl ?_
          refine S_iload_n dX9_start_142 rfl ?_
          obtain ⟨ρ24, e24⟩ : ∃ x : RS, x = (((((ρ17.setA 15 o (↑b)).setA 16 o (↑r15)).setA 17 o ((-1))).setA 18 o ((-1))).setA 19 o ((-1))) := ⟨_, rfl⟩
          rw [← e24] at hR23
          refine S_callV (mi := mi_X9_start) [vI (↑e)] ok_X9_next ml_X9_176 dX9_start_143 rfl (by decide) rfl (by decide) rfl (Nat.le_of_ble_eq_true rfl) rfl (r_X9_next (ρ := ρ24) e n (by omega) (by omega) (by rw [e24, RS.setA_ne (Or.inl (by decide)), RS.setA_ne (Or.inl (by decide)), RS.setA_ne (Or.inl (by decide)), RS.setA_ne (Or.inl (by decide)), RS.setA_ne (Or.inl (by decide)), e17, thR_old_at _ _ _ _ _ _ _ (Or.inr (by decide)), e13, thR_old_at _ _ _ _ _ _ _ (Or.inr (by decide)), e9, nextR_12ne (by omega), e7, nextR_12]) M23 hR23) ?_
          rintro v' M25 ⟨rfl, hR25, hS25'⟩
          have hS25 := hS23.trans hS25'
          obtain ⟨ρ26, e26⟩ : ∃ x : RS, x = (nextR ρ24 e n) := ⟨_, rfl⟩
          rw [← e26] at hR25
          rw [show ρ24.2 13 (12 * e) = (↑c : Int) from (by rw [e24, RS.setA_ne (Or.inl (by decide)), RS.setA_ne (Or.inl (by decide)), RS.setA_ne (Or.inl (by decide)), RS.setA_ne (Or.inl (by decide)), RS.setA_ne (Or.inl (by decide)), e17, thR_old_at _ _ _ _ _ _ _ (Or.inr (by decide)), e13, thR_old_at _ _ _ _ _ _ _ (Or.inr (by decide)), e9, nextR_13 (by omega), e7, nextR_13s (by omega), e5, RS.setA_ne (Or.inl (by decide)), hc])]
          refine R_ast e dX9_start_146 rfl rfl (by omega) (show _ < 12 from by omega) hR25 hS25 (fun M27 hR27 hS27 => ?_)
          refine S_aload_n dX9_start_147 rfl ?_
          refine S_getP fl_X9_54 dX9_start_148 rfl rfl (hR27.p 16 rfl) ?_
          refine S_iload_n dX9_start_151 rfl ?_
          refine S_aload_n dX9_start_152 rfl ?_
          refine S_iload dX9_start_153 rfl ?_
          refine S_aload_n dX9_start_155 rfl ?_
          refine S_aload_n dX9_start_156 rfl ?_
          refine S_getP fl_X9_51 dX9_start_157 rfl rfl (hR27.p 15 rfl) ?_
          refine S_iload_n dX9_start_160 rfl ?_
          refine R_ald (v := ↑c) e hR27 dX9_start_161 rfl rfl (by omega) (show _ < 12 from by omega) (by rw [RS.setA_eq]) ?_
          refine S_iload dX9_start_162 rfl ?_
          obtain ⟨ρ28, e28⟩ : ∃ x : RS, x = (ρ26.setA 15 e (↑c)) := ⟨_, rfl⟩
          rw [← e28] at hR27
          have hT29 : ThOK ρ28 (N + 2) := hT18.congr ⟨(by rw [e28, RS.setA_s, e26, nextR_s, e24, RS.setA_s, RS.setA_s, RS.setA_s, RS.setA_s, RS.setA_s]), (by rw [e28, RS.setA_s, e26, nextR_s, e24, RS.setA_s, RS.setA_s, RS.setA_s, RS.setA_s, RS.setA_s]), (by rw [e28, RS.setA_s, e26, nextR_s, e24, RS.setA_s, RS.setA_s, RS.setA_s, RS.setA_s, RS.setA_s])⟩ (fun k j a1 a2 => (by rw [e28, RS.setA_ne (Or.inl (by omega)), e26, nextR_at (by omega), e24, RS.setA_ne (Or.inl (by omega)), RS.setA_ne (Or.inl (by omega)), RS.setA_ne (Or.inl (by omega)), RS.setA_ne (Or.inl (by omega)), RS.setA_ne (Or.inl (by omega))]))
          have g29 : thN ρ28 = thN ρ17 := thN_congr (by rw [e28, RS.setA_s, e26, nextR_s, e24, RS.setA_s, RS.setA_s, RS.setA_s, RS.setA_s, RS.setA_s])
          refine S_callV (mi := mi_X9_start) [vI (↑c), vI (↑b)] ok_X9_meeting ml_X9_179 dX9_start_164 rfl (by decide) rfl (by decide) rfl (Nat.le_of_ble_eq_true rfl) rfl (r_X9_meeting (ρ := ρ28) c b (N + 2) hT29 (by omega) (by omega) (by omega) (by rw [e28, RS.setA_ne (Or.inl (by decide)), e26, nextR_at (by decide), e24, RS.setA_ne (Or.inl (by decide)), RS.setA_ne (Or.inl (by decide)), RS.setA_ne (Or.inl (by decide)), RS.setA_ne (Or.inl (by decide)), RS.setA_ne (Or.inl (by decide)), e17, thR_old_at _ _ _ _ _ _ _ (Or.inl (by omega)), e13, thR_old_at _ _ _ _ _ _ _ (Or.inl (by omega)), e9, nextR_at (by decide), e7, nextR_at (by decide), e5, RS.setA_ne (Or.inl (by decide))]; exact hwc.2) (by rw [e28, RS.setA_ne (Or.inl (by decide)), e26, nextR_at (by decide), e24, RS.setA_ne (Or.inl (by decide)), RS.setA_ne (Or.inl (by decide)), RS.setA_ne (Or.inl (by decide)), RS.setA_ne (Or.inl (by decide)), RS.setA_ne (Or.inl (by decide)), e17, thR_old_at _ _ _ _ _ _ _ (Or.inl (by omega)), e13, thR_old_at _ _ _ _ _ _ _ (Or.inl (by omega)), e9, nextR_at (by decide), e7, nextR_at (by decide), e5, RS.setA_ne (Or.inl (by decide))]; exact hwb.2) M27 hR27) ?_
          rintro v' M31 ⟨rfl, hR31, hS31'⟩
          have hS31 := hS27.trans hS31'
          obtain ⟨ρ32, e32⟩ : ∃ x : RS, x = (meR ρ28 c b) := ⟨_, rfl⟩
          rw [← e32] at hR31
          obtain ⟨m30, em30⟩ : ∃ x : Nat, x = meI ρ28 c b := ⟨_, rfl⟩
          rw [← em30]
          have q33 : ThOK (meR ρ28 c b) (N + 3) ∧ meI ρ28 c b < thN (meR ρ28 c b) ∧ thN ρ28 ≤ thN (meR ρ28 c b) := hT29.me (by omega) (by omega)
          rw [← e32, ← em30] at q33
          obtain ⟨hT33, hi33, g33⟩ := q33
          refine S_callV (mi := mi_X9_start) [vI (↑r15), vI (↑m30)] ok_X9_rootOf ml_X9_182 dX9_start_167 rfl (by decide) rfl (by decide) rfl (Nat.le_of_ble_eq_true rfl) rfl (r_X9_rootOf (ρ := ρ32) (↑r15) m30 (N + 3) hT33 (by omega) (by omega) (by omega) M31 hR31) ?_
          rintro v' M35 ⟨rfl, hR35, hS35'⟩
          have hS35 := hS31.trans hS35'
          obtain ⟨ρ36, e36⟩ : ∃ x : RS, x = (rtR ρ32 (↑r15) m30) := ⟨_, rfl⟩
          rw [← e36] at hR35
          obtain ⟨r34, er34⟩ : ∃ x : Nat, x = rtI ρ32 (↑r15) m30 := ⟨_, rfl⟩
          rw [← er34]
          have q37 : ThOK (rtR ρ32 (↑r15) m30) (N + 4) ∧ rtI ρ32 (↑r15) m30 < thN (rtR ρ32 (↑r15) m30) ∧ thN ρ32 ≤ thN (rtR ρ32 (↑r15) m30) := hT33.rt (by omega) (by omega)
          rw [← e36, ← er34] at q37
          obtain ⟨hT37, hi37, g37⟩ := q37
          refine R_ast e dX9_start_170 rfl rfl (by omega) (show _ < 12 from by omega) hR35 hS35 (fun M38 hR38 hS38 => ?_)
          refine S_aload_n dX9_start_171 rfl ?_
          refine S_getP fl_X9_57 dX9_start_172 rfl rfl (hR38.p 17 rfl) ?_
          refine S_iload_n dX9_start_175 rfl ?_
          refine S_aload_n dX9_start_176 rfl ?_
          refine S_aload_n dX9_start_177 rfl ?_
          refine S_getP fl_X9_54 dX9_start_178 rfl rfl (hR38.p 16 rfl) ?_
          refine S_iload_n dX9_start_181 rfl ?_
          refine R_ald (v := ↑r34) e hR38 dX9_start_182 rfl rfl (by omega) (show _ < 12 from by omega) (by rw [RS.setA_eq]) ?_
          obtain ⟨ρ39, e39⟩ : ∃ x : RS, x = (ρ36.setA 16 e (↑r34)) := ⟨_, rfl⟩
          rw [← e39] at hR38
          have hT40 : ThOK ρ39 (N + 4) := hT37.congr ⟨(by rw [e39, RS.setA_s]), (by rw [e39, RS.setA_s]), (by rw [e39, RS.setA_s])⟩ (fun k j a1 a2 => (by rw [e39, RS.setA_ne (Or.inl (by omega))]))
          have g40 : thN ρ39 = thN ρ36 := thN_congr (by rw [e39, RS.setA_s])
          refine S_callV (mi := mi_X9_start) [vI (↑r34)] ok_X9_chainOf ml_X9_185 dX9_start_183 rfl (by decide) rfl (by decide) rfl (Nat.le_of_ble_eq_true rfl) rfl (r_X9_chainOf (ρ := ρ39) r34 (N + 4) hT40 (by omega) (by omega) M38 hR38) ?_
          rintro v' M42 ⟨rfl, hR42, hS42'⟩
          have hS42 := hS38.trans hS42'
          obtain ⟨ρ43, e43⟩ : ∃ x : RS, x = (chR ρ39 r34) := ⟨_, rfl⟩
          rw [← e43] at hR42
          obtain ⟨c41, ec41⟩ : ∃ x : Nat, x = chI ρ39 r34 := ⟨_, rfl⟩
          rw [← ec41]
          have q44 : ThOK (chR ρ39 r34) (N + 5) ∧ chI ρ39 r34 < thN (chR ρ39 r34) ∧ thN ρ39 ≤ thN (chR ρ39 r34) := hT40.ch (by omega)
          rw [← e43, ← ec41] at q44
          obtain ⟨hT44, hi44, g44⟩ := q44
          refine R_ast e dX9_start_186 rfl rfl (by omega) (show _ < 12 from by omega) hR42 hS42 (fun M45 hR45 hS45 => ?_)
          refine S_aload_n dX9_start_187 rfl ?_
          refine S_getP fl_X9_60 dX9_start_188 rfl rfl (hR45.p 18 rfl) ?_
          refine S_iload_n dX9_start_191 rfl ?_
          refine S_iconst dX9_start_192 ?_
          refine R_ast e dX9_start_193 rfl rfl (by omega) (show _ < 12 from by omega) hR45 hS45 (fun M46 hR46 hS46 => ?_)
          refine S_aload_n dX9_start_194 rfl ?_
          refine S_getP fl_X9_63 dX9_start_195 rfl rfl (hR46.p 19 rfl) ?_
          refine S_iload_n dX9_start_198 rfl ?_
          refine S_aload_n dX9_start_199 rfl ?_
          refine S_iload dX9_start_200 rfl ?_
          obtain ⟨ρ47, e47⟩ : ∃ x : RS, x = ((ρ43.setA 17 e (↑c41)).setA 18 e ((-1))) := ⟨_, rfl⟩
          rw [← e47] at hR46
          have hT48 : ThOK ρ47 (N + 5) := hT44.congr ⟨(by rw [e47, RS.setA_s, RS.setA_s]), (by rw [e47, RS.setA_s, RS.setA_s]), (by rw [e47, RS.setA_s, RS.setA_s])⟩ (fun k j a1 a2 => (by rw [e47, RS.setA_ne (Or.inl (by omega)), RS.setA_ne (Or.inl (by omega))]))
          have g48 : thN ρ47 = thN ρ43 := thN_congr (by rw [e47, RS.setA_s, RS.setA_s])
          have hq49 : 0 < ρ47.1 0 ∧ ρ47.1 0 ≤ 10007 := by have := hT48.2.2.1; omega
          refine S_callV (mi := mi_X9_start) [vI (↑b)] ok_X9_publicOf ml_X9_152 dX9_start_202 rfl (by decide) rfl (by decide) rfl (Nat.le_of_ble_eq_true rfl) rfl (r_X9_publicOf (ρ := ρ47) b ((ρ.2 9 b).toNat) (by rw [e47, RS.setA_ne (Or.inl (by decide)), RS.setA_ne (Or.inl (by decide)), e43, thR_old_at _ _ _ _ _ _ _ (Or.inl (by omega)), e39, RS.setA_ne (Or.inl (by decide)), e36, thR_old_at _ _ _ _ _ _ _ (Or.inl (by omega)), e32, thR_old_at _ _ _ _ _ _ _ (Or.inl (by omega)), e28, RS.setA_ne (Or.inl (by decide)), e26, nextR_at (by decide), e24, RS.setA_ne (Or.inl (by decide)), RS.setA_ne (Or.inl (by decide)), RS.setA_ne (Or.inl (by decide)), RS.setA_ne (Or.inl (by decide)), RS.setA_ne (Or.inl (by decide)), e17, thR_old_at _ _ _ _ _ _ _ (Or.inl (by omega)), e13, thR_old_at _ _ _ _ _ _ _ (Or.inl (by omega)), e9, nextR_at (by decide), e7, nextR_at (by decide), e5, RS.setA_ne (Or.inl (by decide))]; exact (by omega)) (by have := hT48.2.1; omega) (by omega) hT48.2.2.2.1 hq49 M46 hR46) ?_
          rintro v' M50 ⟨rfl, hR50, hS50'⟩
          have hS50 := hS46.trans hS50'
          rw [show ρ47.1 0 = ρ.1 0 from (by rw [e47, RS.setA_s, RS.setA_s, e43, thR_s _ _ _ _ _ _ (by decide), e39, RS.setA_s, e36, thR_s _ _ _ _ _ _ (by decide), e32, thR_s _ _ _ _ _ _ (by decide), e28, RS.setA_s, e26, nextR_s, e24, RS.setA_s, RS.setA_s, RS.setA_s, RS.setA_s, RS.setA_s, e17, thR_s _ _ _ _ _ _ (by decide), e13, thR_s _ _ _ _ _ _ (by decide), e9, nextR_s, e7, nextR_s, e5, RS.setA_s]), show ρ47.1 1 = ρ.1 1 from (by rw [e47, RS.setA_s, RS.setA_s, e43, thR_s _ _ _ _ _ _ (by decide), e39, RS.setA_s, e36, thR_s _ _ _ _ _ _ (by decide), e32, thR_s _ _ _ _ _ _ (by decide), e28, RS.setA_s, e26, nextR_s, e24, RS.setA_s, RS.setA_s, RS.setA_s, RS.setA_s, RS.setA_s, e17, thR_s _ _ _ _ _ _ (by decide), e13, thR_s _ _ _ _ _ _ (by decide), e9, nextR_s, e7, nextR_s, e5, RS.setA_s])]
          refine R_ast e dX9_start_205 rfl rfl (by omega) (show _ < 12 from by omega) hR50 hS50 (fun M51 hR51 hS51 => ?_)
          refine S_aload_n dX9_start_206 rfl ?_
          refine S_iconst dX9_start_207 ?_
          refine S_callV (mi := mi_X9_start) [vI 1] ok_X9_done ml_X9_166 dX9_start_208 rfl (by decide) rfl (by decide) rfl (Nat.le_of_ble_eq_true rfl) rfl (r_X9_done (ρ := (ρ47.setA 19 e (powF (ρ.1 0) (ρ.1 1) ((ρ.2 9 b).toNat)))) 1 M51 hR51) ?_
          rintro v' M52 ⟨rfl, hR52, hS52'⟩
          have hS52 := hS51.trans hS52'
          exact S_iret dX9_start_211 rfl (Or.inl rfl) (by
      have e9 : startF ρ ↑i = ((1 : Int), ((ρ47.setA 19 e (powF (ρ.1 0) (ρ.1 1) ((ρ.2 9 b).toNat))).setS 42 0)) := by
        unfold startF
        rw [if_neg (by omega), Int.toNat_natCast, ← he, ← ho, hr0, hr1, if_neg (by omega), ha, hb, hc, Int.toNat_natCast, Int.toNat_natCast, Int.toNat_natCast, Int.toNat_natCast, Int.toNat_natCast, show n + 1 + 1 - 2 = n from by omega, show m + 1 - 1 = m from by omega]
        subst_vars
        rfl
      rw [e9]; exact ⟨rfl, hR52, hS52⟩)
        · refine S_aload_n dX9_start_57 rfl ?_
          refine S_iconst dX9_start_58 ?_
          refine S_callV (mi := mi_X9_start) [vI 3] ok_X9_refused ml_X9_163 dX9_start_59 rfl (by decide) rfl (by decide) rfl (Nat.le_of_ble_eq_true rfl) rfl (r_X9_refused (ρ := ρ) 3 M1 hR1) ?_
          rintro v' M53 ⟨rfl, hR53, hS53'⟩
          have hS53 := hS1.trans hS53'
          exact S_iret dX9_start_62 rfl (Or.inl rfl) (by have e9 : startF ρ ↑i = (((-1) : Int), (ρ.setS 42 3)) := (by unfold startF; rw [if_neg (by omega), Int.toNat_natCast, ← he, ← ho, hr0, hr1, if_pos (by omega)]); rw [e9]; exact ⟨rfl, hR53, hS53⟩)
  · have hS1 := hS.trans hS1'
    refine S_if_ne 20 dX9_start_11 (by decide) (by omega) (fun c_11 => absurd c_11 (by omega)) (fun c_11 => ?_)
    refine S_aload_n dX9_start_14 rfl ?_
    refine S_iconst dX9_start_15 ?_
    refine S_callV (mi := mi_X9_start) [vI 1] ok_X9_refused ml_X9_163 dX9_start_16 rfl (by decide) rfl (by decide) rfl (Nat.le_of_ble_eq_true rfl) rfl (r_X9_refused (ρ := ρ) 1 M1 hR1) ?_
    rintro v' M54 ⟨rfl, hR54, hS54'⟩
    have hS54 := hS1.trans hS54'
    exact S_iret dX9_start_19 rfl (Or.inl rfl) (by first | (exfalso; omega) | (have e9 : startF ρ p = (((-1) : Int), (ρ.setS 42 1)) := (by unfold startF; (repeat (first | rw [if_pos (by omega)] | rw [if_neg (by omega)])); try rfl); rw [e9]; exact ⟨rfl, hR54, hS54⟩))
