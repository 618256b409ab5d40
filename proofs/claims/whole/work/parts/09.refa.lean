/-! THE REFERENCE, its small methods -/
def mixF (q x y : Int) : Int := (31 * x + 17 * y + x * y + 7).tmod q
theorem mixF_bd {q x y : Int} (hq : 0 < q) (hx : 0 ≤ x) (hy : 0 ≤ y) : 0 ≤ mixF q x y ∧ mixF q x y < q := tmod_bd (by have := Int.mul_nonneg hx hy; omega) hq
def powF (q b : Int) : Nat → Int
  | 0 => (1 : Int).tmod q
  | n + 1 => (powF q b n * b).tmod q
theorem powF_bd {q b : Int} (hq : 0 < q) (hb : 0 ≤ b) : ∀ n, 0 ≤ powF q b n ∧ powF q b n < q := by
  intro n
  induction n with
  | zero => exact tmod_bd (by decide) hq
  | succ n ih => exact tmod_bd (Int.mul_nonneg ih.1 hb) hq
theorem r_X9_in {G : Ge} {ρ : RS} (v low high : Int) (hv : -2147483648 ≤ v ∧ v < 2147483648) (hl : -2147483648 ≤ low ∧ low < 2147483648) (hh : -2147483648 ≤ high ∧ high < 2147483648) : RB G mi_X9_in [vI v, vI low, vI high] ρ (low ≤ v ∧ v ≤ high) := by
  intro M hR
  have hS := SameR.rf M
  refine Ct.of pl_X9_in [some (vI v), some (vI low), some (vI high)] rfl (Nat.le_of_ble_eq_true rfl) ?_
  refine S_iload_n dX9_in_0 rfl ?_
  refine S_iload_n dX9_in_1 rfl ?_
  refine S_icmp_lt 14 dX9_in_2 (by decide) (by omega) (fun c_2 => ?_) (fun c_2 => ?_)
  · refine S_iconst dX9_in_14 ?_
    exact S_iret dX9_in_15 rfl (Or.inr ⟨rfl, by omega⟩) ⟨Or.inr ⟨rfl, by omega⟩, hR, hS⟩
  · refine S_iload_n dX9_in_5 rfl ?_
    refine S_iload_n dX9_in_6 rfl ?_
    refine S_icmp_gt 14 dX9_in_7 (by decide) (by omega) (fun c_7 => ?_) (fun c_7 => ?_)
    · refine S_iconst dX9_in_14 ?_
      exact S_iret dX9_in_15 rfl (Or.inr ⟨rfl, by omega⟩) ⟨Or.inr ⟨rfl, by omega⟩, hR, hS⟩
    · refine S_iconst dX9_in_10 ?_
      refine S_goto 15 dX9_in_11 (by decide) ?_
      exact S_iret dX9_in_15 rfl (Or.inr ⟨rfl, by omega⟩) ⟨Or.inl ⟨rfl, by omega⟩, hR, hS⟩
theorem r_X9_refused {G : Ge} {ρ : RS} (how : Int) : RC G mi_X9_refused [vR ((30, 0)), vI how] ρ (some (vI (-1))) (ρ.setS 42 how) := by
  intro M hR
  have hS := SameR.rf M
  refine Ct.of pl_X9_refused [some (vR ((30, 0))), some (vI how)] rfl (Nat.le_of_ble_eq_true rfl) ?_
  refine S_aload_n dX9_refused_0 rfl ?_
  refine S_iload_n dX9_refused_1 rfl ?_
  refine R_put fl_X9_132 dX9_refused_2 rfl rfl rfl hR hS (fun M1 hR1 hS1 => ?_)
  refine S_iconst dX9_refused_5 ?_
  exact S_iret dX9_refused_6 rfl (Or.inl rfl) ⟨rfl, hR1, hS1⟩
theorem r_X9_done {G : Ge} {ρ : RS} (v : Int) : RC G mi_X9_done [vR ((30, 0)), vI v] ρ (some (vI v)) (ρ.setS 42 0) := by
  intro M hR
  have hS := SameR.rf M
  refine Ct.of pl_X9_done [some (vR ((30, 0))), some (vI v)] rfl (Nat.le_of_ble_eq_true rfl) ?_
  refine S_aload_n dX9_done_0 rfl ?_
  refine S_iconst dX9_done_1 ?_
  refine R_put fl_X9_132 dX9_done_2 rfl rfl rfl hR hS (fun M1 hR1 hS1 => ?_)
  refine S_iload_n dX9_done_5 rfl ?_
  exact S_iret dX9_done_6 rfl (Or.inl rfl) ⟨rfl, hR1, hS1⟩
theorem r_X9_isEnd {G : Ge} {ρ : RS} (e : Int) (he : -2147483648 ≤ e ∧ e < 2147483648) (hp : 0 ≤ ρ.1 4 ∧ ρ.1 4 ≤ 6) : RB G mi_X9_isEnd [vR ((30, 0)), vI e] ρ (0 ≤ e ∧ e ≤ 2 * ρ.1 4 - 1) := by
  intro M hR
  have hS := SameR.rf M
  refine Ct.of pl_X9_isEnd [some (vR ((30, 0))), some (vI e)] rfl (Nat.le_of_ble_eq_true rfl) ?_
  refine S_iload_n dX9_isEnd_0 rfl ?_
  refine S_iconst dX9_isEnd_1 ?_
  refine S_iconst dX9_isEnd_2 ?_
  refine S_aload_n dX9_isEnd_3 rfl ?_
  refine S_getI (v := ρ.1 4) fl_X9_135 dX9_isEnd_4 rfl rfl (hR.s 4) ?_
  refine S_imul dX9_isEnd_7 ?_
  refine S_iconst dX9_isEnd_8 ?_
  refine S_isub dX9_isEnd_9 ?_
  refine S_callS (mi := mi_X9_isEnd) [vI e, vI 0, vI ((2 * (ρ.1 4)) - 1)] ok_X9_in ml_X9_138 dX9_isEnd_10 (by decide) rfl (Nat.le_of_ble_eq_true rfl) rfl (r_X9_in (ρ := ρ) e 0 ((2 * (ρ.1 4)) - 1) (by omega) (by omega) (by omega) M hR) ?_
  rintro v' M1 ⟨⟨rfl, b_10⟩ | ⟨rfl, b_10⟩, hR1, hS1'⟩
  · have hS1 := hS.trans hS1'
    exact S_iret dX9_isEnd_13 rfl (Or.inr ⟨rfl, by omega⟩) ⟨Or.inl ⟨rfl, by omega⟩, hR1, hS1⟩
  · have hS1 := hS.trans hS1'
    exact S_iret dX9_isEnd_13 rfl (Or.inr ⟨rfl, by omega⟩) ⟨Or.inr ⟨rfl, by omega⟩, hR1, hS1⟩
theorem r_X9_isLetter {G : Ge} {ρ : RS} (e : Int) (he : -2147483648 ≤ e ∧ e < 2147483648) (hp : 0 ≤ ρ.1 30 ∧ ρ.1 30 ≤ 300) : RB G mi_X9_isLetter [vR ((30, 0)), vI e] ρ (0 ≤ e ∧ e ≤ ρ.1 30 - 1) := by
  intro M hR
  have hS := SameR.rf M
  refine Ct.of pl_X9_isLetter [some (vR ((30, 0))), some (vI e)] rfl (Nat.le_of_ble_eq_true rfl) ?_
  refine S_iload_n dX9_isLetter_0 rfl ?_
  refine S_iconst dX9_isLetter_1 ?_
  refine S_aload_n dX9_isLetter_2 rfl ?_
  refine S_getI (v := ρ.1 30) fl_X9_142 dX9_isLetter_3 rfl rfl (hR.s 30) ?_
  refine S_iconst dX9_isLetter_6 ?_
  refine S_isub dX9_isLetter_7 ?_
  refine S_callS (mi := mi_X9_isLetter) [vI e, vI 0, vI ((ρ.1 30) - 1)] ok_X9_in ml_X9_138 dX9_isLetter_8 (by decide) rfl (Nat.le_of_ble_eq_true rfl) rfl (r_X9_in (ρ := ρ) e 0 ((ρ.1 30) - 1) (by omega) (by omega) (by omega) M hR) ?_
  rintro v' M1 ⟨⟨rfl, b_8⟩ | ⟨rfl, b_8⟩, hR1, hS1'⟩
  · have hS1 := hS.trans hS1'
    exact S_iret dX9_isLetter_11 rfl (Or.inr ⟨rfl, by omega⟩) ⟨Or.inl ⟨rfl, by omega⟩, hR1, hS1⟩
  · have hS1 := hS.trans hS1'
    exact S_iret dX9_isLetter_11 rfl (Or.inr ⟨rfl, by omega⟩) ⟨Or.inr ⟨rfl, by omega⟩, hR1, hS1⟩
theorem r_X9_mix {G : Ge} {ρ : RS} (x y : Int) (hx : 0 ≤ x ∧ x ≤ 10007) (hy : 0 ≤ y ∧ y ≤ 10007) (hq : 0 < ρ.1 0 ∧ ρ.1 0 ≤ 10007) : RC G mi_X9_mix [vR ((30, 0)), vI x, vI y] ρ (some (vI (mixF (ρ.1 0) x y))) ρ := by
  intro M hR
  have hS := SameR.rf M
  refine Ct.of pl_X9_mix [some (vR ((30, 0))), some (vI x), some (vI y)] rfl (Nat.le_of_ble_eq_true rfl) ?_
  have hxy := mul_bd hx hy
  refine S_bipush dX9_mix_0 (by decide) ?_
  refine S_iload_n dX9_mix_2 rfl ?_
  refine S_imul dX9_mix_3 ?_
  refine S_bipush dX9_mix_4 (by decide) ?_
  refine S_iload_n dX9_mix_6 rfl ?_
  refine S_imul dX9_mix_7 ?_
  refine S_iadd dX9_mix_8 ?_
  refine S_iload_n dX9_mix_9 rfl ?_
  refine S_iload_n dX9_mix_10 rfl ?_
  refine S_imul dX9_mix_11 ?_
  refine S_iadd dX9_mix_12 ?_
  refine S_bipush dX9_mix_13 (by decide) ?_
  refine S_iadd dX9_mix_15 ?_
  refine S_aload_n dX9_mix_16 rfl ?_
  refine S_getI (v := ρ.1 0) fl_X9_7 dX9_mix_17 rfl rfl (hR.s 0) ?_
  refine S_irem dX9_mix_20 (by omega) (by omega) ?_
  exact S_iret dX9_mix_21 rfl (Or.inl rfl) ⟨rfl, hR, hS⟩
theorem lp_X9_power {G : Ge} {ρ : RS} {M0 : Mem} (b : Int) (n : Nat) (hb : 0 ≤ b ∧ b ≤ 10007) (hn : n ≤ 10000) (hq : 0 < ρ.1 0 ∧ ρ.1 0 ≤ 10007) : ∀ (d : Nat) (k : Nat) (M : Mem), k + d = n → Rf ρ M → SameR M0 M → Sf G mi_X9_power (fun v' M' => v' = some (vI (powF (ρ.1 0) b n)) ∧ Rf ρ M' ∧ SameR M0 M') 10 [some (vR ((30, 0))), some (vI b), some (vI (↑n)), some (vI (powF (ρ.1 0) b k)), some (vI (↑k))] [] M := by
  intro d
  induction d with
  | zero =>
    intro k M hk hR hS
    obtain rfl : k = n := by omega
    refine S_iload dX9_power_10 rfl ?_
    refine S_iload_n dX9_power_12 rfl ?_
    refine S_icmp_ge 31 dX9_power_13 (by decide) (by omega) (fun c_13 => ?_) (fun c_13 => absurd c_13 (by omega))
    refine S_iload_n dX9_power_31 rfl ?_
    exact S_iret dX9_power_32 rfl (Or.inl rfl) ⟨rfl, hR, hS⟩
  | succ d ih =>
    intro k M hk hR hS
    refine S_iload dX9_power_10 rfl ?_
    refine S_iload_n dX9_power_12 rfl ?_
    refine S_icmp_ge 31 dX9_power_13 (by decide) (by omega) (fun c_13 => absurd c_13 (by omega)) (fun c_13 => ?_)
    refine S_iload_n dX9_power_16 rfl ?_
    refine S_iload_n dX9_power_17 rfl ?_
    refine S_imul dX9_power_18 ?_
    refine S_aload_n dX9_power_19 rfl ?_
    refine S_getI (v := ρ.1 0) fl_X9_7 dX9_power_20 rfl rfl (hR.s 0) ?_
    refine S_irem dX9_power_23 (by have := mul_bd (⟨(powF_bd hq.1 hb.1 k).1, by have := (powF_bd hq.1 hb.1 k).2; omega⟩ : 0 ≤ powF (ρ.1 0) b k ∧ powF (ρ.1 0) b k ≤ 10007) hb; omega) (by omega) ?_
    refine S_istore_n dX9_power_24 (by decide) ?_
    refine S_iinc dX9_power_25 rfl (by decide) ?_
    rw [show ((↑k) + 1 : Int) = ↑(k + 1) from by omega]
    refine S_goto 10 dX9_power_28 (by decide) ?_
    exact ih (k + 1) _ (by omega) hR hS
theorem r_X9_power {G : Ge} {ρ : RS} (b : Int) (n : Nat) (hb : 0 ≤ b ∧ b ≤ 10007) (hn : n ≤ 10000) (hq : 0 < ρ.1 0 ∧ ρ.1 0 ≤ 10007) : RC G mi_X9_power [vR ((30, 0)), vI b, vI (↑n)] ρ (some (vI (powF (ρ.1 0) b n))) ρ := by
  intro M hR
  have hS := SameR.rf M
  refine Ct.of pl_X9_power [some (vR ((30, 0))), some (vI b), some (vI (↑n)), none, none] rfl (Nat.le_of_ble_eq_true rfl) ?_
  refine S_iconst dX9_power_0 ?_
  refine S_aload_n dX9_power_1 rfl ?_
  refine S_getI (v := ρ.1 0) fl_X9_7 dX9_power_2 rfl rfl (hR.s 0) ?_
  refine S_irem dX9_power_5 (by omega) (by omega) ?_
  refine S_istore_n dX9_power_6 (by decide) ?_
  refine S_iconst dX9_power_7 ?_
  refine S_istore dX9_power_8 (by decide) ?_
  exact lp_X9_power b n hb hn hq n 0 _ (by omega) hR hS
theorem r_X9_publicOf {G : Ge} {ρ : RS} (s w : Nat) (hw : ρ.2 9 s = ↑w) (hs : s < 8000) (hwb : w ≤ 10000) (hg : 0 ≤ ρ.1 1 ∧ ρ.1 1 ≤ 10007) (hq : 0 < ρ.1 0 ∧ ρ.1 0 ≤ 10007) : RC G mi_X9_publicOf [vR ((30, 0)), vI (↑s)] ρ (some (vI (powF (ρ.1 0) (ρ.1 1) w))) ρ := by
  intro M hR
  have hS := SameR.rf M
  refine Ct.of pl_X9_publicOf [some (vR ((30, 0))), some (vI (↑s))] rfl (Nat.le_of_ble_eq_true rfl) ?_
  refine S_aload_n dX9_publicOf_0 rfl ?_
  refine S_aload_n dX9_publicOf_1 rfl ?_
  refine S_getI (v := ρ.1 1) fl_X9_13 dX9_publicOf_2 rfl rfl (hR.s 1) ?_
  refine S_aload_n dX9_publicOf_5 rfl ?_
  refine S_getP fl_X9_32 dX9_publicOf_6 rfl rfl (hR.p 9 rfl) ?_
  refine S_iload_n dX9_publicOf_9 rfl ?_
  refine R_ald (v := ↑w) s hR dX9_publicOf_10 rfl rfl (by omega) (show _ < 8000 from by omega) hw ?_
  refine S_callV (mi := mi_X9_publicOf) [vI (ρ.1 1), vI (↑w)] ok_X9_power ml_X9_145 dX9_publicOf_11 rfl (by decide) rfl (by decide) rfl (Nat.le_of_ble_eq_true rfl) rfl (r_X9_power (ρ := ρ) (ρ.1 1) w hg hwb hq M hR) ?_
  rintro v' M1 ⟨rfl, hR1, hS1'⟩
  have hS1 := hS.trans hS1'
  exact S_iret dX9_publicOf_14 rfl (Or.inl rfl) ⟨rfl, hR1, hS1⟩
def fndT (ρ : RS) (k a b : Int) : Nat → Nat → Nat
  | 0, t => t
  | d + 1, t => if ρ.2 6 t = k ∧ ρ.2 7 t = a ∧ ρ.2 8 t = b then t else fndT ρ k a b d (t + 1)
theorem fndT_le (ρ : RS) (k a b : Int) : ∀ d t, fndT ρ k a b d t ≤ t + d ∧ t ≤ fndT ρ k a b d t := by
  intro d
  induction d with
  | zero => intro t; exact ⟨Nat.le_refl t, Nat.le_refl t⟩
  | succ d ih =>
    intro t
    unfold fndT
    split
    · omega
    · have := ih (t + 1); omega
def thN (ρ : RS) : Nat := (ρ.1 5).toNat
def thI (ρ : RS) (k a b : Int) : Nat := if k = 3 then thN ρ else fndT ρ k a b (thN ρ) 0
def newT (ρ : RS) (k a b v : Int) : RS := (((((ρ.setA 6 (thN ρ) k).setA 7 (thN ρ) a).setA 8 (thN ρ) b).setA 9 (thN ρ) v).setA 10 (thN ρ) 0).setS 5 (ρ.1 5 + 1)
def thR (ρ : RS) (k a b v : Int) : RS := if thI ρ k a b < thN ρ then ρ else newT ρ k a b v
theorem thI_le (ρ : RS) (k a b : Int) : thI ρ k a b ≤ thN ρ := by
  unfold thI
  split
  · exact Nat.le_refl _
  · have := (fndT_le ρ k a b (thN ρ) 0).1; omega
theorem thR_new {ρ : RS} {k a b v : Int} (h : thI ρ k a b = thN ρ) : thR ρ k a b v = newT ρ k a b v := if_neg (by omega)
theorem thR_old {ρ : RS} {k a b v : Int} (h : thI ρ k a b < thN ρ) : thR ρ k a b v = ρ := if_pos h
theorem nw_X9_thing {G : Ge} {ρ : RS} {M0 : Mem} (k a b v x : Int) (hn : ρ.1 5 = ↑(thN ρ)) (hlt : thN ρ < 8000) (M : Mem) (hR : Rf ρ M) (hS : SameR M0 M) : Sf G mi_X9_thing (fun v' M' => v' = some (vI ↑(thN ρ)) ∧ Rf (newT ρ k a b v) M' ∧ SameR M0 M') 59 [some (vR ((30, 0))), some (vI k), some (vI a), some (vI b), some (vI v), some (vI x)] [] M := by
  refine S_aload_n dX9_thing_59 rfl ?_
  refine S_getP fl_X9_22 dX9_thing_60 rfl rfl (hR.p 6 rfl) ?_
  refine S_aload_n dX9_thing_63 rfl ?_
  refine S_getI (v := ρ.1 5) fl_X9_149 dX9_thing_64 rfl rfl (hR.s 5) ?_
  refine S_iload_n dX9_thing_67 rfl ?_
  refine R_ast (thN ρ) dX9_thing_68 rfl rfl (by omega) (show _ < 8000 from by omega) hR hS (fun M1 hR1 hS1 => ?_)
  refine S_aload_n dX9_thing_69 rfl ?_
  refine S_getP fl_X9_26 dX9_thing_70 rfl rfl (hR1.p 7 rfl) ?_
  refine S_aload_n dX9_thing_73 rfl ?_
  refine S_getI (v := ρ.1 5) fl_X9_149 dX9_thing_74 rfl rfl (hR1.s 5) ?_
  refine S_iload_n dX9_thing_77 rfl ?_
  refine R_ast (thN ρ) dX9_thing_78 rfl rfl (by omega) (show _ < 8000 from by omega) hR1 hS1 (fun M2 hR2 hS2 => ?_)
  refine S_aload_n dX9_thing_79 rfl ?_
  refine S_getP fl_X9_29 dX9_thing_80 rfl rfl (hR2.p 8 rfl) ?_
  refine S_aload_n dX9_thing_83 rfl ?_
  refine S_getI (v := ρ.1 5) fl_X9_149 dX9_thing_84 rfl rfl (hR2.s 5) ?_
  refine S_iload_n dX9_thing_87 rfl ?_
  refine R_ast (thN ρ) dX9_thing_88 rfl rfl (by omega) (show _ < 8000 from by omega) hR2 hS2 (fun M3 hR3 hS3 => ?_)
  refine S_aload_n dX9_thing_89 rfl ?_
  refine S_getP fl_X9_32 dX9_thing_90 rfl rfl (hR3.p 9 rfl) ?_
  refine S_aload_n dX9_thing_93 rfl ?_
  refine S_getI (v := ρ.1 5) fl_X9_149 dX9_thing_94 rfl rfl (hR3.s 5) ?_
  refine S_iload dX9_thing_97 rfl ?_
  refine R_ast (thN ρ) dX9_thing_99 rfl rfl (by omega) (show _ < 8000 from by omega) hR3 hS3 (fun M4 hR4 hS4 => ?_)
  refine S_aload_n dX9_thing_100 rfl ?_
  refine S_getP fl_X9_35 dX9_thing_101 rfl rfl (hR4.p 10 rfl) ?_
  refine S_aload_n dX9_thing_104 rfl ?_
  refine S_getI (v := ρ.1 5) fl_X9_149 dX9_thing_105 rfl rfl (hR4.s 5) ?_
  refine S_iconst dX9_thing_108 ?_
  refine R_bst (thN ρ) dX9_thing_109 rfl rfl (by omega) (show _ < 8000 from by omega) (by omega) hR4 hS4 (fun M5 hR5 hS5 => ?_)
  refine S_aload_n dX9_thing_110 rfl ?_
  refine S_dup dX9_thing_111 ?_
  refine S_getI (v := ρ.1 5) fl_X9_149 dX9_thing_112 rfl rfl (hR5.s 5) ?_
  refine S_iconst dX9_thing_115 ?_
  refine S_iadd dX9_thing_116 ?_
  refine R_put fl_X9_149 dX9_thing_117 rfl rfl rfl hR5 hS5 (fun M6 hR6 hS6 => ?_)
  refine S_aload_n dX9_thing_120 rfl ?_
  refine S_getI (v := (ρ.1 5) + 1) fl_X9_149 dX9_thing_121 rfl rfl (hR6.s 5) ?_
  refine S_iconst dX9_thing_124 ?_
  refine S_isub dX9_thing_125 ?_
  exact S_iret dX9_thing_126 rfl (Or.inl rfl) ⟨by rw [show ρ.1 5 + 1 - 1 = ↑(thN ρ) from by omega], hR6, hS6⟩
theorem lp_X9_thing {G : Ge} {ρ : RS} {M0 : Mem} (k a b v : Int) (hn : ρ.1 5 = ↑(thN ρ)) (hlt : thN ρ < 8000) (hk : -1 ≤ k ∧ k ≤ 5) (ha : -1 ≤ a ∧ a ≤ 8000) (hb : -1 ≤ b ∧ b ≤ 8000) (hT : ∀ t, t < thN ρ → (-1 ≤ ρ.2 6 t ∧ ρ.2 6 t ≤ 8000) ∧ (-1 ≤ ρ.2 7 t ∧ ρ.2 7 t ≤ 8000) ∧ (-1 ≤ ρ.2 8 t ∧ ρ.2 8 t ≤ 8000)) (hk3 : k ≠ 3) : ∀ (d : Nat) (t : Nat) (M : Mem), t + d = thN ρ → Rf ρ M → SameR M0 M → Sf G mi_X9_thing (fun v' M' => v' = some (vI ↑(fndT ρ k a b d t)) ∧ Rf ((if fndT ρ k a b d t < thN ρ then ρ else newT ρ k a b v)) M' ∧ SameR M0 M') 3 [some (vR ((30, 0))), some (vI k), some (vI a), some (vI b), some (vI v), some (vI (↑t))] [] M := by
  intro d
  induction d with
  | zero =>
    intro t M ht hR hS
    rw [show (if fndT ρ k a b 0 t < thN ρ then ρ else newT ρ k a b v) = newT ρ k a b v from if_neg (show ¬ t < thN ρ by omega), show fndT ρ k a b 0 t = thN ρ from (show t = thN ρ by omega)]
    refine S_iload dX9_thing_3 rfl ?_
    refine S_aload_n dX9_thing_5 rfl ?_
    refine S_getI (v := ρ.1 5) fl_X9_149 dX9_thing_6 rfl rfl (hR.s 5) ?_
    refine S_icmp_ge 59 dX9_thing_9 (by decide) (by omega) (fun c_9 => ?_) (fun c_9 => absurd c_9 (by omega))
    exact nw_X9_thing k a b v _ hn hlt _ hR hS
  | succ d ih =>
    intro t M ht hR hS
    have hT1 := hT t (by omega)
    refine S_iload dX9_thing_3 rfl ?_
    refine S_aload_n dX9_thing_5 rfl ?_
    refine S_getI (v := ρ.1 5) fl_X9_149 dX9_thing_6 rfl rfl (hR.s 5) ?_
    refine S_icmp_ge 59 dX9_thing_9 (by decide) (by omega) (fun c_9 => absurd c_9 (by omega)) (fun c_9 => ?_)
    refine S_iload_n dX9_thing_12 rfl ?_
    refine S_iconst dX9_thing_13 ?_
    refine S_icmp_eq 59 dX9_thing_14 (by decide) (by omega) (fun c_14 => absurd c_14 (by omega)) (fun c_14 => ?_)
    refine S_aload_n dX9_thing_17 rfl ?_
    refine S_getP fl_X9_22 dX9_thing_18 rfl rfl (hR.p 6 rfl) ?_
    refine S_iload dX9_thing_21 rfl ?_
    refine R_ald (v := ρ.2 6 t) t hR dX9_thing_23 rfl rfl (by omega) (show _ < 8000 from by omega) rfl ?_
    refine S_iload_n dX9_thing_24 rfl ?_
    refine S_icmp_ne 53 dX9_thing_25 (by decide) (by omega) (fun c_25 => ?_) (fun c_25 => ?_)
    · have he : fndT ρ k a b (d + 1) t = fndT ρ k a b d (t + 1) := if_neg (by omega)
      rw [he]
      refine S_iinc dX9_thing_53 rfl (by decide) ?_
      rw [show ((↑t) + 1 : Int) = ↑(t + 1) from by omega]
      refine S_goto 3 dX9_thing_56 (by decide) ?_
      exact ih (t + 1) _ (by omega) hR hS
    · refine S_aload_n dX9_thing_28 rfl ?_
      refine S_getP fl_X9_26 dX9_thing_29 rfl rfl (hR.p 7 rfl) ?_
      refine S_iload dX9_thing_32 rfl ?_
      refine R_ald (v := ρ.2 7 t) t hR dX9_thing_34 rfl rfl (by omega) (show _ < 8000 from by omega) rfl ?_
      refine S_iload_n dX9_thing_35 rfl ?_
      refine S_icmp_ne 53 dX9_thing_36 (by decide) (by omega) (fun c_36 => ?_) (fun c_36 => ?_)
      · have he : fndT ρ k a b (d + 1) t = fndT ρ k a b d (t + 1) := if_neg (by omega)
        rw [he]
        refine S_iinc dX9_thing_53 rfl (by decide) ?_
        rw [show ((↑t) + 1 : Int) = ↑(t + 1) from by omega]
        refine S_goto 3 dX9_thing_56 (by decide) ?_
        exact ih (t + 1) _ (by omega) hR hS
      · refine S_aload_n dX9_thing_39 rfl ?_
        refine S_getP fl_X9_29 dX9_thing_40 rfl rfl (hR.p 8 rfl) ?_
        refine S_iload dX9_thing_43 rfl ?_
        refine R_ald (v := ρ.2 8 t) t hR dX9_thing_45 rfl rfl (by omega) (show _ < 8000 from by omega) rfl ?_
        refine S_iload_n dX9_thing_46 rfl ?_
        refine S_icmp_ne 53 dX9_thing_47 (by decide) (by omega) (fun c_47 => ?_) (fun c_47 => ?_)
        · have he : fndT ρ k a b (d + 1) t = fndT ρ k a b d (t + 1) := if_neg (by omega)
          rw [he]
          refine S_iinc dX9_thing_53 rfl (by decide) ?_
          rw [show ((↑t) + 1 : Int) = ↑(t + 1) from by omega]
          refine S_goto 3 dX9_thing_56 (by decide) ?_
          exact ih (t + 1) _ (by omega) hR hS
        · have he : fndT ρ k a b (d + 1) t = t := if_pos ⟨by omega, by omega, by omega⟩
          rw [he, if_pos (show t < thN ρ by omega)]
          refine S_iload dX9_thing_50 rfl ?_
          exact S_iret dX9_thing_52 rfl (Or.inl rfl) ⟨rfl, hR, hS⟩
theorem r_X9_thing {G : Ge} {ρ : RS} (k a b v : Int) (hn : ρ.1 5 = ↑(thN ρ)) (hlt : thN ρ < 8000) (hk : -1 ≤ k ∧ k ≤ 5) (ha : -1 ≤ a ∧ a ≤ 8000) (hb : -1 ≤ b ∧ b ≤ 8000) (hT : ∀ t, t < thN ρ → (-1 ≤ ρ.2 6 t ∧ ρ.2 6 t ≤ 8000) ∧ (-1 ≤ ρ.2 7 t ∧ ρ.2 7 t ≤ 8000) ∧ (-1 ≤ ρ.2 8 t ∧ ρ.2 8 t ≤ 8000)) : RC G mi_X9_thing [vR ((30, 0)), vI k, vI a, vI b, vI v] ρ (some (vI ↑(thI ρ k a b))) (thR ρ k a b v) := by
  intro M hR
  have hS := SameR.rf M
  refine Ct.of pl_X9_thing [some (vR ((30, 0))), some (vI k), some (vI a), some (vI b), some (vI v), none] rfl (Nat.le_of_ble_eq_true rfl) ?_
  have hle := thI_le ρ k a b
  by_cases hk3 : k = 3
  · rw [thR_new (show thI ρ k a b = thN ρ from if_pos hk3), show thI ρ k a b = thN ρ from if_pos hk3]
    refine S_iconst dX9_thing_0 ?_
    refine S_istore dX9_thing_1 (by decide) ?_
    refine S_iload dX9_thing_3 rfl ?_
    refine S_aload_n dX9_thing_5 rfl ?_
    refine S_getI (v := ρ.1 5) fl_X9_149 dX9_thing_6 rfl rfl (hR.s 5) ?_
    refine S_icmp_ge 59 dX9_thing_9 (by decide) (by omega) (fun c_9 => ?_) (fun c_9 => ?_)
    · exact nw_X9_thing k a b v _ hn hlt _ hR hS
    · refine S_iload_n dX9_thing_12 rfl ?_
      refine S_iconst dX9_thing_13 ?_
      refine S_icmp_eq 59 dX9_thing_14 (by decide) (by omega) (fun c_14 => ?_) (fun c_14 => absurd c_14 (by omega))
      exact nw_X9_thing k a b v _ hn hlt _ hR hS
  · rw [show thR ρ k a b v = (if fndT ρ k a b (thN ρ) 0 < thN ρ then ρ else newT ρ k a b v) from (by unfold thR thI; rw [if_neg hk3]), show thI ρ k a b = fndT ρ k a b (thN ρ) 0 from if_neg hk3]
    refine S_iconst dX9_thing_0 ?_
    refine S_istore dX9_thing_1 (by decide) ?_
    exact lp_X9_thing k a b v hn hlt hk ha hb hT hk3 (thN ρ) 0 _ (by omega) hR hS
