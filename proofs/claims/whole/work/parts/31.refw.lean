/-! THE REFERENCE: take -/
theorem xor1' : ∀ e : Fin 12, (jI (e.val : Int) ^^^ jI 1).toInt = if e.val % 2 = 0 then (e.val : Int) + 1 else (e.val : Int) - 1 := by decide
theorem xor1 {e : Nat} (he : e < 12) : (jI (e : Int) ^^^ jI 1).toInt = if e % 2 = 0 then (e : Int) + 1 else (e : Int) - 1 := xor1' ⟨e, he⟩
theorem kptF_cs (ρ : RS) (e l : Nat) : ∀ d i, kptF ρ e l d i = -1 ∨ ∃ j : Nat, kptF ρ e l d i = ↑j ∧ i ≤ j ∧ j < i + d := by
  intro d
  induction d with
  | zero => intro i; exact Or.inl rfl
  | succ d ih =>
    intro i
    by_cases hc : ρ.2 26 (12 * e + i) = ρ.2 32 l ∧ ρ.2 27 (12 * e + i) = ρ.2 34 l
    · have e1 : kptF ρ e l (d + 1) i = ↑i := if_pos hc
      rw [e1]
      exact Or.inr ⟨i, rfl, by omega, by omega⟩
    · have e1 : kptF ρ e l (d + 1) i = kptF ρ e l d (i + 1) := if_neg hc
      rw [e1]
      rcases ih (i + 1) with h | ⟨j, h1, h2, h3⟩
      · exact Or.inl h
      · exact Or.inr ⟨j, h1, by omega, by omega⟩
def LtOK (ρ : RS) : Prop := ∀ l : Nat, (l : Int) < ρ.1 30 → (∃ x : Nat, ρ.2 31 l = ↑x ∧ x < 12 ∧ ρ.2 14 (x / 2) ≠ 0) ∧ (0 ≤ ρ.2 32 l ∧ ρ.2 32 l ≤ 10007) ∧ (0 ≤ ρ.2 33 l ∧ ρ.2 33 l ≤ 300) ∧ (∃ p : Nat, ρ.2 34 l = ↑p ∧ p ≤ 300) ∧ (0 ≤ ρ.2 35 l ∧ ρ.2 35 l ≤ 255) ∧ (0 ≤ ρ.2 36 l ∧ ρ.2 36 l ≤ 10007) ∧ (∃ k : Nat, ρ.2 37 l = ↑k ∧ k < thN ρ ∧ ρ.2 6 k = 0) ∧ (∃ z : Nat, ρ.2 38 l = ↑z ∧ z < thN ρ ∧ ρ.2 6 z = 3)
def EnN (ρ : RS) : Prop := ∀ e, e < 12 → ρ.2 14 (e / 2) ≠ 0 → (-1 ≤ ρ.2 19 e ∧ ρ.2 19 e ≤ 10007) ∧ (∃ p : Nat, ρ.2 20 e = ↑p ∧ (p : Int) ≤ ρ.1 30) ∧ (0 ≤ ρ.2 21 e ∧ ρ.2 21 e ≤ 300) ∧ (∃ p : Nat, ρ.2 22 e = ↑p ∧ p ≤ 301)
def KyOK (ρ : RS) : Prop := ∀ e j n : Nat, e < 12 → ρ.2 25 e = ↑n → j < n → ∃ k : Nat, ρ.2 28 (12 * e + j) = ↑k ∧ k < thN ρ ∧ ρ.2 6 k = 0
def LfOK (ρ : RS) : Prop := (∀ e, e < 12 → ∃ n : Nat, ρ.2 23 e = ↑n ∧ n < 600) ∧ ∀ j, j < 7200 → -1 ≤ ρ.2 24 j ∧ ρ.2 24 j ≤ 10007
def tkF (ρ : RS) (e l i : Nat) : Int × RS :=
  if mixF (ρ.1 0) (ρ.2 9 (ρ.2 28 (12 * e + i)).toNat) (byF ρ l (ρ.2 9 (ρ.2 28 (12 * e + i)).toNat)) ≠ ρ.2 36 l then (-1, ρ.setS 42 7) else
  (byF ρ l (ρ.2 9 (ρ.2 28 (12 * e + i)).toNat), (dropR ρ e i ((ρ.2 25 e).toNat - 1)).setS 42 0)
def takF (ρ : RS) (e l : Nat) : Int × RS := if kptF ρ e l (ρ.2 25 e).toNat 0 ≠ -1 then tkF ρ e l (kptF ρ e l (ρ.2 25 e).toNat 0).toNat else
  if ρ.2 32 l = ρ.2 19 e ∧ ρ.2 18 e ≠ -1 then furF ρ e l else anF ρ e l (if ρ.2 32 l = ρ.2 19 e then 1 else 0)
def takeF (ρ : RS) (e l : Int) : Int × RS := if ¬ (0 ≤ e ∧ e ≤ 2 * ρ.1 4 - 1) ∨ ¬ (0 ≤ l ∧ l ≤ ρ.1 30 - 1) then (-1, ρ.setS 42 1) else
  if ρ.2 31 l.toNat ≠ (jI e ^^^ jI 1).toInt then (-1, ρ.setS 42 3) else takF ρ e.toNat l.toNat
set_option maxRecDepth 100000 in
theorem r_X9_take {G : Ge} {ρ : RS} (e l : Int) (e32 : -2147483648 ≤ e ∧ e < 2147483648) (l32 : -2147483648 ≤ l ∧ l < 2147483648) (hp : 0 ≤ ρ.1 4 ∧ ρ.1 4 ≤ 6) (N : Nat) (h : ThOK ρ N) (hN : N < 7800) (hSe : SecOK ρ) (hE : ∀ e : Nat, e < 12 → ρ.2 14 (e / 2) ≠ 0 → EndOK ρ e) (hK : KOK ρ) (hl : 0 ≤ ρ.1 30 ∧ ρ.1 30 ≤ 300) (hm : 0 ≤ ρ.1 2 ∧ ρ.1 2 ≤ 12) (hLt : LtOK ρ) (hEn : EnN ρ) (hRo : RowOK ρ) (hky : KyOK ρ) (hLf : LfOK ρ) : RC G mi_X9_take [vR ((30, 0)), vI e, vI l] ρ (some (vI (takeF ρ e l).1)) ((takeF ρ e l).2) := by
  intro M hR
  have hS := SameR.rf M
  refine Ct.of pl_X9_take [some (vR ((30, 0))), some (vI e), some (vI l), none, none] rfl (Nat.le_of_ble_eq_true rfl) ?_
  refine S_aload_n dX9_take_0 rfl ?_
  refine S_iload_n dX9_take_1 rfl ?_
  refine S_callV (mi := mi_X9_take) [vI e] ok_X9_isEnd ml_X9_172 dX9_take_2 rfl (by decide) rfl (by decide) rfl (Nat.le_of_ble_eq_true rfl) rfl (r_X9_isEnd (ρ := ρ) e (by omega) (show 0 ≤ ρ.1 4 ∧ ρ.1 4 ≤ 6 from by omega) M hR) ?_
  rintro v' M1 ⟨⟨rfl, b_2⟩ | ⟨rfl, b_2⟩, hR1, hS1'⟩
  · have hS1 := hS.trans hS1'
    obtain ⟨i, rfl⟩ : ∃ i : Nat, e = ↑i := ⟨e.toNat, by omega⟩
    refine S_if_eq 16 dX9_take_5 (by decide) (by omega) (fun c_5 => absurd c_5 (by omega)) (fun c_5 => ?_)
    refine S_aload_n dX9_take_8 rfl ?_
    refine S_iload_n dX9_take_9 rfl ?_
    refine S_callV (mi := mi_X9_take) [vI l] ok_X9_isLetter ml_X9_191 dX9_take_10 rfl (by decide) rfl (by decide) rfl (Nat.le_of_ble_eq_true rfl) rfl (r_X9_isLetter (ρ := ρ) l (by omega) (show 0 ≤ ρ.1 30 ∧ ρ.1 30 ≤ 300 from by omega) M1 hR1) ?_
    rintro v' M2 ⟨⟨rfl, b_10⟩ | ⟨rfl, b_10⟩, hR2, hS2'⟩
    · have hS2 := hS1.trans hS2'
      obtain ⟨y, rfl⟩ : ∃ y : Nat, l = ↑y := ⟨l.toNat, by omega⟩
      obtain ⟨⟨x, hx1, hx2, hx3⟩, h32, h33, ⟨pl, h34, hpl⟩, ht, h36, -, ⟨z, h38, hz, hzk⟩⟩ := hLt y (by omega)
      have hxe := xor1 (e := i) (by omega)
      refine S_if_ne 22 dX9_take_13 (by decide) (by omega) (fun c_13 => ?_) (fun c_13 => absurd c_13 (by omega))
      refine S_aload_n dX9_take_22 rfl ?_
      refine S_getP fl_X9_96 dX9_take_23 rfl rfl (hR2.p 31 rfl) ?_
      refine S_iload_n dX9_take_26 rfl ?_
      refine R_ald (v := ρ.2 31 y) y hR2 dX9_take_27 rfl rfl (by omega) (show _ < 300 from by omega) rfl ?_
      refine S_iload_n dX9_take_28 rfl ?_
      refine S_iconst dX9_take_29 ?_
      refine S_ixor dX9_take_30 ?_
      refine S_icmp_eq 40 dX9_take_31 (by decide) (by have := jI_bd (jI ↑i ^^^ jI 1); omega) (fun c_31 => ?_) (fun c_31 => ?_)
      · have hxi : x / 2 = i / 2 := by
          rw [hxe] at c_31
          split at c_31 <;> omega
        obtain ⟨⟨s, h15, hs, hsk⟩, ⟨r0, h16, hr, hrk⟩, -, h18⟩ := hE i (by omega) (by rw [← hxi]; exact hx3)
        obtain ⟨h19, h20, h21, ⟨pa, h22, hpa⟩⟩ := hEn i (by omega) (by rw [← hxi]; exact hx3)
        obtain ⟨n, hn2, hn⟩ := hK.1 i (by omega)
        have hl8 := h.2.1
        have hq : 0 < ρ.1 0 ∧ ρ.1 0 ≤ 10007 := by have := h.2.2.1; omega
        have hws := hSe s hs hsk
        have hwz := hSe z hz hzk
        have hTF : takeF ρ ↑i ↑y = takF ρ i y := by
          unfold takeF
          rw [if_neg (by omega), Int.toNat_natCast, Int.toNat_natCast, if_neg (fun q => q c_31)]
        rw [hTF]
        obtain ⟨kp, ekp⟩ : ∃ x : Int, x = kptF ρ i y n 0 := ⟨_, rfl⟩
        refine S_aload_n dX9_take_40 rfl ?_
        refine S_iload_n dX9_take_41 rfl ?_
        refine S_iload_n dX9_take_42 rfl ?_
        refine S_callV (mi := mi_X9_take) [vI (↑i), vI (↑y)] ok_X9_keptOf ml_X9_205 dX9_take_43 rfl (by decide) rfl (by decide) rfl (Nat.le_of_ble_eq_true rfl) rfl (r_X9_keptOf (ρ := ρ) i y n (by omega) (by omega) hn2 hn hK h32 (by omega) M2 hR2) ?_
        rintro v' M3 ⟨rfl, hR3, hS3'⟩
        have hS3 := hS2.trans hS3'
        rw [← ekp]
        have hkc := kptF_cs ρ i y n 0
        rw [← ekp] at hkc
        refine S_istore_n dX9_take_46 (by decide) ?_
        refine S_iload_n dX9_take_47 rfl ?_
        refine S_iconst dX9_take_48 ?_
        refine S_icmp_eq 105 dX9_take_49 (by decide) (by rcases hkc with q | ⟨j, q, -, q3⟩ <;> omega) (fun c_49 => ?_) (fun c_49 => ?_)
        · have h18b : -1 ≤ ρ.2 18 i ∧ ρ.2 18 i ≤ 8000 := by rcases h18 with q | ⟨c, q, q2, -⟩ <;> omega
          have hTK : takF ρ i y = if ρ.2 32 y = ρ.2 19 i ∧ ρ.2 18 i ≠ -1 then furF ρ i y else anF ρ i y (if ρ.2 32 y = ρ.2 19 i then 1 else 0) := by
            unfold takF
            rw [hn, Int.toNat_natCast, ← ekp, if_neg (fun q => q c_49)]
          rw [hTK]
          clear h20
          refine S_aload_n dX9_take_105 rfl ?_
          refine S_getP fl_X9_99 dX9_take_106 rfl rfl (hR3.p 32 rfl) ?_
          refine S_iload_n dX9_take_109 rfl ?_
          refine R_ald (v := ρ.2 32 y) y hR3 dX9_take_110 rfl rfl (by omega) (show _ < 300 from by omega) rfl ?_
          refine S_aload_n dX9_take_111 rfl ?_
          refine S_getP fl_X9_63 dX9_take_112 rfl rfl (hR3.p 19 rfl) ?_
          refine S_iload_n dX9_take_115 rfl ?_
          refine R_ald (v := ρ.2 19 i) i hR3 dX9_take_116 rfl rfl (by omega) (show _ < 12 from by omega) rfl ?_
          refine S_icmp_ne 124 dX9_take_117 (by decide) (by omega) (fun c_117 => ?_) (fun c_117 => ?_)
          · refine S_iconst dX9_take_124 ?_
            refine S_istore dX9_take_125 (by decide) ?_
            refine S_iload dX9_take_127 rfl ?_
            refine S_if_eq 151 dX9_take_129 (by decide) (by omega) (fun c_129 => ?_) (fun c_129 => absurd c_129 (by omega))
            refine S_aload_n dX9_take_151 rfl ?_
            refine S_iload_n dX9_take_152 rfl ?_
            refine S_iload_n dX9_take_153 rfl ?_
            refine S_iload dX9_take_154 rfl ?_
            obtain ⟨n0, hn0, hr0, hro⟩ := hRo i (by omega)
            have hrow : ∀ j, j < n0 → ∃ t : Nat, ρ.2 13 (12 * i + j) = ↑t ∧ t < thN ρ ∧ ρ.2 9 t ≤ 10000 := fun j hj => by
              obtain ⟨t, q1, q2, q3⟩ := hro j hj
              exact ⟨t, q1, q2, (hSe t q2 q3).2⟩
            obtain ⟨lf, h23, hlf⟩ := hLf.1 i (by omega)
            have h18w : ρ.2 18 i = -1 ∨ ∃ c : Nat, ρ.2 18 i = ↑c ∧ c < thN ρ := h18.imp id (fun ⟨c, q1, q2, _⟩ => ⟨c, q1, q2⟩)
            rw [if_neg (fun q => c_117 q.1), if_neg c_117]
            refine S_callV (mi := mi_X9_take) [vI (↑i), vI (↑y), vI 0] ok_X9_anew ml_X9_215 dX9_take_156 rfl (by decide) rfl (by decide) rfl (Nat.le_of_ble_eq_true rfl) rfl (r_X9_anew i y r0 s pl pa n0 z N lf 0 (by omega) (by omega) h (by omega) hK hl hm h16 hr h15 hs hws.2 (by omega) h34 hpl h38 hz hwz.2 h22 (by omega) hr0 hn0 hrow ht (by omega) h23 hlf h19 (Or.inl rfl) h18w h33 hLf.2 M3 hR3) ?_
            rintro v' M4 ⟨rfl, hR4, hS4'⟩
            have hS4 := hS3.trans hS4'
            exact S_iret dX9_take_159 rfl (Or.inl rfl) ⟨rfl, hR4, hS4⟩
          · refine S_iconst dX9_take_120 ?_
            refine S_goto 125 dX9_take_121 (by decide) ?_
            refine S_istore dX9_take_125 (by decide) ?_
            refine S_iload dX9_take_127 rfl ?_
            refine S_if_eq 151 dX9_take_129 (by decide) (by omega) (fun c_129 => absurd c_129 (by omega)) (fun c_129 => ?_)
            refine S_aload_n dX9_take_132 rfl ?_
            refine S_getP fl_X9_60 dX9_take_133 rfl rfl (hR3.p 18 rfl) ?_
            refine S_iload_n dX9_take_136 rfl ?_
            refine R_ald (v := ρ.2 18 i) i hR3 dX9_take_137 rfl rfl (by omega) (show _ < 12 from by omega) rfl ?_
            refine S_iconst dX9_take_138 ?_
            refine S_icmp_eq 151 dX9_take_139 (by decide) (by clear h18; omega) (fun c_139 => ?_) (fun c_139 => ?_)
            · refine S_aload_n dX9_take_151 rfl ?_
              refine S_iload_n dX9_take_152 rfl ?_
              refine S_iload_n dX9_take_153 rfl ?_
              refine S_iload dX9_take_154 rfl ?_
              obtain ⟨n0, hn0, hr0, hro⟩ := hRo i (by omega)
              have hrow : ∀ j, j < n0 → ∃ t : Nat, ρ.2 13 (12 * i + j) = ↑t ∧ t < thN ρ ∧ ρ.2 9 t ≤ 10000 := fun j hj => by
                obtain ⟨t, q1, q2, q3⟩ := hro j hj
                exact ⟨t, q1, q2, (hSe t q2 q3).2⟩
              obtain ⟨lf, h23, hlf⟩ := hLf.1 i (by omega)
              have h18w : ρ.2 18 i = -1 ∨ ∃ c : Nat, ρ.2 18 i = ↑c ∧ c < thN ρ := h18.imp id (fun ⟨c, q1, q2, _⟩ => ⟨c, q1, q2⟩)
              rw [if_neg (fun q => q.2 c_139), if_pos (Decidable.of_not_not c_117)]
              refine S_callV (mi := mi_X9_take) [vI (↑i), vI (↑y), vI 1] ok_X9_anew ml_X9_215 dX9_take_156 rfl (by decide) rfl (by decide) rfl (Nat.le_of_ble_eq_true rfl) rfl (r_X9_anew i y r0 s pl pa n0 z N lf 1 (by omega) (by omega) h (by omega) hK hl hm h16 hr h15 hs hws.2 (by omega) h34 hpl h38 hz hwz.2 h22 (by omega) hr0 hn0 hrow ht (by omega) h23 hlf h19 (Or.inr rfl) h18w h33 hLf.2 M3 hR3) ?_
              rintro v' M5 ⟨rfl, hR5, hS5'⟩
              have hS5 := hS3.trans hS5'
              exact S_iret dX9_take_159 rfl (Or.inl rfl) ⟨rfl, hR5, hS5⟩
            · refine S_aload_n dX9_take_142 rfl ?_
              refine S_iload_n dX9_take_143 rfl ?_
              refine S_iload_n dX9_take_144 rfl ?_
              obtain ⟨c, h18c, hcl, -⟩ := h18.resolve_left c_139
              rw [if_pos ⟨Decidable.of_not_not c_117, c_139⟩]
              refine S_callV (mi := mi_X9_take) [vI (↑i), vI (↑y)] ok_X9_further ml_X9_212 dX9_take_145 rfl (by decide) rfl (by decide) rfl (Nat.le_of_ble_eq_true rfl) rfl (r_X9_further i y pl pa c N (by omega) (by omega) h (by omega) hm h34 hpl h22 (by omega) h18c hcl hK h19 hl ht (by omega) M3 hR3) ?_
              rintro v' M6 ⟨rfl, hR6, hS6'⟩
              have hS6 := hS3.trans hS6'
              refine S_goto 159 dX9_take_148 (by decide) ?_
              exact S_iret dX9_take_159 rfl (Or.inl rfl) ⟨rfl, hR6, hS6⟩
        · obtain ⟨j, hj1, -, hj2⟩ := hkc.resolve_left c_49
          obtain ⟨n1, rfl⟩ : ∃ n1 : Nat, n = n1 + 1 := ⟨n - 1, by omega⟩
          obtain ⟨k, hk1, hk2, hk3⟩ := hky i j (n1 + 1) (by omega) hn (by omega)
          have hkw := (h.2.2.2.2 k hk2).2.2.2
          have hTK : takF ρ i y = tkF ρ i y j := by
            unfold takF
            rw [hn, Int.toNat_natCast, ← ekp, if_pos c_49, hj1, Int.toNat_natCast]
          rw [hTK, hj1]
          refine S_aload_n dX9_take_52 rfl ?_
          refine S_getP fl_X9_32 dX9_take_53 rfl rfl (hR3.p 9 rfl) ?_
          refine S_aload_n dX9_take_56 rfl ?_
          refine S_getP fl_X9_90 dX9_take_57 rfl rfl (hR3.p 28 rfl) ?_
          refine S_bipush dX9_take_60 (by decide) ?_
          refine S_iload_n dX9_take_62 rfl ?_
          refine S_imul dX9_take_63 ?_
          refine S_iload_n dX9_take_64 rfl ?_
          refine S_iadd dX9_take_65 ?_
          refine R_ald (v := ↑k) ((12 * i + j)) hR3 dX9_take_66 rfl rfl (by omega) (show _ < 144 from by omega) (by rw [hk1]) ?_
          refine R_ald (v := ρ.2 9 k) k hR3 dX9_take_67 rfl rfl (by omega) (show _ < 8000 from by omega) rfl ?_
          refine S_istore dX9_take_68 (by decide) ?_
          refine S_aload_n dX9_take_70 rfl ?_
          refine S_iload_n dX9_take_71 rfl ?_
          refine S_iload dX9_take_72 rfl ?_
          refine S_callV (mi := mi_X9_take) [vI (↑y), vI (ρ.2 9 k)] ok_X9_isGood ml_X9_208 dX9_take_74 rfl (by decide) rfl (by decide) rfl (Nat.le_of_ble_eq_true rfl) rfl (r_X9_isGood (ρ := ρ) y (ρ.2 9 k) (by omega) ht (by omega) (by omega) hq M3 hR3) ?_
          rintro v' M7 ⟨⟨rfl, b_74⟩ | ⟨rfl, b_74⟩, hR7, hS7'⟩
          · have hS7 := hS3.trans hS7'
            refine S_if_ne 87 dX9_take_77 (by decide) (by omega) (fun c_77 => ?_) (fun c_77 => absurd c_77 (by omega))
            refine S_aload_n dX9_take_87 rfl ?_
            refine S_iload_n dX9_take_88 rfl ?_
            refine S_iload_n dX9_take_89 rfl ?_
            refine S_callV (mi := mi_X9_take) [vI (↑i), vI (↑j)] ok_X9_drops ml_X9_194 dX9_take_90 rfl (by decide) rfl (by decide) rfl (Nat.le_of_ble_eq_true rfl) rfl (r_X9_drops (ρ := ρ) i j n1 (by omega) (by omega) (by omega) hn M7 hR7) ?_
            rintro v' M8 ⟨rfl, hR8, hS8'⟩
            have hS8 := hS7.trans hS8'
            obtain ⟨ρ9, e9⟩ : ∃ x : RS, x = (dropR ρ i j n1) := ⟨_, rfl⟩
            rw [← e9] at hR8
            refine S_aload_n dX9_take_93 rfl ?_
            refine S_aload_n dX9_take_94 rfl ?_
            refine S_iload_n dX9_take_95 rfl ?_
            refine S_iload dX9_take_96 rfl ?_
            have hb10 : ρ9.2 35 y = ρ.2 35 y := (by rw [e9, dropR_at _ _ _ _ _ _ (by omega)])
            have ht10 : 0 ≤ ρ9.2 35 y ∧ ρ9.2 35 y ≤ 255 := by rw [hb10]; exact ht
            refine S_callV (mi := mi_X9_take) [vI (↑y), vI (ρ.2 9 k)] ok_X9_byteOf ml_X9_202 dX9_take_98 rfl (by decide) rfl (by decide) rfl (Nat.le_of_ble_eq_true rfl) rfl (r_X9_byteOf (ρ := ρ9) y (ρ.2 9 k) (by omega) ht10 (by omega) M8 hR8) ?_
            rintro v' M11 ⟨rfl, hR11, hS11'⟩
            have hS11 := hS8.trans hS11'
            rw [byF_congr hb10]
            refine S_callV (mi := mi_X9_take) [vI (byF ρ y (ρ.2 9 k))] ok_X9_done ml_X9_166 dX9_take_101 rfl (by decide) rfl (by decide) rfl (Nat.le_of_ble_eq_true rfl) rfl (r_X9_done (ρ := ρ9) (byF ρ y (ρ.2 9 k)) M11 hR11) ?_
            rintro v' M12 ⟨rfl, hR12, hS12'⟩
            have hS12 := hS11.trans hS12'
            exact S_iret dX9_take_104 rfl (Or.inl rfl) (by have e9 : tkF ρ i y j = ((byF ρ y (ρ.2 9 k) : Int), (ρ9.setS 42 0)) := (by unfold tkF; rw [hk1, Int.toNat_natCast, if_neg (fun q => q b_74), hn, Int.toNat_natCast]; subst_vars; rfl); rw [e9]; exact ⟨rfl, hR12, hS12⟩)
          · have hS7 := hS3.trans hS7'
            refine S_if_ne 87 dX9_take_77 (by decide) (by omega) (fun c_77 => absurd c_77 (by omega)) (fun c_77 => ?_)
            refine S_aload_n dX9_take_80 rfl ?_
            refine S_bipush dX9_take_81 (by decide) ?_
            refine S_callV (mi := mi_X9_take) [vI 7] ok_X9_refused ml_X9_163 dX9_take_83 rfl (by decide) rfl (by decide) rfl (Nat.le_of_ble_eq_true rfl) rfl (r_X9_refused (ρ := ρ) 7 M7 hR7) ?_
            rintro v' M13 ⟨rfl, hR13, hS13'⟩
            have hS13 := hS7.trans hS13'
            exact S_iret dX9_take_86 rfl (Or.inl rfl) (by have e9 : tkF ρ i y j = (((-1) : Int), (ρ.setS 42 7)) := (by unfold tkF; rw [hk1, Int.toNat_natCast, if_pos b_74]); rw [e9]; exact ⟨rfl, hR13, hS13⟩)
      · refine S_aload_n dX9_take_34 rfl ?_
        refine S_iconst dX9_take_35 ?_
        refine S_callV (mi := mi_X9_take) [vI 3] ok_X9_refused ml_X9_163 dX9_take_36 rfl (by decide) rfl (by decide) rfl (Nat.le_of_ble_eq_true rfl) rfl (r_X9_refused (ρ := ρ) 3 M2 hR2) ?_
        rintro v' M14 ⟨rfl, hR14, hS14'⟩
        have hS14 := hS2.trans hS14'
        exact S_iret dX9_take_39 rfl (Or.inl rfl) (by have e9 : takeF ρ ↑i ↑y = (((-1) : Int), (ρ.setS 42 3)) := (by unfold takeF; rw [if_neg (by omega), Int.toNat_natCast, if_pos c_31]); rw [e9]; exact ⟨rfl, hR14, hS14⟩)
    · have hS2 := hS1.trans hS2'
      refine S_if_ne 22 dX9_take_13 (by decide) (by omega) (fun c_13 => absurd c_13 (by omega)) (fun c_13 => ?_)
      refine S_aload_n dX9_take_16 rfl ?_
      refine S_iconst dX9_take_17 ?_
      refine S_callV (mi := mi_X9_take) [vI 1] ok_X9_refused ml_X9_163 dX9_take_18 rfl (by decide) rfl (by decide) rfl (Nat.le_of_ble_eq_true rfl) rfl (r_X9_refused (ρ := ρ) 1 M2 hR2) ?_
      rintro v' M15 ⟨rfl, hR15, hS15'⟩
      have hS15 := hS2.trans hS15'
      exact S_iret dX9_take_21 rfl (Or.inl rfl) (by have e9 : takeF ρ (↑i) l = (((-1) : Int), (ρ.setS 42 1)) := (by unfold takeF; rw [if_pos (by omega)]); rw [e9]; exact ⟨rfl, hR15, hS15⟩)
  · have hS1 := hS.trans hS1'
    refine S_if_eq 16 dX9_take_5 (by decide) (by omega) (fun c_5 => ?_) (fun c_5 => absurd c_5 (by omega))
    refine S_aload_n dX9_take_16 rfl ?_
    refine S_iconst dX9_take_17 ?_
    refine S_callV (mi := mi_X9_take) [vI 1] ok_X9_refused ml_X9_163 dX9_take_18 rfl (by decide) rfl (by decide) rfl (Nat.le_of_ble_eq_true rfl) rfl (r_X9_refused (ρ := ρ) 1 M1 hR1) ?_
    rintro v' M16 ⟨rfl, hR16, hS16'⟩
    have hS16 := hS1.trans hS16'
    exact S_iret dX9_take_21 rfl (Or.inl rfl) (by have e9 : takeF ρ e l = (((-1) : Int), (ρ.setS 42 1)) := (by unfold takeF; rw [if_pos (by omega)]); rw [e9]; exact ⟨rfl, hR16, hS16⟩)
