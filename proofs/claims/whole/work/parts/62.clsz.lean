/-! WHAT HOLDS BETWEEN THE CALLS; an end takes a letter -/
def bnd (ρ : RS) : Prop := (0 ≤ ρ.1 4 ∧ ρ.1 4 ≤ 6) ∧ (0 ≤ ρ.1 30 ∧ ρ.1 30 ≤ 300) ∧ (0 ≤ ρ.1 2 ∧ ρ.1 2 ≤ 12) ∧ (0 ≤ ρ.1 3 ∧ ρ.1 3 ≤ 300) ∧ (0 ≤ ρ.1 44 ∧ ρ.1 44 ≤ 40)
def Strt (ρ : RS) : Prop := ∀ p : Nat, p < 6 → (ρ.2 14 p = 0 ∨ ρ.2 14 p = 1) ∧ (ρ.2 14 p ≠ 0 → (p : Int) < ρ.1 4)
def RwP (par : Nat → Bool) (ρ : RS) : Prop := ∀ e i n : Nat, e < 12 → ρ.2 12 e = ↑n → i < n → par (ρ.2 13 (12 * e + i)).toNat = decide (e % 2 = 1)
def OwP (par : Nat → Bool) (ρ : RS) : Prop := ∀ e, e < 12 → ρ.2 14 (e / 2) ≠ 0 → par (ρ.2 15 e).toNat = decide (e % 2 = 1)
def LtP (par : Nat → Bool) (ρ : RS) : Prop := ∀ l : Nat, (l : Int) < ρ.1 30 → par (ρ.2 38 l).toNat = decide ((ρ.2 31 l).toNat % 2 = 1) ∧ ρ.2 32 l = powF (ρ.1 0) (ρ.1 1) (ρ.2 9 (ρ.2 38 l).toNat).toNat
def YsP (st : Nat → Bool) (ρ : RS) : Prop := ∀ e, e < 12 → (st e = true ↔ ρ.2 14 (e / 2) ≠ 0)
def FrE (ρ : RS) : Prop := ∀ e : Nat, e < 12 → 2 * ρ.1 4 ≤ (e : Int) → ρ.2 12 e = 0 ∧ ρ.2 20 e = 0 ∧ ρ.2 21 e = 0 ∧ ρ.2 22 e = 0 ∧ ρ.2 23 e = 0 ∧ ρ.2 25 e = 0
def EdA (ρ : RS) : Prop := ∀ e : Nat, e < 12 → ρ.2 14 (e / 2) ≠ 0 → EndOK ρ e
def TlOK (ρ : RS) : Prop := ∀ e n i : Nat, e < 12 → ρ.2 25 e = ↑n → i < n → ρ.2 29 (12 * e + i) ≤ ρ.1 30
def ivT (par : Nat → Bool) (ρ : RS) : Prop := TI par ρ (thN ρ) ∧ ShOK ρ (thN ρ)
def ivR (par : Nat → Bool) (ρ : RS) : Prop := RowOK ρ ∧ RwP par ρ
def ivE (st par : Nat → Bool) (ρ : RS) : Prop := EdA ρ ∧ OwP par ρ ∧ YsP st ρ ∧ Strt ρ
def ivK (ρ : RS) : Prop := KOK ρ ∧ KyOK ρ ∧ TsOK ρ ∧ TlOK ρ
def ivL (par : Nat → Bool) (ρ : RS) : Prop := LtOK ρ ∧ LtP par ρ
def Iv (Y : (Nat → Bool) × (Nat → Bool)) (ρ : RS) : Prop := bnd ρ ∧ ivT Y.2 ρ ∧ ivR Y.2 ρ ∧ ivE Y.1 Y.2 ρ ∧ EnN ρ ∧ LfOK ρ ∧ ivK ρ ∧ ivL Y.2 ρ ∧ TrOK ρ ∧ FrE ρ
set_option maxHeartbeats 20000000 in
set_option maxRecDepth 100000 in
theorem c_take {G : Ge} {M : Mem} {Y : (Nat → Bool) × (Nat → Bool)} {ρ : RS} (hCs : Cs Y ρ M) (hIv : Iv Y ρ) (hN : thN ρ < 7800) (hlfx : ∀ e, e < 12 → ρ.2 23 e < 300) (e l : Int) (e32 : -2147483648 ≤ e ∧ e < 2147483648) (l32 : -2147483648 ≤ l ∧ l < 2147483648) (hRm : Rm 136 736 M) : Ct G mi_X8_take [vR ((1, 0)), vI e, vI l] M (CP Y ((takeF ρ e l).2) 136 736 (some (vI (takeF ρ e l).1)) M) := by
  refine Ct.of pl_X8_take [some (vR ((1, 0))), some (vI e), some (vI l), none, none, none] rfl (Nat.le_of_ble_eq_true rfl) ?_
  obtain ⟨sc, kn, hS, hCl⟩ := hCs
  have hF0 : Fr CLs M M := Fr.rf CLs M
  have hB0 : Bg 0 0 M M := Bg.rf M
  obtain ⟨hA, hB, hC, hD, hE, hN, hG, hH, hI, hJ, hK, hL⟩ := id hCl
  obtain ⟨⟨hp, hl, hm, hli, h44⟩, ⟨hTI, hSh⟩, ⟨hRo, hRp⟩, ⟨hEd, hOw, hYs, hSt⟩, hEn, hLf, ⟨hKo, hKy, hTs, hTl⟩, ⟨hLt, hLp⟩, hTr, hFe⟩ := hIv
  have hq3 := hTI.1.2.2.1
  have hwk : ∀ t, t < thN ρ → 0 ≤ ρ.2 9 t ∧ ρ.2 9 t ≤ 10007 := fun t ht => (hTI.1.2.2.2.2 t ht).2.2.2
  refine S_aload_n dX8_take_0 rfl ?_
  refine S_iload_n dX8_take_1 rfl ?_
  by_cases hve : 0 ≤ e ∧ e < 2 * ρ.1 4
  · obtain ⟨x, rfl⟩ : ∃ x : Nat, e = ↑x := ⟨e.toNat, by omega⟩
    refine S_callV (mi := mi_X8_take) [vI (↑x)] ok_X8_endAt ml_X8_78 dX8_take_2 rfl (by decide) rfl (by decide) rfl (Nat.le_of_ble_eq_true rfl) rfl (c_endAt hCl hp x (by omega)) ?_
    rintro v' M1 ⟨rfl, hM1⟩
    rw [hM1]
    clear hM1
    refine S_astore_n dX8_take_5 (by decide) ?_
    refine S_aload_n dX8_take_6 rfl ?_
    refine S_iload_n dX8_take_7 rfl ?_
    by_cases hvl : 0 ≤ l ∧ l < ρ.1 30
    · obtain ⟨y, rfl⟩ : ∃ y : Nat, l = ↑y := ⟨l.toNat, by omega⟩
      obtain ⟨⟨xs, h31, hx12, hxs⟩, h32b, h33b, ⟨pl, h34, hpl⟩, h35b, h36, -, ⟨z, h38, hz, hkz⟩⟩ := hLt y (by omega)
      refine S_callV (mi := mi_X8_take) [vI (↑y)] ok_X8_letterAt ml_X8_171 dX8_take_8 rfl (by decide) rfl (by decide) rfl (Nat.le_of_ble_eq_true rfl) rfl (c_letterAt hCl hl y (by omega)) ?_
      rintro v' M2 ⟨rfl, hM2⟩
      rw [hM2]
      clear hM2
      refine S_astore dX8_take_11 (by decide) ?_
      refine S_aload_n dX8_take_13 rfl ?_
      refine S_ifnull 22 dX8_take_14 (by decide) (fun c_14 => absurd c_14 (by simp)) (fun c_14 => ?_)
      refine S_aload dX8_take_17 rfl ?_
      refine S_ifnonnull 28 dX8_take_19 (by decide) (fun c_19 => ?_) (fun c_19 => absurd c_19 (by simp))
      refine S_aload dX8_take_28 rfl ?_
      refine S_getI (v := ↑xs) fl_X8_175 dX8_take_30 rfl rfl (by rw [(show M.I (12, y) 0 = ↑xs from (show M.I (12, y) 0 = ρ.2 31 y from congrFun (hJ.2.1 y (by omega)).2.1.2.1 0).trans h31)]) ?_
      refine S_aload_n dX8_take_33 rfl ?_
      refine S_getI (v := ↑x) fl_X8_178 dX8_take_34 rfl rfl (by rw [(show M.I (7, x) 0 = ↑x from congrFun (hE.1 x (by omega)).2.1 0)]) ?_
      refine S_iconst dX8_take_37 ?_
      refine S_ixor dX8_take_38 ?_
      refine S_icmp_eq 48 dX8_take_39 (by decide) (by have := jI_bd (jI ↑x ^^^ jI 1); omega) (fun c_39 => ?_) (fun c_39 => ?_)
      · rw [xor1 (by omega)] at c_39
        have hx2 : xs / 2 = x / 2 := by split at c_39 <;> omega
        have hxp : decide (xs % 2 = 1) = !decide (x % 2 = 1) := by
          split at c_39
          · rw [decide_eq_true (show xs % 2 = 1 by omega), decide_eq_false (show ¬ x % 2 = 1 by omega)]; rfl
          · rw [decide_eq_false (show ¬ xs % 2 = 1 by omega), decide_eq_true (show x % 2 = 1 by omega)]; rfl
        have h14 : ρ.2 14 (x / 2) ≠ 0 := hx2 ▸ hxs
        have hst : Y.1 x = true := (hYs x (by omega)).mpr h14
        obtain ⟨⟨s, h15, hs, hks⟩, ⟨r0, h16, hr0, hkr⟩, hsd, h18⟩ := hEd x (by omega) h14
        obtain ⟨h19, ⟨p20, h20, hp20⟩, h21, ⟨pa, h22, hpa⟩⟩ := hEn x (by omega) h14
        obtain ⟨n25, hn25, h25⟩ := hKo.1 x (by omega)
        have hb25 : ∀ e1 : Nat, (e1 : Int) < 2 * ρ.1 4 → ρ.2 25 e1 ≤ 12 := fun e1 h1 => by
          obtain ⟨n1, q1, q2⟩ := hKo.1 e1 (by omega)
          omega
        have hsn : ¬ (ρ.2 31 y ≠ (jI ↑x ^^^ jI 1).toInt) := fun z => z (by rw [xor1 (by omega), h31]; exact c_39)
        refine S_aload_n dX8_take_48 rfl ?_
        refine S_aload dX8_take_49 rfl ?_
        refine S_callV (mi := mi_X8_take) [vR ((12, y))] ok_X1_keptFor ml_X8_181 dX8_take_51 rfl (by decide) rfl (by decide) rfl (Nat.le_of_ble_eq_true rfl) rfl (c_keptFor hCl x y n25 (by omega) (by omega) (by omega) h25 hn25 hKo h32b (by omega)) ?_
        rintro v' M3 ⟨rfl, hM3⟩
        rw [hM3]
        clear hM3
        have hkc := kptF_cs ρ x y n25 0
        obtain ⟨kv, hkv⟩ : ∃ z9 : Int, z9 = kptF ρ x y n25 0 := ⟨_, rfl⟩
        rw [← hkv] at hkc ⊢
        refine S_istore dX8_take_54 (by decide) ?_
        refine S_iload dX8_take_56 rfl ?_
        refine S_iconst dX8_take_58 ?_
        refine S_icmp_eq 72 dX8_take_59 (by decide) (by rcases hkc with q | ⟨j, q, -, q3⟩ <;> omega) (fun c_59 => ?_) (fun c_59 => ?_)
        · refine S_aload dX8_take_72 rfl ?_
          refine S_callV (mi := mi_X8_take) [] ok_X2_from ml_X8_189 dX8_take_74 rfl (by decide) rfl (by decide) rfl (Nat.le_of_ble_eq_true rfl) rfl (c_from (G := G) hCl y (by omega)) ?_
          rintro v' M4 ⟨rfl, hM4⟩
          rw [hM4]
          clear hM4
          refine S_aload_n dX8_take_77 rfl ?_
          refine S_getI (v := ρ.2 19 x) fl_X8_139 dX8_take_78 rfl rfl (by rw [(show M.I (7, x) 8 = ρ.2 19 x from (congrFun (hE.1 x (by omega)).2.1 8).trans ((if_pos hst)))]) ?_
          refine S_icmp_ne 99 dX8_take_81 (by decide) (by omega) (fun c_81 => ?_) (fun c_81 => ?_)
          · have hnot : ¬ (ρ.2 32 y = ρ.2 19 x ∧ ρ.2 18 x ≠ -1) := fun z => c_81 z.1
            obtain ⟨n0, hn0, h12, hrow⟩ := hRo x (by omega)
            obtain ⟨lf, h23, hlf⟩ := hLf.1 x (by omega)
            obtain ⟨pn, h32⟩ : ∃ n : Nat, ρ.2 32 y = ↑n := ⟨(ρ.2 32 y).toNat, by omega⟩
            obtain ⟨bf, h33⟩ : ∃ n : Nat, ρ.2 33 y = ↑n := ⟨(ρ.2 33 y).toNat, by omega⟩
            have hLtq := hLp y (by omega)
            rw [h38, h31, Int.toNat_natCast, Int.toNat_natCast] at hLtq
            obtain ⟨hzp, hpub⟩ := hLtq
            have h13 : ∀ i, i < n0 → ∃ t : Nat, ρ.2 13 (12 * x + i) = ↑t ∧ t < thN ρ ∧ ρ.2 6 t = 3 ∧ Y.2 t = decide (x % 2 = 1) := fun i hi => by
              obtain ⟨t, q1, q2, q3⟩ := hrow i hi
              have q4 := hRp x i n0 (by omega) h12 hi
              rw [q1, Int.toNat_natCast] at q4
              exact ⟨t, q1, q2, q3, q4⟩
            have hb12 : ∀ e1 : Nat, (e1 : Int) < 2 * ρ.1 4 → ρ.2 12 e1 ≤ 12 := fun e1 h1 => by
              obtain ⟨n1, q1, q2, -⟩ := hRo e1 (by omega)
              omega
            have hb23 : ∀ e1 : Nat, (e1 : Int) < 2 * ρ.1 4 → ρ.2 23 e1 ≤ 600 := fun e1 h1 => by
              obtain ⟨n1, q1, q2⟩ := hLf.1 e1 (by omega)
              omega
            have h24 : ∀ k, k < lf → -1 ≤ ρ.2 24 (600 * x + k) ∧ ρ.2 24 (600 * x + k) ≤ 10007 := fun k hk => hLf.2 _ (by omega)
            refine S_aload_n dX8_take_99 rfl ?_
            refine S_aload_n dX8_take_100 rfl ?_
            refine S_aload dX8_take_101 rfl ?_
            refine S_callV (mi := mi_X8_take) [vR ((7, x)), vR ((12, y))] ok_X8_takeNewPublic ml_X8_199 dX8_take_103 rfl (by decide) rfl (by decide) rfl (Nat.le_of_ble_eq_true rfl) rfl (c_takeNewPublic (G := G) (show Cs Y ρ M from ⟨sc, kn, hS, hCl⟩) (thN ρ) hTI (by omega) x y r0 s pl pa n0 z lf pn bf (by omega) hp (by omega) hl hm hst hKo h16 hr0 h15 hs hks h38 hz hkz h32 (by omega) hpub h33 (by omega) h34 hpl h22 hpa h12 hn0 h13 hb12 h23 (by have := hlfx x (by omega); omega) hb23 h24 h19 h18 (by have q := hOw x (by omega) h14; rw [h15, Int.toNat_natCast] at q; exact q) (by rw [hzp]; exact hxp) h36 hnot (hRm.sub hB0 (by omega) (by omega))) ?_
            rintro v' M5 ⟨rfl, hCs5, hF5, hB5⟩
            exact S_iret dX8_take_106 rfl (Or.inl rfl) (by
      have e9 : takeF ρ ↑x ↑y = anF ρ x y (if ρ.2 32 y = ρ.2 19 x then (1 : Int) else 0) := by
        unfold takeF
        rw [if_neg (by omega), Int.toNat_natCast, Int.toNat_natCast, if_neg hsn]
        unfold takF
        rw [h25, Int.toNat_natCast, ← hkv, if_neg (fun z => z c_59)]; rw [if_neg hnot]
      rw [e9]
      exact ⟨rfl, hCs5, hF5, hB5.le (by omega) (by omega)⟩)
          · rcases h18 with h18a | ⟨c, h18a, hcl, hck⟩
            · refine S_aload_n dX8_take_84 rfl ?_
              refine S_getP (o := none) fl_X8_192 dX8_take_85 rfl rfl (by rw [(show M.P (7, x) 7 = none from (congrFun (hE.1 x (by omega)).2.2 7).trans ((if_pos hst).trans ((congrArg qx h18a).trans qx_no)))]) ?_
              refine S_ifnull 99 dX8_take_88 (by decide) (fun c_88 => ?_) (fun c_88 => absurd c_88 (by simp))
              have hnot : ¬ (ρ.2 32 y = ρ.2 19 x ∧ ρ.2 18 x ≠ -1) := fun z => z.2 h18a
              have h18 : ρ.2 18 x = -1 ∨ ∃ c : Nat, ρ.2 18 x = ↑c ∧ c < thN ρ ∧ ρ.2 6 c = 1 := Or.inl h18a
              obtain ⟨n0, hn0, h12, hrow⟩ := hRo x (by omega)
              obtain ⟨lf, h23, hlf⟩ := hLf.1 x (by omega)
              obtain ⟨pn, h32⟩ : ∃ n : Nat, ρ.2 32 y = ↑n := ⟨(ρ.2 32 y).toNat, by omega⟩
              obtain ⟨bf, h33⟩ : ∃ n : Nat, ρ.2 33 y = ↑n := ⟨(ρ.2 33 y).toNat, by omega⟩
              have hLtq := hLp y (by omega)
              rw [h38, h31, Int.toNat_natCast, Int.toNat_natCast] at hLtq
              obtain ⟨hzp, hpub⟩ := hLtq
              have h13 : ∀ i, i < n0 → ∃ t : Nat, ρ.2 13 (12 * x + i) = ↑t ∧ t < thN ρ ∧ ρ.2 6 t = 3 ∧ Y.2 t = decide (x % 2 = 1) := fun i hi => by
                obtain ⟨t, q1, q2, q3⟩ := hrow i hi
                have q4 := hRp x i n0 (by omega) h12 hi
                rw [q1, Int.toNat_natCast] at q4
                exact ⟨t, q1, q2, q3, q4⟩
              have hb12 : ∀ e1 : Nat, (e1 : Int) < 2 * ρ.1 4 → ρ.2 12 e1 ≤ 12 := fun e1 h1 => by
                obtain ⟨n1, q1, q2, -⟩ := hRo e1 (by omega)
                omega
              have hb23 : ∀ e1 : Nat, (e1 : Int) < 2 * ρ.1 4 → ρ.2 23 e1 ≤ 600 := fun e1 h1 => by
                obtain ⟨n1, q1, q2⟩ := hLf.1 e1 (by omega)
                omega
              have h24 : ∀ k, k < lf → -1 ≤ ρ.2 24 (600 * x + k) ∧ ρ.2 24 (600 * x + k) ≤ 10007 := fun k hk => hLf.2 _ (by omega)
              refine S_aload_n dX8_take_99 rfl ?_
              refine S_aload_n dX8_take_100 rfl ?_
              refine S_aload dX8_take_101 rfl ?_
              refine S_callV (mi := mi_X8_take) [vR ((7, x)), vR ((12, y))] ok_X8_takeNewPublic ml_X8_199 dX8_take_103 rfl (by decide) rfl (by decide) rfl (Nat.le_of_ble_eq_true rfl) rfl (c_takeNewPublic (G := G) (show Cs Y ρ M from ⟨sc, kn, hS, hCl⟩) (thN ρ) hTI (by omega) x y r0 s pl pa n0 z lf pn bf (by omega) hp (by omega) hl hm hst hKo h16 hr0 h15 hs hks h38 hz hkz h32 (by omega) hpub h33 (by omega) h34 hpl h22 hpa h12 hn0 h13 hb12 h23 (by have := hlfx x (by omega); omega) hb23 h24 h19 h18 (by have q := hOw x (by omega) h14; rw [h15, Int.toNat_natCast] at q; exact q) (by rw [hzp]; exact hxp) h36 hnot (hRm.sub hB0 (by omega) (by omega))) ?_
              rintro v' M6 ⟨rfl, hCs6, hF6, hB6⟩
              exact S_iret dX8_take_106 rfl (Or.inl rfl) (by
      have e9 : takeF ρ ↑x ↑y = anF ρ x y (if ρ.2 32 y = ρ.2 19 x then (1 : Int) else 0) := by
        unfold takeF
        rw [if_neg (by omega), Int.toNat_natCast, Int.toNat_natCast, if_neg hsn]
        unfold takF
        rw [h25, Int.toNat_natCast, ← hkv, if_neg (fun z => z c_59)]; rw [if_neg hnot]
      rw [e9]
      exact ⟨rfl, hCs6, hF6, hB6.le (by omega) (by omega)⟩)
            · refine S_aload_n dX8_take_84 rfl ?_
              refine S_getP (o := some (18, c)) fl_X8_192 dX8_take_85 rfl rfl (by rw [(show M.P (7, x) 7 = some (18, c) from (congrFun (hE.1 x (by omega)).2.2 7).trans ((if_pos hst).trans (qx_of h18a)))]) ?_
              refine S_ifnull 99 dX8_take_88 (by decide) (fun c_88 => absurd c_88 (by simp)) (fun c_88 => ?_)
              refine S_aload_n dX8_take_91 rfl ?_
              refine S_aload_n dX8_take_92 rfl ?_
              refine S_aload dX8_take_93 rfl ?_
              refine S_callV (mi := mi_X8_take) [vR ((7, x)), vR ((12, y))] ok_X8_takeByChain ml_X8_195 dX8_take_95 rfl (by decide) rfl (by decide) rfl (Nat.le_of_ble_eq_true rfl) rfl (c_takeByChain (G := G) (show Cs Y ρ M from ⟨sc, kn, hS, hCl⟩) (thN ρ) hTI (by omega) x y (by omega) h36 pl pa c (by omega) hp hm hst h34 hpl h22 hpa h18a hcl hck hKo h19 hl (hRm.sub hB0 (by omega) (by omega))) ?_
              rintro v' M7 ⟨rfl, hCs7, hF7, hB7⟩
              exact S_iret dX8_take_98 rfl (Or.inl rfl) (by
      have e9 : takeF ρ ↑x ↑y = furF ρ x y := by
        unfold takeF
        rw [if_neg (by omega), Int.toNat_natCast, Int.toNat_natCast, if_neg hsn]
        unfold takF
        rw [h25, Int.toNat_natCast, ← hkv, if_neg (fun z => z c_59)]; rw [if_pos ⟨by omega, by rw [h18a]; omega⟩]
      rw [e9]
      exact ⟨rfl, hCs7, hF7, hB7.le (by omega) (by omega)⟩)
        · obtain ⟨j, rfl, -, hj⟩ : ∃ j : Nat, kv = ↑j ∧ 0 ≤ j ∧ j < 0 + n25 := by
            rcases hkc with q | q
            · exact absurd q c_59
            · exact q
          obtain ⟨n1, rfl⟩ : ∃ n1, n25 = n1 + 1 := ⟨n25 - 1, by omega⟩
          refine S_aload_n dX8_take_62 rfl ?_
          refine S_aload_n dX8_take_63 rfl ?_
          refine S_aload dX8_take_64 rfl ?_
          refine S_iload dX8_take_66 rfl ?_
          refine S_callV (mi := mi_X8_take) [vR ((7, x)), vR ((12, y)), vI (↑j)] ok_X8_takeByKept ml_X8_185 dX8_take_68 rfl (by decide) rfl (by decide) rfl (Nat.le_of_ble_eq_true rfl) rfl (c_takeByKept (G := G) (show Cs Y ρ M from ⟨sc, kn, hS, hCl⟩) x y (by omega) h36 j n1 (by omega) hp h25 (by omega) (by omega) hb25 hq3 hwk) ?_
          rintro v' M8 ⟨rfl, hCs8, hF8, hB8⟩
          exact S_iret dX8_take_71 rfl (Or.inl rfl) (by
      have e9 : takeF ρ ↑x ↑y = tkF ρ x y j := by
        unfold takeF
        rw [if_neg (by omega), Int.toNat_natCast, Int.toNat_natCast, if_neg hsn]
        unfold takF
        rw [h25, Int.toNat_natCast, ← hkv, if_pos (by omega), Int.toNat_natCast]
      rw [e9]
      exact ⟨rfl, hCs8, hF8, hB8.le (by omega) (by omega)⟩)
      · refine S_aload_n dX8_take_42 rfl ?_
        refine S_iconst dX8_take_43 ?_
        refine S_callV (mi := mi_X8_take) [vI 3] ok_X8_refuse ml_X8_54 dX8_take_44 rfl (by decide) rfl (by decide) rfl (Nat.le_of_ble_eq_true rfl) rfl (c_refuse (show Cs Y ρ M from ⟨sc, kn, hS, hCl⟩) 3) ?_
        rintro v' M9 ⟨rfl, hCs9, hF9', hB9'⟩
        obtain ⟨ρ10, e10⟩ : ∃ z9 : RS, z9 = (ρ.setS 42 3) := ⟨_, rfl⟩
        rw [← e10] at hCs9
        obtain ⟨sc, kn, hS10, hCl10⟩ := hCs9
        have hF10 : Fr CLs M M9 := hF0.trans hF9'
        have hB10 : Bg 0 0 M M9 := (hB0.trans hB9').le (by omega) (by omega)
        have s4_10 : ρ10.1 4 = ρ.1 4 := (by rw [e10, RS.setS_ne (by decide)])
        have s30_10 : ρ10.1 30 = ρ.1 30 := (by rw [e10, RS.setS_ne (by decide)])
        have t_10 : thN ρ10 = thN ρ := by rw [e10]; rfl
        clear hA hB hC hD hE hN hG hH hI hJ hK hL
        obtain ⟨hA, hB, hC, hD, hE, hN, hG, hH, hI, hJ, hK, hL⟩ := id hCl10
        exact S_iret dX8_take_47 rfl (Or.inl rfl) (by
      have e9 : takeF ρ (↑x) (↑y) = (-1, ρ10) := by
        unfold takeF
        rw [if_neg (by omega), Int.toNat_natCast, Int.toNat_natCast, if_pos (by rw [h31]; exact c_39), e10]
      rw [e9]
      exact ⟨rfl, ⟨sc, kn, hS10, hCl10⟩, hF10, hB10.le (by omega) (by omega)⟩)
    · refine S_callV (mi := mi_X8_take) [vI l] ok_X8_letterAt ml_X8_171 dX8_take_8 rfl (by decide) rfl (by decide) rfl (Nat.le_of_ble_eq_true rfl) rfl (c_letterAtN hCl hl l l32 hvl) ?_
      rintro v' M11 ⟨rfl, hM11⟩
      rw [hM11]
      clear hM11
      refine S_astore dX8_take_11 (by decide) ?_
      refine S_aload_n dX8_take_13 rfl ?_
      refine S_ifnull 22 dX8_take_14 (by decide) (fun c_14 => absurd c_14 (by simp)) (fun c_14 => ?_)
      refine S_aload dX8_take_17 rfl ?_
      refine S_ifnonnull 28 dX8_take_19 (by decide) (fun c_19 => absurd c_19 (by simp)) (fun c_19 => ?_)
      refine S_aload_n dX8_take_22 rfl ?_
      refine S_iconst dX8_take_23 ?_
      refine S_callV (mi := mi_X8_take) [vI 1] ok_X8_refuse ml_X8_54 dX8_take_24 rfl (by decide) rfl (by decide) rfl (Nat.le_of_ble_eq_true rfl) rfl (c_refuse (show Cs Y ρ M from ⟨sc, kn, hS, hCl⟩) 1) ?_
      rintro v' M12 ⟨rfl, hCs12, hF12', hB12'⟩
      obtain ⟨ρ13, e13⟩ : ∃ z9 : RS, z9 = (ρ.setS 42 1) := ⟨_, rfl⟩
      rw [← e13] at hCs12
      obtain ⟨sc, kn, hS13, hCl13⟩ := hCs12
      have hF13 : Fr CLs M M12 := hF0.trans hF12'
      have hB13 : Bg 0 0 M M12 := (hB0.trans hB12').le (by omega) (by omega)
      have s4_13 : ρ13.1 4 = ρ.1 4 := (by rw [e13, RS.setS_ne (by decide)])
      have s30_13 : ρ13.1 30 = ρ.1 30 := (by rw [e13, RS.setS_ne (by decide)])
      have t_13 : thN ρ13 = thN ρ := by rw [e13]; rfl
      clear hA hB hC hD hE hN hG hH hI hJ hK hL
      obtain ⟨hA, hB, hC, hD, hE, hN, hG, hH, hI, hJ, hK, hL⟩ := id hCl13
      exact S_iret dX8_take_27 rfl (Or.inl rfl) (by
      have e9 : takeF ρ (↑x) l = (-1, ρ13) := by
        unfold takeF
        rw [if_pos (by omega), e13]
      rw [e9]
      exact ⟨rfl, ⟨sc, kn, hS13, hCl13⟩, hF13, hB13.le (by omega) (by omega)⟩)
  · refine S_callV (mi := mi_X8_take) [vI e] ok_X8_endAt ml_X8_78 dX8_take_2 rfl (by decide) rfl (by decide) rfl (Nat.le_of_ble_eq_true rfl) rfl (c_endAtN hCl hp e e32 hve) ?_
    rintro v' M14 ⟨rfl, hM14⟩
    rw [hM14]
    clear hM14
    refine S_astore_n dX8_take_5 (by decide) ?_
    refine S_aload_n dX8_take_6 rfl ?_
    refine S_iload_n dX8_take_7 rfl ?_
    by_cases hvl : 0 ≤ l ∧ l < ρ.1 30
    · obtain ⟨y, rfl⟩ : ∃ y : Nat, l = ↑y := ⟨l.toNat, by omega⟩
      refine S_callV (mi := mi_X8_take) [vI (↑y)] ok_X8_letterAt ml_X8_171 dX8_take_8 rfl (by decide) rfl (by decide) rfl (Nat.le_of_ble_eq_true rfl) rfl (c_letterAt hCl hl y (by omega)) ?_
      rintro v' M15 ⟨rfl, hM15⟩
      rw [hM15]
      clear hM15
      refine S_astore dX8_take_11 (by decide) ?_
      refine S_aload_n dX8_take_13 rfl ?_
      refine S_ifnull 22 dX8_take_14 (by decide) (fun c_14 => ?_) (fun c_14 => absurd c_14 (by simp))
      refine S_aload_n dX8_take_22 rfl ?_
      refine S_iconst dX8_take_23 ?_
      refine S_callV (mi := mi_X8_take) [vI 1] ok_X8_refuse ml_X8_54 dX8_take_24 rfl (by decide) rfl (by decide) rfl (Nat.le_of_ble_eq_true rfl) rfl (c_refuse (show Cs Y ρ M from ⟨sc, kn, hS, hCl⟩) 1) ?_
      rintro v' M16 ⟨rfl, hCs16, hF16', hB16'⟩
      obtain ⟨ρ17, e17⟩ : ∃ z9 : RS, z9 = (ρ.setS 42 1) := ⟨_, rfl⟩
      rw [← e17] at hCs16
      obtain ⟨sc, kn, hS17, hCl17⟩ := hCs16
      have hF17 : Fr CLs M M16 := hF0.trans hF16'
      have hB17 : Bg 0 0 M M16 := (hB0.trans hB16').le (by omega) (by omega)
      have s4_17 : ρ17.1 4 = ρ.1 4 := (by rw [e17, RS.setS_ne (by decide)])
      have s30_17 : ρ17.1 30 = ρ.1 30 := (by rw [e17, RS.setS_ne (by decide)])
      have t_17 : thN ρ17 = thN ρ := by rw [e17]; rfl
      clear hA hB hC hD hE hN hG hH hI hJ hK hL
      obtain ⟨hA, hB, hC, hD, hE, hN, hG, hH, hI, hJ, hK, hL⟩ := id hCl17
      exact S_iret dX8_take_27 rfl (Or.inl rfl) (by
      have e9 : takeF ρ e (↑y) = (-1, ρ17) := by
        unfold takeF
        rw [if_pos (by omega), e17]
      rw [e9]
      exact ⟨rfl, ⟨sc, kn, hS17, hCl17⟩, hF17, hB17.le (by omega) (by omega)⟩)
    · refine S_callV (mi := mi_X8_take) [vI l] ok_X8_letterAt ml_X8_171 dX8_take_8 rfl (by decide) rfl (by decide) rfl (Nat.le_of_ble_eq_true rfl) rfl (c_letterAtN hCl hl l l32 hvl) ?_
      rintro v' M18 ⟨rfl, hM18⟩
      rw [hM18]
      clear hM18
      refine S_astore dX8_take_11 (by decide) ?_
      refine S_aload_n dX8_take_13 rfl ?_
      refine S_ifnull 22 dX8_take_14 (by decide) (fun c_14 => ?_) (fun c_14 => absurd c_14 (by simp))
      refine S_aload_n dX8_take_22 rfl ?_
      refine S_iconst dX8_take_23 ?_
      refine S_callV (mi := mi_X8_take) [vI 1] ok_X8_refuse ml_X8_54 dX8_take_24 rfl (by decide) rfl (by decide) rfl (Nat.le_of_ble_eq_true rfl) rfl (c_refuse (show Cs Y ρ M from ⟨sc, kn, hS, hCl⟩) 1) ?_
      rintro v' M19 ⟨rfl, hCs19, hF19', hB19'⟩
      obtain ⟨ρ20, e20⟩ : ∃ z9 : RS, z9 = (ρ.setS 42 1) := ⟨_, rfl⟩
      rw [← e20] at hCs19
      obtain ⟨sc, kn, hS20, hCl20⟩ := hCs19
      have hF20 : Fr CLs M M19 := hF0.trans hF19'
      have hB20 : Bg 0 0 M M19 := (hB0.trans hB19').le (by omega) (by omega)
      have s4_20 : ρ20.1 4 = ρ.1 4 := (by rw [e20, RS.setS_ne (by decide)])
      have s30_20 : ρ20.1 30 = ρ.1 30 := (by rw [e20, RS.setS_ne (by decide)])
      have t_20 : thN ρ20 = thN ρ := by rw [e20]; rfl
      clear hA hB hC hD hE hN hG hH hI hJ hK hL
      obtain ⟨hA, hB, hC, hD, hE, hN, hG, hH, hI, hJ, hK, hL⟩ := id hCl20
      exact S_iret dX8_take_27 rfl (Or.inl rfl) (by
      have e9 : takeF ρ e l = (-1, ρ20) := by
        unfold takeF
        rw [if_pos (by omega), e20]
      rw [e9]
      exact ⟨rfl, ⟨sc, kn, hS20, hCl20⟩, hF20, hB20.le (by omega) (by omega)⟩)
