/-! THE CLASS: a pair begins, the method -/
set_option maxHeartbeats 20000000 in
set_option maxRecDepth 100000 in
theorem c_start {G : Ge} {M : Mem} {Y : (Nat → Bool) × (Nat → Bool)} {ρ : RS} (hCs : Cs Y ρ M) (hIv : Iv Y ρ) (hNb : thN ρ < 7900) (p : Int) (p32 : -2147483648 ≤ p ∧ p < 2147483648) (hRm : Rm 10 40 M) : Ct G mi_X8_start [vR ((1, 0)), vI p] M (CP (startY Y ρ p) ((startF ρ p).2) 10 40 (some (vI (startF ρ p).1)) M) := by
  refine Ct.of pl_X8_start [some (vR ((1, 0))), some (vI p), none, none, none, none, none] rfl (Nat.le_of_ble_eq_true rfl) ?_
  obtain ⟨sc, kn, hS, hCl⟩ := hCs
  have hF0 : Fr CLs M M := Fr.rf CLs M
  have hB0 : Bg 0 0 M M := Bg.rf M
  obtain ⟨hA, hB, hC, hD, hE, hN, hG, hH, hI, hJ, hK, hL⟩ := id hCl
  obtain ⟨⟨hp, hl, hm, hli, h44⟩, ⟨hTI, hSh⟩, ⟨hRo, hRp⟩, ⟨hEd, hOw, hYs, hSt⟩, hEn, hLf, ⟨hKo, hKy, hTs, hTl⟩, ⟨hLt, hLp⟩, hTr, hFe⟩ := hIv
  have hq3 := hTI.1.2.2.1
  have hg3 := hTI.1.2.2.2.1
  have hl8 := hTI.1.2.1
  obtain ⟨N, hNe⟩ : ∃ N : Nat, N = thN ρ := ⟨_, rfl⟩
  rw [← hNe] at hTI hNb hl8
  refine S_aload_n dX8_start_0 rfl ?_
  refine S_iload_n dX8_start_1 rfl ?_
  by_cases hv : 0 ≤ p ∧ p < ρ.1 4
  · obtain ⟨i, rfl⟩ : ∃ i : Nat, p = ↑i := ⟨p.toNat, by omega⟩
    obtain ⟨e, hee⟩ : ∃ e : Nat, e = 2 * i := ⟨_, rfl⟩
    obtain ⟨o, hoo⟩ : ∃ o : Nat, o = 2 * i + 1 := ⟨_, rfl⟩
    refine S_callV (mi := mi_X8_start) [vI (↑i)] ok_X8_lowerOf ml_X8_93 dX8_start_2 rfl (by decide) rfl (by decide) rfl (Nat.le_of_ble_eq_true rfl) rfl ((by have h := c_lowerOf (G := G) hCl hp i (by omega); rw [← hee] at h; exact h)) ?_
    rintro v' M1 ⟨rfl, hM1⟩
    rw [hM1]
    clear hM1
    refine S_astore_n dX8_start_5 (by decide) ?_
    refine S_aload_n dX8_start_6 rfl ?_
    refine S_iload_n dX8_start_7 rfl ?_
    refine S_callV (mi := mi_X8_start) [vI (↑i)] ok_X8_otherOf ml_X8_96 dX8_start_8 rfl (by decide) rfl (by decide) rfl (Nat.le_of_ble_eq_true rfl) rfl ((by have h := c_otherOf (G := G) hCl hp i (by omega); rw [← hoo] at h; exact h)) ?_
    rintro v' M2 ⟨rfl, hM2⟩
    rw [hM2]
    clear hM2
    refine S_astore_n dX8_start_11 (by decide) ?_
    refine S_aload_n dX8_start_12 rfl ?_
    refine S_ifnull 20 dX8_start_13 (by decide) (fun c_13 => absurd c_13 (by simp)) (fun c_13 => ?_)
    refine S_aload_n dX8_start_16 rfl ?_
    refine S_ifnonnull 26 dX8_start_17 (by decide) (fun c_17 => ?_) (fun c_17 => absurd c_17 (by simp))
    by_cases hst : Y.1 e = true
    · have h14 := (hYs e (by omega)).mp hst
      refine S_aload_n dX8_start_26 rfl ?_
      refine S_getI (v := 1) fl_X8_99 dX8_start_27 rfl rfl (by rw [(show M.I (7, e) 3 = 1 from (congrFun (hE.1 e (by omega)).2.1 3).trans (if_pos hst))]) ?_
      refine S_if_ne 49 dX8_start_30 (by decide) (by omega) (fun c_30 => ?_) (fun c_30 => absurd c_30 (by omega))
      refine S_aload_n dX8_start_49 rfl ?_
      refine S_iconst dX8_start_50 ?_
      refine S_callV (mi := mi_X8_start) [vI 3] ok_X8_refuse ml_X8_54 dX8_start_51 rfl (by decide) rfl (by decide) rfl (Nat.le_of_ble_eq_true rfl) rfl (c_refuse (show Cs Y ρ M from ⟨sc, kn, hS, hCl⟩) 3) ?_
      rintro v' M3 ⟨rfl, hCs3, hF3', hB3'⟩
      obtain ⟨ρ4, e4⟩ : ∃ z9 : RS, z9 = (ρ.setS 42 3) := ⟨_, rfl⟩
      rw [← e4] at hCs3
      obtain ⟨sc, kn, hS4, hCl4⟩ := hCs3
      have hF4 : Fr CLs M M3 := hF0.trans hF3'
      have hB4 : Bg 0 0 M M3 := (hB0.trans hB3').le (by omega) (by omega)
      have s4_4 : ρ4.1 4 = ρ.1 4 := (by rw [e4, RS.setS_ne (by decide)])
      have s30_4 : ρ4.1 30 = ρ.1 30 := (by rw [e4, RS.setS_ne (by decide)])
      have t_4 : thN ρ4 = thN ρ := by rw [e4]; rfl
      clear hA hB hC hD hE hN hG hH hI hJ hK hL
      obtain ⟨hA, hB, hC, hD, hE, hN, hG, hH, hI, hJ, hK, hL⟩ := id hCl4
      exact S_iret dX8_start_54 rfl (Or.inl rfl) (by
      have e9 : startF ρ (↑i) = (((-1) : Int), ρ4) := by
        unfold startF
        rw [if_neg (by omega), Int.toNat_natCast, ← hoo, ← hee, if_pos (Or.inl (by rw [show i = e / 2 by omega]; exact h14)), e4]
      have e8 : startY Y ρ (↑i) = Y := by
        unfold startY
        rw [e9]
        exact if_neg (show ¬ ((-1 : Int) = 1) from by decide)
      rw [e8, e9]
      exact ⟨rfl, ⟨sc, kn, hS4, hCl4⟩, hF4, hB4.le (by omega) (by omega)⟩)
    · have h14 : ρ.2 14 (e / 2) = 0 := by
        by_cases h : ρ.2 14 (e / 2) = 0
        · exact h
        · exact absurd ((hYs e (by omega)).mpr h) hst
      have hi2 : e / 2 = i := by omega
      have hsf : Y.1 e = false := by
        cases hy : Y.1 e with
        | false => rfl
        | true => exact absurd hy hst
      have hsg : Y.1 o = false := by
        cases hy : Y.1 o with
        | false => rfl
        | true => exact absurd (show ρ.2 14 (e / 2) = 0 from h14) (by have q := (hYs o (by omega)).mp hy; rw [show o / 2 = e / 2 by omega] at q; exact q)
      obtain ⟨ne, hne, h12e, hrowe⟩ := hRo e (by omega)
      obtain ⟨no, hno, h12o, hrowo⟩ := hRo o (by omega)
      refine S_aload_n dX8_start_26 rfl ?_
      refine S_getI (v := 0) fl_X8_99 dX8_start_27 rfl rfl (by rw [(show M.I (7, e) 3 = 0 from (congrFun (hE.1 e (by omega)).2.1 3).trans (if_neg hst))]) ?_
      refine S_if_ne 49 dX8_start_30 (by decide) (by omega) (fun c_30 => absurd c_30 (by omega)) (fun c_30 => ?_)
      refine S_aload_n dX8_start_33 rfl ?_
      refine S_getI (v := ↑ne) fl_X8_82 dX8_start_34 rfl rfl (by rw [(show M.I (7, e) 2 = ↑ne from (show M.I (7, e) 2 = ρ.2 12 e from congrFun (hE.1 e (by omega)).2.1 2).trans h12e)]) ?_
      refine S_iconst dX8_start_37 ?_
      refine S_icmp_lt 49 dX8_start_38 (by decide) (by omega) (fun c_38 => ?_) (fun c_38 => ?_)
      · refine S_aload_n dX8_start_49 rfl ?_
        refine S_iconst dX8_start_50 ?_
        refine S_callV (mi := mi_X8_start) [vI 3] ok_X8_refuse ml_X8_54 dX8_start_51 rfl (by decide) rfl (by decide) rfl (Nat.le_of_ble_eq_true rfl) rfl (c_refuse (show Cs Y ρ M from ⟨sc, kn, hS, hCl⟩) 3) ?_
        rintro v' M5 ⟨rfl, hCs5, hF5', hB5'⟩
        obtain ⟨ρ6, e6⟩ : ∃ z9 : RS, z9 = (ρ.setS 42 3) := ⟨_, rfl⟩
        rw [← e6] at hCs5
        obtain ⟨sc, kn, hS6, hCl6⟩ := hCs5
        have hF6 : Fr CLs M M5 := hF0.trans hF5'
        have hB6 : Bg 0 0 M M5 := (hB0.trans hB5').le (by omega) (by omega)
        have s4_6 : ρ6.1 4 = ρ.1 4 := (by rw [e6, RS.setS_ne (by decide)])
        have s30_6 : ρ6.1 30 = ρ.1 30 := (by rw [e6, RS.setS_ne (by decide)])
        have t_6 : thN ρ6 = thN ρ := by rw [e6]; rfl
        clear hA hB hC hD hE hN hG hH hI hJ hK hL
        obtain ⟨hA, hB, hC, hD, hE, hN, hG, hH, hI, hJ, hK, hL⟩ := id hCl6
        exact S_iret dX8_start_54 rfl (Or.inl rfl) (by
      have e9 : startF ρ (↑i) = (((-1) : Int), ρ6) := by
        unfold startF
        rw [if_neg (by omega), Int.toNat_natCast, ← hoo, ← hee, if_pos (Or.inr (by omega)), e6]
      have e8 : startY Y ρ (↑i) = Y := by
        unfold startY
        rw [e9]
        exact if_neg (show ¬ ((-1 : Int) = 1) from by decide)
      rw [e8, e9]
      exact ⟨rfl, ⟨sc, kn, hS6, hCl6⟩, hF6, hB6.le (by omega) (by omega)⟩)
      · refine S_aload_n dX8_start_41 rfl ?_
        refine S_getI (v := ↑no) fl_X8_82 dX8_start_42 rfl rfl (by rw [(show M.I (7, o) 2 = ↑no from (show M.I (7, o) 2 = ρ.2 12 o from congrFun (hE.1 o (by omega)).2.1 2).trans h12o)]) ?_
        refine S_iconst dX8_start_45 ?_
        refine S_icmp_ge 55 dX8_start_46 (by decide) (by omega) (fun c_46 => ?_) (fun c_46 => ?_)
        · obtain ⟨n, rfl⟩ : ∃ n : Nat, ne = n + 2 := ⟨ne - 2, by omega⟩
          obtain ⟨m, rfl⟩ : ∃ m : Nat, no = m + 1 := ⟨no - 1, by omega⟩
          obtain ⟨a, h13a, hal, hka⟩ := hrowe 0 (by omega)
          obtain ⟨c, h13c, hcl, hkc⟩ := hrowe 1 (by omega)
          obtain ⟨b, h13b, hbl, hkb⟩ := hrowo 0 (by omega)
          have hpa := hRp e 0 (n + 2) (by omega) h12e (by omega)
          have hpc := hRp e 1 (n + 2) (by omega) h12e (by omega)
          have hpb := hRp o 0 (m + 1) (by omega) h12o (by omega)
          rw [h13a, Int.toNat_natCast, decide_eq_false (by omega)] at hpa
          rw [h13c, Int.toNat_natCast, decide_eq_false (by omega)] at hpc
          rw [h13b, Int.toNat_natCast, decide_eq_true (by omega)] at hpb
          rw [Nat.add_zero] at h13a h13b
          have hws := hTI.2.2.2 b hbl hkb
          obtain ⟨wb, hwb⟩ : ∃ z9 : Nat, ρ.2 9 b = ↑z9 := ⟨(ρ.2 9 b).toNat, by omega⟩
          have hb12 : ∀ e1 : Nat, (e1 : Int) < 2 * ρ.1 4 → ρ.2 12 e1 ≤ 12 := fun e1 h1 => by
            obtain ⟨n1, q1, q2, -⟩ := hRo e1 (by omega)
            omega
          have hre : ∀ j, j < n + 1 + 1 → ∃ t : Nat, ρ.2 13 (12 * e + j) = ↑t := fun j hj => by
            obtain ⟨t, q, -⟩ := hrowe j hj
            exact ⟨t, q⟩
          have hro : ∀ j, j < m + 1 → ∃ t : Nat, ρ.2 13 (12 * o + j) = ↑t := fun j hj => by
            obtain ⟨t, q, -⟩ := hrowo j hj
            exact ⟨t, q⟩
          obtain ⟨ρ7, e7⟩ : ∃ z9 : RS, z9 = (ρ.setA 14 i 1) := ⟨_, rfl⟩
          have hCl7 : Cl (Y.1, Y.2, sc, kn) ρ7 M := (by rw [e7]; exact hCl.s14 i 1)
          have hS7 : StpOK sc kn ρ7 := (by rw [e7]; exact hS)
          have hF7 : Fr CLs M M := hF0
          have hB7 : Bg 0 0 M M := hB0
          have s4_7 : ρ7.1 4 = ρ.1 4 := (by rw [e7, RS.setA_s])
          have s30_7 : ρ7.1 30 = ρ.1 30 := (by rw [e7, RS.setA_s])
          have t_7 : thN ρ7 = thN ρ := by rw [e7]; rfl
          have w8 : ρ7.2 16 e = ρ.2 16 e := (by rw [e7, RS.setA_ne (Or.inl (by decide))])
          have w9 : ρ7.2 15 e = ρ.2 15 e := (by rw [e7, RS.setA_ne (Or.inl (by decide))])
          have w10 : ρ7.2 12 e = ↑(n + 2) := (by rw [e7, RS.setA_ne (Or.inl (by decide)), h12e])
          have w11 : ρ7.2 12 o = ↑(m + 1) := (by rw [e7, RS.setA_ne (Or.inl (by decide)), h12o])
          have w12 : ρ7.2 13 ((12 * e)) = ↑a := (by rw [e7, RS.setA_ne (Or.inl (by decide)), h13a])
          have w13 : ρ7.2 13 ((12 * o)) = ↑b := (by rw [e7, RS.setA_ne (Or.inl (by decide)), h13b])
          have w14 : ρ7.2 9 b = ↑wb := (by rw [e7, RS.setA_ne (Or.inl (by decide)), hwb])
          have w15 : ρ7.2 6 a = 3 := (by rw [e7, RS.setA_ne (Or.inl (by decide)), hka])
          have w16 : ρ7.2 6 b = 3 := (by rw [e7, RS.setA_ne (Or.inl (by decide)), hkb])
          have w17 : ρ7.2 6 c = 3 := (by rw [e7, RS.setA_ne (Or.inl (by decide)), hkc])
          have gl7 : thN ρ ≤ thN ρ7 := by omega
          clear t_7
          clear hA hB hC hD hE hN hG hH hI hJ hK hL
          obtain ⟨hA, hB, hC, hD, hE, hN, hG, hH, hI, hJ, hK, hL⟩ := id hCl7
          refine S_aload_n dX8_start_55 rfl ?_
          refine S_callV (mi := mi_X8_start) [] ok_X1_nextSecret ml_X8_103 dX8_start_56 rfl (by decide) rfl (by decide) rfl (Nat.le_of_ble_eq_true rfl) rfl (c_nextSecret (G := G) (show Cs Y ρ7 M from ⟨sc, kn, hS7, hCl7⟩) e (n + 1) a (by omega) (by omega) (by rw [w10]) (by rw [w12]) (fun e1 h1 => by rw [e7, RS.setA_ne (by omega)]; exact hb12 e1 (by omega)) (fun j hj => by rw [e7, RS.setA_ne (by omega)]; exact hre j hj)) ?_
          rintro v' M18 ⟨rfl, hCs18, hF18', hB18'⟩
          obtain ⟨ρ19, e19⟩ : ∃ z9 : RS, z9 = (nextR ρ7 e ((n + 1))) := ⟨_, rfl⟩
          rw [← e19] at hCs18
          obtain ⟨sc, kn, hS19, hCl19⟩ := hCs18
          have hF19 : Fr CLs M M18 := hF7.trans hF18'
          have hB19 : Bg 0 0 M M18 := (hB7.trans hB18').le (by omega) (by omega)
          have s4_19 : ρ19.1 4 = ρ.1 4 := (by rw [e19, nextR_s, s4_7])
          have s30_19 : ρ19.1 30 = ρ.1 30 := (by rw [e19, nextR_s, s30_7])
          have t_19 : thN ρ19 = thN ρ7 := thN_congr (by rw [e19, nextR_s])
          have w20 : ρ19.2 16 e = ρ.2 16 e := (by rw [e19, nextR_at (by decide), w8])
          have w21 : ρ19.2 15 e = ρ.2 15 e := (by rw [e19, nextR_at (by decide), w9])
          have w22 : ρ19.2 12 e = ↑((n + 1)) := (by rw [e19, nextR_12])
          have w23 : ρ19.2 12 o = ↑(m + 1) := (by rw [e19, nextR_12ne (by omega), w11])
          have w24 : ρ19.2 13 ((12 * o)) = ↑b := (by rw [e19, nextR_13 (by omega), w13])
          have w25 : ρ19.2 9 b = ↑wb := (by rw [e19, nextR_at (by decide), w14])
          have w26 : ρ19.2 6 a = 3 := (by rw [e19, nextR_at (by decide), w15])
          have w27 : ρ19.2 6 b = 3 := (by rw [e19, nextR_at (by decide), w16])
          have w28 : ρ19.2 6 c = 3 := (by rw [e19, nextR_at (by decide), w17])
          have gl19 : thN ρ ≤ thN ρ19 := by omega
          clear s4_7 s30_7 w8 w9 w10 w11 w12 w13 w14 w15 w16 w17 gl7 t_19
          clear hA hB hC hD hE hN hG hH hI hJ hK hL hCl7 hS7 hF7 hB7
          obtain ⟨hA, hB, hC, hD, hE, hN, hG, hH, hI, hJ, hK, hL⟩ := id hCl19
          have hN13 : ρ19.2 13 (12 * e) = ↑c := by rw [e19, nextR_13s (by omega), e7, RS.setA_ne (by omega)]; exact h13c
          have hN12 : ρ19.2 12 e = ↑(n + 1) := by rw [e19, nextR_12]
          have hNb : ∀ e1 : Nat, (e1 : Int) < 2 * ρ.1 4 → ρ19.2 12 e1 ≤ 12 := fun e1 h1 => by
            by_cases he1 : e1 = e
            · rw [he1, hN12]; omega
            · rw [e19, nextR_12ne he1, e7, RS.setA_ne (by omega)]; exact hb12 e1 h1
          have hNr : ∀ j, j < n + 1 → ∃ t : Nat, ρ19.2 13 (12 * e + j) = ↑t := fun j hj => by
            obtain ⟨t, q⟩ := hre (j + 1) (by omega)
            exact ⟨t, by rw [e19, nextR_13s (by omega), e7, RS.setA_ne (by omega)]; exact q⟩
          have hNo : ∀ j, j < m + 1 → ∃ t : Nat, ρ19.2 13 (12 * o + j) = ↑t := fun j hj => by
            obtain ⟨t, q⟩ := hro j hj
            exact ⟨t, by rw [e19, nextR_13 (by omega), e7, RS.setA_ne (by omega)]; exact q⟩
          refine S_astore dX8_start_59 (by decide) ?_
          refine S_aload_n dX8_start_61 rfl ?_
          refine S_callV (mi := mi_X8_start) [] ok_X1_nextSecret ml_X8_103 dX8_start_62 rfl (by decide) rfl (by decide) rfl (Nat.le_of_ble_eq_true rfl) rfl (c_nextSecret (G := G) (show Cs Y ρ19 M18 from ⟨sc, kn, hS19, hCl19⟩) o m b (by omega) (by omega) (by rw [w23]) (by rw [w24]) (fun e1 h1 => hNb e1 (by omega)) hNo) ?_
          rintro v' M29 ⟨rfl, hCs29, hF29', hB29'⟩
          obtain ⟨ρ30, e30⟩ : ∃ z9 : RS, z9 = (nextR ρ19 o m) := ⟨_, rfl⟩
          rw [← e30] at hCs29
          obtain ⟨sc, kn, hS30, hCl30⟩ := hCs29
          have hF30 : Fr CLs M M29 := hF19.trans hF29'
          have hB30 : Bg 0 0 M M29 := (hB19.trans hB29').le (by omega) (by omega)
          have s4_30 : ρ30.1 4 = ρ.1 4 := (by rw [e30, nextR_s, s4_19])
          have s30_30 : ρ30.1 30 = ρ.1 30 := (by rw [e30, nextR_s, s30_19])
          have t_30 : thN ρ30 = thN ρ19 := thN_congr (by rw [e30, nextR_s])
          have w31 : ρ30.2 16 e = ρ.2 16 e := (by rw [e30, nextR_at (by decide), w20])
          have w32 : ρ30.2 15 e = ρ.2 15 e := (by rw [e30, nextR_at (by decide), w21])
          have w33 : ρ30.2 12 e = ↑(n + 1) := (by rw [e30, nextR_12ne (by omega), hN12])
          have w34 : ρ30.2 12 o = ↑m := (by rw [e30, nextR_12])
          have w35 : ρ30.2 13 ((12 * e)) = ↑c := (by rw [e30, nextR_13 (by omega), hN13])
          have w36 : ρ30.2 9 b = ↑wb := (by rw [e30, nextR_at (by decide), w25])
          have w37 : ρ30.2 6 a = 3 := (by rw [e30, nextR_at (by decide), w26])
          have w38 : ρ30.2 6 b = 3 := (by rw [e30, nextR_at (by decide), w27])
          have w39 : ρ30.2 6 c = 3 := (by rw [e30, nextR_at (by decide), w28])
          have gl30 : thN ρ ≤ thN ρ30 := by omega
          clear s4_19 s30_19 w20 w21 w22 w23 w24 w25 w26 w27 w28 gl19 t_30
          clear hA hB hC hD hE hN hG hH hI hJ hK hL hCl19 hS19 hF19 hB19
          obtain ⟨hA, hB, hC, hD, hE, hN, hG, hH, hI, hJ, hK, hL⟩ := id hCl30
          have hOb : ∀ e1 : Nat, (e1 : Int) < 2 * ρ.1 4 → ρ30.2 12 e1 ≤ 12 := fun e1 h1 => by
            by_cases he1 : e1 = o
            · rw [he1, e30, nextR_12]; omega
            · rw [e30, nextR_12ne he1]; exact hNb e1 h1
          refine S_astore dX8_start_65 (by decide) ?_
          refine S_aload_n dX8_start_67 rfl ?_
          refine S_getP (o := some (3, 0)) fl_X8_10 dX8_start_68 rfl rfl (by rw [(show M29.P (1, 0) 1 = some (3, 0) from congrFun hA.2.2 1)]) ?_
          refine S_aload_n dX8_start_71 rfl ?_
          refine S_getP (o := some (3, 0)) fl_X8_10 dX8_start_72 rfl rfl (by rw [(show M29.P (1, 0) 1 = some (3, 0) from congrFun hA.2.2 1)]) ?_
          refine S_aload dX8_start_75 rfl ?_
          refine S_aload dX8_start_77 rfl ?_
          have hTI40 : TI Y.2 ρ30 N := hTI.cg ⟨(by rw [e30, nextR_s, e19, nextR_s, e7, RS.setA_s]), (by rw [e30, nextR_s, e19, nextR_s, e7, RS.setA_s]), (by rw [e30, nextR_s, e19, nextR_s, e7, RS.setA_s])⟩ (fun k j a1 a2 => (by rw [e30, nextR_at (by omega), e19, nextR_at (by omega), e7, RS.setA_ne (Or.inl (by omega))]))
          refine S_callV (mi := mi_X8_start) [vR ((18, a)), vR ((18, b))] ok_X5_meetingOf ml_X8_107 dX8_start_79 rfl (by decide) rfl (by decide) rfl (Nat.le_of_ble_eq_true rfl) rfl (c_meetingOf (G := G) (show Cs Y ρ30 M29 from ⟨sc, kn, hS30, hCl30⟩) (N) hTI40 (by omega) a b (by omega) (by omega) hpa hpb (by rw [w37]) (by rw [w38]) (hRm.sub hB30 (by omega) (by omega))) ?_
          rintro v' M42 ⟨rfl, hCs42, hF42', hB42'⟩
          obtain ⟨ρ43, e43⟩ : ∃ z9 : RS, z9 = (meR ρ30 a b) := ⟨_, rfl⟩
          rw [← e43] at hCs42
          obtain ⟨m41, em41⟩ : ∃ z9 : Nat, z9 = meI ρ30 a b := ⟨_, rfl⟩
          rw [← em41]
          have q43 : TI Y.2 (meR ρ30 a b) (N + 1) ∧ meI ρ30 a b < thN (meR ρ30 a b) ∧ thN ρ30 ≤ thN (meR ρ30 a b) := hTI40.me (by omega) (by omega) (by rw [hpa, hpb]; decide)
          have k43 : (meR ρ30 a b).2 6 (meI ρ30 a b) = 5 := th_kind (by decide)
          rw [← e43, ← em41] at q43 k43
          obtain ⟨hTI43, hi43, g43⟩ := q43
          obtain ⟨sc, kn, hS43, hCl43⟩ := hCs42
          have hF43 : Fr CLs M M42 := hF30.trans hF42'
          have hB43 : Bg 2 8 M M42 := (hB30.trans hB42').le (by omega) (by omega)
          have s4_43 : ρ43.1 4 = ρ.1 4 := (by rw [e43, thR_s _ _ _ _ _ _ (by decide), s4_30])
          have s30_43 : ρ43.1 30 = ρ.1 30 := (by rw [e43, thR_s _ _ _ _ _ _ (by decide), s30_30])
          have w44 : ρ43.2 16 e = ρ.2 16 e := (by rw [e43, thR_old_at _ _ _ _ _ _ _ (Or.inr (by decide)), w31])
          have w45 : ρ43.2 15 e = ρ.2 15 e := (by rw [e43, thR_old_at _ _ _ _ _ _ _ (Or.inr (by decide)), w32])
          have w46 : ρ43.2 12 e = ↑(n + 1) := (by rw [e43, thR_old_at _ _ _ _ _ _ _ (Or.inr (by decide)), w33])
          have w47 : ρ43.2 12 o = ↑m := (by rw [e43, thR_old_at _ _ _ _ _ _ _ (Or.inr (by decide)), w34])
          have w48 : ρ43.2 13 ((12 * e)) = ↑c := (by rw [e43, thR_old_at _ _ _ _ _ _ _ (Or.inr (by decide)), w35])
          have w49 : ρ43.2 9 b = ↑wb := (by rw [e43, thR_old_at _ _ _ _ _ _ _ (Or.inl (by omega)), w36])
          have w50 : ρ43.2 6 a = 3 := (by rw [e43, thR_old_at _ _ _ _ _ _ _ (Or.inl (by omega)), w37])
          have w51 : ρ43.2 6 b = 3 := (by rw [e43, thR_old_at _ _ _ _ _ _ _ (Or.inl (by omega)), w38])
          have w52 : ρ43.2 6 c = 3 := (by rw [e43, thR_old_at _ _ _ _ _ _ _ (Or.inl (by omega)), w39])
          have gl43 : thN ρ ≤ thN ρ43 ∧ m41 < thN ρ43 := by omega
          clear s4_30 s30_30 w31 w32 w33 w34 w35 w36 w37 w38 w39 gl30 hi43 g43
          clear hA hB hC hD hE hN hG hH hI hJ hK hL hCl30 hS30 hF30 hB30
          obtain ⟨hA, hB, hC, hD, hE, hN, hG, hH, hI, hJ, hK, hL⟩ := id hCl43
          refine S_callV (mi := mi_X8_start) [vR ((18, m41))] ok_X5_firstRootOf ml_X8_111 dX8_start_82 rfl (by decide) rfl (by decide) rfl (Nat.le_of_ble_eq_true rfl) rfl (c_firstRootOf (G := G) (show Cs Y ρ43 M42 from ⟨sc, kn, hS43, hCl43⟩) (N + 1) hTI43 (by omega) m41 (by omega)  (hRm.sub hB43 (by omega) (by omega))) ?_
          rintro v' M54 ⟨rfl, hCs54, hF54', hB54'⟩
          obtain ⟨ρ55, e55⟩ : ∃ z9 : RS, z9 = (rtR ρ43 ((-1)) m41) := ⟨_, rfl⟩
          rw [← e55] at hCs54
          obtain ⟨r53, er53⟩ : ∃ z9 : Nat, z9 = rtI ρ43 ((-1)) m41 := ⟨_, rfl⟩
          rw [← er53]
          have q55 : TI Y.2 (rtR ρ43 ((-1)) m41) (N + 2) ∧ rtI ρ43 ((-1)) m41 < thN (rtR ρ43 ((-1)) m41) ∧ thN ρ43 ≤ thN (rtR ρ43 ((-1)) m41) := hTI43.rt (by omega) (by omega)
          have k55 : (rtR ρ43 ((-1)) m41).2 6 (rtI ρ43 ((-1)) m41) = 2 := th_kind (by decide)
          rw [← e55, ← er53] at q55 k55
          obtain ⟨hTI55, hi55, g55⟩ := q55
          obtain ⟨sc, kn, hS55, hCl55⟩ := hCs54
          have hF55 : Fr CLs M M54 := hF43.trans hF54'
          have hB55 : Bg 4 16 M M54 := (hB43.trans hB54').le (by omega) (by omega)
          have s4_55 : ρ55.1 4 = ρ.1 4 := (by rw [e55, thR_s _ _ _ _ _ _ (by decide), s4_43])
          have s30_55 : ρ55.1 30 = ρ.1 30 := (by rw [e55, thR_s _ _ _ _ _ _ (by decide), s30_43])
          have w56 : ρ55.2 16 e = ρ.2 16 e := (by rw [e55, thR_old_at _ _ _ _ _ _ _ (Or.inr (by decide)), w44])
          have w57 : ρ55.2 15 e = ρ.2 15 e := (by rw [e55, thR_old_at _ _ _ _ _ _ _ (Or.inr (by decide)), w45])
          have w58 : ρ55.2 12 e = ↑(n + 1) := (by rw [e55, thR_old_at _ _ _ _ _ _ _ (Or.inr (by decide)), w46])
          have w59 : ρ55.2 12 o = ↑m := (by rw [e55, thR_old_at _ _ _ _ _ _ _ (Or.inr (by decide)), w47])
          have w60 : ρ55.2 13 ((12 * e)) = ↑c := (by rw [e55, thR_old_at _ _ _ _ _ _ _ (Or.inr (by decide)), w48])
          have w61 : ρ55.2 9 b = ↑wb := (by rw [e55, thR_old_at _ _ _ _ _ _ _ (Or.inl (by omega)), w49])
          have w62 : ρ55.2 6 a = 3 := (by rw [e55, thR_old_at _ _ _ _ _ _ _ (Or.inl (by omega)), w50])
          have w63 : ρ55.2 6 b = 3 := (by rw [e55, thR_old_at _ _ _ _ _ _ _ (Or.inl (by omega)), w51])
          have w64 : ρ55.2 6 c = 3 := (by rw [e55, thR_old_at _ _ _ _ _ _ _ (Or.inl (by omega)), w52])
          have w65 : ρ55.2 6 m41 = 5 := (by rw [e55, thR_old_at _ _ _ _ _ _ _ (Or.inl (by omega)), k43])
          have gl55 : thN ρ ≤ thN ρ55 ∧ m41 < thN ρ55 ∧ r53 < thN ρ55 := by omega
          clear s4_43 s30_43 w44 w45 w46 w47 w48 w49 w50 w51 w52 k43 gl43 hi55 g55
          clear hA hB hC hD hE hN hG hH hI hJ hK hL hCl43 hS43 hF43 hB43
          obtain ⟨hA, hB, hC, hD, hE, hN, hG, hH, hI, hJ, hK, hL⟩ := id hCl55
          refine S_astore dX8_start_85 (by decide) ?_
          refine S_aload_n dX8_start_87 rfl ?_
          refine S_iconst dX8_start_88 ?_
          refine S_putI fl_X8_99 dX8_start_89 rfl rfl rfl  (Or.inr ⟨rfl, by omega⟩) ?_
          refine Sf.nm (fun M66 hM66 => ?_)
          obtain ⟨ρ67, e67⟩ : ∃ z9 : RS, z9 = (bgR ρ55 o) := ⟨_, rfl⟩
          have hCl67 : Cl (stU Y.1 o, Y.2, sc, kn) ρ67 M66 := (by rw [e67, hM66]; exact hCl55.begin o (by omega) hsg)
          have hS67 : StpOK sc kn ρ67 := (by rw [e67]; exact hS55)
          have hF67 : Fr CLs M M66 := (by rw [hM66]; exact hF55.trans (Fr.pI 7 o (by decide)))
          have hB67 : Bg 4 16 M M66 := (by rw [hM66]; exact (hB55.trans (Bg.pI _ _ _ _)).le (by omega) (by omega))
          have s4_67 : ρ67.1 4 = ρ.1 4 := (by rw [e67, bgR_s, s4_55])
          have s30_67 : ρ67.1 30 = ρ.1 30 := (by rw [e67, bgR_s, s30_55])
          have t_67 : thN ρ67 = thN ρ55 := by rw [e67]; rfl
          have w68 : ρ67.2 16 e = ρ.2 16 e := (by rw [e67, bgR_at (by omega), w56])
          have w69 : ρ67.2 15 e = ρ.2 15 e := (by rw [e67, bgR_at (by omega), w57])
          have w70 : ρ67.2 12 e = ↑(n + 1) := (by rw [e67, bgR_at (by omega), w58])
          have w71 : ρ67.2 12 o = ↑m := (by rw [e67, bgR_at (by omega), w59])
          have w72 : ρ67.2 13 ((12 * e)) = ↑c := (by rw [e67, bgR_at (by omega), w60])
          have w73 : ρ67.2 9 b = ↑wb := (by rw [e67, bgR_at (by omega), w61])
          have w74 : ρ67.2 6 a = 3 := (by rw [e67, bgR_at (by omega), w62])
          have w75 : ρ67.2 6 b = 3 := (by rw [e67, bgR_at (by omega), w63])
          have w76 : ρ67.2 6 c = 3 := (by rw [e67, bgR_at (by omega), w64])
          have w77 : ρ67.2 6 m41 = 5 := (by rw [e67, bgR_at (by omega), w65])
          have w78 : ρ67.2 6 r53 = 2 := (by rw [e67, bgR_at (by omega), k55])
          have gl67 : thN ρ ≤ thN ρ67 ∧ m41 < thN ρ67 ∧ r53 < thN ρ67 := by omega
          clear s4_55 s30_55 w56 w57 w58 w59 w60 w61 w62 w63 w64 w65 k55 gl55 t_67
          clear hA hB hC hD hE hN hG hH hI hJ hK hL hCl55 hS55 hF55 hB55
          obtain ⟨hA, hB, hC, hD, hE, hN, hG, hH, hI, hJ, hK, hL⟩ := id hCl67
          refine S_aload_n dX8_start_92 rfl ?_
          refine S_aload dX8_start_93 rfl ?_
          refine S_putP fl_X8_115 dX8_start_95 rfl rfl rfl  ?_
          refine Sf.nm (fun M79 hM79 => ?_)
          obtain ⟨ρ80, e80⟩ : ∃ z9 : RS, z9 = (ρ67.setA 15 o (↑b)) := ⟨_, rfl⟩
          have hCl80 : Cl (stU Y.1 o, Y.2, sc, kn) ρ80 M79 := (by rw [e80, hM79, ← (qx_nat b)]; exact hCl67.e15 o (by omega) stU_self (↑b))
          have hS80 : StpOK sc kn ρ80 := (by rw [e80]; exact hS67)
          have hF80 : Fr CLs M M79 := (by rw [hM79]; exact hF67.trans (Fr.pP 7 o (by decide)))
          have hB80 : Bg 4 16 M M79 := (by rw [hM79]; exact (hB67.trans (Bg.pP _ 7 o _ _ (by decide))).le (by omega) (by omega))
          have s4_80 : ρ80.1 4 = ρ.1 4 := (by rw [e80, RS.setA_s, s4_67])
          have s30_80 : ρ80.1 30 = ρ.1 30 := (by rw [e80, RS.setA_s, s30_67])
          have t_80 : thN ρ80 = thN ρ67 := by rw [e80]; rfl
          have w81 : ρ80.2 16 e = ρ.2 16 e := (by rw [e80, RS.setA_ne (Or.inl (by decide)), w68])
          have w82 : ρ80.2 12 e = ↑(n + 1) := (by rw [e80, RS.setA_ne (Or.inl (by decide)), w70])
          have w83 : ρ80.2 12 o = ↑m := (by rw [e80, RS.setA_ne (Or.inl (by decide)), w71])
          have w84 : ρ80.2 13 ((12 * e)) = ↑c := (by rw [e80, RS.setA_ne (Or.inl (by decide)), w72])
          have w85 : ρ80.2 9 b = ↑wb := (by rw [e80, RS.setA_ne (Or.inl (by decide)), w73])
          have w86 : ρ80.2 6 a = 3 := (by rw [e80, RS.setA_ne (Or.inl (by decide)), w74])
          have w87 : ρ80.2 6 b = 3 := (by rw [e80, RS.setA_ne (Or.inl (by decide)), w75])
          have w88 : ρ80.2 6 c = 3 := (by rw [e80, RS.setA_ne (Or.inl (by decide)), w76])
          have w89 : ρ80.2 6 m41 = 5 := (by rw [e80, RS.setA_ne (Or.inl (by decide)), w77])
          have w90 : ρ80.2 6 r53 = 2 := (by rw [e80, RS.setA_ne (Or.inl (by decide)), w78])
          have gl80 : thN ρ ≤ thN ρ80 ∧ m41 < thN ρ80 ∧ r53 < thN ρ80 := by omega
          clear s4_67 s30_67 w68 w69 w70 w71 w72 w73 w74 w75 w76 w77 w78 gl67 t_80
          clear hA hB hC hD hE hN hG hH hI hJ hK hL hCl67 hS67 hF67 hB67
          obtain ⟨hA, hB, hC, hD, hE, hN, hG, hH, hI, hJ, hK, hL⟩ := id hCl80
          refine S_aload_n dX8_start_98 rfl ?_
          refine S_aload dX8_start_99 rfl ?_
          refine S_putP fl_X8_119 dX8_start_101 rfl rfl rfl  ?_
          refine Sf.nm (fun M91 hM91 => ?_)
          obtain ⟨ρ92, e92⟩ : ∃ z9 : RS, z9 = (ρ80.setA 16 o (↑r53)) := ⟨_, rfl⟩
          have hCl92 : Cl (stU Y.1 o, Y.2, sc, kn) ρ92 M91 := (by rw [e92, hM91, ← (qx_nat r53)]; exact hCl80.e16 o (by omega) stU_self (↑r53))
          have hS92 : StpOK sc kn ρ92 := (by rw [e92]; exact hS80)
          have hF92 : Fr CLs M M91 := (by rw [hM91]; exact hF80.trans (Fr.pP 7 o (by decide)))
          have hB92 : Bg 4 16 M M91 := (by rw [hM91]; exact (hB80.trans (Bg.pP _ 7 o _ _ (by decide))).le (by omega) (by omega))
          have s4_92 : ρ92.1 4 = ρ.1 4 := (by rw [e92, RS.setA_s, s4_80])
          have s30_92 : ρ92.1 30 = ρ.1 30 := (by rw [e92, RS.setA_s, s30_80])
          have t_92 : thN ρ92 = thN ρ80 := by rw [e92]; rfl
          have w93 : ρ92.2 12 e = ↑(n + 1) := (by rw [e92, RS.setA_ne (Or.inl (by decide)), w82])
          have w94 : ρ92.2 12 o = ↑m := (by rw [e92, RS.setA_ne (Or.inl (by decide)), w83])
          have w95 : ρ92.2 13 ((12 * e)) = ↑c := (by rw [e92, RS.setA_ne (Or.inl (by decide)), w84])
          have w96 : ρ92.2 9 b = ↑wb := (by rw [e92, RS.setA_ne (Or.inl (by decide)), w85])
          have w97 : ρ92.2 6 a = 3 := (by rw [e92, RS.setA_ne (Or.inl (by decide)), w86])
          have w98 : ρ92.2 6 b = 3 := (by rw [e92, RS.setA_ne (Or.inl (by decide)), w87])
          have w99 : ρ92.2 6 c = 3 := (by rw [e92, RS.setA_ne (Or.inl (by decide)), w88])
          have w100 : ρ92.2 6 m41 = 5 := (by rw [e92, RS.setA_ne (Or.inl (by decide)), w89])
          have w101 : ρ92.2 6 r53 = 2 := (by rw [e92, RS.setA_ne (Or.inl (by decide)), w90])
          have gl92 : thN ρ ≤ thN ρ92 ∧ m41 < thN ρ92 ∧ r53 < thN ρ92 := by omega
          clear s4_80 s30_80 w81 w82 w83 w84 w85 w86 w87 w88 w89 w90 gl80 t_92
          clear hA hB hC hD hE hN hG hH hI hJ hK hL hCl80 hS80 hF80 hB80
          obtain ⟨hA, hB, hC, hD, hE, hN, hG, hH, hI, hJ, hK, hL⟩ := id hCl92
          refine S_aload_n dX8_start_104 rfl ?_
          refine S_iconst dX8_start_105 ?_
          refine S_putI fl_X8_99 dX8_start_106 rfl rfl rfl  (Or.inr ⟨rfl, by omega⟩) ?_
          refine Sf.nm (fun M102 hM102 => ?_)
          obtain ⟨ρ103, e103⟩ : ∃ z9 : RS, z9 = (bgR ρ92 e) := ⟨_, rfl⟩
          have hCl103 : Cl (stU (stU Y.1 o) e, Y.2, sc, kn) ρ103 M102 := (by rw [e103, hM102]; exact hCl92.begin e (by omega) ((stU_ne (by omega)).trans hsf))
          have hS103 : StpOK sc kn ρ103 := (by rw [e103]; exact hS92)
          have hF103 : Fr CLs M M102 := (by rw [hM102]; exact hF92.trans (Fr.pI 7 e (by decide)))
          have hB103 : Bg 4 16 M M102 := (by rw [hM102]; exact (hB92.trans (Bg.pI _ _ _ _)).le (by omega) (by omega))
          have s4_103 : ρ103.1 4 = ρ.1 4 := (by rw [e103, bgR_s, s4_92])
          have s30_103 : ρ103.1 30 = ρ.1 30 := (by rw [e103, bgR_s, s30_92])
          have t_103 : thN ρ103 = thN ρ92 := by rw [e103]; rfl
          have w104 : ρ103.2 16 e = -1 := (by rw [e103, bgR_e (by decide)])
          have w105 : ρ103.2 15 e = -1 := (by rw [e103, bgR_e (by decide)])
          have w106 : ρ103.2 12 e = ↑(n + 1) := (by rw [e103, bgR_at (by omega), w93])
          have w107 : ρ103.2 12 o = ↑m := (by rw [e103, bgR_at (by omega), w94])
          have w108 : ρ103.2 13 ((12 * e)) = ↑c := (by rw [e103, bgR_at (by omega), w95])
          have w109 : ρ103.2 9 b = ↑wb := (by rw [e103, bgR_at (by omega), w96])
          have w110 : ρ103.2 6 a = 3 := (by rw [e103, bgR_at (by omega), w97])
          have w111 : ρ103.2 6 b = 3 := (by rw [e103, bgR_at (by omega), w98])
          have w112 : ρ103.2 6 c = 3 := (by rw [e103, bgR_at (by omega), w99])
          have w113 : ρ103.2 6 m41 = 5 := (by rw [e103, bgR_at (by omega), w100])
          have w114 : ρ103.2 6 r53 = 2 := (by rw [e103, bgR_at (by omega), w101])
          have gl103 : thN ρ ≤ thN ρ103 ∧ m41 < thN ρ103 ∧ r53 < thN ρ103 := by omega
          clear s4_92 s30_92 w93 w94 w95 w96 w97 w98 w99 w100 w101 gl92 t_103
          clear hA hB hC hD hE hN hG hH hI hJ hK hL hCl92 hS92 hF92 hB92
          obtain ⟨hA, hB, hC, hD, hE, hN, hG, hH, hI, hJ, hK, hL⟩ := id hCl103
          refine S_aload_n dX8_start_109 rfl ?_
          refine S_aload_n dX8_start_110 rfl ?_
          refine S_callV (mi := mi_X8_start) [] ok_X1_nextSecret ml_X8_103 dX8_start_111 rfl (by decide) rfl (by decide) rfl (Nat.le_of_ble_eq_true rfl) rfl (c_nextSecret (G := G) (show Cs ((stU (stU Y.1 o) e, Y.2) : (Nat → Bool) × (Nat → Bool)) ρ103 M102 from ⟨sc, kn, hS103, hCl103⟩) e n c (by omega) (by omega) (by rw [w106]) (by rw [w108]) (fun e1 h1 => by rw [e103, bgR_at (by omega), e92, RS.setA_ne (by omega), e80, RS.setA_ne (by omega), e67, bgR_at (by omega), e55, thR_old_at _ _ _ _ _ _ _ (Or.inr (by omega)), e43, thR_old_at _ _ _ _ _ _ _ (Or.inr (by omega))]; exact hOb e1 (by omega)) (fun j hj => by rw [e103, bgR_at (by omega), e92, RS.setA_ne (by omega), e80, RS.setA_ne (by omega), e67, bgR_at (by omega), e55, thR_old_at _ _ _ _ _ _ _ (Or.inr (by omega)), e43, thR_old_at _ _ _ _ _ _ _ (Or.inr (by omega)), e30, nextR_13 (by omega)]; exact hNr j hj)) ?_
          rintro v' M115 ⟨rfl, hCs115, hF115', hB115'⟩
          obtain ⟨ρ116, e116⟩ : ∃ z9 : RS, z9 = (nextR ρ103 e n) := ⟨_, rfl⟩
          rw [← e116] at hCs115
          obtain ⟨sc, kn, hS116, hCl116⟩ := hCs115
          have hF116 : Fr CLs M M115 := hF103.trans hF115'
          have hB116 : Bg 4 16 M M115 := (hB103.trans hB115').le (by omega) (by omega)
          have s4_116 : ρ116.1 4 = ρ.1 4 := (by rw [e116, nextR_s, s4_103])
          have s30_116 : ρ116.1 30 = ρ.1 30 := (by rw [e116, nextR_s, s30_103])
          have t_116 : thN ρ116 = thN ρ103 := thN_congr (by rw [e116, nextR_s])
          have w117 : ρ116.2 16 e = -1 := (by rw [e116, nextR_at (by decide), w104])
          have w118 : ρ116.2 15 e = -1 := (by rw [e116, nextR_at (by decide), w105])
          have w119 : ρ116.2 12 e = ↑n := (by rw [e116, nextR_12])
          have w120 : ρ116.2 12 o = ↑m := (by rw [e116, nextR_12ne (by omega), w107])
          have w121 : ρ116.2 9 b = ↑wb := (by rw [e116, nextR_at (by decide), w109])
          have w122 : ρ116.2 6 a = 3 := (by rw [e116, nextR_at (by decide), w110])
          have w123 : ρ116.2 6 b = 3 := (by rw [e116, nextR_at (by decide), w111])
          have w124 : ρ116.2 6 c = 3 := (by rw [e116, nextR_at (by decide), w112])
          have w125 : ρ116.2 6 m41 = 5 := (by rw [e116, nextR_at (by decide), w113])
          have w126 : ρ116.2 6 r53 = 2 := (by rw [e116, nextR_at (by decide), w114])
          have gl116 : thN ρ ≤ thN ρ116 ∧ m41 < thN ρ116 ∧ r53 < thN ρ116 := by omega
          clear s4_103 s30_103 w104 w105 w106 w107 w108 w109 w110 w111 w112 w113 w114 gl103 t_116
          clear hA hB hC hD hE hN hG hH hI hJ hK hL hCl103 hS103 hF103 hB103
          obtain ⟨hA, hB, hC, hD, hE, hN, hG, hH, hI, hJ, hK, hL⟩ := id hCl116
          refine S_putP fl_X8_115 dX8_start_114 rfl rfl rfl  ?_
          refine Sf.nm (fun M127 hM127 => ?_)
          obtain ⟨ρ128, e128⟩ : ∃ z9 : RS, z9 = (ρ116.setA 15 e (↑c)) := ⟨_, rfl⟩
          have hCl128 : Cl (stU (stU Y.1 o) e, Y.2, sc, kn) ρ128 M127 := (by rw [e128, hM127, ← (qx_nat c)]; exact hCl116.e15 e (by omega) stU_self (↑c))
          have hS128 : StpOK sc kn ρ128 := (by rw [e128]; exact hS116)
          have hF128 : Fr CLs M M127 := (by rw [hM127]; exact hF116.trans (Fr.pP 7 e (by decide)))
          have hB128 : Bg 4 16 M M127 := (by rw [hM127]; exact (hB116.trans (Bg.pP _ 7 e _ _ (by decide))).le (by omega) (by omega))
          have s4_128 : ρ128.1 4 = ρ.1 4 := (by rw [e128, RS.setA_s, s4_116])
          have s30_128 : ρ128.1 30 = ρ.1 30 := (by rw [e128, RS.setA_s, s30_116])
          have t_128 : thN ρ128 = thN ρ116 := by rw [e128]; rfl
          have w129 : ρ128.2 16 e = -1 := (by rw [e128, RS.setA_ne (Or.inl (by decide)), w117])
          have w130 : ρ128.2 15 e = ↑c := (by rw [e128, RS.setA_eq])
          have w131 : ρ128.2 12 e = ↑n := (by rw [e128, RS.setA_ne (Or.inl (by decide)), w119])
          have w132 : ρ128.2 12 o = ↑m := (by rw [e128, RS.setA_ne (Or.inl (by decide)), w120])
          have w133 : ρ128.2 9 b = ↑wb := (by rw [e128, RS.setA_ne (Or.inl (by decide)), w121])
          have w134 : ρ128.2 6 a = 3 := (by rw [e128, RS.setA_ne (Or.inl (by decide)), w122])
          have w135 : ρ128.2 6 b = 3 := (by rw [e128, RS.setA_ne (Or.inl (by decide)), w123])
          have w136 : ρ128.2 6 c = 3 := (by rw [e128, RS.setA_ne (Or.inl (by decide)), w124])
          have w137 : ρ128.2 6 m41 = 5 := (by rw [e128, RS.setA_ne (Or.inl (by decide)), w125])
          have w138 : ρ128.2 6 r53 = 2 := (by rw [e128, RS.setA_ne (Or.inl (by decide)), w126])
          have gl128 : thN ρ ≤ thN ρ128 ∧ m41 < thN ρ128 ∧ r53 < thN ρ128 := by omega
          clear s4_116 s30_116 w117 w118 w119 w120 w121 w122 w123 w124 w125 w126 gl116 t_128
          clear hA hB hC hD hE hN hG hH hI hJ hK hL hCl116 hS116 hF116 hB116
          obtain ⟨hA, hB, hC, hD, hE, hN, hG, hH, hI, hJ, hK, hL⟩ := id hCl128
          refine S_aload_n dX8_start_117 rfl ?_
          refine S_aload_n dX8_start_118 rfl ?_
          refine S_getP (o := some (3, 0)) fl_X8_10 dX8_start_119 rfl rfl (by rw [(show M127.P (1, 0) 1 = some (3, 0) from congrFun hA.2.2 1)]) ?_
          refine S_aload dX8_start_122 rfl ?_
          refine S_aload_n dX8_start_124 rfl ?_
          refine S_getP (o := some (3, 0)) fl_X8_10 dX8_start_125 rfl rfl (by rw [(show M127.P (1, 0) 1 = some (3, 0) from congrFun hA.2.2 1)]) ?_
          refine S_aload_n dX8_start_128 rfl ?_
          refine S_getP (o := some (18, c)) fl_X8_115 dX8_start_129 rfl rfl (by rw [(show M127.P (7, e) 4 = some (18, c) from (congrFun (hE.1 e (by omega)).2.2 4).trans ((if_pos stU_self).trans (qx_of (show ρ128.2 15 e = ↑c from (by rw [w130])))))]) ?_
          refine S_aload dX8_start_132 rfl ?_
          have hTI139 : TI ((stU (stU Y.1 o) e, Y.2) : (Nat → Bool) × (Nat → Bool)).2 ρ128 (N + 2) := hTI55.cg ⟨(by rw [e128, RS.setA_s, e116, nextR_s, e103, bgR_s, e92, RS.setA_s, e80, RS.setA_s, e67, bgR_s]), (by rw [e128, RS.setA_s, e116, nextR_s, e103, bgR_s, e92, RS.setA_s, e80, RS.setA_s, e67, bgR_s]), (by rw [e128, RS.setA_s, e116, nextR_s, e103, bgR_s, e92, RS.setA_s, e80, RS.setA_s, e67, bgR_s])⟩ (fun k j a1 a2 => (by rw [e128, RS.setA_ne (Or.inl (by omega)), e116, nextR_at (by omega), e103, bgR_at (by omega), e92, RS.setA_ne (Or.inl (by omega)), e80, RS.setA_ne (Or.inl (by omega)), e67, bgR_at (by omega)]))
          refine S_callV (mi := mi_X8_start) [vR ((18, c)), vR ((18, b))] ok_X5_meetingOf ml_X8_107 dX8_start_134 rfl (by decide) rfl (by decide) rfl (Nat.le_of_ble_eq_true rfl) rfl (c_meetingOf (G := G) (show Cs ((stU (stU Y.1 o) e, Y.2) : (Nat → Bool) × (Nat → Bool)) ρ128 M127 from ⟨sc, kn, hS128, hCl128⟩) (N + 2) hTI139 (by omega) c b (by omega) (by omega) hpc hpb (by rw [w136]) (by rw [w135]) (hRm.sub hB128 (by omega) (by omega))) ?_
          rintro v' M141 ⟨rfl, hCs141, hF141', hB141'⟩
          obtain ⟨ρ142, e142⟩ : ∃ z9 : RS, z9 = (meR ρ128 c b) := ⟨_, rfl⟩
          rw [← e142] at hCs141
          obtain ⟨m140, em140⟩ : ∃ z9 : Nat, z9 = meI ρ128 c b := ⟨_, rfl⟩
          rw [← em140]
          have q142 : TI ((stU (stU Y.1 o) e, Y.2) : (Nat → Bool) × (Nat → Bool)).2 (meR ρ128 c b) (N + 3) ∧ meI ρ128 c b < thN (meR ρ128 c b) ∧ thN ρ128 ≤ thN (meR ρ128 c b) := hTI139.me (by omega) (by omega) (by rw [hpc, hpb]; decide)
          have k142 : (meR ρ128 c b).2 6 (meI ρ128 c b) = 5 := th_kind (by decide)
          rw [← e142, ← em140] at q142 k142
          obtain ⟨hTI142, hi142, g142⟩ := q142
          obtain ⟨sc, kn, hS142, hCl142⟩ := hCs141
          have hF142 : Fr CLs M M141 := hF128.trans hF141'
          have hB142 : Bg 6 24 M M141 := (hB128.trans hB141').le (by omega) (by omega)
          have s4_142 : ρ142.1 4 = ρ.1 4 := (by rw [e142, thR_s _ _ _ _ _ _ (by decide), s4_128])
          have s30_142 : ρ142.1 30 = ρ.1 30 := (by rw [e142, thR_s _ _ _ _ _ _ (by decide), s30_128])
          have w143 : ρ142.2 16 e = -1 := (by rw [e142, thR_old_at _ _ _ _ _ _ _ (Or.inr (by decide)), w129])
          have w144 : ρ142.2 15 e = ↑c := (by rw [e142, thR_old_at _ _ _ _ _ _ _ (Or.inr (by decide)), w130])
          have w145 : ρ142.2 12 e = ↑n := (by rw [e142, thR_old_at _ _ _ _ _ _ _ (Or.inr (by decide)), w131])
          have w146 : ρ142.2 12 o = ↑m := (by rw [e142, thR_old_at _ _ _ _ _ _ _ (Or.inr (by decide)), w132])
          have w147 : ρ142.2 9 b = ↑wb := (by rw [e142, thR_old_at _ _ _ _ _ _ _ (Or.inl (by omega)), w133])
          have w148 : ρ142.2 6 a = 3 := (by rw [e142, thR_old_at _ _ _ _ _ _ _ (Or.inl (by omega)), w134])
          have w149 : ρ142.2 6 b = 3 := (by rw [e142, thR_old_at _ _ _ _ _ _ _ (Or.inl (by omega)), w135])
          have w150 : ρ142.2 6 c = 3 := (by rw [e142, thR_old_at _ _ _ _ _ _ _ (Or.inl (by omega)), w136])
          have w151 : ρ142.2 6 m41 = 5 := (by rw [e142, thR_old_at _ _ _ _ _ _ _ (Or.inl (by omega)), w137])
          have w152 : ρ142.2 6 r53 = 2 := (by rw [e142, thR_old_at _ _ _ _ _ _ _ (Or.inl (by omega)), w138])
          have gl142 : thN ρ ≤ thN ρ142 ∧ m41 < thN ρ142 ∧ r53 < thN ρ142 ∧ m140 < thN ρ142 := by omega
          clear s4_128 s30_128 w129 w130 w131 w132 w133 w134 w135 w136 w137 w138 gl128 hi142 g142
          clear hA hB hC hD hE hN hG hH hI hJ hK hL hCl128 hS128 hF128 hB128
          obtain ⟨hA, hB, hC, hD, hE, hN, hG, hH, hI, hJ, hK, hL⟩ := id hCl142
          refine S_callV (mi := mi_X8_start) [vR ((18, r53)), vR ((18, m140))] ok_X5_rootOf ml_X8_122 dX8_start_137 rfl (by decide) rfl (by decide) rfl (Nat.le_of_ble_eq_true rfl) rfl (c_rootOf (G := G) (show Cs ((stU (stU Y.1 o) e, Y.2) : (Nat → Bool) × (Nat → Bool)) ρ142 M141 from ⟨sc, kn, hS142, hCl142⟩) (N + 3) hTI142 (by omega) r53 m140 (by omega) (by omega)  (hRm.sub hB142 (by omega) (by omega))) ?_
          rintro v' M154 ⟨rfl, hCs154, hF154', hB154'⟩
          obtain ⟨ρ155, e155⟩ : ∃ z9 : RS, z9 = (rtR ρ142 (↑r53) m140) := ⟨_, rfl⟩
          rw [← e155] at hCs154
          obtain ⟨r153, er153⟩ : ∃ z9 : Nat, z9 = rtI ρ142 (↑r53) m140 := ⟨_, rfl⟩
          rw [← er153]
          have q155 : TI ((stU (stU Y.1 o) e, Y.2) : (Nat → Bool) × (Nat → Bool)).2 (rtR ρ142 (↑r53) m140) (N + 4) ∧ rtI ρ142 (↑r53) m140 < thN (rtR ρ142 (↑r53) m140) ∧ thN ρ142 ≤ thN (rtR ρ142 (↑r53) m140) := hTI142.rt (by omega) (by omega)
          have k155 : (rtR ρ142 (↑r53) m140).2 6 (rtI ρ142 (↑r53) m140) = 2 := th_kind (by decide)
          rw [← e155, ← er153] at q155 k155
          obtain ⟨hTI155, hi155, g155⟩ := q155
          obtain ⟨sc, kn, hS155, hCl155⟩ := hCs154
          have hF155 : Fr CLs M M154 := hF142.trans hF154'
          have hB155 : Bg 8 32 M M154 := (hB142.trans hB154').le (by omega) (by omega)
          have s4_155 : ρ155.1 4 = ρ.1 4 := (by rw [e155, thR_s _ _ _ _ _ _ (by decide), s4_142])
          have s30_155 : ρ155.1 30 = ρ.1 30 := (by rw [e155, thR_s _ _ _ _ _ _ (by decide), s30_142])
          have w156 : ρ155.2 16 e = -1 := (by rw [e155, thR_old_at _ _ _ _ _ _ _ (Or.inr (by decide)), w143])
          have w157 : ρ155.2 15 e = ↑c := (by rw [e155, thR_old_at _ _ _ _ _ _ _ (Or.inr (by decide)), w144])
          have w158 : ρ155.2 12 e = ↑n := (by rw [e155, thR_old_at _ _ _ _ _ _ _ (Or.inr (by decide)), w145])
          have w159 : ρ155.2 12 o = ↑m := (by rw [e155, thR_old_at _ _ _ _ _ _ _ (Or.inr (by decide)), w146])
          have w160 : ρ155.2 9 b = ↑wb := (by rw [e155, thR_old_at _ _ _ _ _ _ _ (Or.inl (by omega)), w147])
          have w161 : ρ155.2 6 a = 3 := (by rw [e155, thR_old_at _ _ _ _ _ _ _ (Or.inl (by omega)), w148])
          have w162 : ρ155.2 6 b = 3 := (by rw [e155, thR_old_at _ _ _ _ _ _ _ (Or.inl (by omega)), w149])
          have w163 : ρ155.2 6 c = 3 := (by rw [e155, thR_old_at _ _ _ _ _ _ _ (Or.inl (by omega)), w150])
          have w164 : ρ155.2 6 m41 = 5 := (by rw [e155, thR_old_at _ _ _ _ _ _ _ (Or.inl (by omega)), w151])
          have w165 : ρ155.2 6 r53 = 2 := (by rw [e155, thR_old_at _ _ _ _ _ _ _ (Or.inl (by omega)), w152])
          have w166 : ρ155.2 6 m140 = 5 := (by rw [e155, thR_old_at _ _ _ _ _ _ _ (Or.inl (by omega)), k142])
          have gl155 : thN ρ ≤ thN ρ155 ∧ m41 < thN ρ155 ∧ r53 < thN ρ155 ∧ m140 < thN ρ155 ∧ r153 < thN ρ155 := by omega
          clear s4_142 s30_142 w143 w144 w145 w146 w147 w148 w149 w150 w151 w152 k142 gl142 hi155 g155
          clear hA hB hC hD hE hN hG hH hI hJ hK hL hCl142 hS142 hF142 hB142
          obtain ⟨hA, hB, hC, hD, hE, hN, hG, hH, hI, hJ, hK, hL⟩ := id hCl155
          refine S_putP fl_X8_119 dX8_start_140 rfl rfl rfl  ?_
          refine Sf.nm (fun M167 hM167 => ?_)
          obtain ⟨ρ168, e168⟩ : ∃ z9 : RS, z9 = (ρ155.setA 16 e (↑r153)) := ⟨_, rfl⟩
          have hCl168 : Cl (stU (stU Y.1 o) e, Y.2, sc, kn) ρ168 M167 := (by rw [e168, hM167, ← (qx_nat r153)]; exact hCl155.e16 e (by omega) stU_self (↑r153))
          have hS168 : StpOK sc kn ρ168 := (by rw [e168]; exact hS155)
          have hF168 : Fr CLs M M167 := (by rw [hM167]; exact hF155.trans (Fr.pP 7 e (by decide)))
          have hB168 : Bg 8 32 M M167 := (by rw [hM167]; exact (hB155.trans (Bg.pP _ 7 e _ _ (by decide))).le (by omega) (by omega))
          have s4_168 : ρ168.1 4 = ρ.1 4 := (by rw [e168, RS.setA_s, s4_155])
          have s30_168 : ρ168.1 30 = ρ.1 30 := (by rw [e168, RS.setA_s, s30_155])
          have t_168 : thN ρ168 = thN ρ155 := by rw [e168]; rfl
          have w169 : ρ168.2 16 e = ↑r153 := (by rw [e168, RS.setA_eq])
          have w170 : ρ168.2 15 e = ↑c := (by rw [e168, RS.setA_ne (Or.inl (by decide)), w157])
          have w171 : ρ168.2 12 e = ↑n := (by rw [e168, RS.setA_ne (Or.inl (by decide)), w158])
          have w172 : ρ168.2 12 o = ↑m := (by rw [e168, RS.setA_ne (Or.inl (by decide)), w159])
          have w173 : ρ168.2 9 b = ↑wb := (by rw [e168, RS.setA_ne (Or.inl (by decide)), w160])
          have w174 : ρ168.2 6 a = 3 := (by rw [e168, RS.setA_ne (Or.inl (by decide)), w161])
          have w175 : ρ168.2 6 b = 3 := (by rw [e168, RS.setA_ne (Or.inl (by decide)), w162])
          have w176 : ρ168.2 6 c = 3 := (by rw [e168, RS.setA_ne (Or.inl (by decide)), w163])
          have w177 : ρ168.2 6 m41 = 5 := (by rw [e168, RS.setA_ne (Or.inl (by decide)), w164])
          have w178 : ρ168.2 6 r53 = 2 := (by rw [e168, RS.setA_ne (Or.inl (by decide)), w165])
          have w179 : ρ168.2 6 m140 = 5 := (by rw [e168, RS.setA_ne (Or.inl (by decide)), w166])
          have w180 : ρ168.2 6 r153 = 2 := (by rw [e168, RS.setA_ne (Or.inl (by decide)), k155])
          have gl168 : thN ρ ≤ thN ρ168 ∧ m41 < thN ρ168 ∧ r53 < thN ρ168 ∧ m140 < thN ρ168 ∧ r153 < thN ρ168 := by omega
          clear s4_155 s30_155 w156 w157 w158 w159 w160 w161 w162 w163 w164 w165 w166 k155 gl155 t_168
          clear hA hB hC hD hE hN hG hH hI hJ hK hL hCl155 hS155 hF155 hB155
          obtain ⟨hA, hB, hC, hD, hE, hN, hG, hH, hI, hJ, hK, hL⟩ := id hCl168
          refine S_aload_n dX8_start_143 rfl ?_
          refine S_aload_n dX8_start_144 rfl ?_
          refine S_getP (o := some (3, 0)) fl_X8_10 dX8_start_145 rfl rfl (by rw [(show M167.P (1, 0) 1 = some (3, 0) from congrFun hA.2.2 1)]) ?_
          refine S_aload_n dX8_start_148 rfl ?_
          refine S_getP (o := some (18, r153)) fl_X8_119 dX8_start_149 rfl rfl (by rw [(show M167.P (7, e) 5 = some (18, r153) from (congrFun (hE.1 e (by omega)).2.2 5).trans ((if_pos stU_self).trans (qx_of (show ρ168.2 16 e = ↑r153 from (by rw [w169])))))]) ?_
          have hTI181 : TI ((stU (stU Y.1 o) e, Y.2) : (Nat → Bool) × (Nat → Bool)).2 ρ168 (N + 4) := hTI155.cg ⟨(by rw [e168, RS.setA_s]), (by rw [e168, RS.setA_s]), (by rw [e168, RS.setA_s])⟩ (fun k j a1 a2 => (by rw [e168, RS.setA_ne (Or.inl (by omega))]))
          refine S_callV (mi := mi_X8_start) [vR ((18, r153))] ok_X5_chainOf ml_X8_125 dX8_start_152 rfl (by decide) rfl (by decide) rfl (Nat.le_of_ble_eq_true rfl) rfl (c_chainOf (G := G) (show Cs ((stU (stU Y.1 o) e, Y.2) : (Nat → Bool) × (Nat → Bool)) ρ168 M167 from ⟨sc, kn, hS168, hCl168⟩) (N + 4) hTI181 (by omega) r153 (by omega) (by rw [w180]) (hRm.sub hB168 (by omega) (by omega))) ?_
          rintro v' M183 ⟨rfl, hCs183, hF183', hB183'⟩
          obtain ⟨ρ184, e184⟩ : ∃ z9 : RS, z9 = (chR ρ168 r153) := ⟨_, rfl⟩
          rw [← e184] at hCs183
          obtain ⟨c182, ec182⟩ : ∃ z9 : Nat, z9 = chI ρ168 r153 := ⟨_, rfl⟩
          rw [← ec182]
          have q184 : TI ((stU (stU Y.1 o) e, Y.2) : (Nat → Bool) × (Nat → Bool)).2 (chR ρ168 r153) (N + 5) ∧ chI ρ168 r153 < thN (chR ρ168 r153) ∧ thN ρ168 ≤ thN (chR ρ168 r153) := hTI181.ch (by omega)
          have k184 : (chR ρ168 r153).2 6 (chI ρ168 r153) = 1 := th_kind (by decide)
          rw [← e184, ← ec182] at q184 k184
          obtain ⟨hTI184, hi184, g184⟩ := q184
          obtain ⟨sc, kn, hS184, hCl184⟩ := hCs183
          have hF184 : Fr CLs M M183 := hF168.trans hF183'
          have hB184 : Bg 10 40 M M183 := (hB168.trans hB183').le (by omega) (by omega)
          have s4_184 : ρ184.1 4 = ρ.1 4 := (by rw [e184, thR_s _ _ _ _ _ _ (by decide), s4_168])
          have s30_184 : ρ184.1 30 = ρ.1 30 := (by rw [e184, thR_s _ _ _ _ _ _ (by decide), s30_168])
          have w185 : ρ184.2 16 e = ↑r153 := (by rw [e184, thR_old_at _ _ _ _ _ _ _ (Or.inr (by decide)), w169])
          have w186 : ρ184.2 15 e = ↑c := (by rw [e184, thR_old_at _ _ _ _ _ _ _ (Or.inr (by decide)), w170])
          have w187 : ρ184.2 12 e = ↑n := (by rw [e184, thR_old_at _ _ _ _ _ _ _ (Or.inr (by decide)), w171])
          have w188 : ρ184.2 12 o = ↑m := (by rw [e184, thR_old_at _ _ _ _ _ _ _ (Or.inr (by decide)), w172])
          have w189 : ρ184.2 9 b = ↑wb := (by rw [e184, thR_old_at _ _ _ _ _ _ _ (Or.inl (by omega)), w173])
          have w190 : ρ184.2 6 a = 3 := (by rw [e184, thR_old_at _ _ _ _ _ _ _ (Or.inl (by omega)), w174])
          have w191 : ρ184.2 6 b = 3 := (by rw [e184, thR_old_at _ _ _ _ _ _ _ (Or.inl (by omega)), w175])
          have w192 : ρ184.2 6 c = 3 := (by rw [e184, thR_old_at _ _ _ _ _ _ _ (Or.inl (by omega)), w176])
          have w193 : ρ184.2 6 m41 = 5 := (by rw [e184, thR_old_at _ _ _ _ _ _ _ (Or.inl (by omega)), w177])
          have w194 : ρ184.2 6 r53 = 2 := (by rw [e184, thR_old_at _ _ _ _ _ _ _ (Or.inl (by omega)), w178])
          have w195 : ρ184.2 6 m140 = 5 := (by rw [e184, thR_old_at _ _ _ _ _ _ _ (Or.inl (by omega)), w179])
          have w196 : ρ184.2 6 r153 = 2 := (by rw [e184, thR_old_at _ _ _ _ _ _ _ (Or.inl (by omega)), w180])
          have gl184 : thN ρ ≤ thN ρ184 ∧ m41 < thN ρ184 ∧ r53 < thN ρ184 ∧ m140 < thN ρ184 ∧ r153 < thN ρ184 ∧ c182 < thN ρ184 := by omega
          clear s4_168 s30_168 w169 w170 w171 w172 w173 w174 w175 w176 w177 w178 w179 w180 gl168 hi184 g184
          clear hA hB hC hD hE hN hG hH hI hJ hK hL hCl168 hS168 hF168 hB168
          obtain ⟨hA, hB, hC, hD, hE, hN, hG, hH, hI, hJ, hK, hL⟩ := id hCl184
          refine S_putP fl_X8_128 dX8_start_155 rfl rfl rfl  ?_
          refine Sf.nm (fun M197 hM197 => ?_)
          obtain ⟨ρ198, e198⟩ : ∃ z9 : RS, z9 = (ρ184.setA 17 e (↑c182)) := ⟨_, rfl⟩
          have hCl198 : Cl (stU (stU Y.1 o) e, Y.2, sc, kn) ρ198 M197 := (by rw [e198, hM197, ← (qx_nat c182)]; exact hCl184.e17 e (by omega) stU_self (↑c182))
          have hS198 : StpOK sc kn ρ198 := (by rw [e198]; exact hS184)
          have hF198 : Fr CLs M M197 := (by rw [hM197]; exact hF184.trans (Fr.pP 7 e (by decide)))
          have hB198 : Bg 10 40 M M197 := (by rw [hM197]; exact (hB184.trans (Bg.pP _ 7 e _ _ (by decide))).le (by omega) (by omega))
          have s4_198 : ρ198.1 4 = ρ.1 4 := (by rw [e198, RS.setA_s, s4_184])
          have s30_198 : ρ198.1 30 = ρ.1 30 := (by rw [e198, RS.setA_s, s30_184])
          have t_198 : thN ρ198 = thN ρ184 := by rw [e198]; rfl
          have w199 : ρ198.2 16 e = ↑r153 := (by rw [e198, RS.setA_ne (Or.inl (by decide)), w185])
          have w200 : ρ198.2 15 e = ↑c := (by rw [e198, RS.setA_ne (Or.inl (by decide)), w186])
          have w201 : ρ198.2 12 e = ↑n := (by rw [e198, RS.setA_ne (Or.inl (by decide)), w187])
          have w202 : ρ198.2 12 o = ↑m := (by rw [e198, RS.setA_ne (Or.inl (by decide)), w188])
          have w203 : ρ198.2 9 b = ↑wb := (by rw [e198, RS.setA_ne (Or.inl (by decide)), w189])
          have w204 : ρ198.2 6 a = 3 := (by rw [e198, RS.setA_ne (Or.inl (by decide)), w190])
          have w205 : ρ198.2 6 b = 3 := (by rw [e198, RS.setA_ne (Or.inl (by decide)), w191])
          have w206 : ρ198.2 6 c = 3 := (by rw [e198, RS.setA_ne (Or.inl (by decide)), w192])
          have w207 : ρ198.2 6 m41 = 5 := (by rw [e198, RS.setA_ne (Or.inl (by decide)), w193])
          have w208 : ρ198.2 6 r53 = 2 := (by rw [e198, RS.setA_ne (Or.inl (by decide)), w194])
          have w209 : ρ198.2 6 m140 = 5 := (by rw [e198, RS.setA_ne (Or.inl (by decide)), w195])
          have w210 : ρ198.2 6 r153 = 2 := (by rw [e198, RS.setA_ne (Or.inl (by decide)), w196])
          have w211 : ρ198.2 6 c182 = 1 := (by rw [e198, RS.setA_ne (Or.inl (by decide)), k184])
          have gl198 : thN ρ ≤ thN ρ198 ∧ m41 < thN ρ198 ∧ r53 < thN ρ198 ∧ m140 < thN ρ198 ∧ r153 < thN ρ198 ∧ c182 < thN ρ198 := by omega
          clear s4_184 s30_184 w185 w186 w187 w188 w189 w190 w191 w192 w193 w194 w195 w196 k184 gl184 t_198
          clear hA hB hC hD hE hN hG hH hI hJ hK hL hCl184 hS184 hF184 hB184
          obtain ⟨hA, hB, hC, hD, hE, hN, hG, hH, hI, hJ, hK, hL⟩ := id hCl198
          refine S_aload_n dX8_start_158 rfl ?_
          refine S_aload_n dX8_start_159 rfl ?_
          refine S_getP (o := some (2, 0)) fl_X8_20 dX8_start_160 rfl rfl (by rw [(show M197.P (1, 0) 0 = some (2, 0) from congrFun hA.2.2 0)]) ?_
          refine S_aload dX8_start_163 rfl ?_
          refine S_getI (v := ↑wb) fl_X8_131 dX8_start_165 rfl rfl (by rw [(show M197.I (18, b) 1 = ↑wb from (show M197.I (18, b) 1 = ρ198.2 9 b from congrFun (hD.1 b (by omega)).2.1 1).trans w203)]) ?_
          have q0 : ρ198.1 0 = ρ.1 0 := (by rw [e198, RS.setA_s, e184, thR_s _ _ _ _ _ _ (by decide), e168, RS.setA_s, e155, thR_s _ _ _ _ _ _ (by decide), e142, thR_s _ _ _ _ _ _ (by decide), e128, RS.setA_s, e116, nextR_s, e103, bgR_s, e92, RS.setA_s, e80, RS.setA_s, e67, bgR_s, e55, thR_s _ _ _ _ _ _ (by decide), e43, thR_s _ _ _ _ _ _ (by decide), e30, nextR_s, e19, nextR_s, e7, RS.setA_s])
          have q1 : ρ198.1 1 = ρ.1 1 := (by rw [e198, RS.setA_s, e184, thR_s _ _ _ _ _ _ (by decide), e168, RS.setA_s, e155, thR_s _ _ _ _ _ _ (by decide), e142, thR_s _ _ _ _ _ _ (by decide), e128, RS.setA_s, e116, nextR_s, e103, bgR_s, e92, RS.setA_s, e80, RS.setA_s, e67, bgR_s, e55, thR_s _ _ _ _ _ _ (by decide), e43, thR_s _ _ _ _ _ _ (by decide), e30, nextR_s, e19, nextR_s, e7, RS.setA_s])
          obtain ⟨qq, hqq⟩ : ∃ n : Nat, ρ.1 0 = ↑n := ⟨(ρ.1 0).toNat, by omega⟩
          obtain ⟨gg, hgg⟩ : ∃ n : Nat, ρ.1 1 = ↑n := ⟨(ρ.1 1).toNat, by omega⟩
          refine S_callV (mi := mi_X8_start) [vI (↑wb)] ok_X0_publicOf ml_X8_136 dX8_start_168 rfl (by decide) rfl (by decide) rfl (Nat.le_of_ble_eq_true rfl) rfl ((by have h := c_X0_publicOf (G := G) qq gg wb hB (q0.trans hqq) (by omega) (q1.trans hgg) (by omega) (by omega); rw [q0, q1] at h; exact h)) ?_
          rintro v' M212 ⟨rfl, hM212⟩
          rw [hM212]
          clear hM212
          refine S_putI fl_X8_139 dX8_start_171 rfl rfl rfl  (Or.inl rfl) ?_
          refine Sf.nm (fun M213 hM213 => ?_)
          obtain ⟨ρ214, e214⟩ : ∃ z9 : RS, z9 = (ρ198.setA 19 e (powF (ρ.1 0) (ρ.1 1) wb)) := ⟨_, rfl⟩
          have hCl214 : Cl (stU (stU Y.1 o) e, Y.2, sc, kn) ρ214 M213 := (by rw [e214, hM213]; exact hCl198.e19 e (by omega) stU_self (powF (ρ.1 0) (ρ.1 1) wb))
          have hS214 : StpOK sc kn ρ214 := (by rw [e214]; exact hS198)
          have hF214 : Fr CLs M M213 := (by rw [hM213]; exact hF198.trans (Fr.pI 7 e (by decide)))
          have hB214 : Bg 10 40 M M213 := (by rw [hM213]; exact (hB198.trans (Bg.pI _ _ _ _)).le (by omega) (by omega))
          have s4_214 : ρ214.1 4 = ρ.1 4 := (by rw [e214, RS.setA_s, s4_198])
          have s30_214 : ρ214.1 30 = ρ.1 30 := (by rw [e214, RS.setA_s, s30_198])
          have t_214 : thN ρ214 = thN ρ198 := by rw [e214]; rfl
          have w215 : ρ214.2 16 e = ↑r153 := (by rw [e214, RS.setA_ne (Or.inl (by decide)), w199])
          have w216 : ρ214.2 15 e = ↑c := (by rw [e214, RS.setA_ne (Or.inl (by decide)), w200])
          have w217 : ρ214.2 12 e = ↑n := (by rw [e214, RS.setA_ne (Or.inl (by decide)), w201])
          have w218 : ρ214.2 12 o = ↑m := (by rw [e214, RS.setA_ne (Or.inl (by decide)), w202])
          have w219 : ρ214.2 9 b = ↑wb := (by rw [e214, RS.setA_ne (Or.inl (by decide)), w203])
          have w220 : ρ214.2 6 a = 3 := (by rw [e214, RS.setA_ne (Or.inl (by decide)), w204])
          have w221 : ρ214.2 6 b = 3 := (by rw [e214, RS.setA_ne (Or.inl (by decide)), w205])
          have w222 : ρ214.2 6 c = 3 := (by rw [e214, RS.setA_ne (Or.inl (by decide)), w206])
          have w223 : ρ214.2 6 m41 = 5 := (by rw [e214, RS.setA_ne (Or.inl (by decide)), w207])
          have w224 : ρ214.2 6 r53 = 2 := (by rw [e214, RS.setA_ne (Or.inl (by decide)), w208])
          have w225 : ρ214.2 6 m140 = 5 := (by rw [e214, RS.setA_ne (Or.inl (by decide)), w209])
          have w226 : ρ214.2 6 r153 = 2 := (by rw [e214, RS.setA_ne (Or.inl (by decide)), w210])
          have w227 : ρ214.2 6 c182 = 1 := (by rw [e214, RS.setA_ne (Or.inl (by decide)), w211])
          have gl214 : thN ρ ≤ thN ρ214 ∧ m41 < thN ρ214 ∧ r53 < thN ρ214 ∧ m140 < thN ρ214 ∧ r153 < thN ρ214 ∧ c182 < thN ρ214 := by omega
          clear s4_198 s30_198 w199 w200 w201 w202 w203 w204 w205 w206 w207 w208 w209 w210 w211 gl198 t_214
          clear hA hB hC hD hE hN hG hH hI hJ hK hL hCl198 hS198 hF198 hB198
          obtain ⟨hA, hB, hC, hD, hE, hN, hG, hH, hI, hJ, hK, hL⟩ := id hCl214
          refine S_aload_n dX8_start_174 rfl ?_
          refine S_iconst dX8_start_175 ?_
          refine S_callV (mi := mi_X8_start) [vI 1] ok_X8_done ml_X8_69 dX8_start_176 rfl (by decide) rfl (by decide) rfl (Nat.le_of_ble_eq_true rfl) rfl (c_done (show Cs ((stU (stU Y.1 o) e, Y.2) : (Nat → Bool) × (Nat → Bool)) ρ214 M213 from ⟨sc, kn, hS214, hCl214⟩) 1) ?_
          rintro v' M228 ⟨rfl, hCs228, hF228', hB228'⟩
          obtain ⟨ρ229, e229⟩ : ∃ z9 : RS, z9 = (ρ214.setS 42 0) := ⟨_, rfl⟩
          rw [← e229] at hCs228
          obtain ⟨sc, kn, hS229, hCl229⟩ := hCs228
          have hF229 : Fr CLs M M228 := hF214.trans hF228'
          have hB229 : Bg 10 40 M M228 := (hB214.trans hB228').le (by omega) (by omega)
          have s4_229 : ρ229.1 4 = ρ.1 4 := (by rw [e229, RS.setS_ne (by decide), s4_214])
          have s30_229 : ρ229.1 30 = ρ.1 30 := (by rw [e229, RS.setS_ne (by decide), s30_214])
          have t_229 : thN ρ229 = thN ρ214 := by rw [e229]; rfl
          have w230 : ρ229.2 16 e = ↑r153 := (by rw [e229, RS.setS_a, w215])
          have w231 : ρ229.2 15 e = ↑c := (by rw [e229, RS.setS_a, w216])
          have w232 : ρ229.2 12 e = ↑n := (by rw [e229, RS.setS_a, w217])
          have w233 : ρ229.2 12 o = ↑m := (by rw [e229, RS.setS_a, w218])
          have w234 : ρ229.2 9 b = ↑wb := (by rw [e229, RS.setS_a, w219])
          have w235 : ρ229.2 6 a = 3 := (by rw [e229, RS.setS_a, w220])
          have w236 : ρ229.2 6 b = 3 := (by rw [e229, RS.setS_a, w221])
          have w237 : ρ229.2 6 c = 3 := (by rw [e229, RS.setS_a, w222])
          have w238 : ρ229.2 6 m41 = 5 := (by rw [e229, RS.setS_a, w223])
          have w239 : ρ229.2 6 r53 = 2 := (by rw [e229, RS.setS_a, w224])
          have w240 : ρ229.2 6 m140 = 5 := (by rw [e229, RS.setS_a, w225])
          have w241 : ρ229.2 6 r153 = 2 := (by rw [e229, RS.setS_a, w226])
          have w242 : ρ229.2 6 c182 = 1 := (by rw [e229, RS.setS_a, w227])
          have gl229 : thN ρ ≤ thN ρ229 ∧ m41 < thN ρ229 ∧ r53 < thN ρ229 ∧ m140 < thN ρ229 ∧ r153 < thN ρ229 ∧ c182 < thN ρ229 := by omega
          clear s4_214 s30_214 w215 w216 w217 w218 w219 w220 w221 w222 w223 w224 w225 w226 w227 gl214 t_229
          clear hA hB hC hD hE hN hG hH hI hJ hK hL hCl214 hS214 hF214 hB214
          obtain ⟨hA, hB, hC, hD, hE, hN, hG, hH, hI, hJ, hK, hL⟩ := id hCl229
          exact S_iret dX8_start_179 rfl (Or.inl rfl) (by
      have e9 : startF ρ (↑i) = ((1 : Int), ρ229) := by
        unfold startF
        rw [if_neg (by omega), Int.toNat_natCast, ← hoo, ← hee, if_neg (by rw [h12e, h12o, ← hi2, h14]; omega), h12e, h12o, h13a, h13b, h13c, Int.toNat_natCast, Int.toNat_natCast, Int.toNat_natCast, Int.toNat_natCast, Int.toNat_natCast, show n + 2 - 2 = n from rfl, show m + 1 - 1 = m from rfl]
        have f1 : st1 ρ i e o n m = ρ30 := by
          unfold st1
          rw [e30, e19, e7]
        have f2 : rmI ρ30 (-1) a b = r53 := by
          unfold rmI
          rw [← e43, ← em41, ← er53]
        have f3 : rmR ρ30 (-1) a b = ρ55 := by
          unfold rmR
          rw [← e43, ← em41, ← e55]
        have f4 : ρ92 = st2 ρ55 o n b r53 := by
          rw [e92, e80, e67]
          exact st_o _ o n b r53
        obtain ⟨Q, hQ⟩ : ∃ z9 : RS, z9 = (nextR ρ92 e n).setA 15 e ↑c := ⟨_, rfl⟩
        have f5 : ρ128 = (((Q.setA 16 e (-1)).setA 17 e (-1)).setA 18 e (-1)).setA 19 e (-1) := by
          rw [e128, e116, e103, bgR_n, st_e, hQ]
        have f6 : st5 ρ30 e o n a b c = Q := by
          unfold st5 st3
          rw [f2, f3, ← f4, hQ]
        have f7 : r153 = rmI Q ↑r53 c b ∧ ρ155 = (((((rmR Q ↑r53 c b).setA 16 e (-1)).setA 17 e (-1)).setA 18 e (-1)).setA 19 e (-1)) := by
          have q := rm_b4 Q e ↑r53 c b
          rw [← f5] at q
          unfold rmI rmR at q
          rw [← e142, ← em140, ← e155, ← er153] at q
          exact q
        have f8 : st6 (st5 ρ30 e o n a b c) r53 e b c = (rmR Q ↑r53 c b).setA 16 e ↑r153 := by
          unfold st6
          rw [f6, ← f7.1]
        obtain ⟨T, hT⟩ : ∃ z9 : RS, z9 = (rmR Q ↑r53 c b).setA 16 e ↑r153 := ⟨_, rfl⟩
        have f9 : ρ168 = ((T.setA 17 e (-1)).setA 18 e (-1)).setA 19 e (-1) := by
          rw [e168, f7.2, st_f, hT]
        have g1 := ch_b3 T e r153
        rw [← f9, ← e184, ← ec182] at g1
        have g2 : stG ρ i e o n m a b c = ρ229 := by
          unfold stG
          rw [f1, f2, f6]
          have f6' := f6
          rw [f6] at f8
          rw [f8, ← f7.1, ← hT]
          unfold st4
          rw [← g1.1, hwb, Int.toNat_natCast, e229, e214, e198, g1.2, st_g]
        rw [g2]
      have e8 : startY Y ρ (↑i) = (stU (stU Y.1 o) e, Y.2) := by
        unfold startY
        rw [e9, Int.toNat_natCast, ← hoo, ← hee]
        exact if_pos rfl
      rw [e8, e9]
      exact ⟨rfl, ⟨sc, kn, hS229, hCl229⟩, hF229, hB229.le (by omega) (by omega)⟩)
        · refine S_aload_n dX8_start_49 rfl ?_
          refine S_iconst dX8_start_50 ?_
          refine S_callV (mi := mi_X8_start) [vI 3] ok_X8_refuse ml_X8_54 dX8_start_51 rfl (by decide) rfl (by decide) rfl (Nat.le_of_ble_eq_true rfl) rfl (c_refuse (show Cs Y ρ M from ⟨sc, kn, hS, hCl⟩) 3) ?_
          rintro v' M243 ⟨rfl, hCs243, hF243', hB243'⟩
          obtain ⟨ρ244, e244⟩ : ∃ z9 : RS, z9 = (ρ.setS 42 3) := ⟨_, rfl⟩
          rw [← e244] at hCs243
          obtain ⟨sc, kn, hS244, hCl244⟩ := hCs243
          have hF244 : Fr CLs M M243 := hF0.trans hF243'
          have hB244 : Bg 0 0 M M243 := (hB0.trans hB243').le (by omega) (by omega)
          have s4_244 : ρ244.1 4 = ρ.1 4 := (by rw [e244, RS.setS_ne (by decide)])
          have s30_244 : ρ244.1 30 = ρ.1 30 := (by rw [e244, RS.setS_ne (by decide)])
          have t_244 : thN ρ244 = thN ρ := by rw [e244]; rfl
          clear hA hB hC hD hE hN hG hH hI hJ hK hL
          obtain ⟨hA, hB, hC, hD, hE, hN, hG, hH, hI, hJ, hK, hL⟩ := id hCl244
          exact S_iret dX8_start_54 rfl (Or.inl rfl) (by
      have e9 : startF ρ (↑i) = (((-1) : Int), ρ244) := by
        unfold startF
        rw [if_neg (by omega), Int.toNat_natCast, ← hoo, ← hee, if_pos (Or.inr (by omega)), e244]
      have e8 : startY Y ρ (↑i) = Y := by
        unfold startY
        rw [e9]
        exact if_neg (show ¬ ((-1 : Int) = 1) from by decide)
      rw [e8, e9]
      exact ⟨rfl, ⟨sc, kn, hS244, hCl244⟩, hF244, hB244.le (by omega) (by omega)⟩)
  · refine S_callV (mi := mi_X8_start) [vI p] ok_X8_lowerOf ml_X8_93 dX8_start_2 rfl (by decide) rfl (by decide) rfl (Nat.le_of_ble_eq_true rfl) rfl (c_lowerOfN hCl hp p p32 hv) ?_
    rintro v' M245 ⟨rfl, hM245⟩
    rw [hM245]
    clear hM245
    refine S_astore_n dX8_start_5 (by decide) ?_
    refine S_aload_n dX8_start_6 rfl ?_
    refine S_iload_n dX8_start_7 rfl ?_
    refine S_callV (mi := mi_X8_start) [vI p] ok_X8_otherOf ml_X8_96 dX8_start_8 rfl (by decide) rfl (by decide) rfl (Nat.le_of_ble_eq_true rfl) rfl (c_otherOfN hCl hp p p32 hv) ?_
    rintro v' M246 ⟨rfl, hM246⟩
    rw [hM246]
    clear hM246
    refine S_astore_n dX8_start_11 (by decide) ?_
    refine S_aload_n dX8_start_12 rfl ?_
    refine S_ifnull 20 dX8_start_13 (by decide) (fun c_13 => ?_) (fun c_13 => absurd c_13 (by simp))
    refine S_aload_n dX8_start_20 rfl ?_
    refine S_iconst dX8_start_21 ?_
    refine S_callV (mi := mi_X8_start) [vI 1] ok_X8_refuse ml_X8_54 dX8_start_22 rfl (by decide) rfl (by decide) rfl (Nat.le_of_ble_eq_true rfl) rfl (c_refuse (show Cs Y ρ M from ⟨sc, kn, hS, hCl⟩) 1) ?_
    rintro v' M247 ⟨rfl, hCs247, hF247', hB247'⟩
    obtain ⟨ρ248, e248⟩ : ∃ z9 : RS, z9 = (ρ.setS 42 1) := ⟨_, rfl⟩
    rw [← e248] at hCs247
    obtain ⟨sc, kn, hS248, hCl248⟩ := hCs247
    have hF248 : Fr CLs M M247 := hF0.trans hF247'
    have hB248 : Bg 0 0 M M247 := (hB0.trans hB247').le (by omega) (by omega)
    have s4_248 : ρ248.1 4 = ρ.1 4 := (by rw [e248, RS.setS_ne (by decide)])
    have s30_248 : ρ248.1 30 = ρ.1 30 := (by rw [e248, RS.setS_ne (by decide)])
    have t_248 : thN ρ248 = thN ρ := by rw [e248]; rfl
    clear hA hB hC hD hE hN hG hH hI hJ hK hL
    obtain ⟨hA, hB, hC, hD, hE, hN, hG, hH, hI, hJ, hK, hL⟩ := id hCl248
    exact S_iret dX8_start_25 rfl (Or.inl rfl) (by
      have e9 : startF ρ p = (((-1) : Int), ρ248) := by
        unfold startF
        rw [if_pos (by omega), e248]
      have e8 : startY Y ρ p = Y := by
        unfold startY
        rw [e9]
        exact if_neg (show ¬ ((-1 : Int) = 1) from by decide)
      rw [e8, e9]
      exact ⟨rfl, ⟨sc, kn, hS248, hCl248⟩, hF248, hB248.le (by omega) (by omega)⟩)
