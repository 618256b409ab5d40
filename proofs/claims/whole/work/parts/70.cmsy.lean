/-! THE CLASS: act -/
theorem aV_0_0 (v x tk : Int) : moveV 0 v x = x + v ∧ moveL 0 = [10] := by
  first
    | exact ⟨rfl, rfl⟩
    | (constructor <;> simp [endedV, kendV, mixedV, tellV, moveV, endedL, kendL, mixedL, tellL, moveL])
theorem aV_0_1 (v x tk : Int) : mixedV 0 v x = (x + v) * 3 ∧ mixedL 0 = [11, 10] := by
  first
    | exact ⟨rfl, rfl⟩
    | (constructor <;> simp [endedV, kendV, mixedV, tellV, moveV, endedL, kendL, mixedL, tellL, moveL])
theorem aV_0_2 (v x tk : Int) : endedV 0 v x tk = ((x + v) * 3) - ((jI x ^^^ jI v).toInt) ∧ endedL 0 = [12, 11, 10, 13] := by
  first
    | exact ⟨rfl, rfl⟩
    | (constructor <;> simp [endedV, kendV, mixedV, tellV, moveV, endedL, kendL, mixedL, tellL, moveL])
theorem aV_0_3 (v x tk : Int) : tellV 0 v x = (jI x ^^^ jI v).toInt ∧ tellL 0 = [13] := by
  first
    | exact ⟨rfl, rfl⟩
    | (constructor <;> simp [endedV, kendV, mixedV, tellV, moveV, endedL, kendL, mixedL, tellL, moveL])
theorem aV_1_0 (v x tk : Int) : moveV 1 v x = (x + v) * 2 ∧ moveL 1 = [20, 10] := by
  first
    | exact ⟨rfl, rfl⟩
    | (constructor <;> simp [endedV, kendV, mixedV, tellV, moveV, endedL, kendL, mixedL, tellL, moveL])
theorem aV_1_1 (v x tk : Int) : mixedV 1 v x = ((x + v) * 2) * 3 ∧ mixedL 1 = [11, 20, 10] := by
  first
    | exact ⟨rfl, rfl⟩
    | (constructor <;> simp [endedV, kendV, mixedV, tellV, moveV, endedL, kendL, mixedL, tellL, moveL])
theorem aV_1_2 (v x tk : Int) : endedV 1 v x tk = ((((x + 1) + v) * 2) * 3) - ((jI ((x + 1)) ^^^ jI v).toInt) ∧ endedL 1 = [21, 12, 11, 20, 10, 13] := by
  first
    | exact ⟨rfl, rfl⟩
    | (constructor <;> simp [endedV, kendV, mixedV, tellV, moveV, endedL, kendL, mixedL, tellL, moveL])
theorem aV_1_3 (v x tk : Int) : tellV 1 v x = (jI x ^^^ jI v).toInt ∧ tellL 1 = [13] := by
  first
    | exact ⟨rfl, rfl⟩
    | (constructor <;> simp [endedV, kendV, mixedV, tellV, moveV, endedL, kendL, mixedL, tellL, moveL])
theorem aV_2_0 (v x tk : Int) : moveV 2 v x = (x + v) * 2 ∧ moveL 2 = [20, 10] := by
  first
    | exact ⟨rfl, rfl⟩
    | (constructor <;> simp [endedV, kendV, mixedV, tellV, moveV, endedL, kendL, mixedL, tellL, moveL])
theorem aV_2_1 (v x tk : Int) : mixedV 2 v x = ((x + v) * 2) * 3 ∧ mixedL 2 = [11, 20, 10] := by
  first
    | exact ⟨rfl, rfl⟩
    | (constructor <;> simp [endedV, kendV, mixedV, tellV, moveV, endedL, kendL, mixedL, tellL, moveL])
theorem aV_2_2 (v x tk : Int) : endedV 2 v x tk = ((((x + 1) + v) * 2) * 3) - (((jI ((x + 1)) ^^^ jI v).toInt) - 1) ∧ endedL 2 = [21, 12, 11, 20, 10, 30, 13] := by
  first
    | exact ⟨rfl, rfl⟩
    | (constructor <;> simp [endedV, kendV, mixedV, tellV, moveV, endedL, kendL, mixedL, tellL, moveL])
theorem aV_2_3 (v x tk : Int) : tellV 2 v x = ((jI x ^^^ jI v).toInt) - 1 ∧ tellL 2 = [30, 13] := by
  first
    | exact ⟨rfl, rfl⟩
    | (constructor <;> simp [endedV, kendV, mixedV, tellV, moveV, endedL, kendL, mixedL, tellL, moveL])
theorem aV_3_0 (v x tk : Int) : moveV 3 v x = x + v ∧ moveL 3 = [10] := by
  first
    | exact ⟨rfl, rfl⟩
    | (constructor <;> simp [endedV, kendV, mixedV, tellV, moveV, endedL, kendL, mixedL, tellL, moveL])
theorem aV_3_1 (v x tk : Int) : mixedV 3 v x = ((x + v) * 3) + 5 ∧ mixedL 3 = [40, 11, 10] := by
  first
    | exact ⟨rfl, rfl⟩
    | (constructor <;> simp [endedV, kendV, mixedV, tellV, moveV, endedL, kendL, mixedL, tellL, moveL])
theorem aV_3_2 (v x tk : Int) : endedV 3 v x tk = (((x + v) * 3) + 5) - ((jI x ^^^ jI v).toInt) ∧ endedL 3 = [12, 40, 11, 10, 13] := by
  first
    | exact ⟨rfl, rfl⟩
    | (constructor <;> simp [endedV, kendV, mixedV, tellV, moveV, endedL, kendL, mixedL, tellL, moveL])
theorem aV_3_3 (v x tk : Int) : tellV 3 v x = (jI x ^^^ jI v).toInt ∧ tellL 3 = [13] := by
  first
    | exact ⟨rfl, rfl⟩
    | (constructor <;> simp [endedV, kendV, mixedV, tellV, moveV, endedL, kendL, mixedL, tellL, moveL])
theorem aV_4_0 (v x tk : Int) : moveV 4 v x = x + v ∧ moveL 4 = [10] := by
  first
    | exact ⟨rfl, rfl⟩
    | (constructor <;> simp [endedV, kendV, mixedV, tellV, moveV, endedL, kendL, mixedL, tellL, moveL])
theorem aV_4_1 (v x tk : Int) : mixedV 4 v x = (x + v) * 3 ∧ mixedL 4 = [11, 10] := by
  first
    | exact ⟨rfl, rfl⟩
    | (constructor <;> simp [endedV, kendV, mixedV, tellV, moveV, endedL, kendL, mixedL, tellL, moveL])
theorem aV_4_2 (v x tk : Int) : endedV 4 v x tk = (((x + v) * 3) - ((jI x ^^^ jI v).toInt)) + tk ∧ endedL 4 = [50, 12, 11, 10, 13] := by
  first
    | exact ⟨rfl, rfl⟩
    | (constructor <;> simp [endedV, kendV, mixedV, tellV, moveV, endedL, kendL, mixedL, tellL, moveL])
theorem aV_4_3 (v x tk : Int) : tellV 4 v x = (jI x ^^^ jI v).toInt ∧ tellL 4 = [13] := by
  first
    | exact ⟨rfl, rfl⟩
    | (constructor <;> simp [endedV, kendV, mixedV, tellV, moveV, endedL, kendL, mixedL, tellL, moveL])
set_option maxHeartbeats 20000000 in
set_option maxRecDepth 100000 in
theorem c_act {G : Ge} {M : Mem} {Y : (Nat → Bool) × (Nat → Bool)} {ρ : RS} (hCs : Cs Y ρ M) (hIv : Iv Y ρ) (t a9 x : Int) (t32 : -2147483648 ≤ t ∧ t < 2147483648) (a932 : -2147483648 ≤ a9 ∧ a9 < 2147483648) (x32 : -2147483648 ≤ x ∧ x < 2147483648) : Ct G mi_X8_act [vR ((1, 0)), vI t, vI a9, vI x] M (CP Y ((actF ρ t a9 x).2) 0 0 (some (vI (actF ρ t a9 x).1)) M) := by
  refine Ct.of pl_X8_act [some (vR ((1, 0))), some (vI t), some (vI a9), some (vI x), none] rfl (Nat.le_of_ble_eq_true rfl) ?_
  obtain ⟨sc, kn, hS, hCl⟩ := hCs
  have hF0 : Fr CLs M M := Fr.rf CLs M
  have hB0 : Bg 0 0 M M := Bg.rf M
  obtain ⟨hA, hB, hC, hD, hE, hN, hG, hH, hI, hJ, hK, hL⟩ := id hCl
  obtain ⟨⟨hp, hl, hm, hli, h44⟩, ⟨hTI, hSh⟩, ⟨hRo, hRp⟩, ⟨hEd, hOw, hYs, hSt⟩, hEn, hLf, ⟨hKo, hKy, hTs, hTl⟩, ⟨hLt, hLp⟩, hTr, hFe⟩ := hIv
  refine S_aload_n dX8_act_0 rfl ?_
  refine S_iload_n dX8_act_1 rfl ?_
  by_cases hvt : 0 ≤ t ∧ t < 8
  · obtain ⟨i, rfl⟩ : ∃ i : Nat, t = ↑i := ⟨t.toNat, by omega⟩
    have hi8 : i < 8 := by omega
    refine S_callV (mi := mi_X8_act) [vI (↑i)] ok_X8_trayAt ml_X8_258 dX8_act_2 rfl (by decide) rfl (by decide) rfl (Nat.le_of_ble_eq_true rfl) rfl (c_trayAt hCl i (by omega)) ?_
    rintro v' M1 ⟨rfl, hM1⟩
    rw [hM1]
    clear hM1
    refine S_astore dX8_act_5 (by decide) ?_
    refine S_aload dX8_act_7 rfl ?_
    refine S_ifnull 21 dX8_act_9 (by decide) (fun c_9 => absurd c_9 (by simp)) (fun c_9 => ?_)
    refine S_iload_n dX8_act_12 rfl ?_
    refine S_if_lt 21 dX8_act_13 (by decide) (by omega) (fun c_13 => ?_) (fun c_13 => ?_)
    · refine S_aload_n dX8_act_21 rfl ?_
      refine S_iconst dX8_act_22 ?_
      refine S_callV (mi := mi_X8_act) [vI 1] ok_X8_refuse ml_X8_54 dX8_act_23 rfl (by decide) rfl (by decide) rfl (Nat.le_of_ble_eq_true rfl) rfl (c_refuse (show Cs Y ρ M from ⟨sc, kn, hS, hCl⟩) 1) ?_
      rintro v' M2 ⟨rfl, hCs2, hF2', hB2'⟩
      obtain ⟨ρ3, e3⟩ : ∃ z9 : RS, z9 = (ρ.setS 42 1) := ⟨_, rfl⟩
      rw [← e3] at hCs2
      obtain ⟨sc, kn, hS3, hCl3⟩ := hCs2
      have hF3 : Fr CLs M M2 := hF0.trans hF2'
      have hB3 : Bg 0 0 M M2 := (hB0.trans hB2').le (by omega) (by omega)
      have s4_3 : ρ3.1 4 = ρ.1 4 := (by rw [e3, RS.setS_ne (by decide)])
      have s30_3 : ρ3.1 30 = ρ.1 30 := (by rw [e3, RS.setS_ne (by decide)])
      have t_3 : thN ρ3 = thN ρ := by rw [e3]; rfl
      clear hA hB hC hD hE hN hG hH hI hJ hK hL
      obtain ⟨hA, hB, hC, hD, hE, hN, hG, hH, hI, hJ, hK, hL⟩ := id hCl3
      exact S_iret dX8_act_26 rfl (Or.inl rfl) (by
      have e9 : actF ρ (↑i) a9 x = (((-1) : Int), ρ3) := by
        unfold actF
        rw [if_pos (by omega), e3]
      rw [e9]
      exact ⟨rfl, ⟨sc, kn, hS3, hCl3⟩, hF3, hB3.le (by omega) (by omega)⟩)
    · refine S_iload_n dX8_act_16 rfl ?_
      refine S_iconst dX8_act_17 ?_
      refine S_icmp_lt 27 dX8_act_18 (by decide) (by omega) (fun c_18 => ?_) (fun c_18 => ?_)
      · refine S_aload dX8_act_27 rfl ?_
        obtain ⟨o1, o2, hOb, hTq⟩ := (hK.2 i (by omega)).2
        rcases hTq with ⟨h39, rfl, rfl⟩ | ⟨h39, rfl, l, rfl, h40, hll⟩ | ⟨h39, rfl, n, k, rfl, h40, hk, fr, p, hSk⟩ | ⟨rfl, t2, rfl, h40, ht2, h39⟩
        · refine S_getP (o := none) fl_X8_278 dX8_act_29 rfl rfl (by rw [(show M.P (15, i) 0 = none from congrFun hOb.2.2 0)]) ?_
          refine S_ifnonnull 41 dX8_act_32 (by decide) (fun c_32 => absurd c_32 (by simp)) (fun c_32 => ?_)
          refine S_aload_n dX8_act_35 rfl ?_
          refine S_iconst dX8_act_36 ?_
          refine S_callV (mi := mi_X8_act) [vI 3] ok_X8_refuse ml_X8_54 dX8_act_37 rfl (by decide) rfl (by decide) rfl (Nat.le_of_ble_eq_true rfl) rfl (c_refuse (show Cs Y ρ M from ⟨sc, kn, hS, hCl⟩) 3) ?_
          rintro v' M4 ⟨rfl, hCs4, hF4', hB4'⟩
          obtain ⟨ρ5, e5⟩ : ∃ z9 : RS, z9 = (ρ.setS 42 3) := ⟨_, rfl⟩
          rw [← e5] at hCs4
          obtain ⟨sc, kn, hS5, hCl5⟩ := hCs4
          have hF5 : Fr CLs M M4 := hF0.trans hF4'
          have hB5 : Bg 0 0 M M4 := (hB0.trans hB4').le (by omega) (by omega)
          have s4_5 : ρ5.1 4 = ρ.1 4 := (by rw [e5, RS.setS_ne (by decide)])
          have s30_5 : ρ5.1 30 = ρ.1 30 := (by rw [e5, RS.setS_ne (by decide)])
          have t_5 : thN ρ5 = thN ρ := by rw [e5]; rfl
          clear hA hB hC hD hE hN hG hH hI hJ hK hL
          obtain ⟨hA, hB, hC, hD, hE, hN, hG, hH, hI, hJ, hK, hL⟩ := id hCl5
          exact S_iret dX8_act_40 rfl (Or.inl rfl) (by
      have e9 : actF ρ (↑i) a9 x = (((-1) : Int), ρ5) := by
        unfold actF
        rw [if_neg (by omega), Int.toNat_natCast, if_pos (by omega), e5]
      rw [e9]
      exact ⟨rfl, ⟨sc, kn, hS5, hCl5⟩, hF5, hB5.le (by omega) (by omega)⟩)
        · refine S_getP (o := none) fl_X8_278 dX8_act_29 rfl rfl (by rw [(show M.P (15, i) 0 = none from congrFun hOb.2.2 0)]) ?_
          refine S_ifnonnull 41 dX8_act_32 (by decide) (fun c_32 => absurd c_32 (by simp)) (fun c_32 => ?_)
          refine S_aload_n dX8_act_35 rfl ?_
          refine S_iconst dX8_act_36 ?_
          refine S_callV (mi := mi_X8_act) [vI 3] ok_X8_refuse ml_X8_54 dX8_act_37 rfl (by decide) rfl (by decide) rfl (Nat.le_of_ble_eq_true rfl) rfl (c_refuse (show Cs Y ρ M from ⟨sc, kn, hS, hCl⟩) 3) ?_
          rintro v' M6 ⟨rfl, hCs6, hF6', hB6'⟩
          obtain ⟨ρ7, e7⟩ : ∃ z9 : RS, z9 = (ρ.setS 42 3) := ⟨_, rfl⟩
          rw [← e7] at hCs6
          obtain ⟨sc, kn, hS7, hCl7⟩ := hCs6
          have hF7 : Fr CLs M M6 := hF0.trans hF6'
          have hB7 : Bg 0 0 M M6 := (hB0.trans hB6').le (by omega) (by omega)
          have s4_7 : ρ7.1 4 = ρ.1 4 := (by rw [e7, RS.setS_ne (by decide)])
          have s30_7 : ρ7.1 30 = ρ.1 30 := (by rw [e7, RS.setS_ne (by decide)])
          have t_7 : thN ρ7 = thN ρ := by rw [e7]; rfl
          clear hA hB hC hD hE hN hG hH hI hJ hK hL
          obtain ⟨hA, hB, hC, hD, hE, hN, hG, hH, hI, hJ, hK, hL⟩ := id hCl7
          exact S_iret dX8_act_40 rfl (Or.inl rfl) (by
      have e9 : actF ρ (↑i) a9 x = (((-1) : Int), ρ7) := by
        unfold actF
        rw [if_neg (by omega), Int.toNat_natCast, if_pos (by omega), e7]
      rw [e9]
      exact ⟨rfl, ⟨sc, kn, hS7, hCl7⟩, hF7, hB7.le (by omega) (by omega)⟩)
        · refine S_getP (o := some (19, n)) fl_X8_278 dX8_act_29 rfl rfl (by rw [(show M.P (15, i) 0 = some (19, n) from congrFun hOb.2.2 0)]) ?_
          refine S_ifnonnull 41 dX8_act_32 (by decide) (fun c_32 => ?_) (fun c_32 => absurd c_32 (by simp))
          rcases (show a9 = 0 ∨ a9 = 1 ∨ a9 = 2 ∨ a9 = 3 by omega) with rfl | rfl | rfl | rfl
          · refine S_aload_n dX8_act_41 rfl ?_
            refine S_getP (o := some (16, 0)) fl_X8_43 dX8_act_42 rfl rfl (by rw [(show M.P (1, 0) 5 = some (16, 0) from congrFun hA.2.2 5)]) ?_
            refine S_iconst dX8_act_45 ?_
            refine S_putI fl_X8_256 dX8_act_46 rfl rfl rfl  (Or.inl rfl) ?_
            refine Sf.nm (fun M8 hM8 => ?_)
            obtain ⟨ρ9, e9⟩ : ∃ z9 : RS, z9 = (ρ.setS 44 0) := ⟨_, rfl⟩
            have hCl9 : Cl (Y.1, Y.2, sc, kn) ρ9 M8 := (by rw [e9, hM8]; exact hCl.tk0)
            have hS9 : StpOK sc kn ρ9 := (by rw [e9]; exact hS)
            have hF9 : Fr CLs M M8 := (by rw [hM8]; exact hF0.trans (Fr.pI 16 0 (by decide)))
            have hB9 : Bg 0 0 M M8 := (by rw [hM8]; exact (hB0.trans (Bg.pI _ _ _ _)).le (by omega) (by omega))
            have s4_9 : ρ9.1 4 = ρ.1 4 := (by rw [e9, RS.setS_ne (by decide)])
            have s30_9 : ρ9.1 30 = ρ.1 30 := (by rw [e9, RS.setS_ne (by decide)])
            have t_9 : thN ρ9 = thN ρ := by rw [e9]; rfl
            clear hA hB hC hD hE hN hG hH hI hJ hK hL
            obtain ⟨hA, hB, hC, hD, hE, hN, hG, hH, hI, hJ, hK, hL⟩ := id hCl9
            have hO1 : M8.P (15, i) 0 = some (19, n) := by rw [hM8, Mem.putI_P]; exact congrFun hOb.2.2 0
            have hSk1 : Sk M8 n fr p ↑k (ρ.2 41 i) (ρ.2 9 k) := by rw [hM8]; exact Obj.fr hSk (Fr.pI (cs := [16]) 16 0 (by decide)) (show 19 ∉ [16] by decide)
            have hk9 : M8.I (19, n) 0 = 4 := congrFun hSk1.2.1 0
            have hv9 : M8.I (19, n) 1 = ρ.2 9 k := congrFun hSk1.2.1 1
            have ht9 : M8.I (19, n) 11 = ρ.2 41 i := congrFun hSk1.2.1 11
            have h449 : ρ9.1 44 = ↑0 := (by rw [e9, RS.setS_eq])
            refine S_aload_n dX8_act_49 rfl ?_
            refine S_aload_n dX8_act_50 rfl ?_
            refine S_getP (o := some (16, 0)) fl_X8_43 dX8_act_51 rfl rfl (by rw [(show M8.P (1, 0) 5 = some (16, 0) from congrFun hA.2.2 5)]) ?_
            refine S_aload dX8_act_54 rfl ?_
            refine S_getP (o := some (19, n)) fl_X8_278 dX8_act_56 rfl rfl (by rw [hO1]) ?_
            refine S_aload dX8_act_59 rfl ?_
            refine S_getP (o := some (19, n)) fl_X8_278 dX8_act_61 rfl rfl (by rw [hO1]) ?_
            refine S_getI (v := 4) fl_X8_281_s dX8_act_64 rfl rfl (by rw [hk9]) ?_
            refine S_iload_n dX8_act_67 rfl ?_
            refine S_iload_n dX8_act_68 rfl ?_
            refine S_iconst dX8_act_69 ?_
            refine S_callS (mi := mi_X8_act) [vR ((16, 0)), vR ((19, n)), vI 4, vI 0, vI x, vI 0] (okD_X8_run 5) ml_X8_284 dX8_act_70 (by decide) rfl (Nat.le_of_ble_eq_true rfl) rfl (c_run_4_4_0 (G := G) (show Cs Y ρ9 M8 from ⟨sc, kn, hS9, hCl9⟩) 0 h449 (by decide) n (ρ.2 9 k) hk9 hv9 (ρ.2 41 i) ht9 x 0 (by omega)) ?_
            rintro v' M10 ⟨rfl, hCs10, hF10', hB10'⟩
            obtain ⟨ρ11, e11⟩ : ∃ z9 : RS, z9 = (ranL ρ9 0 ([10])) := ⟨_, rfl⟩
            rw [← e11] at hCs10
            obtain ⟨sc, kn, hS11, hCl11⟩ := hCs10
            have hF11 : Fr CLs M M10 := hF9.trans (hF10'.mono (fun c hc => by revert c; decide))
            have hB11 : Bg 0 0 M M10 := (hB9.trans hB10').le (by omega) (by omega)
            clear hA hB hC hD hE hN hG hH hI hJ hK hL hCl9 hS9 hF9 hB9
            obtain ⟨hA, hB, hC, hD, hE, hN, hG, hH, hI, hJ, hK, hL⟩ := id hCl11
            refine S_callV (mi := mi_X8_act) [vI (x + (ρ.2 9 k))] ok_X8_done ml_X8_69 dX8_act_73 rfl (by decide) rfl (by decide) rfl (Nat.le_of_ble_eq_true rfl) rfl (c_done (show Cs Y ρ11 M10 from ⟨sc, kn, hS11, hCl11⟩) (x + (ρ.2 9 k))) ?_
            rintro v' M12 ⟨rfl, hCs12, hF12', hB12'⟩
            obtain ⟨ρ13, e13⟩ : ∃ z9 : RS, z9 = (ρ11.setS 42 0) := ⟨_, rfl⟩
            rw [← e13] at hCs12
            obtain ⟨sc, kn, hS13, hCl13⟩ := hCs12
            have hF13 : Fr CLs M M12 := hF11.trans hF12'
            have hB13 : Bg 0 0 M M12 := (hB11.trans hB12').le (by omega) (by omega)
            have t_13 : thN ρ13 = thN ρ11 := by rw [e13]; rfl
            clear hA hB hC hD hE hN hG hH hI hJ hK hL hCl11 hS11 hF11 hB11
            obtain ⟨hA, hB, hC, hD, hE, hN, hG, hH, hI, hJ, hK, hL⟩ := id hCl13
            exact S_iret dX8_act_76 rfl (Or.inl rfl) (by
      have e9 : actF ρ (↑i) 0 x = ((x + (ρ.2 9 k) : Int), ρ13) := by
        unfold actF
        rw [if_neg (by omega), Int.toNat_natCast, if_neg (by omega), if_pos rfl, show ρ.2 39 i - 2 = 4 from by omega, h40, Int.toNat_natCast, (aV_4_0 (ρ.2 9 k) x (ρ.2 41 i)).1, (aV_4_0 (ρ.2 9 k) x (ρ.2 41 i)).2, e13, e11, e9]
      rw [e9]
      exact ⟨rfl, ⟨sc, kn, hS13, hCl13⟩, hF13, hB13.le (by omega) (by omega)⟩)
          · refine S_aload_n dX8_act_41 rfl ?_
            refine S_getP (o := some (16, 0)) fl_X8_43 dX8_act_42 rfl rfl (by rw [(show M.P (1, 0) 5 = some (16, 0) from congrFun hA.2.2 5)]) ?_
            refine S_iconst dX8_act_45 ?_
            refine S_putI fl_X8_256 dX8_act_46 rfl rfl rfl  (Or.inl rfl) ?_
            refine Sf.nm (fun M14 hM14 => ?_)
            obtain ⟨ρ15, e15⟩ : ∃ z9 : RS, z9 = (ρ.setS 44 0) := ⟨_, rfl⟩
            have hCl15 : Cl (Y.1, Y.2, sc, kn) ρ15 M14 := (by rw [e15, hM14]; exact hCl.tk0)
            have hS15 : StpOK sc kn ρ15 := (by rw [e15]; exact hS)
            have hF15 : Fr CLs M M14 := (by rw [hM14]; exact hF0.trans (Fr.pI 16 0 (by decide)))
            have hB15 : Bg 0 0 M M14 := (by rw [hM14]; exact (hB0.trans (Bg.pI _ _ _ _)).le (by omega) (by omega))
            have s4_15 : ρ15.1 4 = ρ.1 4 := (by rw [e15, RS.setS_ne (by decide)])
            have s30_15 : ρ15.1 30 = ρ.1 30 := (by rw [e15, RS.setS_ne (by decide)])
            have t_15 : thN ρ15 = thN ρ := by rw [e15]; rfl
            clear hA hB hC hD hE hN hG hH hI hJ hK hL
            obtain ⟨hA, hB, hC, hD, hE, hN, hG, hH, hI, hJ, hK, hL⟩ := id hCl15
            have hO1 : M14.P (15, i) 0 = some (19, n) := by rw [hM14, Mem.putI_P]; exact congrFun hOb.2.2 0
            have hSk1 : Sk M14 n fr p ↑k (ρ.2 41 i) (ρ.2 9 k) := by rw [hM14]; exact Obj.fr hSk (Fr.pI (cs := [16]) 16 0 (by decide)) (show 19 ∉ [16] by decide)
            have hk9 : M14.I (19, n) 0 = 4 := congrFun hSk1.2.1 0
            have hv9 : M14.I (19, n) 1 = ρ.2 9 k := congrFun hSk1.2.1 1
            have ht9 : M14.I (19, n) 11 = ρ.2 41 i := congrFun hSk1.2.1 11
            have h449 : ρ15.1 44 = ↑0 := (by rw [e15, RS.setS_eq])
            refine S_aload_n dX8_act_49 rfl ?_
            refine S_aload_n dX8_act_50 rfl ?_
            refine S_getP (o := some (16, 0)) fl_X8_43 dX8_act_51 rfl rfl (by rw [(show M14.P (1, 0) 5 = some (16, 0) from congrFun hA.2.2 5)]) ?_
            refine S_aload dX8_act_54 rfl ?_
            refine S_getP (o := some (19, n)) fl_X8_278 dX8_act_56 rfl rfl (by rw [hO1]) ?_
            refine S_aload dX8_act_59 rfl ?_
            refine S_getP (o := some (19, n)) fl_X8_278 dX8_act_61 rfl rfl (by rw [hO1]) ?_
            refine S_getI (v := 4) fl_X8_281_s dX8_act_64 rfl rfl (by rw [hk9]) ?_
            refine S_iload_n dX8_act_67 rfl ?_
            refine S_iload_n dX8_act_68 rfl ?_
            refine S_iconst dX8_act_69 ?_
            refine S_callS (mi := mi_X8_act) [vR ((16, 0)), vR ((19, n)), vI 4, vI 1, vI x, vI 0] (okD_X8_run 6) ml_X8_284 dX8_act_70 (by decide) rfl (Nat.le_of_ble_eq_true rfl) rfl (c_run_4_4_1 (G := G) (show Cs Y ρ15 M14 from ⟨sc, kn, hS15, hCl15⟩) 0 h449 (by decide) n (ρ.2 9 k) hk9 hv9 (ρ.2 41 i) ht9 x 0 (by omega)) ?_
            rintro v' M16 ⟨rfl, hCs16, hF16', hB16'⟩
            obtain ⟨ρ17, e17⟩ : ∃ z9 : RS, z9 = (ranL ρ15 0 ([11, 10])) := ⟨_, rfl⟩
            rw [← e17] at hCs16
            obtain ⟨sc, kn, hS17, hCl17⟩ := hCs16
            have hF17 : Fr CLs M M16 := hF15.trans (hF16'.mono (fun c hc => by revert c; decide))
            have hB17 : Bg 0 0 M M16 := (hB15.trans hB16').le (by omega) (by omega)
            clear hA hB hC hD hE hN hG hH hI hJ hK hL hCl15 hS15 hF15 hB15
            obtain ⟨hA, hB, hC, hD, hE, hN, hG, hH, hI, hJ, hK, hL⟩ := id hCl17
            refine S_callV (mi := mi_X8_act) [vI ((x + (ρ.2 9 k)) * 3)] ok_X8_done ml_X8_69 dX8_act_73 rfl (by decide) rfl (by decide) rfl (Nat.le_of_ble_eq_true rfl) rfl (c_done (show Cs Y ρ17 M16 from ⟨sc, kn, hS17, hCl17⟩) ((x + (ρ.2 9 k)) * 3)) ?_
            rintro v' M18 ⟨rfl, hCs18, hF18', hB18'⟩
            obtain ⟨ρ19, e19⟩ : ∃ z9 : RS, z9 = (ρ17.setS 42 0) := ⟨_, rfl⟩
            rw [← e19] at hCs18
            obtain ⟨sc, kn, hS19, hCl19⟩ := hCs18
            have hF19 : Fr CLs M M18 := hF17.trans hF18'
            have hB19 : Bg 0 0 M M18 := (hB17.trans hB18').le (by omega) (by omega)
            have t_19 : thN ρ19 = thN ρ17 := by rw [e19]; rfl
            clear hA hB hC hD hE hN hG hH hI hJ hK hL hCl17 hS17 hF17 hB17
            obtain ⟨hA, hB, hC, hD, hE, hN, hG, hH, hI, hJ, hK, hL⟩ := id hCl19
            exact S_iret dX8_act_76 rfl (Or.inl rfl) (by
      have e9 : actF ρ (↑i) 1 x = (((x + (ρ.2 9 k)) * 3 : Int), ρ19) := by
        unfold actF
        rw [if_neg (by omega), Int.toNat_natCast, if_neg (by omega), if_neg (by decide), if_pos rfl, show ρ.2 39 i - 2 = 4 from by omega, h40, Int.toNat_natCast, (aV_4_1 (ρ.2 9 k) x (ρ.2 41 i)).1, (aV_4_1 (ρ.2 9 k) x (ρ.2 41 i)).2, e19, e17, e15]
      rw [e9]
      exact ⟨rfl, ⟨sc, kn, hS19, hCl19⟩, hF19, hB19.le (by omega) (by omega)⟩)
          · refine S_aload_n dX8_act_41 rfl ?_
            refine S_getP (o := some (16, 0)) fl_X8_43 dX8_act_42 rfl rfl (by rw [(show M.P (1, 0) 5 = some (16, 0) from congrFun hA.2.2 5)]) ?_
            refine S_iconst dX8_act_45 ?_
            refine S_putI fl_X8_256 dX8_act_46 rfl rfl rfl  (Or.inl rfl) ?_
            refine Sf.nm (fun M20 hM20 => ?_)
            obtain ⟨ρ21, e21⟩ : ∃ z9 : RS, z9 = (ρ.setS 44 0) := ⟨_, rfl⟩
            have hCl21 : Cl (Y.1, Y.2, sc, kn) ρ21 M20 := (by rw [e21, hM20]; exact hCl.tk0)
            have hS21 : StpOK sc kn ρ21 := (by rw [e21]; exact hS)
            have hF21 : Fr CLs M M20 := (by rw [hM20]; exact hF0.trans (Fr.pI 16 0 (by decide)))
            have hB21 : Bg 0 0 M M20 := (by rw [hM20]; exact (hB0.trans (Bg.pI _ _ _ _)).le (by omega) (by omega))
            have s4_21 : ρ21.1 4 = ρ.1 4 := (by rw [e21, RS.setS_ne (by decide)])
            have s30_21 : ρ21.1 30 = ρ.1 30 := (by rw [e21, RS.setS_ne (by decide)])
            have t_21 : thN ρ21 = thN ρ := by rw [e21]; rfl
            clear hA hB hC hD hE hN hG hH hI hJ hK hL
            obtain ⟨hA, hB, hC, hD, hE, hN, hG, hH, hI, hJ, hK, hL⟩ := id hCl21
            have hO1 : M20.P (15, i) 0 = some (19, n) := by rw [hM20, Mem.putI_P]; exact congrFun hOb.2.2 0
            have hSk1 : Sk M20 n fr p ↑k (ρ.2 41 i) (ρ.2 9 k) := by rw [hM20]; exact Obj.fr hSk (Fr.pI (cs := [16]) 16 0 (by decide)) (show 19 ∉ [16] by decide)
            have hk9 : M20.I (19, n) 0 = 4 := congrFun hSk1.2.1 0
            have hv9 : M20.I (19, n) 1 = ρ.2 9 k := congrFun hSk1.2.1 1
            have ht9 : M20.I (19, n) 11 = ρ.2 41 i := congrFun hSk1.2.1 11
            have h449 : ρ21.1 44 = ↑0 := (by rw [e21, RS.setS_eq])
            refine S_aload_n dX8_act_49 rfl ?_
            refine S_aload_n dX8_act_50 rfl ?_
            refine S_getP (o := some (16, 0)) fl_X8_43 dX8_act_51 rfl rfl (by rw [(show M20.P (1, 0) 5 = some (16, 0) from congrFun hA.2.2 5)]) ?_
            refine S_aload dX8_act_54 rfl ?_
            refine S_getP (o := some (19, n)) fl_X8_278 dX8_act_56 rfl rfl (by rw [hO1]) ?_
            refine S_aload dX8_act_59 rfl ?_
            refine S_getP (o := some (19, n)) fl_X8_278 dX8_act_61 rfl rfl (by rw [hO1]) ?_
            refine S_getI (v := 4) fl_X8_281_s dX8_act_64 rfl rfl (by rw [hk9]) ?_
            refine S_iload_n dX8_act_67 rfl ?_
            refine S_iload_n dX8_act_68 rfl ?_
            refine S_iconst dX8_act_69 ?_
            refine S_callS (mi := mi_X8_act) [vR ((16, 0)), vR ((19, n)), vI 4, vI 2, vI x, vI 0] (okD_X8_run 8) ml_X8_284 dX8_act_70 (by decide) rfl (Nat.le_of_ble_eq_true rfl) rfl (c_run_4_4_2 (G := G) (show Cs Y ρ21 M20 from ⟨sc, kn, hS21, hCl21⟩) 0 h449 (by decide) n (ρ.2 9 k) hk9 hv9 (ρ.2 41 i) ht9 x 0 (by omega)) ?_
            rintro v' M22 ⟨rfl, hCs22, hF22', hB22'⟩
            obtain ⟨ρ23, e23⟩ : ∃ z9 : RS, z9 = (ranL ρ21 0 ([50, 12, 11, 10, 13])) := ⟨_, rfl⟩
            rw [← e23] at hCs22
            obtain ⟨sc, kn, hS23, hCl23⟩ := hCs22
            have hF23 : Fr CLs M M22 := hF21.trans (hF22'.mono (fun c hc => by revert c; decide))
            have hB23 : Bg 0 0 M M22 := (hB21.trans hB22').le (by omega) (by omega)
            clear hA hB hC hD hE hN hG hH hI hJ hK hL hCl21 hS21 hF21 hB21
            obtain ⟨hA, hB, hC, hD, hE, hN, hG, hH, hI, hJ, hK, hL⟩ := id hCl23
            refine S_callV (mi := mi_X8_act) [vI ((((x + (ρ.2 9 k)) * 3) - ((jI x ^^^ jI (ρ.2 9 k)).toInt)) + (ρ.2 41 i))] ok_X8_done ml_X8_69 dX8_act_73 rfl (by decide) rfl (by decide) rfl (Nat.le_of_ble_eq_true rfl) rfl (c_done (show Cs Y ρ23 M22 from ⟨sc, kn, hS23, hCl23⟩) ((((x + (ρ.2 9 k)) * 3) - ((jI x ^^^ jI (ρ.2 9 k)).toInt)) + (ρ.2 41 i))) ?_
            rintro v' M24 ⟨rfl, hCs24, hF24', hB24'⟩
            obtain ⟨ρ25, e25⟩ : ∃ z9 : RS, z9 = (ρ23.setS 42 0) := ⟨_, rfl⟩
            rw [← e25] at hCs24
            obtain ⟨sc, kn, hS25, hCl25⟩ := hCs24
            have hF25 : Fr CLs M M24 := hF23.trans hF24'
            have hB25 : Bg 0 0 M M24 := (hB23.trans hB24').le (by omega) (by omega)
            have t_25 : thN ρ25 = thN ρ23 := by rw [e25]; rfl
            clear hA hB hC hD hE hN hG hH hI hJ hK hL hCl23 hS23 hF23 hB23
            obtain ⟨hA, hB, hC, hD, hE, hN, hG, hH, hI, hJ, hK, hL⟩ := id hCl25
            exact S_iret dX8_act_76 rfl (Or.inl rfl) (by
      have e9 : actF ρ (↑i) 2 x = (((((x + (ρ.2 9 k)) * 3) - ((jI x ^^^ jI (ρ.2 9 k)).toInt)) + (ρ.2 41 i) : Int), ρ25) := by
        unfold actF
        rw [if_neg (by omega), Int.toNat_natCast, if_neg (by omega), if_neg (by decide), if_neg (by decide), if_pos rfl, show ρ.2 39 i - 2 = 4 from by omega, h40, Int.toNat_natCast, (aV_4_2 (ρ.2 9 k) x (ρ.2 41 i)).1, (aV_4_2 (ρ.2 9 k) x (ρ.2 41 i)).2, e25, e23, e21]
      rw [e9]
      exact ⟨rfl, ⟨sc, kn, hS25, hCl25⟩, hF25, hB25.le (by omega) (by omega)⟩)
          · refine S_aload_n dX8_act_41 rfl ?_
            refine S_getP (o := some (16, 0)) fl_X8_43 dX8_act_42 rfl rfl (by rw [(show M.P (1, 0) 5 = some (16, 0) from congrFun hA.2.2 5)]) ?_
            refine S_iconst dX8_act_45 ?_
            refine S_putI fl_X8_256 dX8_act_46 rfl rfl rfl  (Or.inl rfl) ?_
            refine Sf.nm (fun M26 hM26 => ?_)
            obtain ⟨ρ27, e27⟩ : ∃ z9 : RS, z9 = (ρ.setS 44 0) := ⟨_, rfl⟩
            have hCl27 : Cl (Y.1, Y.2, sc, kn) ρ27 M26 := (by rw [e27, hM26]; exact hCl.tk0)
            have hS27 : StpOK sc kn ρ27 := (by rw [e27]; exact hS)
            have hF27 : Fr CLs M M26 := (by rw [hM26]; exact hF0.trans (Fr.pI 16 0 (by decide)))
            have hB27 : Bg 0 0 M M26 := (by rw [hM26]; exact (hB0.trans (Bg.pI _ _ _ _)).le (by omega) (by omega))
            have s4_27 : ρ27.1 4 = ρ.1 4 := (by rw [e27, RS.setS_ne (by decide)])
            have s30_27 : ρ27.1 30 = ρ.1 30 := (by rw [e27, RS.setS_ne (by decide)])
            have t_27 : thN ρ27 = thN ρ := by rw [e27]; rfl
            clear hA hB hC hD hE hN hG hH hI hJ hK hL
            obtain ⟨hA, hB, hC, hD, hE, hN, hG, hH, hI, hJ, hK, hL⟩ := id hCl27
            have hO1 : M26.P (15, i) 0 = some (19, n) := by rw [hM26, Mem.putI_P]; exact congrFun hOb.2.2 0
            have hSk1 : Sk M26 n fr p ↑k (ρ.2 41 i) (ρ.2 9 k) := by rw [hM26]; exact Obj.fr hSk (Fr.pI (cs := [16]) 16 0 (by decide)) (show 19 ∉ [16] by decide)
            have hk9 : M26.I (19, n) 0 = 4 := congrFun hSk1.2.1 0
            have hv9 : M26.I (19, n) 1 = ρ.2 9 k := congrFun hSk1.2.1 1
            have ht9 : M26.I (19, n) 11 = ρ.2 41 i := congrFun hSk1.2.1 11
            have h449 : ρ27.1 44 = ↑0 := (by rw [e27, RS.setS_eq])
            refine S_aload_n dX8_act_49 rfl ?_
            refine S_aload_n dX8_act_50 rfl ?_
            refine S_getP (o := some (16, 0)) fl_X8_43 dX8_act_51 rfl rfl (by rw [(show M26.P (1, 0) 5 = some (16, 0) from congrFun hA.2.2 5)]) ?_
            refine S_aload dX8_act_54 rfl ?_
            refine S_getP (o := some (19, n)) fl_X8_278 dX8_act_56 rfl rfl (by rw [hO1]) ?_
            refine S_aload dX8_act_59 rfl ?_
            refine S_getP (o := some (19, n)) fl_X8_278 dX8_act_61 rfl rfl (by rw [hO1]) ?_
            refine S_getI (v := 4) fl_X8_281_s dX8_act_64 rfl rfl (by rw [hk9]) ?_
            refine S_iload_n dX8_act_67 rfl ?_
            refine S_iload_n dX8_act_68 rfl ?_
            refine S_iconst dX8_act_69 ?_
            refine S_callS (mi := mi_X8_act) [vR ((16, 0)), vR ((19, n)), vI 4, vI 3, vI x, vI 0] (okD_X8_run 5) ml_X8_284 dX8_act_70 (by decide) rfl (Nat.le_of_ble_eq_true rfl) rfl (c_run_4_4_3 (G := G) (show Cs Y ρ27 M26 from ⟨sc, kn, hS27, hCl27⟩) 0 h449 (by decide) n (ρ.2 9 k) hk9 hv9 (ρ.2 41 i) ht9 x 0 (by omega)) ?_
            rintro v' M28 ⟨rfl, hCs28, hF28', hB28'⟩
            obtain ⟨ρ29, e29⟩ : ∃ z9 : RS, z9 = (ranL ρ27 0 ([13])) := ⟨_, rfl⟩
            rw [← e29] at hCs28
            obtain ⟨sc, kn, hS29, hCl29⟩ := hCs28
            have hF29 : Fr CLs M M28 := hF27.trans (hF28'.mono (fun c hc => by revert c; decide))
            have hB29 : Bg 0 0 M M28 := (hB27.trans hB28').le (by omega) (by omega)
            clear hA hB hC hD hE hN hG hH hI hJ hK hL hCl27 hS27 hF27 hB27
            obtain ⟨hA, hB, hC, hD, hE, hN, hG, hH, hI, hJ, hK, hL⟩ := id hCl29
            refine S_callV (mi := mi_X8_act) [vI ((jI x ^^^ jI (ρ.2 9 k)).toInt)] ok_X8_done ml_X8_69 dX8_act_73 rfl (by decide) rfl (by decide) rfl (Nat.le_of_ble_eq_true rfl) rfl (c_done (show Cs Y ρ29 M28 from ⟨sc, kn, hS29, hCl29⟩) ((jI x ^^^ jI (ρ.2 9 k)).toInt)) ?_
            rintro v' M30 ⟨rfl, hCs30, hF30', hB30'⟩
            obtain ⟨ρ31, e31⟩ : ∃ z9 : RS, z9 = (ρ29.setS 42 0) := ⟨_, rfl⟩
            rw [← e31] at hCs30
            obtain ⟨sc, kn, hS31, hCl31⟩ := hCs30
            have hF31 : Fr CLs M M30 := hF29.trans hF30'
            have hB31 : Bg 0 0 M M30 := (hB29.trans hB30').le (by omega) (by omega)
            have t_31 : thN ρ31 = thN ρ29 := by rw [e31]; rfl
            clear hA hB hC hD hE hN hG hH hI hJ hK hL hCl29 hS29 hF29 hB29
            obtain ⟨hA, hB, hC, hD, hE, hN, hG, hH, hI, hJ, hK, hL⟩ := id hCl31
            exact S_iret dX8_act_76 rfl (Or.inl rfl) (by
      have e9 : actF ρ (↑i) 3 x = (((jI x ^^^ jI (ρ.2 9 k)).toInt : Int), ρ31) := by
        unfold actF
        rw [if_neg (by omega), Int.toNat_natCast, if_neg (by omega), if_neg (by decide), if_neg (by decide), if_neg (by decide), show ρ.2 39 i - 2 = 4 from by omega, h40, Int.toNat_natCast, (aV_4_3 (ρ.2 9 k) x (ρ.2 41 i)).1, (aV_4_3 (ρ.2 9 k) x (ρ.2 41 i)).2, e31, e29, e27]
      rw [e9]
      exact ⟨rfl, ⟨sc, kn, hS31, hCl31⟩, hF31, hB31.le (by omega) (by omega)⟩)
        · have hk4 : ρ.2 6 t2 = 0 ∨ ρ.2 6 t2 = 1 ∨ ρ.2 6 t2 = 2 ∨ ρ.2 6 t2 = 3 := by
            have q := hTI.2.2.1 t2 ht2
            have q2 := (hTr i hi8).1
            unfold Kfm at q
            omega
          refine S_getP (o := some (18, t2)) fl_X8_278 dX8_act_29 rfl rfl (by rw [(show M.P (15, i) 0 = some (18, t2) from congrFun hOb.2.2 0)]) ?_
          refine S_ifnonnull 41 dX8_act_32 (by decide) (fun c_32 => ?_) (fun c_32 => absurd c_32 (by simp))
          rcases (show a9 = 0 ∨ a9 = 1 ∨ a9 = 2 ∨ a9 = 3 by omega) with rfl | rfl | rfl | rfl <;> rcases hk4 with hk4 | hk4 | hk4 | hk4
          · refine S_aload_n dX8_act_41 rfl ?_
            refine S_getP (o := some (16, 0)) fl_X8_43 dX8_act_42 rfl rfl (by rw [(show M.P (1, 0) 5 = some (16, 0) from congrFun hA.2.2 5)]) ?_
            refine S_iconst dX8_act_45 ?_
            refine S_putI fl_X8_256 dX8_act_46 rfl rfl rfl  (Or.inl rfl) ?_
            refine Sf.nm (fun M32 hM32 => ?_)
            obtain ⟨ρ33, e33⟩ : ∃ z9 : RS, z9 = (ρ.setS 44 0) := ⟨_, rfl⟩
            have hCl33 : Cl (Y.1, Y.2, sc, kn) ρ33 M32 := (by rw [e33, hM32]; exact hCl.tk0)
            have hS33 : StpOK sc kn ρ33 := (by rw [e33]; exact hS)
            have hF33 : Fr CLs M M32 := (by rw [hM32]; exact hF0.trans (Fr.pI 16 0 (by decide)))
            have hB33 : Bg 0 0 M M32 := (by rw [hM32]; exact (hB0.trans (Bg.pI _ _ _ _)).le (by omega) (by omega))
            have s4_33 : ρ33.1 4 = ρ.1 4 := (by rw [e33, RS.setS_ne (by decide)])
            have s30_33 : ρ33.1 30 = ρ.1 30 := (by rw [e33, RS.setS_ne (by decide)])
            have t_33 : thN ρ33 = thN ρ := by rw [e33]; rfl
            clear hA hB hC hD hE hN hG hH hI hJ hK hL
            obtain ⟨hA, hB, hC, hD, hE, hN, hG, hH, hI, hJ, hK, hL⟩ := id hCl33
            have hO1 : M32.P (15, i) 0 = some (18, t2) := by rw [hM32, Mem.putI_P]; exact congrFun hOb.2.2 0
            have hk9 : M32.I (18, t2) 0 = 0 := (congrFun (hD.1 t2 (by omega)).2.1 0).trans (show ρ33.2 6 t2 = 0 from (by rw [e33, RS.setS_a, hk4]))
            have hv9 : M32.I (18, t2) 1 = ρ.2 9 t2 := (congrFun (hD.1 t2 (by omega)).2.1 1).trans (show ρ33.2 9 t2 = ρ.2 9 t2 from (by rw [e33, RS.setS_a]))
            have h449 : ρ33.1 44 = ↑0 := (by rw [e33, RS.setS_eq])
            refine S_aload_n dX8_act_49 rfl ?_
            refine S_aload_n dX8_act_50 rfl ?_
            refine S_getP (o := some (16, 0)) fl_X8_43 dX8_act_51 rfl rfl (by rw [(show M32.P (1, 0) 5 = some (16, 0) from congrFun hA.2.2 5)]) ?_
            refine S_aload dX8_act_54 rfl ?_
            refine S_getP (o := some (18, t2)) fl_X8_278 dX8_act_56 rfl rfl (by rw [hO1]) ?_
            refine S_aload dX8_act_59 rfl ?_
            refine S_getP (o := some (18, t2)) fl_X8_278 dX8_act_61 rfl rfl (by rw [hO1]) ?_
            refine S_getI (v := 0) fl_X8_281 dX8_act_64 rfl rfl (by rw [hk9]) ?_
            refine S_iload_n dX8_act_67 rfl ?_
            refine S_iload_n dX8_act_68 rfl ?_
            refine S_iconst dX8_act_69 ?_
            refine S_callS (mi := mi_X8_act) [vR ((16, 0)), vR ((18, t2)), vI 0, vI 0, vI x, vI 0] (okD_X8_run 5) ml_X8_284 dX8_act_70 (by decide) rfl (Nat.le_of_ble_eq_true rfl) rfl (c_run_0_0_0 (G := G) (show Cs Y ρ33 M32 from ⟨sc, kn, hS33, hCl33⟩) 0 h449 (by decide) t2 (ρ.2 9 t2) hk9 hv9 x 0 (by omega)) ?_
            rintro v' M34 ⟨rfl, hCs34, hF34', hB34'⟩
            obtain ⟨ρ35, e35⟩ : ∃ z9 : RS, z9 = (ranL ρ33 0 ([10])) := ⟨_, rfl⟩
            rw [← e35] at hCs34
            obtain ⟨sc, kn, hS35, hCl35⟩ := hCs34
            have hF35 : Fr CLs M M34 := hF33.trans (hF34'.mono (fun c hc => by revert c; decide))
            have hB35 : Bg 0 0 M M34 := (hB33.trans hB34').le (by omega) (by omega)
            clear hA hB hC hD hE hN hG hH hI hJ hK hL hCl33 hS33 hF33 hB33
            obtain ⟨hA, hB, hC, hD, hE, hN, hG, hH, hI, hJ, hK, hL⟩ := id hCl35
            refine S_callV (mi := mi_X8_act) [vI (x + (ρ.2 9 t2))] ok_X8_done ml_X8_69 dX8_act_73 rfl (by decide) rfl (by decide) rfl (Nat.le_of_ble_eq_true rfl) rfl (c_done (show Cs Y ρ35 M34 from ⟨sc, kn, hS35, hCl35⟩) (x + (ρ.2 9 t2))) ?_
            rintro v' M36 ⟨rfl, hCs36, hF36', hB36'⟩
            obtain ⟨ρ37, e37⟩ : ∃ z9 : RS, z9 = (ρ35.setS 42 0) := ⟨_, rfl⟩
            rw [← e37] at hCs36
            obtain ⟨sc, kn, hS37, hCl37⟩ := hCs36
            have hF37 : Fr CLs M M36 := hF35.trans hF36'
            have hB37 : Bg 0 0 M M36 := (hB35.trans hB36').le (by omega) (by omega)
            have t_37 : thN ρ37 = thN ρ35 := by rw [e37]; rfl
            clear hA hB hC hD hE hN hG hH hI hJ hK hL hCl35 hS35 hF35 hB35
            obtain ⟨hA, hB, hC, hD, hE, hN, hG, hH, hI, hJ, hK, hL⟩ := id hCl37
            exact S_iret dX8_act_76 rfl (Or.inl rfl) (by
      have e9 : actF ρ (↑i) 0 x = ((x + (ρ.2 9 t2) : Int), ρ37) := by
        unfold actF
        rw [if_neg (by omega), Int.toNat_natCast, if_neg (by omega), if_pos rfl, show ρ.2 39 i - 2 = 0 from by omega, h40, Int.toNat_natCast, (aV_0_0 (ρ.2 9 t2) x (ρ.2 41 i)).1, (aV_0_0 (ρ.2 9 t2) x (ρ.2 41 i)).2, e37, e35, e33]
      rw [e9]
      exact ⟨rfl, ⟨sc, kn, hS37, hCl37⟩, hF37, hB37.le (by omega) (by omega)⟩)
          · refine S_aload_n dX8_act_41 rfl ?_
            refine S_getP (o := some (16, 0)) fl_X8_43 dX8_act_42 rfl rfl (by rw [(show M.P (1, 0) 5 = some (16, 0) from congrFun hA.2.2 5)]) ?_
            refine S_iconst dX8_act_45 ?_
            refine S_putI fl_X8_256 dX8_act_46 rfl rfl rfl  (Or.inl rfl) ?_
            refine Sf.nm (fun M38 hM38 => ?_)
            obtain ⟨ρ39, e39⟩ : ∃ z9 : RS, z9 = (ρ.setS 44 0) := ⟨_, rfl⟩
            have hCl39 : Cl (Y.1, Y.2, sc, kn) ρ39 M38 := (by rw [e39, hM38]; exact hCl.tk0)
            have hS39 : StpOK sc kn ρ39 := (by rw [e39]; exact hS)
            have hF39 : Fr CLs M M38 := (by rw [hM38]; exact hF0.trans (Fr.pI 16 0 (by decide)))
            have hB39 : Bg 0 0 M M38 := (by rw [hM38]; exact (hB0.trans (Bg.pI _ _ _ _)).le (by omega) (by omega))
            have s4_39 : ρ39.1 4 = ρ.1 4 := (by rw [e39, RS.setS_ne (by decide)])
            have s30_39 : ρ39.1 30 = ρ.1 30 := (by rw [e39, RS.setS_ne (by decide)])
            have t_39 : thN ρ39 = thN ρ := by rw [e39]; rfl
            clear hA hB hC hD hE hN hG hH hI hJ hK hL
            obtain ⟨hA, hB, hC, hD, hE, hN, hG, hH, hI, hJ, hK, hL⟩ := id hCl39
            have hO1 : M38.P (15, i) 0 = some (18, t2) := by rw [hM38, Mem.putI_P]; exact congrFun hOb.2.2 0
            have hk9 : M38.I (18, t2) 0 = 1 := (congrFun (hD.1 t2 (by omega)).2.1 0).trans (show ρ39.2 6 t2 = 1 from (by rw [e39, RS.setS_a, hk4]))
            have hv9 : M38.I (18, t2) 1 = ρ.2 9 t2 := (congrFun (hD.1 t2 (by omega)).2.1 1).trans (show ρ39.2 9 t2 = ρ.2 9 t2 from (by rw [e39, RS.setS_a]))
            have h449 : ρ39.1 44 = ↑0 := (by rw [e39, RS.setS_eq])
            refine S_aload_n dX8_act_49 rfl ?_
            refine S_aload_n dX8_act_50 rfl ?_
            refine S_getP (o := some (16, 0)) fl_X8_43 dX8_act_51 rfl rfl (by rw [(show M38.P (1, 0) 5 = some (16, 0) from congrFun hA.2.2 5)]) ?_
            refine S_aload dX8_act_54 rfl ?_
            refine S_getP (o := some (18, t2)) fl_X8_278 dX8_act_56 rfl rfl (by rw [hO1]) ?_
            refine S_aload dX8_act_59 rfl ?_
            refine S_getP (o := some (18, t2)) fl_X8_278 dX8_act_61 rfl rfl (by rw [hO1]) ?_
            refine S_getI (v := 1) fl_X8_281 dX8_act_64 rfl rfl (by rw [hk9]) ?_
            refine S_iload_n dX8_act_67 rfl ?_
            refine S_iload_n dX8_act_68 rfl ?_
            refine S_iconst dX8_act_69 ?_
            refine S_callS (mi := mi_X8_act) [vR ((16, 0)), vR ((18, t2)), vI 1, vI 0, vI x, vI 0] (okD_X8_run 6) ml_X8_284 dX8_act_70 (by decide) rfl (Nat.le_of_ble_eq_true rfl) rfl (c_run_1_1_0 (G := G) (show Cs Y ρ39 M38 from ⟨sc, kn, hS39, hCl39⟩) 0 h449 (by decide) t2 (ρ.2 9 t2) hk9 hv9 x 0 (by omega)) ?_
            rintro v' M40 ⟨rfl, hCs40, hF40', hB40'⟩
            obtain ⟨ρ41, e41⟩ : ∃ z9 : RS, z9 = (ranL ρ39 0 ([20, 10])) := ⟨_, rfl⟩
            rw [← e41] at hCs40
            obtain ⟨sc, kn, hS41, hCl41⟩ := hCs40
            have hF41 : Fr CLs M M40 := hF39.trans (hF40'.mono (fun c hc => by revert c; decide))
            have hB41 : Bg 0 0 M M40 := (hB39.trans hB40').le (by omega) (by omega)
            clear hA hB hC hD hE hN hG hH hI hJ hK hL hCl39 hS39 hF39 hB39
            obtain ⟨hA, hB, hC, hD, hE, hN, hG, hH, hI, hJ, hK, hL⟩ := id hCl41
            refine S_callV (mi := mi_X8_act) [vI ((x + (ρ.2 9 t2)) * 2)] ok_X8_done ml_X8_69 dX8_act_73 rfl (by decide) rfl (by decide) rfl (Nat.le_of_ble_eq_true rfl) rfl (c_done (show Cs Y ρ41 M40 from ⟨sc, kn, hS41, hCl41⟩) ((x + (ρ.2 9 t2)) * 2)) ?_
            rintro v' M42 ⟨rfl, hCs42, hF42', hB42'⟩
            obtain ⟨ρ43, e43⟩ : ∃ z9 : RS, z9 = (ρ41.setS 42 0) := ⟨_, rfl⟩
            rw [← e43] at hCs42
            obtain ⟨sc, kn, hS43, hCl43⟩ := hCs42
            have hF43 : Fr CLs M M42 := hF41.trans hF42'
            have hB43 : Bg 0 0 M M42 := (hB41.trans hB42').le (by omega) (by omega)
            have t_43 : thN ρ43 = thN ρ41 := by rw [e43]; rfl
            clear hA hB hC hD hE hN hG hH hI hJ hK hL hCl41 hS41 hF41 hB41
            obtain ⟨hA, hB, hC, hD, hE, hN, hG, hH, hI, hJ, hK, hL⟩ := id hCl43
            exact S_iret dX8_act_76 rfl (Or.inl rfl) (by
      have e9 : actF ρ (↑i) 0 x = (((x + (ρ.2 9 t2)) * 2 : Int), ρ43) := by
        unfold actF
        rw [if_neg (by omega), Int.toNat_natCast, if_neg (by omega), if_pos rfl, show ρ.2 39 i - 2 = 1 from by omega, h40, Int.toNat_natCast, (aV_1_0 (ρ.2 9 t2) x (ρ.2 41 i)).1, (aV_1_0 (ρ.2 9 t2) x (ρ.2 41 i)).2, e43, e41, e39]
      rw [e9]
      exact ⟨rfl, ⟨sc, kn, hS43, hCl43⟩, hF43, hB43.le (by omega) (by omega)⟩)
          · refine S_aload_n dX8_act_41 rfl ?_
            refine S_getP (o := some (16, 0)) fl_X8_43 dX8_act_42 rfl rfl (by rw [(show M.P (1, 0) 5 = some (16, 0) from congrFun hA.2.2 5)]) ?_
            refine S_iconst dX8_act_45 ?_
            refine S_putI fl_X8_256 dX8_act_46 rfl rfl rfl  (Or.inl rfl) ?_
            refine Sf.nm (fun M44 hM44 => ?_)
            obtain ⟨ρ45, e45⟩ : ∃ z9 : RS, z9 = (ρ.setS 44 0) := ⟨_, rfl⟩
            have hCl45 : Cl (Y.1, Y.2, sc, kn) ρ45 M44 := (by rw [e45, hM44]; exact hCl.tk0)
            have hS45 : StpOK sc kn ρ45 := (by rw [e45]; exact hS)
            have hF45 : Fr CLs M M44 := (by rw [hM44]; exact hF0.trans (Fr.pI 16 0 (by decide)))
            have hB45 : Bg 0 0 M M44 := (by rw [hM44]; exact (hB0.trans (Bg.pI _ _ _ _)).le (by omega) (by omega))
            have s4_45 : ρ45.1 4 = ρ.1 4 := (by rw [e45, RS.setS_ne (by decide)])
            have s30_45 : ρ45.1 30 = ρ.1 30 := (by rw [e45, RS.setS_ne (by decide)])
            have t_45 : thN ρ45 = thN ρ := by rw [e45]; rfl
            clear hA hB hC hD hE hN hG hH hI hJ hK hL
            obtain ⟨hA, hB, hC, hD, hE, hN, hG, hH, hI, hJ, hK, hL⟩ := id hCl45
            have hO1 : M44.P (15, i) 0 = some (18, t2) := by rw [hM44, Mem.putI_P]; exact congrFun hOb.2.2 0
            have hk9 : M44.I (18, t2) 0 = 2 := (congrFun (hD.1 t2 (by omega)).2.1 0).trans (show ρ45.2 6 t2 = 2 from (by rw [e45, RS.setS_a, hk4]))
            have hv9 : M44.I (18, t2) 1 = ρ.2 9 t2 := (congrFun (hD.1 t2 (by omega)).2.1 1).trans (show ρ45.2 9 t2 = ρ.2 9 t2 from (by rw [e45, RS.setS_a]))
            have h449 : ρ45.1 44 = ↑0 := (by rw [e45, RS.setS_eq])
            refine S_aload_n dX8_act_49 rfl ?_
            refine S_aload_n dX8_act_50 rfl ?_
            refine S_getP (o := some (16, 0)) fl_X8_43 dX8_act_51 rfl rfl (by rw [(show M44.P (1, 0) 5 = some (16, 0) from congrFun hA.2.2 5)]) ?_
            refine S_aload dX8_act_54 rfl ?_
            refine S_getP (o := some (18, t2)) fl_X8_278 dX8_act_56 rfl rfl (by rw [hO1]) ?_
            refine S_aload dX8_act_59 rfl ?_
            refine S_getP (o := some (18, t2)) fl_X8_278 dX8_act_61 rfl rfl (by rw [hO1]) ?_
            refine S_getI (v := 2) fl_X8_281 dX8_act_64 rfl rfl (by rw [hk9]) ?_
            refine S_iload_n dX8_act_67 rfl ?_
            refine S_iload_n dX8_act_68 rfl ?_
            refine S_iconst dX8_act_69 ?_
            refine S_callS (mi := mi_X8_act) [vR ((16, 0)), vR ((18, t2)), vI 2, vI 0, vI x, vI 0] (okD_X8_run 6) ml_X8_284 dX8_act_70 (by decide) rfl (Nat.le_of_ble_eq_true rfl) rfl (c_run_2_2_0 (G := G) (show Cs Y ρ45 M44 from ⟨sc, kn, hS45, hCl45⟩) 0 h449 (by decide) t2 (ρ.2 9 t2) hk9 hv9 x 0 (by omega)) ?_
            rintro v' M46 ⟨rfl, hCs46, hF46', hB46'⟩
            obtain ⟨ρ47, e47⟩ : ∃ z9 : RS, z9 = (ranL ρ45 0 ([20, 10])) := ⟨_, rfl⟩
            rw [← e47] at hCs46
            obtain ⟨sc, kn, hS47, hCl47⟩ := hCs46
            have hF47 : Fr CLs M M46 := hF45.trans (hF46'.mono (fun c hc => by revert c; decide))
            have hB47 : Bg 0 0 M M46 := (hB45.trans hB46').le (by omega) (by omega)
            clear hA hB hC hD hE hN hG hH hI hJ hK hL hCl45 hS45 hF45 hB45
            obtain ⟨hA, hB, hC, hD, hE, hN, hG, hH, hI, hJ, hK, hL⟩ := id hCl47
            refine S_callV (mi := mi_X8_act) [vI ((x + (ρ.2 9 t2)) * 2)] ok_X8_done ml_X8_69 dX8_act_73 rfl (by decide) rfl (by decide) rfl (Nat.le_of_ble_eq_true rfl) rfl (c_done (show Cs Y ρ47 M46 from ⟨sc, kn, hS47, hCl47⟩) ((x + (ρ.2 9 t2)) * 2)) ?_
            rintro v' M48 ⟨rfl, hCs48, hF48', hB48'⟩
            obtain ⟨ρ49, e49⟩ : ∃ z9 : RS, z9 = (ρ47.setS 42 0) := ⟨_, rfl⟩
            rw [← e49] at hCs48
            obtain ⟨sc, kn, hS49, hCl49⟩ := hCs48
            have hF49 : Fr CLs M M48 := hF47.trans hF48'
            have hB49 : Bg 0 0 M M48 := (hB47.trans hB48').le (by omega) (by omega)
            have t_49 : thN ρ49 = thN ρ47 := by rw [e49]; rfl
            clear hA hB hC hD hE hN hG hH hI hJ hK hL hCl47 hS47 hF47 hB47
            obtain ⟨hA, hB, hC, hD, hE, hN, hG, hH, hI, hJ, hK, hL⟩ := id hCl49
            exact S_iret dX8_act_76 rfl (Or.inl rfl) (by
      have e9 : actF ρ (↑i) 0 x = (((x + (ρ.2 9 t2)) * 2 : Int), ρ49) := by
        unfold actF
        rw [if_neg (by omega), Int.toNat_natCast, if_neg (by omega), if_pos rfl, show ρ.2 39 i - 2 = 2 from by omega, h40, Int.toNat_natCast, (aV_2_0 (ρ.2 9 t2) x (ρ.2 41 i)).1, (aV_2_0 (ρ.2 9 t2) x (ρ.2 41 i)).2, e49, e47, e45]
      rw [e9]
      exact ⟨rfl, ⟨sc, kn, hS49, hCl49⟩, hF49, hB49.le (by omega) (by omega)⟩)
          · refine S_aload_n dX8_act_41 rfl ?_
            refine S_getP (o := some (16, 0)) fl_X8_43 dX8_act_42 rfl rfl (by rw [(show M.P (1, 0) 5 = some (16, 0) from congrFun hA.2.2 5)]) ?_
            refine S_iconst dX8_act_45 ?_
            refine S_putI fl_X8_256 dX8_act_46 rfl rfl rfl  (Or.inl rfl) ?_
            refine Sf.nm (fun M50 hM50 => ?_)
            obtain ⟨ρ51, e51⟩ : ∃ z9 : RS, z9 = (ρ.setS 44 0) := ⟨_, rfl⟩
            have hCl51 : Cl (Y.1, Y.2, sc, kn) ρ51 M50 := (by rw [e51, hM50]; exact hCl.tk0)
            have hS51 : StpOK sc kn ρ51 := (by rw [e51]; exact hS)
            have hF51 : Fr CLs M M50 := (by rw [hM50]; exact hF0.trans (Fr.pI 16 0 (by decide)))
            have hB51 : Bg 0 0 M M50 := (by rw [hM50]; exact (hB0.trans (Bg.pI _ _ _ _)).le (by omega) (by omega))
            have s4_51 : ρ51.1 4 = ρ.1 4 := (by rw [e51, RS.setS_ne (by decide)])
            have s30_51 : ρ51.1 30 = ρ.1 30 := (by rw [e51, RS.setS_ne (by decide)])
            have t_51 : thN ρ51 = thN ρ := by rw [e51]; rfl
            clear hA hB hC hD hE hN hG hH hI hJ hK hL
            obtain ⟨hA, hB, hC, hD, hE, hN, hG, hH, hI, hJ, hK, hL⟩ := id hCl51
            have hO1 : M50.P (15, i) 0 = some (18, t2) := by rw [hM50, Mem.putI_P]; exact congrFun hOb.2.2 0
            have hk9 : M50.I (18, t2) 0 = 3 := (congrFun (hD.1 t2 (by omega)).2.1 0).trans (show ρ51.2 6 t2 = 3 from (by rw [e51, RS.setS_a, hk4]))
            have hv9 : M50.I (18, t2) 1 = ρ.2 9 t2 := (congrFun (hD.1 t2 (by omega)).2.1 1).trans (show ρ51.2 9 t2 = ρ.2 9 t2 from (by rw [e51, RS.setS_a]))
            have h449 : ρ51.1 44 = ↑0 := (by rw [e51, RS.setS_eq])
            refine S_aload_n dX8_act_49 rfl ?_
            refine S_aload_n dX8_act_50 rfl ?_
            refine S_getP (o := some (16, 0)) fl_X8_43 dX8_act_51 rfl rfl (by rw [(show M50.P (1, 0) 5 = some (16, 0) from congrFun hA.2.2 5)]) ?_
            refine S_aload dX8_act_54 rfl ?_
            refine S_getP (o := some (18, t2)) fl_X8_278 dX8_act_56 rfl rfl (by rw [hO1]) ?_
            refine S_aload dX8_act_59 rfl ?_
            refine S_getP (o := some (18, t2)) fl_X8_278 dX8_act_61 rfl rfl (by rw [hO1]) ?_
            refine S_getI (v := 3) fl_X8_281 dX8_act_64 rfl rfl (by rw [hk9]) ?_
            refine S_iload_n dX8_act_67 rfl ?_
            refine S_iload_n dX8_act_68 rfl ?_
            refine S_iconst dX8_act_69 ?_
            refine S_callS (mi := mi_X8_act) [vR ((16, 0)), vR ((18, t2)), vI 3, vI 0, vI x, vI 0] (okD_X8_run 5) ml_X8_284 dX8_act_70 (by decide) rfl (Nat.le_of_ble_eq_true rfl) rfl (c_run_3_3_0 (G := G) (show Cs Y ρ51 M50 from ⟨sc, kn, hS51, hCl51⟩) 0 h449 (by decide) t2 (ρ.2 9 t2) hk9 hv9 x 0 (by omega)) ?_
            rintro v' M52 ⟨rfl, hCs52, hF52', hB52'⟩
            obtain ⟨ρ53, e53⟩ : ∃ z9 : RS, z9 = (ranL ρ51 0 ([10])) := ⟨_, rfl⟩
            rw [← e53] at hCs52
            obtain ⟨sc, kn, hS53, hCl53⟩ := hCs52
            have hF53 : Fr CLs M M52 := hF51.trans (hF52'.mono (fun c hc => by revert c; decide))
            have hB53 : Bg 0 0 M M52 := (hB51.trans hB52').le (by omega) (by omega)
            clear hA hB hC hD hE hN hG hH hI hJ hK hL hCl51 hS51 hF51 hB51
            obtain ⟨hA, hB, hC, hD, hE, hN, hG, hH, hI, hJ, hK, hL⟩ := id hCl53
            refine S_callV (mi := mi_X8_act) [vI (x + (ρ.2 9 t2))] ok_X8_done ml_X8_69 dX8_act_73 rfl (by decide) rfl (by decide) rfl (Nat.le_of_ble_eq_true rfl) rfl (c_done (show Cs Y ρ53 M52 from ⟨sc, kn, hS53, hCl53⟩) (x + (ρ.2 9 t2))) ?_
            rintro v' M54 ⟨rfl, hCs54, hF54', hB54'⟩
            obtain ⟨ρ55, e55⟩ : ∃ z9 : RS, z9 = (ρ53.setS 42 0) := ⟨_, rfl⟩
            rw [← e55] at hCs54
            obtain ⟨sc, kn, hS55, hCl55⟩ := hCs54
            have hF55 : Fr CLs M M54 := hF53.trans hF54'
            have hB55 : Bg 0 0 M M54 := (hB53.trans hB54').le (by omega) (by omega)
            have t_55 : thN ρ55 = thN ρ53 := by rw [e55]; rfl
            clear hA hB hC hD hE hN hG hH hI hJ hK hL hCl53 hS53 hF53 hB53
            obtain ⟨hA, hB, hC, hD, hE, hN, hG, hH, hI, hJ, hK, hL⟩ := id hCl55
            exact S_iret dX8_act_76 rfl (Or.inl rfl) (by
      have e9 : actF ρ (↑i) 0 x = ((x + (ρ.2 9 t2) : Int), ρ55) := by
        unfold actF
        rw [if_neg (by omega), Int.toNat_natCast, if_neg (by omega), if_pos rfl, show ρ.2 39 i - 2 = 3 from by omega, h40, Int.toNat_natCast, (aV_3_0 (ρ.2 9 t2) x (ρ.2 41 i)).1, (aV_3_0 (ρ.2 9 t2) x (ρ.2 41 i)).2, e55, e53, e51]
      rw [e9]
      exact ⟨rfl, ⟨sc, kn, hS55, hCl55⟩, hF55, hB55.le (by omega) (by omega)⟩)
          · refine S_aload_n dX8_act_41 rfl ?_
            refine S_getP (o := some (16, 0)) fl_X8_43 dX8_act_42 rfl rfl (by rw [(show M.P (1, 0) 5 = some (16, 0) from congrFun hA.2.2 5)]) ?_
            refine S_iconst dX8_act_45 ?_
            refine S_putI fl_X8_256 dX8_act_46 rfl rfl rfl  (Or.inl rfl) ?_
            refine Sf.nm (fun M56 hM56 => ?_)
            obtain ⟨ρ57, e57⟩ : ∃ z9 : RS, z9 = (ρ.setS 44 0) := ⟨_, rfl⟩
            have hCl57 : Cl (Y.1, Y.2, sc, kn) ρ57 M56 := (by rw [e57, hM56]; exact hCl.tk0)
            have hS57 : StpOK sc kn ρ57 := (by rw [e57]; exact hS)
            have hF57 : Fr CLs M M56 := (by rw [hM56]; exact hF0.trans (Fr.pI 16 0 (by decide)))
            have hB57 : Bg 0 0 M M56 := (by rw [hM56]; exact (hB0.trans (Bg.pI _ _ _ _)).le (by omega) (by omega))
            have s4_57 : ρ57.1 4 = ρ.1 4 := (by rw [e57, RS.setS_ne (by decide)])
            have s30_57 : ρ57.1 30 = ρ.1 30 := (by rw [e57, RS.setS_ne (by decide)])
            have t_57 : thN ρ57 = thN ρ := by rw [e57]; rfl
            clear hA hB hC hD hE hN hG hH hI hJ hK hL
            obtain ⟨hA, hB, hC, hD, hE, hN, hG, hH, hI, hJ, hK, hL⟩ := id hCl57
            have hO1 : M56.P (15, i) 0 = some (18, t2) := by rw [hM56, Mem.putI_P]; exact congrFun hOb.2.2 0
            have hk9 : M56.I (18, t2) 0 = 0 := (congrFun (hD.1 t2 (by omega)).2.1 0).trans (show ρ57.2 6 t2 = 0 from (by rw [e57, RS.setS_a, hk4]))
            have hv9 : M56.I (18, t2) 1 = ρ.2 9 t2 := (congrFun (hD.1 t2 (by omega)).2.1 1).trans (show ρ57.2 9 t2 = ρ.2 9 t2 from (by rw [e57, RS.setS_a]))
            have h449 : ρ57.1 44 = ↑0 := (by rw [e57, RS.setS_eq])
            refine S_aload_n dX8_act_49 rfl ?_
            refine S_aload_n dX8_act_50 rfl ?_
            refine S_getP (o := some (16, 0)) fl_X8_43 dX8_act_51 rfl rfl (by rw [(show M56.P (1, 0) 5 = some (16, 0) from congrFun hA.2.2 5)]) ?_
            refine S_aload dX8_act_54 rfl ?_
            refine S_getP (o := some (18, t2)) fl_X8_278 dX8_act_56 rfl rfl (by rw [hO1]) ?_
            refine S_aload dX8_act_59 rfl ?_
            refine S_getP (o := some (18, t2)) fl_X8_278 dX8_act_61 rfl rfl (by rw [hO1]) ?_
            refine S_getI (v := 0) fl_X8_281 dX8_act_64 rfl rfl (by rw [hk9]) ?_
            refine S_iload_n dX8_act_67 rfl ?_
            refine S_iload_n dX8_act_68 rfl ?_
            refine S_iconst dX8_act_69 ?_
            refine S_callS (mi := mi_X8_act) [vR ((16, 0)), vR ((18, t2)), vI 0, vI 1, vI x, vI 0] (okD_X8_run 6) ml_X8_284 dX8_act_70 (by decide) rfl (Nat.le_of_ble_eq_true rfl) rfl (c_run_0_0_1 (G := G) (show Cs Y ρ57 M56 from ⟨sc, kn, hS57, hCl57⟩) 0 h449 (by decide) t2 (ρ.2 9 t2) hk9 hv9 x 0 (by omega)) ?_
            rintro v' M58 ⟨rfl, hCs58, hF58', hB58'⟩
            obtain ⟨ρ59, e59⟩ : ∃ z9 : RS, z9 = (ranL ρ57 0 ([11, 10])) := ⟨_, rfl⟩
            rw [← e59] at hCs58
            obtain ⟨sc, kn, hS59, hCl59⟩ := hCs58
            have hF59 : Fr CLs M M58 := hF57.trans (hF58'.mono (fun c hc => by revert c; decide))
            have hB59 : Bg 0 0 M M58 := (hB57.trans hB58').le (by omega) (by omega)
            clear hA hB hC hD hE hN hG hH hI hJ hK hL hCl57 hS57 hF57 hB57
            obtain ⟨hA, hB, hC, hD, hE, hN, hG, hH, hI, hJ, hK, hL⟩ := id hCl59
            refine S_callV (mi := mi_X8_act) [vI ((x + (ρ.2 9 t2)) * 3)] ok_X8_done ml_X8_69 dX8_act_73 rfl (by decide) rfl (by decide) rfl (Nat.le_of_ble_eq_true rfl) rfl (c_done (show Cs Y ρ59 M58 from ⟨sc, kn, hS59, hCl59⟩) ((x + (ρ.2 9 t2)) * 3)) ?_
            rintro v' M60 ⟨rfl, hCs60, hF60', hB60'⟩
            obtain ⟨ρ61, e61⟩ : ∃ z9 : RS, z9 = (ρ59.setS 42 0) := ⟨_, rfl⟩
            rw [← e61] at hCs60
            obtain ⟨sc, kn, hS61, hCl61⟩ := hCs60
            have hF61 : Fr CLs M M60 := hF59.trans hF60'
            have hB61 : Bg 0 0 M M60 := (hB59.trans hB60').le (by omega) (by omega)
            have t_61 : thN ρ61 = thN ρ59 := by rw [e61]; rfl
            clear hA hB hC hD hE hN hG hH hI hJ hK hL hCl59 hS59 hF59 hB59
            obtain ⟨hA, hB, hC, hD, hE, hN, hG, hH, hI, hJ, hK, hL⟩ := id hCl61
            exact S_iret dX8_act_76 rfl (Or.inl rfl) (by
      have e9 : actF ρ (↑i) 1 x = (((x + (ρ.2 9 t2)) * 3 : Int), ρ61) := by
        unfold actF
        rw [if_neg (by omega), Int.toNat_natCast, if_neg (by omega), if_neg (by decide), if_pos rfl, show ρ.2 39 i - 2 = 0 from by omega, h40, Int.toNat_natCast, (aV_0_1 (ρ.2 9 t2) x (ρ.2 41 i)).1, (aV_0_1 (ρ.2 9 t2) x (ρ.2 41 i)).2, e61, e59, e57]
      rw [e9]
      exact ⟨rfl, ⟨sc, kn, hS61, hCl61⟩, hF61, hB61.le (by omega) (by omega)⟩)
          · refine S_aload_n dX8_act_41 rfl ?_
            refine S_getP (o := some (16, 0)) fl_X8_43 dX8_act_42 rfl rfl (by rw [(show M.P (1, 0) 5 = some (16, 0) from congrFun hA.2.2 5)]) ?_
            refine S_iconst dX8_act_45 ?_
            refine S_putI fl_X8_256 dX8_act_46 rfl rfl rfl  (Or.inl rfl) ?_
            refine Sf.nm (fun M62 hM62 => ?_)
            obtain ⟨ρ63, e63⟩ : ∃ z9 : RS, z9 = (ρ.setS 44 0) := ⟨_, rfl⟩
            have hCl63 : Cl (Y.1, Y.2, sc, kn) ρ63 M62 := (by rw [e63, hM62]; exact hCl.tk0)
            have hS63 : StpOK sc kn ρ63 := (by rw [e63]; exact hS)
            have hF63 : Fr CLs M M62 := (by rw [hM62]; exact hF0.trans (Fr.pI 16 0 (by decide)))
            have hB63 : Bg 0 0 M M62 := (by rw [hM62]; exact (hB0.trans (Bg.pI _ _ _ _)).le (by omega) (by omega))
            have s4_63 : ρ63.1 4 = ρ.1 4 := (by rw [e63, RS.setS_ne (by decide)])
            have s30_63 : ρ63.1 30 = ρ.1 30 := (by rw [e63, RS.setS_ne (by decide)])
            have t_63 : thN ρ63 = thN ρ := by rw [e63]; rfl
            clear hA hB hC hD hE hN hG hH hI hJ hK hL
            obtain ⟨hA, hB, hC, hD, hE, hN, hG, hH, hI, hJ, hK, hL⟩ := id hCl63
            have hO1 : M62.P (15, i) 0 = some (18, t2) := by rw [hM62, Mem.putI_P]; exact congrFun hOb.2.2 0
            have hk9 : M62.I (18, t2) 0 = 1 := (congrFun (hD.1 t2 (by omega)).2.1 0).trans (show ρ63.2 6 t2 = 1 from (by rw [e63, RS.setS_a, hk4]))
            have hv9 : M62.I (18, t2) 1 = ρ.2 9 t2 := (congrFun (hD.1 t2 (by omega)).2.1 1).trans (show ρ63.2 9 t2 = ρ.2 9 t2 from (by rw [e63, RS.setS_a]))
            have h449 : ρ63.1 44 = ↑0 := (by rw [e63, RS.setS_eq])
            refine S_aload_n dX8_act_49 rfl ?_
            refine S_aload_n dX8_act_50 rfl ?_
            refine S_getP (o := some (16, 0)) fl_X8_43 dX8_act_51 rfl rfl (by rw [(show M62.P (1, 0) 5 = some (16, 0) from congrFun hA.2.2 5)]) ?_
            refine S_aload dX8_act_54 rfl ?_
            refine S_getP (o := some (18, t2)) fl_X8_278 dX8_act_56 rfl rfl (by rw [hO1]) ?_
            refine S_aload dX8_act_59 rfl ?_
            refine S_getP (o := some (18, t2)) fl_X8_278 dX8_act_61 rfl rfl (by rw [hO1]) ?_
            refine S_getI (v := 1) fl_X8_281 dX8_act_64 rfl rfl (by rw [hk9]) ?_
            refine S_iload_n dX8_act_67 rfl ?_
            refine S_iload_n dX8_act_68 rfl ?_
            refine S_iconst dX8_act_69 ?_
            refine S_callS (mi := mi_X8_act) [vR ((16, 0)), vR ((18, t2)), vI 1, vI 1, vI x, vI 0] (okD_X8_run 7) ml_X8_284 dX8_act_70 (by decide) rfl (Nat.le_of_ble_eq_true rfl) rfl (c_run_1_1_1 (G := G) (show Cs Y ρ63 M62 from ⟨sc, kn, hS63, hCl63⟩) 0 h449 (by decide) t2 (ρ.2 9 t2) hk9 hv9 x 0 (by omega)) ?_
            rintro v' M64 ⟨rfl, hCs64, hF64', hB64'⟩
            obtain ⟨ρ65, e65⟩ : ∃ z9 : RS, z9 = (ranL ρ63 0 ([11, 20, 10])) := ⟨_, rfl⟩
            rw [← e65] at hCs64
            obtain ⟨sc, kn, hS65, hCl65⟩ := hCs64
            have hF65 : Fr CLs M M64 := hF63.trans (hF64'.mono (fun c hc => by revert c; decide))
            have hB65 : Bg 0 0 M M64 := (hB63.trans hB64').le (by omega) (by omega)
            clear hA hB hC hD hE hN hG hH hI hJ hK hL hCl63 hS63 hF63 hB63
            obtain ⟨hA, hB, hC, hD, hE, hN, hG, hH, hI, hJ, hK, hL⟩ := id hCl65
            refine S_callV (mi := mi_X8_act) [vI (((x + (ρ.2 9 t2)) * 2) * 3)] ok_X8_done ml_X8_69 dX8_act_73 rfl (by decide) rfl (by decide) rfl (Nat.le_of_ble_eq_true rfl) rfl (c_done (show Cs Y ρ65 M64 from ⟨sc, kn, hS65, hCl65⟩) (((x + (ρ.2 9 t2)) * 2) * 3)) ?_
            rintro v' M66 ⟨rfl, hCs66, hF66', hB66'⟩
            obtain ⟨ρ67, e67⟩ : ∃ z9 : RS, z9 = (ρ65.setS 42 0) := ⟨_, rfl⟩
            rw [← e67] at hCs66
            obtain ⟨sc, kn, hS67, hCl67⟩ := hCs66
            have hF67 : Fr CLs M M66 := hF65.trans hF66'
            have hB67 : Bg 0 0 M M66 := (hB65.trans hB66').le (by omega) (by omega)
            have t_67 : thN ρ67 = thN ρ65 := by rw [e67]; rfl
            clear hA hB hC hD hE hN hG hH hI hJ hK hL hCl65 hS65 hF65 hB65
            obtain ⟨hA, hB, hC, hD, hE, hN, hG, hH, hI, hJ, hK, hL⟩ := id hCl67
            exact S_iret dX8_act_76 rfl (Or.inl rfl) (by
      have e9 : actF ρ (↑i) 1 x = ((((x + (ρ.2 9 t2)) * 2) * 3 : Int), ρ67) := by
        unfold actF
        rw [if_neg (by omega), Int.toNat_natCast, if_neg (by omega), if_neg (by decide), if_pos rfl, show ρ.2 39 i - 2 = 1 from by omega, h40, Int.toNat_natCast, (aV_1_1 (ρ.2 9 t2) x (ρ.2 41 i)).1, (aV_1_1 (ρ.2 9 t2) x (ρ.2 41 i)).2, e67, e65, e63]
      rw [e9]
      exact ⟨rfl, ⟨sc, kn, hS67, hCl67⟩, hF67, hB67.le (by omega) (by omega)⟩)
          · refine S_aload_n dX8_act_41 rfl ?_
            refine S_getP (o := some (16, 0)) fl_X8_43 dX8_act_42 rfl rfl (by rw [(show M.P (1, 0) 5 = some (16, 0) from congrFun hA.2.2 5)]) ?_
            refine S_iconst dX8_act_45 ?_
            refine S_putI fl_X8_256 dX8_act_46 rfl rfl rfl  (Or.inl rfl) ?_
            refine Sf.nm (fun M68 hM68 => ?_)
            obtain ⟨ρ69, e69⟩ : ∃ z9 : RS, z9 = (ρ.setS 44 0) := ⟨_, rfl⟩
            have hCl69 : Cl (Y.1, Y.2, sc, kn) ρ69 M68 := (by rw [e69, hM68]; exact hCl.tk0)
            have hS69 : StpOK sc kn ρ69 := (by rw [e69]; exact hS)
            have hF69 : Fr CLs M M68 := (by rw [hM68]; exact hF0.trans (Fr.pI 16 0 (by decide)))
            have hB69 : Bg 0 0 M M68 := (by rw [hM68]; exact (hB0.trans (Bg.pI _ _ _ _)).le (by omega) (by omega))
            have s4_69 : ρ69.1 4 = ρ.1 4 := (by rw [e69, RS.setS_ne (by decide)])
            have s30_69 : ρ69.1 30 = ρ.1 30 := (by rw [e69, RS.setS_ne (by decide)])
            have t_69 : thN ρ69 = thN ρ := by rw [e69]; rfl
            clear hA hB hC hD hE hN hG hH hI hJ hK hL
            obtain ⟨hA, hB, hC, hD, hE, hN, hG, hH, hI, hJ, hK, hL⟩ := id hCl69
            have hO1 : M68.P (15, i) 0 = some (18, t2) := by rw [hM68, Mem.putI_P]; exact congrFun hOb.2.2 0
            have hk9 : M68.I (18, t2) 0 = 2 := (congrFun (hD.1 t2 (by omega)).2.1 0).trans (show ρ69.2 6 t2 = 2 from (by rw [e69, RS.setS_a, hk4]))
            have hv9 : M68.I (18, t2) 1 = ρ.2 9 t2 := (congrFun (hD.1 t2 (by omega)).2.1 1).trans (show ρ69.2 9 t2 = ρ.2 9 t2 from (by rw [e69, RS.setS_a]))
            have h449 : ρ69.1 44 = ↑0 := (by rw [e69, RS.setS_eq])
            refine S_aload_n dX8_act_49 rfl ?_
            refine S_aload_n dX8_act_50 rfl ?_
            refine S_getP (o := some (16, 0)) fl_X8_43 dX8_act_51 rfl rfl (by rw [(show M68.P (1, 0) 5 = some (16, 0) from congrFun hA.2.2 5)]) ?_
            refine S_aload dX8_act_54 rfl ?_
            refine S_getP (o := some (18, t2)) fl_X8_278 dX8_act_56 rfl rfl (by rw [hO1]) ?_
            refine S_aload dX8_act_59 rfl ?_
            refine S_getP (o := some (18, t2)) fl_X8_278 dX8_act_61 rfl rfl (by rw [hO1]) ?_
            refine S_getI (v := 2) fl_X8_281 dX8_act_64 rfl rfl (by rw [hk9]) ?_
            refine S_iload_n dX8_act_67 rfl ?_
            refine S_iload_n dX8_act_68 rfl ?_
            refine S_iconst dX8_act_69 ?_
            refine S_callS (mi := mi_X8_act) [vR ((16, 0)), vR ((18, t2)), vI 2, vI 1, vI x, vI 0] (okD_X8_run 7) ml_X8_284 dX8_act_70 (by decide) rfl (Nat.le_of_ble_eq_true rfl) rfl (c_run_2_2_1 (G := G) (show Cs Y ρ69 M68 from ⟨sc, kn, hS69, hCl69⟩) 0 h449 (by decide) t2 (ρ.2 9 t2) hk9 hv9 x 0 (by omega)) ?_
            rintro v' M70 ⟨rfl, hCs70, hF70', hB70'⟩
            obtain ⟨ρ71, e71⟩ : ∃ z9 : RS, z9 = (ranL ρ69 0 ([11, 20, 10])) := ⟨_, rfl⟩
            rw [← e71] at hCs70
            obtain ⟨sc, kn, hS71, hCl71⟩ := hCs70
            have hF71 : Fr CLs M M70 := hF69.trans (hF70'.mono (fun c hc => by revert c; decide))
            have hB71 : Bg 0 0 M M70 := (hB69.trans hB70').le (by omega) (by omega)
            clear hA hB hC hD hE hN hG hH hI hJ hK hL hCl69 hS69 hF69 hB69
            obtain ⟨hA, hB, hC, hD, hE, hN, hG, hH, hI, hJ, hK, hL⟩ := id hCl71
            refine S_callV (mi := mi_X8_act) [vI (((x + (ρ.2 9 t2)) * 2) * 3)] ok_X8_done ml_X8_69 dX8_act_73 rfl (by decide) rfl (by decide) rfl (Nat.le_of_ble_eq_true rfl) rfl (c_done (show Cs Y ρ71 M70 from ⟨sc, kn, hS71, hCl71⟩) (((x + (ρ.2 9 t2)) * 2) * 3)) ?_
            rintro v' M72 ⟨rfl, hCs72, hF72', hB72'⟩
            obtain ⟨ρ73, e73⟩ : ∃ z9 : RS, z9 = (ρ71.setS 42 0) := ⟨_, rfl⟩
            rw [← e73] at hCs72
            obtain ⟨sc, kn, hS73, hCl73⟩ := hCs72
            have hF73 : Fr CLs M M72 := hF71.trans hF72'
            have hB73 : Bg 0 0 M M72 := (hB71.trans hB72').le (by omega) (by omega)
            have t_73 : thN ρ73 = thN ρ71 := by rw [e73]; rfl
            clear hA hB hC hD hE hN hG hH hI hJ hK hL hCl71 hS71 hF71 hB71
            obtain ⟨hA, hB, hC, hD, hE, hN, hG, hH, hI, hJ, hK, hL⟩ := id hCl73
            exact S_iret dX8_act_76 rfl (Or.inl rfl) (by
      have e9 : actF ρ (↑i) 1 x = ((((x + (ρ.2 9 t2)) * 2) * 3 : Int), ρ73) := by
        unfold actF
        rw [if_neg (by omega), Int.toNat_natCast, if_neg (by omega), if_neg (by decide), if_pos rfl, show ρ.2 39 i - 2 = 2 from by omega, h40, Int.toNat_natCast, (aV_2_1 (ρ.2 9 t2) x (ρ.2 41 i)).1, (aV_2_1 (ρ.2 9 t2) x (ρ.2 41 i)).2, e73, e71, e69]
      rw [e9]
      exact ⟨rfl, ⟨sc, kn, hS73, hCl73⟩, hF73, hB73.le (by omega) (by omega)⟩)
          · refine S_aload_n dX8_act_41 rfl ?_
            refine S_getP (o := some (16, 0)) fl_X8_43 dX8_act_42 rfl rfl (by rw [(show M.P (1, 0) 5 = some (16, 0) from congrFun hA.2.2 5)]) ?_
            refine S_iconst dX8_act_45 ?_
            refine S_putI fl_X8_256 dX8_act_46 rfl rfl rfl  (Or.inl rfl) ?_
            refine Sf.nm (fun M74 hM74 => ?_)
            obtain ⟨ρ75, e75⟩ : ∃ z9 : RS, z9 = (ρ.setS 44 0) := ⟨_, rfl⟩
            have hCl75 : Cl (Y.1, Y.2, sc, kn) ρ75 M74 := (by rw [e75, hM74]; exact hCl.tk0)
            have hS75 : StpOK sc kn ρ75 := (by rw [e75]; exact hS)
            have hF75 : Fr CLs M M74 := (by rw [hM74]; exact hF0.trans (Fr.pI 16 0 (by decide)))
            have hB75 : Bg 0 0 M M74 := (by rw [hM74]; exact (hB0.trans (Bg.pI _ _ _ _)).le (by omega) (by omega))
            have s4_75 : ρ75.1 4 = ρ.1 4 := (by rw [e75, RS.setS_ne (by decide)])
            have s30_75 : ρ75.1 30 = ρ.1 30 := (by rw [e75, RS.setS_ne (by decide)])
            have t_75 : thN ρ75 = thN ρ := by rw [e75]; rfl
            clear hA hB hC hD hE hN hG hH hI hJ hK hL
            obtain ⟨hA, hB, hC, hD, hE, hN, hG, hH, hI, hJ, hK, hL⟩ := id hCl75
            have hO1 : M74.P (15, i) 0 = some (18, t2) := by rw [hM74, Mem.putI_P]; exact congrFun hOb.2.2 0
            have hk9 : M74.I (18, t2) 0 = 3 := (congrFun (hD.1 t2 (by omega)).2.1 0).trans (show ρ75.2 6 t2 = 3 from (by rw [e75, RS.setS_a, hk4]))
            have hv9 : M74.I (18, t2) 1 = ρ.2 9 t2 := (congrFun (hD.1 t2 (by omega)).2.1 1).trans (show ρ75.2 9 t2 = ρ.2 9 t2 from (by rw [e75, RS.setS_a]))
            have h449 : ρ75.1 44 = ↑0 := (by rw [e75, RS.setS_eq])
            refine S_aload_n dX8_act_49 rfl ?_
            refine S_aload_n dX8_act_50 rfl ?_
            refine S_getP (o := some (16, 0)) fl_X8_43 dX8_act_51 rfl rfl (by rw [(show M74.P (1, 0) 5 = some (16, 0) from congrFun hA.2.2 5)]) ?_
            refine S_aload dX8_act_54 rfl ?_
            refine S_getP (o := some (18, t2)) fl_X8_278 dX8_act_56 rfl rfl (by rw [hO1]) ?_
            refine S_aload dX8_act_59 rfl ?_
            refine S_getP (o := some (18, t2)) fl_X8_278 dX8_act_61 rfl rfl (by rw [hO1]) ?_
            refine S_getI (v := 3) fl_X8_281 dX8_act_64 rfl rfl (by rw [hk9]) ?_
            refine S_iload_n dX8_act_67 rfl ?_
            refine S_iload_n dX8_act_68 rfl ?_
            refine S_iconst dX8_act_69 ?_
            refine S_callS (mi := mi_X8_act) [vR ((16, 0)), vR ((18, t2)), vI 3, vI 1, vI x, vI 0] (okD_X8_run 7) ml_X8_284 dX8_act_70 (by decide) rfl (Nat.le_of_ble_eq_true rfl) rfl (c_run_3_3_1 (G := G) (show Cs Y ρ75 M74 from ⟨sc, kn, hS75, hCl75⟩) 0 h449 (by decide) t2 (ρ.2 9 t2) hk9 hv9 x 0 (by omega)) ?_
            rintro v' M76 ⟨rfl, hCs76, hF76', hB76'⟩
            obtain ⟨ρ77, e77⟩ : ∃ z9 : RS, z9 = (ranL ρ75 0 ([40, 11, 10])) := ⟨_, rfl⟩
            rw [← e77] at hCs76
            obtain ⟨sc, kn, hS77, hCl77⟩ := hCs76
            have hF77 : Fr CLs M M76 := hF75.trans (hF76'.mono (fun c hc => by revert c; decide))
            have hB77 : Bg 0 0 M M76 := (hB75.trans hB76').le (by omega) (by omega)
            clear hA hB hC hD hE hN hG hH hI hJ hK hL hCl75 hS75 hF75 hB75
            obtain ⟨hA, hB, hC, hD, hE, hN, hG, hH, hI, hJ, hK, hL⟩ := id hCl77
            refine S_callV (mi := mi_X8_act) [vI (((x + (ρ.2 9 t2)) * 3) + 5)] ok_X8_done ml_X8_69 dX8_act_73 rfl (by decide) rfl (by decide) rfl (Nat.le_of_ble_eq_true rfl) rfl (c_done (show Cs Y ρ77 M76 from ⟨sc, kn, hS77, hCl77⟩) (((x + (ρ.2 9 t2)) * 3) + 5)) ?_
            rintro v' M78 ⟨rfl, hCs78, hF78', hB78'⟩
            obtain ⟨ρ79, e79⟩ : ∃ z9 : RS, z9 = (ρ77.setS 42 0) := ⟨_, rfl⟩
            rw [← e79] at hCs78
            obtain ⟨sc, kn, hS79, hCl79⟩ := hCs78
            have hF79 : Fr CLs M M78 := hF77.trans hF78'
            have hB79 : Bg 0 0 M M78 := (hB77.trans hB78').le (by omega) (by omega)
            have t_79 : thN ρ79 = thN ρ77 := by rw [e79]; rfl
            clear hA hB hC hD hE hN hG hH hI hJ hK hL hCl77 hS77 hF77 hB77
            obtain ⟨hA, hB, hC, hD, hE, hN, hG, hH, hI, hJ, hK, hL⟩ := id hCl79
            exact S_iret dX8_act_76 rfl (Or.inl rfl) (by
      have e9 : actF ρ (↑i) 1 x = ((((x + (ρ.2 9 t2)) * 3) + 5 : Int), ρ79) := by
        unfold actF
        rw [if_neg (by omega), Int.toNat_natCast, if_neg (by omega), if_neg (by decide), if_pos rfl, show ρ.2 39 i - 2 = 3 from by omega, h40, Int.toNat_natCast, (aV_3_1 (ρ.2 9 t2) x (ρ.2 41 i)).1, (aV_3_1 (ρ.2 9 t2) x (ρ.2 41 i)).2, e79, e77, e75]
      rw [e9]
      exact ⟨rfl, ⟨sc, kn, hS79, hCl79⟩, hF79, hB79.le (by omega) (by omega)⟩)
          · refine S_aload_n dX8_act_41 rfl ?_
            refine S_getP (o := some (16, 0)) fl_X8_43 dX8_act_42 rfl rfl (by rw [(show M.P (1, 0) 5 = some (16, 0) from congrFun hA.2.2 5)]) ?_
            refine S_iconst dX8_act_45 ?_
            refine S_putI fl_X8_256 dX8_act_46 rfl rfl rfl  (Or.inl rfl) ?_
            refine Sf.nm (fun M80 hM80 => ?_)
            obtain ⟨ρ81, e81⟩ : ∃ z9 : RS, z9 = (ρ.setS 44 0) := ⟨_, rfl⟩
            have hCl81 : Cl (Y.1, Y.2, sc, kn) ρ81 M80 := (by rw [e81, hM80]; exact hCl.tk0)
            have hS81 : StpOK sc kn ρ81 := (by rw [e81]; exact hS)
            have hF81 : Fr CLs M M80 := (by rw [hM80]; exact hF0.trans (Fr.pI 16 0 (by decide)))
            have hB81 : Bg 0 0 M M80 := (by rw [hM80]; exact (hB0.trans (Bg.pI _ _ _ _)).le (by omega) (by omega))
            have s4_81 : ρ81.1 4 = ρ.1 4 := (by rw [e81, RS.setS_ne (by decide)])
            have s30_81 : ρ81.1 30 = ρ.1 30 := (by rw [e81, RS.setS_ne (by decide)])
            have t_81 : thN ρ81 = thN ρ := by rw [e81]; rfl
            clear hA hB hC hD hE hN hG hH hI hJ hK hL
            obtain ⟨hA, hB, hC, hD, hE, hN, hG, hH, hI, hJ, hK, hL⟩ := id hCl81
            have hO1 : M80.P (15, i) 0 = some (18, t2) := by rw [hM80, Mem.putI_P]; exact congrFun hOb.2.2 0
            have hk9 : M80.I (18, t2) 0 = 0 := (congrFun (hD.1 t2 (by omega)).2.1 0).trans (show ρ81.2 6 t2 = 0 from (by rw [e81, RS.setS_a, hk4]))
            have hv9 : M80.I (18, t2) 1 = ρ.2 9 t2 := (congrFun (hD.1 t2 (by omega)).2.1 1).trans (show ρ81.2 9 t2 = ρ.2 9 t2 from (by rw [e81, RS.setS_a]))
            have h449 : ρ81.1 44 = ↑0 := (by rw [e81, RS.setS_eq])
            refine S_aload_n dX8_act_49 rfl ?_
            refine S_aload_n dX8_act_50 rfl ?_
            refine S_getP (o := some (16, 0)) fl_X8_43 dX8_act_51 rfl rfl (by rw [(show M80.P (1, 0) 5 = some (16, 0) from congrFun hA.2.2 5)]) ?_
            refine S_aload dX8_act_54 rfl ?_
            refine S_getP (o := some (18, t2)) fl_X8_278 dX8_act_56 rfl rfl (by rw [hO1]) ?_
            refine S_aload dX8_act_59 rfl ?_
            refine S_getP (o := some (18, t2)) fl_X8_278 dX8_act_61 rfl rfl (by rw [hO1]) ?_
            refine S_getI (v := 0) fl_X8_281 dX8_act_64 rfl rfl (by rw [hk9]) ?_
            refine S_iload_n dX8_act_67 rfl ?_
            refine S_iload_n dX8_act_68 rfl ?_
            refine S_iconst dX8_act_69 ?_
            refine S_callS (mi := mi_X8_act) [vR ((16, 0)), vR ((18, t2)), vI 0, vI 2, vI x, vI 0] (okD_X8_run 7) ml_X8_284 dX8_act_70 (by decide) rfl (Nat.le_of_ble_eq_true rfl) rfl (c_run_0_0_2 (G := G) (show Cs Y ρ81 M80 from ⟨sc, kn, hS81, hCl81⟩) 0 h449 (by decide) t2 (ρ.2 9 t2) hk9 hv9 x 0 (by omega)) ?_
            rintro v' M82 ⟨rfl, hCs82, hF82', hB82'⟩
            obtain ⟨ρ83, e83⟩ : ∃ z9 : RS, z9 = (ranL ρ81 0 ([12, 11, 10, 13])) := ⟨_, rfl⟩
            rw [← e83] at hCs82
            obtain ⟨sc, kn, hS83, hCl83⟩ := hCs82
            have hF83 : Fr CLs M M82 := hF81.trans (hF82'.mono (fun c hc => by revert c; decide))
            have hB83 : Bg 0 0 M M82 := (hB81.trans hB82').le (by omega) (by omega)
            clear hA hB hC hD hE hN hG hH hI hJ hK hL hCl81 hS81 hF81 hB81
            obtain ⟨hA, hB, hC, hD, hE, hN, hG, hH, hI, hJ, hK, hL⟩ := id hCl83
            refine S_callV (mi := mi_X8_act) [vI (((x + (ρ.2 9 t2)) * 3) - ((jI x ^^^ jI (ρ.2 9 t2)).toInt))] ok_X8_done ml_X8_69 dX8_act_73 rfl (by decide) rfl (by decide) rfl (Nat.le_of_ble_eq_true rfl) rfl (c_done (show Cs Y ρ83 M82 from ⟨sc, kn, hS83, hCl83⟩) (((x + (ρ.2 9 t2)) * 3) - ((jI x ^^^ jI (ρ.2 9 t2)).toInt))) ?_
            rintro v' M84 ⟨rfl, hCs84, hF84', hB84'⟩
            obtain ⟨ρ85, e85⟩ : ∃ z9 : RS, z9 = (ρ83.setS 42 0) := ⟨_, rfl⟩
            rw [← e85] at hCs84
            obtain ⟨sc, kn, hS85, hCl85⟩ := hCs84
            have hF85 : Fr CLs M M84 := hF83.trans hF84'
            have hB85 : Bg 0 0 M M84 := (hB83.trans hB84').le (by omega) (by omega)
            have t_85 : thN ρ85 = thN ρ83 := by rw [e85]; rfl
            clear hA hB hC hD hE hN hG hH hI hJ hK hL hCl83 hS83 hF83 hB83
            obtain ⟨hA, hB, hC, hD, hE, hN, hG, hH, hI, hJ, hK, hL⟩ := id hCl85
            exact S_iret dX8_act_76 rfl (Or.inl rfl) (by
      have e9 : actF ρ (↑i) 2 x = ((((x + (ρ.2 9 t2)) * 3) - ((jI x ^^^ jI (ρ.2 9 t2)).toInt) : Int), ρ85) := by
        unfold actF
        rw [if_neg (by omega), Int.toNat_natCast, if_neg (by omega), if_neg (by decide), if_neg (by decide), if_pos rfl, show ρ.2 39 i - 2 = 0 from by omega, h40, Int.toNat_natCast, (aV_0_2 (ρ.2 9 t2) x (ρ.2 41 i)).1, (aV_0_2 (ρ.2 9 t2) x (ρ.2 41 i)).2, e85, e83, e81]
      rw [e9]
      exact ⟨rfl, ⟨sc, kn, hS85, hCl85⟩, hF85, hB85.le (by omega) (by omega)⟩)
          · refine S_aload_n dX8_act_41 rfl ?_
            refine S_getP (o := some (16, 0)) fl_X8_43 dX8_act_42 rfl rfl (by rw [(show M.P (1, 0) 5 = some (16, 0) from congrFun hA.2.2 5)]) ?_
            refine S_iconst dX8_act_45 ?_
            refine S_putI fl_X8_256 dX8_act_46 rfl rfl rfl  (Or.inl rfl) ?_
            refine Sf.nm (fun M86 hM86 => ?_)
            obtain ⟨ρ87, e87⟩ : ∃ z9 : RS, z9 = (ρ.setS 44 0) := ⟨_, rfl⟩
            have hCl87 : Cl (Y.1, Y.2, sc, kn) ρ87 M86 := (by rw [e87, hM86]; exact hCl.tk0)
            have hS87 : StpOK sc kn ρ87 := (by rw [e87]; exact hS)
            have hF87 : Fr CLs M M86 := (by rw [hM86]; exact hF0.trans (Fr.pI 16 0 (by decide)))
            have hB87 : Bg 0 0 M M86 := (by rw [hM86]; exact (hB0.trans (Bg.pI _ _ _ _)).le (by omega) (by omega))
            have s4_87 : ρ87.1 4 = ρ.1 4 := (by rw [e87, RS.setS_ne (by decide)])
            have s30_87 : ρ87.1 30 = ρ.1 30 := (by rw [e87, RS.setS_ne (by decide)])
            have t_87 : thN ρ87 = thN ρ := by rw [e87]; rfl
            clear hA hB hC hD hE hN hG hH hI hJ hK hL
            obtain ⟨hA, hB, hC, hD, hE, hN, hG, hH, hI, hJ, hK, hL⟩ := id hCl87
            have hO1 : M86.P (15, i) 0 = some (18, t2) := by rw [hM86, Mem.putI_P]; exact congrFun hOb.2.2 0
            have hk9 : M86.I (18, t2) 0 = 1 := (congrFun (hD.1 t2 (by omega)).2.1 0).trans (show ρ87.2 6 t2 = 1 from (by rw [e87, RS.setS_a, hk4]))
            have hv9 : M86.I (18, t2) 1 = ρ.2 9 t2 := (congrFun (hD.1 t2 (by omega)).2.1 1).trans (show ρ87.2 9 t2 = ρ.2 9 t2 from (by rw [e87, RS.setS_a]))
            have h449 : ρ87.1 44 = ↑0 := (by rw [e87, RS.setS_eq])
            refine S_aload_n dX8_act_49 rfl ?_
            refine S_aload_n dX8_act_50 rfl ?_
            refine S_getP (o := some (16, 0)) fl_X8_43 dX8_act_51 rfl rfl (by rw [(show M86.P (1, 0) 5 = some (16, 0) from congrFun hA.2.2 5)]) ?_
            refine S_aload dX8_act_54 rfl ?_
            refine S_getP (o := some (18, t2)) fl_X8_278 dX8_act_56 rfl rfl (by rw [hO1]) ?_
            refine S_aload dX8_act_59 rfl ?_
            refine S_getP (o := some (18, t2)) fl_X8_278 dX8_act_61 rfl rfl (by rw [hO1]) ?_
            refine S_getI (v := 1) fl_X8_281 dX8_act_64 rfl rfl (by rw [hk9]) ?_
            refine S_iload_n dX8_act_67 rfl ?_
            refine S_iload_n dX8_act_68 rfl ?_
            refine S_iconst dX8_act_69 ?_
            refine S_callS (mi := mi_X8_act) [vR ((16, 0)), vR ((18, t2)), vI 1, vI 2, vI x, vI 0] (okD_X8_run 9) ml_X8_284 dX8_act_70 (by decide) rfl (Nat.le_of_ble_eq_true rfl) rfl (c_run_1_1_2 (G := G) (show Cs Y ρ87 M86 from ⟨sc, kn, hS87, hCl87⟩) 0 h449 (by decide) t2 (ρ.2 9 t2) hk9 hv9 x 0 (by omega)) ?_
            rintro v' M88 ⟨rfl, hCs88, hF88', hB88'⟩
            obtain ⟨ρ89, e89⟩ : ∃ z9 : RS, z9 = (ranL ρ87 0 ([21, 12, 11, 20, 10, 13])) := ⟨_, rfl⟩
            rw [← e89] at hCs88
            obtain ⟨sc, kn, hS89, hCl89⟩ := hCs88
            have hF89 : Fr CLs M M88 := hF87.trans (hF88'.mono (fun c hc => by revert c; decide))
            have hB89 : Bg 0 0 M M88 := (hB87.trans hB88').le (by omega) (by omega)
            clear hA hB hC hD hE hN hG hH hI hJ hK hL hCl87 hS87 hF87 hB87
            obtain ⟨hA, hB, hC, hD, hE, hN, hG, hH, hI, hJ, hK, hL⟩ := id hCl89
            refine S_callV (mi := mi_X8_act) [vI (((((x + 1) + (ρ.2 9 t2)) * 2) * 3) - ((jI ((x + 1)) ^^^ jI (ρ.2 9 t2)).toInt))] ok_X8_done ml_X8_69 dX8_act_73 rfl (by decide) rfl (by decide) rfl (Nat.le_of_ble_eq_true rfl) rfl (c_done (show Cs Y ρ89 M88 from ⟨sc, kn, hS89, hCl89⟩) (((((x + 1) + (ρ.2 9 t2)) * 2) * 3) - ((jI ((x + 1)) ^^^ jI (ρ.2 9 t2)).toInt))) ?_
            rintro v' M90 ⟨rfl, hCs90, hF90', hB90'⟩
            obtain ⟨ρ91, e91⟩ : ∃ z9 : RS, z9 = (ρ89.setS 42 0) := ⟨_, rfl⟩
            rw [← e91] at hCs90
            obtain ⟨sc, kn, hS91, hCl91⟩ := hCs90
            have hF91 : Fr CLs M M90 := hF89.trans hF90'
            have hB91 : Bg 0 0 M M90 := (hB89.trans hB90').le (by omega) (by omega)
            have t_91 : thN ρ91 = thN ρ89 := by rw [e91]; rfl
            clear hA hB hC hD hE hN hG hH hI hJ hK hL hCl89 hS89 hF89 hB89
            obtain ⟨hA, hB, hC, hD, hE, hN, hG, hH, hI, hJ, hK, hL⟩ := id hCl91
            exact S_iret dX8_act_76 rfl (Or.inl rfl) (by
      have e9 : actF ρ (↑i) 2 x = ((((((x + 1) + (ρ.2 9 t2)) * 2) * 3) - ((jI ((x + 1)) ^^^ jI (ρ.2 9 t2)).toInt) : Int), ρ91) := by
        unfold actF
        rw [if_neg (by omega), Int.toNat_natCast, if_neg (by omega), if_neg (by decide), if_neg (by decide), if_pos rfl, show ρ.2 39 i - 2 = 1 from by omega, h40, Int.toNat_natCast, (aV_1_2 (ρ.2 9 t2) x (ρ.2 41 i)).1, (aV_1_2 (ρ.2 9 t2) x (ρ.2 41 i)).2, e91, e89, e87]
      rw [e9]
      exact ⟨rfl, ⟨sc, kn, hS91, hCl91⟩, hF91, hB91.le (by omega) (by omega)⟩)
          · refine S_aload_n dX8_act_41 rfl ?_
            refine S_getP (o := some (16, 0)) fl_X8_43 dX8_act_42 rfl rfl (by rw [(show M.P (1, 0) 5 = some (16, 0) from congrFun hA.2.2 5)]) ?_
            refine S_iconst dX8_act_45 ?_
            refine S_putI fl_X8_256 dX8_act_46 rfl rfl rfl  (Or.inl rfl) ?_
            refine Sf.nm (fun M92 hM92 => ?_)
            obtain ⟨ρ93, e93⟩ : ∃ z9 : RS, z9 = (ρ.setS 44 0) := ⟨_, rfl⟩
            have hCl93 : Cl (Y.1, Y.2, sc, kn) ρ93 M92 := (by rw [e93, hM92]; exact hCl.tk0)
            have hS93 : StpOK sc kn ρ93 := (by rw [e93]; exact hS)
            have hF93 : Fr CLs M M92 := (by rw [hM92]; exact hF0.trans (Fr.pI 16 0 (by decide)))
            have hB93 : Bg 0 0 M M92 := (by rw [hM92]; exact (hB0.trans (Bg.pI _ _ _ _)).le (by omega) (by omega))
            have s4_93 : ρ93.1 4 = ρ.1 4 := (by rw [e93, RS.setS_ne (by decide)])
            have s30_93 : ρ93.1 30 = ρ.1 30 := (by rw [e93, RS.setS_ne (by decide)])
            have t_93 : thN ρ93 = thN ρ := by rw [e93]; rfl
            clear hA hB hC hD hE hN hG hH hI hJ hK hL
            obtain ⟨hA, hB, hC, hD, hE, hN, hG, hH, hI, hJ, hK, hL⟩ := id hCl93
            have hO1 : M92.P (15, i) 0 = some (18, t2) := by rw [hM92, Mem.putI_P]; exact congrFun hOb.2.2 0
            have hk9 : M92.I (18, t2) 0 = 2 := (congrFun (hD.1 t2 (by omega)).2.1 0).trans (show ρ93.2 6 t2 = 2 from (by rw [e93, RS.setS_a, hk4]))
            have hv9 : M92.I (18, t2) 1 = ρ.2 9 t2 := (congrFun (hD.1 t2 (by omega)).2.1 1).trans (show ρ93.2 9 t2 = ρ.2 9 t2 from (by rw [e93, RS.setS_a]))
            have h449 : ρ93.1 44 = ↑0 := (by rw [e93, RS.setS_eq])
            refine S_aload_n dX8_act_49 rfl ?_
            refine S_aload_n dX8_act_50 rfl ?_
            refine S_getP (o := some (16, 0)) fl_X8_43 dX8_act_51 rfl rfl (by rw [(show M92.P (1, 0) 5 = some (16, 0) from congrFun hA.2.2 5)]) ?_
            refine S_aload dX8_act_54 rfl ?_
            refine S_getP (o := some (18, t2)) fl_X8_278 dX8_act_56 rfl rfl (by rw [hO1]) ?_
            refine S_aload dX8_act_59 rfl ?_
            refine S_getP (o := some (18, t2)) fl_X8_278 dX8_act_61 rfl rfl (by rw [hO1]) ?_
            refine S_getI (v := 2) fl_X8_281 dX8_act_64 rfl rfl (by rw [hk9]) ?_
            refine S_iload_n dX8_act_67 rfl ?_
            refine S_iload_n dX8_act_68 rfl ?_
            refine S_iconst dX8_act_69 ?_
            refine S_callS (mi := mi_X8_act) [vR ((16, 0)), vR ((18, t2)), vI 2, vI 2, vI x, vI 0] (okD_X8_run 9) ml_X8_284 dX8_act_70 (by decide) rfl (Nat.le_of_ble_eq_true rfl) rfl (c_run_2_2_2 (G := G) (show Cs Y ρ93 M92 from ⟨sc, kn, hS93, hCl93⟩) 0 h449 (by decide) t2 (ρ.2 9 t2) hk9 hv9 x 0 (by omega)) ?_
            rintro v' M94 ⟨rfl, hCs94, hF94', hB94'⟩
            obtain ⟨ρ95, e95⟩ : ∃ z9 : RS, z9 = (ranL ρ93 0 ([21, 12, 11, 20, 10, 30, 13])) := ⟨_, rfl⟩
            rw [← e95] at hCs94
            obtain ⟨sc, kn, hS95, hCl95⟩ := hCs94
            have hF95 : Fr CLs M M94 := hF93.trans (hF94'.mono (fun c hc => by revert c; decide))
            have hB95 : Bg 0 0 M M94 := (hB93.trans hB94').le (by omega) (by omega)
            clear hA hB hC hD hE hN hG hH hI hJ hK hL hCl93 hS93 hF93 hB93
            obtain ⟨hA, hB, hC, hD, hE, hN, hG, hH, hI, hJ, hK, hL⟩ := id hCl95
            refine S_callV (mi := mi_X8_act) [vI (((((x + 1) + (ρ.2 9 t2)) * 2) * 3) - (((jI ((x + 1)) ^^^ jI (ρ.2 9 t2)).toInt) - 1))] ok_X8_done ml_X8_69 dX8_act_73 rfl (by decide) rfl (by decide) rfl (Nat.le_of_ble_eq_true rfl) rfl (c_done (show Cs Y ρ95 M94 from ⟨sc, kn, hS95, hCl95⟩) (((((x + 1) + (ρ.2 9 t2)) * 2) * 3) - (((jI ((x + 1)) ^^^ jI (ρ.2 9 t2)).toInt) - 1))) ?_
            rintro v' M96 ⟨rfl, hCs96, hF96', hB96'⟩
            obtain ⟨ρ97, e97⟩ : ∃ z9 : RS, z9 = (ρ95.setS 42 0) := ⟨_, rfl⟩
            rw [← e97] at hCs96
            obtain ⟨sc, kn, hS97, hCl97⟩ := hCs96
            have hF97 : Fr CLs M M96 := hF95.trans hF96'
            have hB97 : Bg 0 0 M M96 := (hB95.trans hB96').le (by omega) (by omega)
            have t_97 : thN ρ97 = thN ρ95 := by rw [e97]; rfl
            clear hA hB hC hD hE hN hG hH hI hJ hK hL hCl95 hS95 hF95 hB95
            obtain ⟨hA, hB, hC, hD, hE, hN, hG, hH, hI, hJ, hK, hL⟩ := id hCl97
            exact S_iret dX8_act_76 rfl (Or.inl rfl) (by
      have e9 : actF ρ (↑i) 2 x = ((((((x + 1) + (ρ.2 9 t2)) * 2) * 3) - (((jI ((x + 1)) ^^^ jI (ρ.2 9 t2)).toInt) - 1) : Int), ρ97) := by
        unfold actF
        rw [if_neg (by omega), Int.toNat_natCast, if_neg (by omega), if_neg (by decide), if_neg (by decide), if_pos rfl, show ρ.2 39 i - 2 = 2 from by omega, h40, Int.toNat_natCast, (aV_2_2 (ρ.2 9 t2) x (ρ.2 41 i)).1, (aV_2_2 (ρ.2 9 t2) x (ρ.2 41 i)).2, e97, e95, e93]
      rw [e9]
      exact ⟨rfl, ⟨sc, kn, hS97, hCl97⟩, hF97, hB97.le (by omega) (by omega)⟩)
          · refine S_aload_n dX8_act_41 rfl ?_
            refine S_getP (o := some (16, 0)) fl_X8_43 dX8_act_42 rfl rfl (by rw [(show M.P (1, 0) 5 = some (16, 0) from congrFun hA.2.2 5)]) ?_
            refine S_iconst dX8_act_45 ?_
            refine S_putI fl_X8_256 dX8_act_46 rfl rfl rfl  (Or.inl rfl) ?_
            refine Sf.nm (fun M98 hM98 => ?_)
            obtain ⟨ρ99, e99⟩ : ∃ z9 : RS, z9 = (ρ.setS 44 0) := ⟨_, rfl⟩
            have hCl99 : Cl (Y.1, Y.2, sc, kn) ρ99 M98 := (by rw [e99, hM98]; exact hCl.tk0)
            have hS99 : StpOK sc kn ρ99 := (by rw [e99]; exact hS)
            have hF99 : Fr CLs M M98 := (by rw [hM98]; exact hF0.trans (Fr.pI 16 0 (by decide)))
            have hB99 : Bg 0 0 M M98 := (by rw [hM98]; exact (hB0.trans (Bg.pI _ _ _ _)).le (by omega) (by omega))
            have s4_99 : ρ99.1 4 = ρ.1 4 := (by rw [e99, RS.setS_ne (by decide)])
            have s30_99 : ρ99.1 30 = ρ.1 30 := (by rw [e99, RS.setS_ne (by decide)])
            have t_99 : thN ρ99 = thN ρ := by rw [e99]; rfl
            clear hA hB hC hD hE hN hG hH hI hJ hK hL
            obtain ⟨hA, hB, hC, hD, hE, hN, hG, hH, hI, hJ, hK, hL⟩ := id hCl99
            have hO1 : M98.P (15, i) 0 = some (18, t2) := by rw [hM98, Mem.putI_P]; exact congrFun hOb.2.2 0
            have hk9 : M98.I (18, t2) 0 = 3 := (congrFun (hD.1 t2 (by omega)).2.1 0).trans (show ρ99.2 6 t2 = 3 from (by rw [e99, RS.setS_a, hk4]))
            have hv9 : M98.I (18, t2) 1 = ρ.2 9 t2 := (congrFun (hD.1 t2 (by omega)).2.1 1).trans (show ρ99.2 9 t2 = ρ.2 9 t2 from (by rw [e99, RS.setS_a]))
            have h449 : ρ99.1 44 = ↑0 := (by rw [e99, RS.setS_eq])
            refine S_aload_n dX8_act_49 rfl ?_
            refine S_aload_n dX8_act_50 rfl ?_
            refine S_getP (o := some (16, 0)) fl_X8_43 dX8_act_51 rfl rfl (by rw [(show M98.P (1, 0) 5 = some (16, 0) from congrFun hA.2.2 5)]) ?_
            refine S_aload dX8_act_54 rfl ?_
            refine S_getP (o := some (18, t2)) fl_X8_278 dX8_act_56 rfl rfl (by rw [hO1]) ?_
            refine S_aload dX8_act_59 rfl ?_
            refine S_getP (o := some (18, t2)) fl_X8_278 dX8_act_61 rfl rfl (by rw [hO1]) ?_
            refine S_getI (v := 3) fl_X8_281 dX8_act_64 rfl rfl (by rw [hk9]) ?_
            refine S_iload_n dX8_act_67 rfl ?_
            refine S_iload_n dX8_act_68 rfl ?_
            refine S_iconst dX8_act_69 ?_
            refine S_callS (mi := mi_X8_act) [vR ((16, 0)), vR ((18, t2)), vI 3, vI 2, vI x, vI 0] (okD_X8_run 8) ml_X8_284 dX8_act_70 (by decide) rfl (Nat.le_of_ble_eq_true rfl) rfl (c_run_3_3_2 (G := G) (show Cs Y ρ99 M98 from ⟨sc, kn, hS99, hCl99⟩) 0 h449 (by decide) t2 (ρ.2 9 t2) hk9 hv9 x 0 (by omega)) ?_
            rintro v' M100 ⟨rfl, hCs100, hF100', hB100'⟩
            obtain ⟨ρ101, e101⟩ : ∃ z9 : RS, z9 = (ranL ρ99 0 ([12, 40, 11, 10, 13])) := ⟨_, rfl⟩
            rw [← e101] at hCs100
            obtain ⟨sc, kn, hS101, hCl101⟩ := hCs100
            have hF101 : Fr CLs M M100 := hF99.trans (hF100'.mono (fun c hc => by revert c; decide))
            have hB101 : Bg 0 0 M M100 := (hB99.trans hB100').le (by omega) (by omega)
            clear hA hB hC hD hE hN hG hH hI hJ hK hL hCl99 hS99 hF99 hB99
            obtain ⟨hA, hB, hC, hD, hE, hN, hG, hH, hI, hJ, hK, hL⟩ := id hCl101
            refine S_callV (mi := mi_X8_act) [vI ((((x + (ρ.2 9 t2)) * 3) + 5) - ((jI x ^^^ jI (ρ.2 9 t2)).toInt))] ok_X8_done ml_X8_69 dX8_act_73 rfl (by decide) rfl (by decide) rfl (Nat.le_of_ble_eq_true rfl) rfl (c_done (show Cs Y ρ101 M100 from ⟨sc, kn, hS101, hCl101⟩) ((((x + (ρ.2 9 t2)) * 3) + 5) - ((jI x ^^^ jI (ρ.2 9 t2)).toInt))) ?_
            rintro v' M102 ⟨rfl, hCs102, hF102', hB102'⟩
            obtain ⟨ρ103, e103⟩ : ∃ z9 : RS, z9 = (ρ101.setS 42 0) := ⟨_, rfl⟩
            rw [← e103] at hCs102
            obtain ⟨sc, kn, hS103, hCl103⟩ := hCs102
            have hF103 : Fr CLs M M102 := hF101.trans hF102'
            have hB103 : Bg 0 0 M M102 := (hB101.trans hB102').le (by omega) (by omega)
            have t_103 : thN ρ103 = thN ρ101 := by rw [e103]; rfl
            clear hA hB hC hD hE hN hG hH hI hJ hK hL hCl101 hS101 hF101 hB101
            obtain ⟨hA, hB, hC, hD, hE, hN, hG, hH, hI, hJ, hK, hL⟩ := id hCl103
            exact S_iret dX8_act_76 rfl (Or.inl rfl) (by
      have e9 : actF ρ (↑i) 2 x = (((((x + (ρ.2 9 t2)) * 3) + 5) - ((jI x ^^^ jI (ρ.2 9 t2)).toInt) : Int), ρ103) := by
        unfold actF
        rw [if_neg (by omega), Int.toNat_natCast, if_neg (by omega), if_neg (by decide), if_neg (by decide), if_pos rfl, show ρ.2 39 i - 2 = 3 from by omega, h40, Int.toNat_natCast, (aV_3_2 (ρ.2 9 t2) x (ρ.2 41 i)).1, (aV_3_2 (ρ.2 9 t2) x (ρ.2 41 i)).2, e103, e101, e99]
      rw [e9]
      exact ⟨rfl, ⟨sc, kn, hS103, hCl103⟩, hF103, hB103.le (by omega) (by omega)⟩)
          · refine S_aload_n dX8_act_41 rfl ?_
            refine S_getP (o := some (16, 0)) fl_X8_43 dX8_act_42 rfl rfl (by rw [(show M.P (1, 0) 5 = some (16, 0) from congrFun hA.2.2 5)]) ?_
            refine S_iconst dX8_act_45 ?_
            refine S_putI fl_X8_256 dX8_act_46 rfl rfl rfl  (Or.inl rfl) ?_
            refine Sf.nm (fun M104 hM104 => ?_)
            obtain ⟨ρ105, e105⟩ : ∃ z9 : RS, z9 = (ρ.setS 44 0) := ⟨_, rfl⟩
            have hCl105 : Cl (Y.1, Y.2, sc, kn) ρ105 M104 := (by rw [e105, hM104]; exact hCl.tk0)
            have hS105 : StpOK sc kn ρ105 := (by rw [e105]; exact hS)
            have hF105 : Fr CLs M M104 := (by rw [hM104]; exact hF0.trans (Fr.pI 16 0 (by decide)))
            have hB105 : Bg 0 0 M M104 := (by rw [hM104]; exact (hB0.trans (Bg.pI _ _ _ _)).le (by omega) (by omega))
            have s4_105 : ρ105.1 4 = ρ.1 4 := (by rw [e105, RS.setS_ne (by decide)])
            have s30_105 : ρ105.1 30 = ρ.1 30 := (by rw [e105, RS.setS_ne (by decide)])
            have t_105 : thN ρ105 = thN ρ := by rw [e105]; rfl
            clear hA hB hC hD hE hN hG hH hI hJ hK hL
            obtain ⟨hA, hB, hC, hD, hE, hN, hG, hH, hI, hJ, hK, hL⟩ := id hCl105
            have hO1 : M104.P (15, i) 0 = some (18, t2) := by rw [hM104, Mem.putI_P]; exact congrFun hOb.2.2 0
            have hk9 : M104.I (18, t2) 0 = 0 := (congrFun (hD.1 t2 (by omega)).2.1 0).trans (show ρ105.2 6 t2 = 0 from (by rw [e105, RS.setS_a, hk4]))
            have hv9 : M104.I (18, t2) 1 = ρ.2 9 t2 := (congrFun (hD.1 t2 (by omega)).2.1 1).trans (show ρ105.2 9 t2 = ρ.2 9 t2 from (by rw [e105, RS.setS_a]))
            have h449 : ρ105.1 44 = ↑0 := (by rw [e105, RS.setS_eq])
            refine S_aload_n dX8_act_49 rfl ?_
            refine S_aload_n dX8_act_50 rfl ?_
            refine S_getP (o := some (16, 0)) fl_X8_43 dX8_act_51 rfl rfl (by rw [(show M104.P (1, 0) 5 = some (16, 0) from congrFun hA.2.2 5)]) ?_
            refine S_aload dX8_act_54 rfl ?_
            refine S_getP (o := some (18, t2)) fl_X8_278 dX8_act_56 rfl rfl (by rw [hO1]) ?_
            refine S_aload dX8_act_59 rfl ?_
            refine S_getP (o := some (18, t2)) fl_X8_278 dX8_act_61 rfl rfl (by rw [hO1]) ?_
            refine S_getI (v := 0) fl_X8_281 dX8_act_64 rfl rfl (by rw [hk9]) ?_
            refine S_iload_n dX8_act_67 rfl ?_
            refine S_iload_n dX8_act_68 rfl ?_
            refine S_iconst dX8_act_69 ?_
            refine S_callS (mi := mi_X8_act) [vR ((16, 0)), vR ((18, t2)), vI 0, vI 3, vI x, vI 0] (okD_X8_run 5) ml_X8_284 dX8_act_70 (by decide) rfl (Nat.le_of_ble_eq_true rfl) rfl (c_run_0_0_3 (G := G) (show Cs Y ρ105 M104 from ⟨sc, kn, hS105, hCl105⟩) 0 h449 (by decide) t2 (ρ.2 9 t2) hk9 hv9 x 0 (by omega)) ?_
            rintro v' M106 ⟨rfl, hCs106, hF106', hB106'⟩
            obtain ⟨ρ107, e107⟩ : ∃ z9 : RS, z9 = (ranL ρ105 0 ([13])) := ⟨_, rfl⟩
            rw [← e107] at hCs106
            obtain ⟨sc, kn, hS107, hCl107⟩ := hCs106
            have hF107 : Fr CLs M M106 := hF105.trans (hF106'.mono (fun c hc => by revert c; decide))
            have hB107 : Bg 0 0 M M106 := (hB105.trans hB106').le (by omega) (by omega)
            clear hA hB hC hD hE hN hG hH hI hJ hK hL hCl105 hS105 hF105 hB105
            obtain ⟨hA, hB, hC, hD, hE, hN, hG, hH, hI, hJ, hK, hL⟩ := id hCl107
            refine S_callV (mi := mi_X8_act) [vI ((jI x ^^^ jI (ρ.2 9 t2)).toInt)] ok_X8_done ml_X8_69 dX8_act_73 rfl (by decide) rfl (by decide) rfl (Nat.le_of_ble_eq_true rfl) rfl (c_done (show Cs Y ρ107 M106 from ⟨sc, kn, hS107, hCl107⟩) ((jI x ^^^ jI (ρ.2 9 t2)).toInt)) ?_
            rintro v' M108 ⟨rfl, hCs108, hF108', hB108'⟩
            obtain ⟨ρ109, e109⟩ : ∃ z9 : RS, z9 = (ρ107.setS 42 0) := ⟨_, rfl⟩
            rw [← e109] at hCs108
            obtain ⟨sc, kn, hS109, hCl109⟩ := hCs108
            have hF109 : Fr CLs M M108 := hF107.trans hF108'
            have hB109 : Bg 0 0 M M108 := (hB107.trans hB108').le (by omega) (by omega)
            have t_109 : thN ρ109 = thN ρ107 := by rw [e109]; rfl
            clear hA hB hC hD hE hN hG hH hI hJ hK hL hCl107 hS107 hF107 hB107
            obtain ⟨hA, hB, hC, hD, hE, hN, hG, hH, hI, hJ, hK, hL⟩ := id hCl109
            exact S_iret dX8_act_76 rfl (Or.inl rfl) (by
      have e9 : actF ρ (↑i) 3 x = (((jI x ^^^ jI (ρ.2 9 t2)).toInt : Int), ρ109) := by
        unfold actF
        rw [if_neg (by omega), Int.toNat_natCast, if_neg (by omega), if_neg (by decide), if_neg (by decide), if_neg (by decide), show ρ.2 39 i - 2 = 0 from by omega, h40, Int.toNat_natCast, (aV_0_3 (ρ.2 9 t2) x (ρ.2 41 i)).1, (aV_0_3 (ρ.2 9 t2) x (ρ.2 41 i)).2, e109, e107, e105]
      rw [e9]
      exact ⟨rfl, ⟨sc, kn, hS109, hCl109⟩, hF109, hB109.le (by omega) (by omega)⟩)
          · refine S_aload_n dX8_act_41 rfl ?_
            refine S_getP (o := some (16, 0)) fl_X8_43 dX8_act_42 rfl rfl (by rw [(show M.P (1, 0) 5 = some (16, 0) from congrFun hA.2.2 5)]) ?_
            refine S_iconst dX8_act_45 ?_
            refine S_putI fl_X8_256 dX8_act_46 rfl rfl rfl  (Or.inl rfl) ?_
            refine Sf.nm (fun M110 hM110 => ?_)
            obtain ⟨ρ111, e111⟩ : ∃ z9 : RS, z9 = (ρ.setS 44 0) := ⟨_, rfl⟩
            have hCl111 : Cl (Y.1, Y.2, sc, kn) ρ111 M110 := (by rw [e111, hM110]; exact hCl.tk0)
            have hS111 : StpOK sc kn ρ111 := (by rw [e111]; exact hS)
            have hF111 : Fr CLs M M110 := (by rw [hM110]; exact hF0.trans (Fr.pI 16 0 (by decide)))
            have hB111 : Bg 0 0 M M110 := (by rw [hM110]; exact (hB0.trans (Bg.pI _ _ _ _)).le (by omega) (by omega))
            have s4_111 : ρ111.1 4 = ρ.1 4 := (by rw [e111, RS.setS_ne (by decide)])
            have s30_111 : ρ111.1 30 = ρ.1 30 := (by rw [e111, RS.setS_ne (by decide)])
            have t_111 : thN ρ111 = thN ρ := by rw [e111]; rfl
            clear hA hB hC hD hE hN hG hH hI hJ hK hL
            obtain ⟨hA, hB, hC, hD, hE, hN, hG, hH, hI, hJ, hK, hL⟩ := id hCl111
            have hO1 : M110.P (15, i) 0 = some (18, t2) := by rw [hM110, Mem.putI_P]; exact congrFun hOb.2.2 0
            have hk9 : M110.I (18, t2) 0 = 1 := (congrFun (hD.1 t2 (by omega)).2.1 0).trans (show ρ111.2 6 t2 = 1 from (by rw [e111, RS.setS_a, hk4]))
            have hv9 : M110.I (18, t2) 1 = ρ.2 9 t2 := (congrFun (hD.1 t2 (by omega)).2.1 1).trans (show ρ111.2 9 t2 = ρ.2 9 t2 from (by rw [e111, RS.setS_a]))
            have h449 : ρ111.1 44 = ↑0 := (by rw [e111, RS.setS_eq])
            refine S_aload_n dX8_act_49 rfl ?_
            refine S_aload_n dX8_act_50 rfl ?_
            refine S_getP (o := some (16, 0)) fl_X8_43 dX8_act_51 rfl rfl (by rw [(show M110.P (1, 0) 5 = some (16, 0) from congrFun hA.2.2 5)]) ?_
            refine S_aload dX8_act_54 rfl ?_
            refine S_getP (o := some (18, t2)) fl_X8_278 dX8_act_56 rfl rfl (by rw [hO1]) ?_
            refine S_aload dX8_act_59 rfl ?_
            refine S_getP (o := some (18, t2)) fl_X8_278 dX8_act_61 rfl rfl (by rw [hO1]) ?_
            refine S_getI (v := 1) fl_X8_281 dX8_act_64 rfl rfl (by rw [hk9]) ?_
            refine S_iload_n dX8_act_67 rfl ?_
            refine S_iload_n dX8_act_68 rfl ?_
            refine S_iconst dX8_act_69 ?_
            refine S_callS (mi := mi_X8_act) [vR ((16, 0)), vR ((18, t2)), vI 1, vI 3, vI x, vI 0] (okD_X8_run 5) ml_X8_284 dX8_act_70 (by decide) rfl (Nat.le_of_ble_eq_true rfl) rfl (c_run_1_1_3 (G := G) (show Cs Y ρ111 M110 from ⟨sc, kn, hS111, hCl111⟩) 0 h449 (by decide) t2 (ρ.2 9 t2) hk9 hv9 x 0 (by omega)) ?_
            rintro v' M112 ⟨rfl, hCs112, hF112', hB112'⟩
            obtain ⟨ρ113, e113⟩ : ∃ z9 : RS, z9 = (ranL ρ111 0 ([13])) := ⟨_, rfl⟩
            rw [← e113] at hCs112
            obtain ⟨sc, kn, hS113, hCl113⟩ := hCs112
            have hF113 : Fr CLs M M112 := hF111.trans (hF112'.mono (fun c hc => by revert c; decide))
            have hB113 : Bg 0 0 M M112 := (hB111.trans hB112').le (by omega) (by omega)
            clear hA hB hC hD hE hN hG hH hI hJ hK hL hCl111 hS111 hF111 hB111
            obtain ⟨hA, hB, hC, hD, hE, hN, hG, hH, hI, hJ, hK, hL⟩ := id hCl113
            refine S_callV (mi := mi_X8_act) [vI ((jI x ^^^ jI (ρ.2 9 t2)).toInt)] ok_X8_done ml_X8_69 dX8_act_73 rfl (by decide) rfl (by decide) rfl (Nat.le_of_ble_eq_true rfl) rfl (c_done (show Cs Y ρ113 M112 from ⟨sc, kn, hS113, hCl113⟩) ((jI x ^^^ jI (ρ.2 9 t2)).toInt)) ?_
            rintro v' M114 ⟨rfl, hCs114, hF114', hB114'⟩
            obtain ⟨ρ115, e115⟩ : ∃ z9 : RS, z9 = (ρ113.setS 42 0) := ⟨_, rfl⟩
            rw [← e115] at hCs114
            obtain ⟨sc, kn, hS115, hCl115⟩ := hCs114
            have hF115 : Fr CLs M M114 := hF113.trans hF114'
            have hB115 : Bg 0 0 M M114 := (hB113.trans hB114').le (by omega) (by omega)
            have t_115 : thN ρ115 = thN ρ113 := by rw [e115]; rfl
            clear hA hB hC hD hE hN hG hH hI hJ hK hL hCl113 hS113 hF113 hB113
            obtain ⟨hA, hB, hC, hD, hE, hN, hG, hH, hI, hJ, hK, hL⟩ := id hCl115
            exact S_iret dX8_act_76 rfl (Or.inl rfl) (by
      have e9 : actF ρ (↑i) 3 x = (((jI x ^^^ jI (ρ.2 9 t2)).toInt : Int), ρ115) := by
        unfold actF
        rw [if_neg (by omega), Int.toNat_natCast, if_neg (by omega), if_neg (by decide), if_neg (by decide), if_neg (by decide), show ρ.2 39 i - 2 = 1 from by omega, h40, Int.toNat_natCast, (aV_1_3 (ρ.2 9 t2) x (ρ.2 41 i)).1, (aV_1_3 (ρ.2 9 t2) x (ρ.2 41 i)).2, e115, e113, e111]
      rw [e9]
      exact ⟨rfl, ⟨sc, kn, hS115, hCl115⟩, hF115, hB115.le (by omega) (by omega)⟩)
          · refine S_aload_n dX8_act_41 rfl ?_
            refine S_getP (o := some (16, 0)) fl_X8_43 dX8_act_42 rfl rfl (by rw [(show M.P (1, 0) 5 = some (16, 0) from congrFun hA.2.2 5)]) ?_
            refine S_iconst dX8_act_45 ?_
            refine S_putI fl_X8_256 dX8_act_46 rfl rfl rfl  (Or.inl rfl) ?_
            refine Sf.nm (fun M116 hM116 => ?_)
            obtain ⟨ρ117, e117⟩ : ∃ z9 : RS, z9 = (ρ.setS 44 0) := ⟨_, rfl⟩
            have hCl117 : Cl (Y.1, Y.2, sc, kn) ρ117 M116 := (by rw [e117, hM116]; exact hCl.tk0)
            have hS117 : StpOK sc kn ρ117 := (by rw [e117]; exact hS)
            have hF117 : Fr CLs M M116 := (by rw [hM116]; exact hF0.trans (Fr.pI 16 0 (by decide)))
            have hB117 : Bg 0 0 M M116 := (by rw [hM116]; exact (hB0.trans (Bg.pI _ _ _ _)).le (by omega) (by omega))
            have s4_117 : ρ117.1 4 = ρ.1 4 := (by rw [e117, RS.setS_ne (by decide)])
            have s30_117 : ρ117.1 30 = ρ.1 30 := (by rw [e117, RS.setS_ne (by decide)])
            have t_117 : thN ρ117 = thN ρ := by rw [e117]; rfl
            clear hA hB hC hD hE hN hG hH hI hJ hK hL
            obtain ⟨hA, hB, hC, hD, hE, hN, hG, hH, hI, hJ, hK, hL⟩ := id hCl117
            have hO1 : M116.P (15, i) 0 = some (18, t2) := by rw [hM116, Mem.putI_P]; exact congrFun hOb.2.2 0
            have hk9 : M116.I (18, t2) 0 = 2 := (congrFun (hD.1 t2 (by omega)).2.1 0).trans (show ρ117.2 6 t2 = 2 from (by rw [e117, RS.setS_a, hk4]))
            have hv9 : M116.I (18, t2) 1 = ρ.2 9 t2 := (congrFun (hD.1 t2 (by omega)).2.1 1).trans (show ρ117.2 9 t2 = ρ.2 9 t2 from (by rw [e117, RS.setS_a]))
            have h449 : ρ117.1 44 = ↑0 := (by rw [e117, RS.setS_eq])
            refine S_aload_n dX8_act_49 rfl ?_
            refine S_aload_n dX8_act_50 rfl ?_
            refine S_getP (o := some (16, 0)) fl_X8_43 dX8_act_51 rfl rfl (by rw [(show M116.P (1, 0) 5 = some (16, 0) from congrFun hA.2.2 5)]) ?_
            refine S_aload dX8_act_54 rfl ?_
            refine S_getP (o := some (18, t2)) fl_X8_278 dX8_act_56 rfl rfl (by rw [hO1]) ?_
            refine S_aload dX8_act_59 rfl ?_
            refine S_getP (o := some (18, t2)) fl_X8_278 dX8_act_61 rfl rfl (by rw [hO1]) ?_
            refine S_getI (v := 2) fl_X8_281 dX8_act_64 rfl rfl (by rw [hk9]) ?_
            refine S_iload_n dX8_act_67 rfl ?_
            refine S_iload_n dX8_act_68 rfl ?_
            refine S_iconst dX8_act_69 ?_
            refine S_callS (mi := mi_X8_act) [vR ((16, 0)), vR ((18, t2)), vI 2, vI 3, vI x, vI 0] (okD_X8_run 6) ml_X8_284 dX8_act_70 (by decide) rfl (Nat.le_of_ble_eq_true rfl) rfl (c_run_2_2_3 (G := G) (show Cs Y ρ117 M116 from ⟨sc, kn, hS117, hCl117⟩) 0 h449 (by decide) t2 (ρ.2 9 t2) hk9 hv9 x 0 (by omega)) ?_
            rintro v' M118 ⟨rfl, hCs118, hF118', hB118'⟩
            obtain ⟨ρ119, e119⟩ : ∃ z9 : RS, z9 = (ranL ρ117 0 ([30, 13])) := ⟨_, rfl⟩
            rw [← e119] at hCs118
            obtain ⟨sc, kn, hS119, hCl119⟩ := hCs118
            have hF119 : Fr CLs M M118 := hF117.trans (hF118'.mono (fun c hc => by revert c; decide))
            have hB119 : Bg 0 0 M M118 := (hB117.trans hB118').le (by omega) (by omega)
            clear hA hB hC hD hE hN hG hH hI hJ hK hL hCl117 hS117 hF117 hB117
            obtain ⟨hA, hB, hC, hD, hE, hN, hG, hH, hI, hJ, hK, hL⟩ := id hCl119
            refine S_callV (mi := mi_X8_act) [vI (((jI x ^^^ jI (ρ.2 9 t2)).toInt) - 1)] ok_X8_done ml_X8_69 dX8_act_73 rfl (by decide) rfl (by decide) rfl (Nat.le_of_ble_eq_true rfl) rfl (c_done (show Cs Y ρ119 M118 from ⟨sc, kn, hS119, hCl119⟩) (((jI x ^^^ jI (ρ.2 9 t2)).toInt) - 1)) ?_
            rintro v' M120 ⟨rfl, hCs120, hF120', hB120'⟩
            obtain ⟨ρ121, e121⟩ : ∃ z9 : RS, z9 = (ρ119.setS 42 0) := ⟨_, rfl⟩
            rw [← e121] at hCs120
            obtain ⟨sc, kn, hS121, hCl121⟩ := hCs120
            have hF121 : Fr CLs M M120 := hF119.trans hF120'
            have hB121 : Bg 0 0 M M120 := (hB119.trans hB120').le (by omega) (by omega)
            have t_121 : thN ρ121 = thN ρ119 := by rw [e121]; rfl
            clear hA hB hC hD hE hN hG hH hI hJ hK hL hCl119 hS119 hF119 hB119
            obtain ⟨hA, hB, hC, hD, hE, hN, hG, hH, hI, hJ, hK, hL⟩ := id hCl121
            exact S_iret dX8_act_76 rfl (Or.inl rfl) (by
      have e9 : actF ρ (↑i) 3 x = ((((jI x ^^^ jI (ρ.2 9 t2)).toInt) - 1 : Int), ρ121) := by
        unfold actF
        rw [if_neg (by omega), Int.toNat_natCast, if_neg (by omega), if_neg (by decide), if_neg (by decide), if_neg (by decide), show ρ.2 39 i - 2 = 2 from by omega, h40, Int.toNat_natCast, (aV_2_3 (ρ.2 9 t2) x (ρ.2 41 i)).1, (aV_2_3 (ρ.2 9 t2) x (ρ.2 41 i)).2, e121, e119, e117]
      rw [e9]
      exact ⟨rfl, ⟨sc, kn, hS121, hCl121⟩, hF121, hB121.le (by omega) (by omega)⟩)
          · refine S_aload_n dX8_act_41 rfl ?_
            refine S_getP (o := some (16, 0)) fl_X8_43 dX8_act_42 rfl rfl (by rw [(show M.P (1, 0) 5 = some (16, 0) from congrFun hA.2.2 5)]) ?_
            refine S_iconst dX8_act_45 ?_
            refine S_putI fl_X8_256 dX8_act_46 rfl rfl rfl  (Or.inl rfl) ?_
            refine Sf.nm (fun M122 hM122 => ?_)
            obtain ⟨ρ123, e123⟩ : ∃ z9 : RS, z9 = (ρ.setS 44 0) := ⟨_, rfl⟩
            have hCl123 : Cl (Y.1, Y.2, sc, kn) ρ123 M122 := (by rw [e123, hM122]; exact hCl.tk0)
            have hS123 : StpOK sc kn ρ123 := (by rw [e123]; exact hS)
            have hF123 : Fr CLs M M122 := (by rw [hM122]; exact hF0.trans (Fr.pI 16 0 (by decide)))
            have hB123 : Bg 0 0 M M122 := (by rw [hM122]; exact (hB0.trans (Bg.pI _ _ _ _)).le (by omega) (by omega))
            have s4_123 : ρ123.1 4 = ρ.1 4 := (by rw [e123, RS.setS_ne (by decide)])
            have s30_123 : ρ123.1 30 = ρ.1 30 := (by rw [e123, RS.setS_ne (by decide)])
            have t_123 : thN ρ123 = thN ρ := by rw [e123]; rfl
            clear hA hB hC hD hE hN hG hH hI hJ hK hL
            obtain ⟨hA, hB, hC, hD, hE, hN, hG, hH, hI, hJ, hK, hL⟩ := id hCl123
            have hO1 : M122.P (15, i) 0 = some (18, t2) := by rw [hM122, Mem.putI_P]; exact congrFun hOb.2.2 0
            have hk9 : M122.I (18, t2) 0 = 3 := (congrFun (hD.1 t2 (by omega)).2.1 0).trans (show ρ123.2 6 t2 = 3 from (by rw [e123, RS.setS_a, hk4]))
            have hv9 : M122.I (18, t2) 1 = ρ.2 9 t2 := (congrFun (hD.1 t2 (by omega)).2.1 1).trans (show ρ123.2 9 t2 = ρ.2 9 t2 from (by rw [e123, RS.setS_a]))
            have h449 : ρ123.1 44 = ↑0 := (by rw [e123, RS.setS_eq])
            refine S_aload_n dX8_act_49 rfl ?_
            refine S_aload_n dX8_act_50 rfl ?_
            refine S_getP (o := some (16, 0)) fl_X8_43 dX8_act_51 rfl rfl (by rw [(show M122.P (1, 0) 5 = some (16, 0) from congrFun hA.2.2 5)]) ?_
            refine S_aload dX8_act_54 rfl ?_
            refine S_getP (o := some (18, t2)) fl_X8_278 dX8_act_56 rfl rfl (by rw [hO1]) ?_
            refine S_aload dX8_act_59 rfl ?_
            refine S_getP (o := some (18, t2)) fl_X8_278 dX8_act_61 rfl rfl (by rw [hO1]) ?_
            refine S_getI (v := 3) fl_X8_281 dX8_act_64 rfl rfl (by rw [hk9]) ?_
            refine S_iload_n dX8_act_67 rfl ?_
            refine S_iload_n dX8_act_68 rfl ?_
            refine S_iconst dX8_act_69 ?_
            refine S_callS (mi := mi_X8_act) [vR ((16, 0)), vR ((18, t2)), vI 3, vI 3, vI x, vI 0] (okD_X8_run 5) ml_X8_284 dX8_act_70 (by decide) rfl (Nat.le_of_ble_eq_true rfl) rfl (c_run_3_3_3 (G := G) (show Cs Y ρ123 M122 from ⟨sc, kn, hS123, hCl123⟩) 0 h449 (by decide) t2 (ρ.2 9 t2) hk9 hv9 x 0 (by omega)) ?_
            rintro v' M124 ⟨rfl, hCs124, hF124', hB124'⟩
            obtain ⟨ρ125, e125⟩ : ∃ z9 : RS, z9 = (ranL ρ123 0 ([13])) := ⟨_, rfl⟩
            rw [← e125] at hCs124
            obtain ⟨sc, kn, hS125, hCl125⟩ := hCs124
            have hF125 : Fr CLs M M124 := hF123.trans (hF124'.mono (fun c hc => by revert c; decide))
            have hB125 : Bg 0 0 M M124 := (hB123.trans hB124').le (by omega) (by omega)
            clear hA hB hC hD hE hN hG hH hI hJ hK hL hCl123 hS123 hF123 hB123
            obtain ⟨hA, hB, hC, hD, hE, hN, hG, hH, hI, hJ, hK, hL⟩ := id hCl125
            refine S_callV (mi := mi_X8_act) [vI ((jI x ^^^ jI (ρ.2 9 t2)).toInt)] ok_X8_done ml_X8_69 dX8_act_73 rfl (by decide) rfl (by decide) rfl (Nat.le_of_ble_eq_true rfl) rfl (c_done (show Cs Y ρ125 M124 from ⟨sc, kn, hS125, hCl125⟩) ((jI x ^^^ jI (ρ.2 9 t2)).toInt)) ?_
            rintro v' M126 ⟨rfl, hCs126, hF126', hB126'⟩
            obtain ⟨ρ127, e127⟩ : ∃ z9 : RS, z9 = (ρ125.setS 42 0) := ⟨_, rfl⟩
            rw [← e127] at hCs126
            obtain ⟨sc, kn, hS127, hCl127⟩ := hCs126
            have hF127 : Fr CLs M M126 := hF125.trans hF126'
            have hB127 : Bg 0 0 M M126 := (hB125.trans hB126').le (by omega) (by omega)
            have t_127 : thN ρ127 = thN ρ125 := by rw [e127]; rfl
            clear hA hB hC hD hE hN hG hH hI hJ hK hL hCl125 hS125 hF125 hB125
            obtain ⟨hA, hB, hC, hD, hE, hN, hG, hH, hI, hJ, hK, hL⟩ := id hCl127
            exact S_iret dX8_act_76 rfl (Or.inl rfl) (by
      have e9 : actF ρ (↑i) 3 x = (((jI x ^^^ jI (ρ.2 9 t2)).toInt : Int), ρ127) := by
        unfold actF
        rw [if_neg (by omega), Int.toNat_natCast, if_neg (by omega), if_neg (by decide), if_neg (by decide), if_neg (by decide), show ρ.2 39 i - 2 = 3 from by omega, h40, Int.toNat_natCast, (aV_3_3 (ρ.2 9 t2) x (ρ.2 41 i)).1, (aV_3_3 (ρ.2 9 t2) x (ρ.2 41 i)).2, e127, e125, e123]
      rw [e9]
      exact ⟨rfl, ⟨sc, kn, hS127, hCl127⟩, hF127, hB127.le (by omega) (by omega)⟩)
      · refine S_aload_n dX8_act_21 rfl ?_
        refine S_iconst dX8_act_22 ?_
        refine S_callV (mi := mi_X8_act) [vI 1] ok_X8_refuse ml_X8_54 dX8_act_23 rfl (by decide) rfl (by decide) rfl (Nat.le_of_ble_eq_true rfl) rfl (c_refuse (show Cs Y ρ M from ⟨sc, kn, hS, hCl⟩) 1) ?_
        rintro v' M128 ⟨rfl, hCs128, hF128', hB128'⟩
        obtain ⟨ρ129, e129⟩ : ∃ z9 : RS, z9 = (ρ.setS 42 1) := ⟨_, rfl⟩
        rw [← e129] at hCs128
        obtain ⟨sc, kn, hS129, hCl129⟩ := hCs128
        have hF129 : Fr CLs M M128 := hF0.trans hF128'
        have hB129 : Bg 0 0 M M128 := (hB0.trans hB128').le (by omega) (by omega)
        have s4_129 : ρ129.1 4 = ρ.1 4 := (by rw [e129, RS.setS_ne (by decide)])
        have s30_129 : ρ129.1 30 = ρ.1 30 := (by rw [e129, RS.setS_ne (by decide)])
        have t_129 : thN ρ129 = thN ρ := by rw [e129]; rfl
        clear hA hB hC hD hE hN hG hH hI hJ hK hL
        obtain ⟨hA, hB, hC, hD, hE, hN, hG, hH, hI, hJ, hK, hL⟩ := id hCl129
        exact S_iret dX8_act_26 rfl (Or.inl rfl) (by
      have e9 : actF ρ (↑i) a9 x = (((-1) : Int), ρ129) := by
        unfold actF
        rw [if_pos (by omega), e129]
      rw [e9]
      exact ⟨rfl, ⟨sc, kn, hS129, hCl129⟩, hF129, hB129.le (by omega) (by omega)⟩)
  · refine S_callV (mi := mi_X8_act) [vI t] ok_X8_trayAt ml_X8_258 dX8_act_2 rfl (by decide) rfl (by decide) rfl (Nat.le_of_ble_eq_true rfl) rfl (c_trayAtN hCl t t32 hvt) ?_
    rintro v' M130 ⟨rfl, hM130⟩
    rw [hM130]
    clear hM130
    refine S_astore dX8_act_5 (by decide) ?_
    refine S_aload dX8_act_7 rfl ?_
    refine S_ifnull 21 dX8_act_9 (by decide) (fun c_9 => ?_) (fun c_9 => absurd c_9 (by simp))
    refine S_aload_n dX8_act_21 rfl ?_
    refine S_iconst dX8_act_22 ?_
    refine S_callV (mi := mi_X8_act) [vI 1] ok_X8_refuse ml_X8_54 dX8_act_23 rfl (by decide) rfl (by decide) rfl (Nat.le_of_ble_eq_true rfl) rfl (c_refuse (show Cs Y ρ M from ⟨sc, kn, hS, hCl⟩) 1) ?_
    rintro v' M131 ⟨rfl, hCs131, hF131', hB131'⟩
    obtain ⟨ρ132, e132⟩ : ∃ z9 : RS, z9 = (ρ.setS 42 1) := ⟨_, rfl⟩
    rw [← e132] at hCs131
    obtain ⟨sc, kn, hS132, hCl132⟩ := hCs131
    have hF132 : Fr CLs M M131 := hF0.trans hF131'
    have hB132 : Bg 0 0 M M131 := (hB0.trans hB131').le (by omega) (by omega)
    have s4_132 : ρ132.1 4 = ρ.1 4 := (by rw [e132, RS.setS_ne (by decide)])
    have s30_132 : ρ132.1 30 = ρ.1 30 := (by rw [e132, RS.setS_ne (by decide)])
    have t_132 : thN ρ132 = thN ρ := by rw [e132]; rfl
    clear hA hB hC hD hE hN hG hH hI hJ hK hL
    obtain ⟨hA, hB, hC, hD, hE, hN, hG, hH, hI, hJ, hK, hL⟩ := id hCl132
    exact S_iret dX8_act_26 rfl (Or.inl rfl) (by
      have e9 : actF ρ t a9 x = (((-1) : Int), ρ132) := by
        unfold actF
        rw [if_pos (by omega), e132]
      rw [e9]
      exact ⟨rfl, ⟨sc, kn, hS132, hCl132⟩, hF132, hB132.le (by omega) (by omega)⟩)
