/-! THE CLASS: refuse, done, prime, alter -/
theorem Cl.l35 {X : Gh} {ρ : RS} {M : Mem} (h : Cl X ρ M) (l : Nat) (hl : (l : Int) < ρ.1 30) (v : Int) : Cl X (ρ.setA 35 l v) (M.putI (12, l) 4 v) := by
  obtain ⟨hA, hB, hC, hD, hE, hN, hG, hH, hI, hJ, hK, hL⟩ := h
  have hF : Fr [12] M (M.putI (12, l) 4 v) := Fr.pI 12 l (by decide)
  exact ⟨hA.fr hF (by decide), hB.fr hF (by decide), hC.fr hF (by decide) (by decide) (by decide) (by decide), hD.fr2 hF (by decide) rfl (fun _ => ⟨rfl, rfl, rfl, rfl, rfl⟩), hE.fr hF (by decide) (by decide) (by decide) (by decide), hN.fr hF (by decide), hG.fr hF (by decide), hH.fr hF (by decide) (by decide), hI.fr hF (by decide), ⟨(hF (11, 0) (by decide)).1.trans hJ.1, fun l1 hl1 => ⟨(hF.P (11, 0) (by decide)).trans (hJ.2.1 l1 hl1).1, (by
    by_cases h1 : l1 = l
    · subst h1
      exact (Obj.putI (hJ.2.1 l1 hl1).2.1 (show 4 < 6 by decide)).cg ((congrArg ((lL (fun j => ρ.2 j l1)).set 4) (RS.setA_eq ρ 35 l1 v).symm).trans rfl) rfl
    · have q := (hJ.2.1 l1 hl1).2.1.at (Fx.pI (r := (12, l)) (M := M) (k := 4) (v := v) (12, l1) (rni h1))
      rw [show (fun k => (ρ.setA 35 l v).2 k l1) = (fun k => ρ.2 k l1) from funext fun k => RS.setA_ne (Or.inr h1)]
      exact q), (hF (13, l1) (show 13 ∉ [12] by decide)).1.trans (hJ.2.1 l1 hl1).2.2.1, (hF (13, l1) (show 13 ∉ [12] by decide)).2.1.trans (hJ.2.1 l1 hl1).2.2.2⟩, fun l1 hl1 => ⟨(hJ.2.2 l1 hl1).1, (hJ.2.2 l1 hl1).2⟩⟩, hK.fr hF (by decide) (by decide) (by decide), hL.fr hF (by decide) (by decide)⟩
set_option maxRecDepth 100000 in
theorem c_refuse {G : Ge} {M : Mem} {Y : (Nat → Bool) × (Nat → Bool)} {ρ : RS} (hCs : Cs Y ρ M) (why : Int) : Ct G mi_X8_refuse [vR ((1, 0)), vI why] M (CP Y (ρ.setS 42 why) 0 0 (some (vI (-1))) M) := by
  refine Ct.of pl_X8_refuse [some (vR ((1, 0))), some (vI why)] rfl (Nat.le_of_ble_eq_true rfl) ?_
  obtain ⟨sc, kn, hS, hCl⟩ := hCs
  have hF0 : Fr CLs M M := Fr.rf CLs M
  have hB0 : Bg 0 0 M M := Bg.rf M
  obtain ⟨hA, hB, hC, hD, hE, hN, hG, hH, hI, hJ, hK, hL⟩ := id hCl
  refine S_aload_n dX8_refuse_0 rfl ?_
  refine S_iload_n dX8_refuse_1 rfl ?_
  refine S_putI fl_X8_310 dX8_refuse_2 rfl rfl rfl  (Or.inl rfl) ?_
  refine Sf.nm (fun M1 hM1 => ?_)
  obtain ⟨ρ2, e2⟩ : ∃ x : RS, x = (ρ.setS 42 why) := ⟨_, rfl⟩
  have hCl2 : Cl (Y.1, Y.2, sc, kn) ρ2 M1 := (by rw [e2, hM1]; exact hCl.latest why)
  have hS2 : StpOK sc kn ρ2 := (by rw [e2]; exact hS)
  have hF2 : Fr CLs M M1 := (by rw [hM1]; exact hF0.trans (Fr.pI 1 0 (by decide)))
  have hB2 : Bg 0 0 M M1 := (by rw [hM1]; exact (hB0.trans (Bg.pI _ _ _ _)).le (by omega) (by omega))
  have s4_2 : ρ2.1 4 = ρ.1 4 := (by rw [e2, RS.setS_ne (by decide)])
  have s30_2 : ρ2.1 30 = ρ.1 30 := (by rw [e2, RS.setS_ne (by decide)])
  have t_2 : thN ρ2 = thN ρ := by rw [e2]; rfl
  obtain ⟨hA, hB, hC, hD, hE, hN, hG, hH, hI, hJ, hK, hL⟩ := id hCl2
  refine S_iconst dX8_refuse_5 ?_
  exact S_iret dX8_refuse_6 rfl (Or.inl rfl) (by subst_vars; exact ⟨rfl, ⟨sc, kn, hS2, hCl2⟩, hF2, hB2.le (by omega) (by omega)⟩)
set_option maxRecDepth 100000 in
theorem c_done {G : Ge} {M : Mem} {Y : (Nat → Bool) × (Nat → Bool)} {ρ : RS} (hCs : Cs Y ρ M) (v : Int) : Ct G mi_X8_done [vR ((1, 0)), vI v] M (CP Y (ρ.setS 42 0) 0 0 (some (vI v)) M) := by
  refine Ct.of pl_X8_done [some (vR ((1, 0))), some (vI v)] rfl (Nat.le_of_ble_eq_true rfl) ?_
  obtain ⟨sc, kn, hS, hCl⟩ := hCs
  have hF0 : Fr CLs M M := Fr.rf CLs M
  have hB0 : Bg 0 0 M M := Bg.rf M
  obtain ⟨hA, hB, hC, hD, hE, hN, hG, hH, hI, hJ, hK, hL⟩ := id hCl
  refine S_aload_n dX8_done_0 rfl ?_
  refine S_iconst dX8_done_1 ?_
  refine S_putI fl_X8_310 dX8_done_2 rfl rfl rfl  (Or.inl rfl) ?_
  refine Sf.nm (fun M1 hM1 => ?_)
  obtain ⟨ρ2, e2⟩ : ∃ x : RS, x = (ρ.setS 42 0) := ⟨_, rfl⟩
  have hCl2 : Cl (Y.1, Y.2, sc, kn) ρ2 M1 := (by rw [e2, hM1]; exact hCl.latest 0)
  have hS2 : StpOK sc kn ρ2 := (by rw [e2]; exact hS)
  have hF2 : Fr CLs M M1 := (by rw [hM1]; exact hF0.trans (Fr.pI 1 0 (by decide)))
  have hB2 : Bg 0 0 M M1 := (by rw [hM1]; exact (hB0.trans (Bg.pI _ _ _ _)).le (by omega) (by omega))
  have s4_2 : ρ2.1 4 = ρ.1 4 := (by rw [e2, RS.setS_ne (by decide)])
  have s30_2 : ρ2.1 30 = ρ.1 30 := (by rw [e2, RS.setS_ne (by decide)])
  have t_2 : thN ρ2 = thN ρ := by rw [e2]; rfl
  obtain ⟨hA, hB, hC, hD, hE, hN, hG, hH, hI, hJ, hK, hL⟩ := id hCl2
  refine S_iload_n dX8_done_5 rfl ?_
  exact S_iret dX8_done_6 rfl (Or.inl rfl) (by subst_vars; exact ⟨rfl, ⟨sc, kn, hS2, hCl2⟩, hF2, hB2.le (by omega) (by omega)⟩)
set_option maxRecDepth 100000 in
theorem c_prime {G : Ge} {M : Mem} {Y : (Nat → Bool) × (Nat → Bool)} {ρ : RS} (hCs : Cs Y ρ M) (q g : Int) (q32 : -2147483648 ≤ q ∧ q < 2147483648) (g32 : -2147483648 ≤ g ∧ g < 2147483648) (hp : 0 ≤ ρ.1 4 ∧ ρ.1 4 ≤ 6) : Ct G mi_X8_prime [vR ((1, 0)), vI q, vI g] M (CP Y ((primeF ρ q g).2) 0 0 (some (vI (primeF ρ q g).1)) M) := by
  refine Ct.of pl_X8_prime [some (vR ((1, 0))), some (vI q), some (vI g)] rfl (Nat.le_of_ble_eq_true rfl) ?_
  obtain ⟨sc, kn, hS, hCl⟩ := hCs
  have hF0 : Fr CLs M M := Fr.rf CLs M
  have hB0 : Bg 0 0 M M := Bg.rf M
  obtain ⟨hA, hB, hC, hD, hE, hN, hG, hH, hI, hJ, hK, hL⟩ := id hCl
  refine S_iload_n dX8_prime_0 rfl ?_
  refine S_iconst dX8_prime_1 ?_
  refine S_icmp_lt 22 dX8_prime_2 (by decide) (by omega) (fun c_2 => ?_) (fun c_2 => ?_)
  · refine S_aload_n dX8_prime_22 rfl ?_
    refine S_iconst dX8_prime_23 ?_
    refine S_callV (mi := mi_X8_prime) [vI 1] ok_X8_refuse ml_X8_54 dX8_prime_24 rfl (by decide) rfl (by decide) rfl (Nat.le_of_ble_eq_true rfl) rfl (c_refuse ⟨sc, kn, hS, hCl⟩ 1) ?_
    rintro v' M1 ⟨rfl, hCs1, hF1', hB1'⟩
    obtain ⟨ρ2, e2⟩ : ∃ x : RS, x = (ρ.setS 42 1) := ⟨_, rfl⟩
    rw [← e2] at hCs1
    obtain ⟨sc, kn, hS2, hCl2⟩ := hCs1
    have hF2 : Fr CLs M M1 := hF0.trans hF1'
    have hB2 : Bg 0 0 M M1 := (hB0.trans hB1').le (by omega) (by omega)
    have s4_2 : ρ2.1 4 = ρ.1 4 := (by rw [e2, RS.setS_ne (by decide)])
    have s30_2 : ρ2.1 30 = ρ.1 30 := (by rw [e2, RS.setS_ne (by decide)])
    have t_2 : thN ρ2 = thN ρ := by rw [e2]; rfl
    obtain ⟨hA, hB, hC, hD, hE, hN, hG, hH, hI, hJ, hK, hL⟩ := id hCl2
    exact S_iret dX8_prime_27 rfl (Or.inl rfl) (by first | (exfalso; omega) | (have e9 : primeF ρ q g = (((-1) : Int), ρ2) := (by unfold primeF; (repeat (first | rw [if_pos (by omega)] | rw [if_neg (by omega)])); subst_vars; all_goals rfl); rw [e9]; exact ⟨rfl, ⟨sc, kn, hS2, hCl2⟩, hF2, hB2.le (by omega) (by omega)⟩))
  · refine S_iload_n dX8_prime_5 rfl ?_
    refine S_sipush dX8_prime_6 (by decide) ?_
    refine S_icmp_gt 22 dX8_prime_9 (by decide) (by omega) (fun c_9 => ?_) (fun c_9 => ?_)
    · refine S_aload_n dX8_prime_22 rfl ?_
      refine S_iconst dX8_prime_23 ?_
      refine S_callV (mi := mi_X8_prime) [vI 1] ok_X8_refuse ml_X8_54 dX8_prime_24 rfl (by decide) rfl (by decide) rfl (Nat.le_of_ble_eq_true rfl) rfl (c_refuse ⟨sc, kn, hS, hCl⟩ 1) ?_
      rintro v' M3 ⟨rfl, hCs3, hF3', hB3'⟩
      obtain ⟨ρ4, e4⟩ : ∃ x : RS, x = (ρ.setS 42 1) := ⟨_, rfl⟩
      rw [← e4] at hCs3
      obtain ⟨sc, kn, hS4, hCl4⟩ := hCs3
      have hF4 : Fr CLs M M3 := hF0.trans hF3'
      have hB4 : Bg 0 0 M M3 := (hB0.trans hB3').le (by omega) (by omega)
      have s4_4 : ρ4.1 4 = ρ.1 4 := (by rw [e4, RS.setS_ne (by decide)])
      have s30_4 : ρ4.1 30 = ρ.1 30 := (by rw [e4, RS.setS_ne (by decide)])
      have t_4 : thN ρ4 = thN ρ := by rw [e4]; rfl
      obtain ⟨hA, hB, hC, hD, hE, hN, hG, hH, hI, hJ, hK, hL⟩ := id hCl4
      exact S_iret dX8_prime_27 rfl (Or.inl rfl) (by first | (exfalso; omega) | (have e9 : primeF ρ q g = (((-1) : Int), ρ4) := (by unfold primeF; (repeat (first | rw [if_pos (by omega)] | rw [if_neg (by omega)])); subst_vars; all_goals rfl); rw [e9]; exact ⟨rfl, ⟨sc, kn, hS4, hCl4⟩, hF4, hB4.le (by omega) (by omega)⟩))
    · refine S_iload_n dX8_prime_12 rfl ?_
      refine S_iconst dX8_prime_13 ?_
      refine S_icmp_lt 22 dX8_prime_14 (by decide) (by omega) (fun c_14 => ?_) (fun c_14 => ?_)
      · refine S_aload_n dX8_prime_22 rfl ?_
        refine S_iconst dX8_prime_23 ?_
        refine S_callV (mi := mi_X8_prime) [vI 1] ok_X8_refuse ml_X8_54 dX8_prime_24 rfl (by decide) rfl (by decide) rfl (Nat.le_of_ble_eq_true rfl) rfl (c_refuse ⟨sc, kn, hS, hCl⟩ 1) ?_
        rintro v' M5 ⟨rfl, hCs5, hF5', hB5'⟩
        obtain ⟨ρ6, e6⟩ : ∃ x : RS, x = (ρ.setS 42 1) := ⟨_, rfl⟩
        rw [← e6] at hCs5
        obtain ⟨sc, kn, hS6, hCl6⟩ := hCs5
        have hF6 : Fr CLs M M5 := hF0.trans hF5'
        have hB6 : Bg 0 0 M M5 := (hB0.trans hB5').le (by omega) (by omega)
        have s4_6 : ρ6.1 4 = ρ.1 4 := (by rw [e6, RS.setS_ne (by decide)])
        have s30_6 : ρ6.1 30 = ρ.1 30 := (by rw [e6, RS.setS_ne (by decide)])
        have t_6 : thN ρ6 = thN ρ := by rw [e6]; rfl
        obtain ⟨hA, hB, hC, hD, hE, hN, hG, hH, hI, hJ, hK, hL⟩ := id hCl6
        exact S_iret dX8_prime_27 rfl (Or.inl rfl) (by first | (exfalso; omega) | (have e9 : primeF ρ q g = (((-1) : Int), ρ6) := (by unfold primeF; (repeat (first | rw [if_pos (by omega)] | rw [if_neg (by omega)])); subst_vars; all_goals rfl); rw [e9]; exact ⟨rfl, ⟨sc, kn, hS6, hCl6⟩, hF6, hB6.le (by omega) (by omega)⟩))
      · refine S_iload_n dX8_prime_17 rfl ?_
        refine S_iload_n dX8_prime_18 rfl ?_
        refine S_icmp_lt 28 dX8_prime_19 (by decide) (by omega) (fun c_19 => ?_) (fun c_19 => ?_)
        · refine S_aload_n dX8_prime_28 rfl ?_
          refine S_getI (v := 2 * ρ.1 4) fl_X8_58 dX8_prime_29 rfl rfl (by rw [(show M.I (1, 0) 6 = 2 * ρ.1 4 from (show M.I (1, 0) 6 = 2 * ρ.1 4 from congrFun hA.2.1 6))]) ?_
          refine S_if_le 41 dX8_prime_32 (by decide) (by omega) (fun c_32 => ?_) (fun c_32 => ?_)
          · refine S_aload_n dX8_prime_41 rfl ?_
            refine S_getP (o := some (2, 0)) fl_X8_20 dX8_prime_42 rfl rfl (by rw [(show M.P (1, 0) 0 = some (2, 0) from congrFun hA.2.2 0)]) ?_
            refine S_iload_n dX8_prime_45 rfl ?_
            refine S_putI fl_X8_61 dX8_prime_46 rfl rfl rfl  (Or.inl rfl) ?_
            refine Sf.nm (fun M7 hM7 => ?_)
            obtain ⟨ρ8, e8⟩ : ∃ x : RS, x = (ρ.setS 0 q) := ⟨_, rfl⟩
            have hCl8 : Cl (Y.1, Y.2, sc, kn) ρ8 M7 := (by rw [e8, hM7]; exact hCl.mod q)
            have hS8 : StpOK sc kn ρ8 := (by rw [e8]; exact hS)
            have hF8 : Fr CLs M M7 := (by rw [hM7]; exact hF0.trans (Fr.pI 2 0 (by decide)))
            have hB8 : Bg 0 0 M M7 := (by rw [hM7]; exact (hB0.trans (Bg.pI _ _ _ _)).le (by omega) (by omega))
            have s4_8 : ρ8.1 4 = ρ.1 4 := (by rw [e8, RS.setS_ne (by decide)])
            have s30_8 : ρ8.1 30 = ρ.1 30 := (by rw [e8, RS.setS_ne (by decide)])
            have t_8 : thN ρ8 = thN ρ := by rw [e8]; rfl
            obtain ⟨hA, hB, hC, hD, hE, hN, hG, hH, hI, hJ, hK, hL⟩ := id hCl8
            refine S_aload_n dX8_prime_49 rfl ?_
            refine S_getP (o := some (2, 0)) fl_X8_20 dX8_prime_50 rfl rfl (by rw [(show M7.P (1, 0) 0 = some (2, 0) from congrFun hA.2.2 0)]) ?_
            refine S_iload_n dX8_prime_53 rfl ?_
            refine S_putI fl_X8_66 dX8_prime_54 rfl rfl rfl  (Or.inl rfl) ?_
            refine Sf.nm (fun M9 hM9 => ?_)
            obtain ⟨ρ10, e10⟩ : ∃ x : RS, x = (ρ8.setS 1 g) := ⟨_, rfl⟩
            have hCl10 : Cl (Y.1, Y.2, sc, kn) ρ10 M9 := (by rw [e10, hM9]; exact hCl8.bas g)
            have hS10 : StpOK sc kn ρ10 := (by rw [e10]; exact hS8)
            have hF10 : Fr CLs M M9 := (by rw [hM9]; exact hF8.trans (Fr.pI 2 0 (by decide)))
            have hB10 : Bg 0 0 M M9 := (by rw [hM9]; exact (hB8.trans (Bg.pI _ _ _ _)).le (by omega) (by omega))
            have s4_10 : ρ10.1 4 = ρ.1 4 := (by rw [e10, RS.setS_ne (by decide), e8, RS.setS_ne (by decide)])
            have s30_10 : ρ10.1 30 = ρ.1 30 := (by rw [e10, RS.setS_ne (by decide), e8, RS.setS_ne (by decide)])
            have t_10 : thN ρ10 = thN ρ8 := by rw [e10]; rfl
            obtain ⟨hA, hB, hC, hD, hE, hN, hG, hH, hI, hJ, hK, hL⟩ := id hCl10
            refine S_aload_n dX8_prime_57 rfl ?_
            refine S_iload_n dX8_prime_58 rfl ?_
            refine S_callV (mi := mi_X8_prime) [vI q] ok_X8_done ml_X8_69 dX8_prime_59 rfl (by decide) rfl (by decide) rfl (Nat.le_of_ble_eq_true rfl) rfl (c_done ⟨sc, kn, hS10, hCl10⟩ q) ?_
            rintro v' M11 ⟨rfl, hCs11, hF11', hB11'⟩
            obtain ⟨ρ12, e12⟩ : ∃ x : RS, x = (ρ10.setS 42 0) := ⟨_, rfl⟩
            rw [← e12] at hCs11
            obtain ⟨sc, kn, hS12, hCl12⟩ := hCs11
            have hF12 : Fr CLs M M11 := hF10.trans hF11'
            have hB12 : Bg 0 0 M M11 := (hB10.trans hB11').le (by omega) (by omega)
            have s4_12 : ρ12.1 4 = ρ.1 4 := (by rw [e12, RS.setS_ne (by decide), e10, RS.setS_ne (by decide), e8, RS.setS_ne (by decide)])
            have s30_12 : ρ12.1 30 = ρ.1 30 := (by rw [e12, RS.setS_ne (by decide), e10, RS.setS_ne (by decide), e8, RS.setS_ne (by decide)])
            have t_12 : thN ρ12 = thN ρ10 := by rw [e12]; rfl
            obtain ⟨hA, hB, hC, hD, hE, hN, hG, hH, hI, hJ, hK, hL⟩ := id hCl12
            exact S_iret dX8_prime_62 rfl (Or.inl rfl) (by first | (exfalso; omega) | (have e9 : primeF ρ q g = ((q : Int), ρ12) := (by unfold primeF; (repeat (first | rw [if_pos (by omega)] | rw [if_neg (by omega)])); subst_vars; all_goals rfl); rw [e9]; exact ⟨rfl, ⟨sc, kn, hS12, hCl12⟩, hF12, hB12.le (by omega) (by omega)⟩))
          · refine S_aload_n dX8_prime_35 rfl ?_
            refine S_iconst dX8_prime_36 ?_
            refine S_callV (mi := mi_X8_prime) [vI 3] ok_X8_refuse ml_X8_54 dX8_prime_37 rfl (by decide) rfl (by decide) rfl (Nat.le_of_ble_eq_true rfl) rfl (c_refuse ⟨sc, kn, hS, hCl⟩ 3) ?_
            rintro v' M13 ⟨rfl, hCs13, hF13', hB13'⟩
            obtain ⟨ρ14, e14⟩ : ∃ x : RS, x = (ρ.setS 42 3) := ⟨_, rfl⟩
            rw [← e14] at hCs13
            obtain ⟨sc, kn, hS14, hCl14⟩ := hCs13
            have hF14 : Fr CLs M M13 := hF0.trans hF13'
            have hB14 : Bg 0 0 M M13 := (hB0.trans hB13').le (by omega) (by omega)
            have s4_14 : ρ14.1 4 = ρ.1 4 := (by rw [e14, RS.setS_ne (by decide)])
            have s30_14 : ρ14.1 30 = ρ.1 30 := (by rw [e14, RS.setS_ne (by decide)])
            have t_14 : thN ρ14 = thN ρ := by rw [e14]; rfl
            obtain ⟨hA, hB, hC, hD, hE, hN, hG, hH, hI, hJ, hK, hL⟩ := id hCl14
            exact S_iret dX8_prime_40 rfl (Or.inl rfl) (by first | (exfalso; omega) | (have e9 : primeF ρ q g = (((-1) : Int), ρ14) := (by unfold primeF; (repeat (first | rw [if_pos (by omega)] | rw [if_neg (by omega)])); subst_vars; all_goals rfl); rw [e9]; exact ⟨rfl, ⟨sc, kn, hS14, hCl14⟩, hF14, hB14.le (by omega) (by omega)⟩))
        · refine S_aload_n dX8_prime_22 rfl ?_
          refine S_iconst dX8_prime_23 ?_
          refine S_callV (mi := mi_X8_prime) [vI 1] ok_X8_refuse ml_X8_54 dX8_prime_24 rfl (by decide) rfl (by decide) rfl (Nat.le_of_ble_eq_true rfl) rfl (c_refuse ⟨sc, kn, hS, hCl⟩ 1) ?_
          rintro v' M15 ⟨rfl, hCs15, hF15', hB15'⟩
          obtain ⟨ρ16, e16⟩ : ∃ x : RS, x = (ρ.setS 42 1) := ⟨_, rfl⟩
          rw [← e16] at hCs15
          obtain ⟨sc, kn, hS16, hCl16⟩ := hCs15
          have hF16 : Fr CLs M M15 := hF0.trans hF15'
          have hB16 : Bg 0 0 M M15 := (hB0.trans hB15').le (by omega) (by omega)
          have s4_16 : ρ16.1 4 = ρ.1 4 := (by rw [e16, RS.setS_ne (by decide)])
          have s30_16 : ρ16.1 30 = ρ.1 30 := (by rw [e16, RS.setS_ne (by decide)])
          have t_16 : thN ρ16 = thN ρ := by rw [e16]; rfl
          obtain ⟨hA, hB, hC, hD, hE, hN, hG, hH, hI, hJ, hK, hL⟩ := id hCl16
          exact S_iret dX8_prime_27 rfl (Or.inl rfl) (by first | (exfalso; omega) | (have e9 : primeF ρ q g = (((-1) : Int), ρ16) := (by unfold primeF; (repeat (first | rw [if_pos (by omega)] | rw [if_neg (by omega)])); subst_vars; all_goals rfl); rw [e9]; exact ⟨rfl, ⟨sc, kn, hS16, hCl16⟩, hF16, hB16.le (by omega) (by omega)⟩))
set_option maxRecDepth 100000 in
theorem c_alter {G : Ge} {M : Mem} {Y : (Nat → Bool) × (Nat → Bool)} {ρ : RS} (hCs : Cs Y ρ M) (l m : Int) (l32 : -2147483648 ≤ l ∧ l < 2147483648) (m32 : -2147483648 ≤ m ∧ m < 2147483648) (hl : 0 ≤ ρ.1 30 ∧ ρ.1 30 ≤ 300) : Ct G mi_X8_alter [vR ((1, 0)), vI l, vI m] M (CP Y ((alterF ρ l m).2) 0 0 (some (vI (alterF ρ l m).1)) M) := by
  refine Ct.of pl_X8_alter [some (vR ((1, 0))), some (vI l), some (vI m), none] rfl (Nat.le_of_ble_eq_true rfl) ?_
  obtain ⟨sc, kn, hS, hCl⟩ := hCs
  have hF0 : Fr CLs M M := Fr.rf CLs M
  have hB0 : Bg 0 0 M M := Bg.rf M
  obtain ⟨hA, hB, hC, hD, hE, hN, hG, hH, hI, hJ, hK, hL⟩ := id hCl
  refine S_aload_n dX8_alter_0 rfl ?_
  refine S_iload_n dX8_alter_1 rfl ?_
  by_cases hv : 0 ≤ l ∧ l < ρ.1 30
  · obtain ⟨y, rfl⟩ : ∃ y : Nat, l = ↑y := ⟨l.toNat, by omega⟩
    refine S_callV (mi := mi_X8_alter) [vI (↑y)] ok_X8_letterAt ml_X8_171 dX8_alter_2 rfl (by decide) rfl (by decide) rfl (Nat.le_of_ble_eq_true rfl) rfl (c_letterAt hCl hl y (by omega)) ?_
    rintro v' M1 ⟨rfl, hM1⟩
    rw [hM1]
    clear hM1
    refine S_astore_n dX8_alter_5 (by decide) ?_
    refine S_aload_n dX8_alter_6 rfl ?_
    refine S_ifnull 22 dX8_alter_7 (by decide) (fun c_7 => absurd c_7 (by simp)) (fun c_7 => ?_)
    refine S_iload_n dX8_alter_10 rfl ?_
    refine S_iconst dX8_alter_11 ?_
    refine S_icmp_lt 22 dX8_alter_12 (by decide) (by omega) (fun c_12 => ?_) (fun c_12 => ?_)
    · refine S_aload_n dX8_alter_22 rfl ?_
      refine S_iconst dX8_alter_23 ?_
      refine S_callV (mi := mi_X8_alter) [vI 1] ok_X8_refuse ml_X8_54 dX8_alter_24 rfl (by decide) rfl (by decide) rfl (Nat.le_of_ble_eq_true rfl) rfl (c_refuse ⟨sc, kn, hS, hCl⟩ 1) ?_
      rintro v' M2 ⟨rfl, hCs2, hF2', hB2'⟩
      obtain ⟨ρ3, e3⟩ : ∃ x : RS, x = (ρ.setS 42 1) := ⟨_, rfl⟩
      rw [← e3] at hCs2
      obtain ⟨sc, kn, hS3, hCl3⟩ := hCs2
      have hF3 : Fr CLs M M2 := hF0.trans hF2'
      have hB3 : Bg 0 0 M M2 := (hB0.trans hB2').le (by omega) (by omega)
      have s4_3 : ρ3.1 4 = ρ.1 4 := (by rw [e3, RS.setS_ne (by decide)])
      have s30_3 : ρ3.1 30 = ρ.1 30 := (by rw [e3, RS.setS_ne (by decide)])
      have t_3 : thN ρ3 = thN ρ := by rw [e3]; rfl
      obtain ⟨hA, hB, hC, hD, hE, hN, hG, hH, hI, hJ, hK, hL⟩ := id hCl3
      exact S_iret dX8_alter_27 rfl (Or.inl rfl) (by first | (exfalso; omega) | (have e9 : alterF ρ (↑y) m = (((-1) : Int), ρ3) := (by unfold alterF; simp only [Int.toNat_natCast]; (repeat (first | rw [if_pos (by omega)] | rw [if_neg (by omega)])); subst_vars; all_goals rfl); rw [e9]; exact ⟨rfl, ⟨sc, kn, hS3, hCl3⟩, hF3, hB3.le (by omega) (by omega)⟩))
    · refine S_iload_n dX8_alter_15 rfl ?_
      refine S_sipush dX8_alter_16 (by decide) ?_
      refine S_icmp_le 28 dX8_alter_19 (by decide) (by omega) (fun c_19 => ?_) (fun c_19 => ?_)
      · refine S_aload_n dX8_alter_28 rfl ?_
        refine S_dup dX8_alter_29 ?_
        refine S_getI (v := ρ.2 35 y) fl_X8_155 dX8_alter_30 rfl rfl (by rw [(show M.I (12, y) 4 = ρ.2 35 y from (show M.I (12, y) 4 = ρ.2 35 y from congrFun (hJ.2.1 y (by omega)).2.1.2.1 4))]) ?_
        refine S_iload_n dX8_alter_33 rfl ?_
        refine S_ixor dX8_alter_34 ?_
        refine S_putI fl_X8_155 dX8_alter_35 rfl rfl rfl  (Or.inl rfl) ?_
        refine Sf.nm (fun M4 hM4 => ?_)
        obtain ⟨ρ5, e5⟩ : ∃ x : RS, x = (ρ.setA 35 y ((jI (ρ.2 35 y) ^^^ jI m).toInt)) := ⟨_, rfl⟩
        have hCl5 : Cl (Y.1, Y.2, sc, kn) ρ5 M4 := (by rw [e5, hM4]; exact hCl.l35 y (by omega) ((jI (ρ.2 35 y) ^^^ jI m).toInt))
        have hS5 : StpOK sc kn ρ5 := (by rw [e5]; exact hS)
        have hF5 : Fr CLs M M4 := (by rw [hM4]; exact hF0.trans (Fr.pI 12 y (by decide)))
        have hB5 : Bg 0 0 M M4 := (by rw [hM4]; exact (hB0.trans (Bg.pI _ _ _ _)).le (by omega) (by omega))
        have s4_5 : ρ5.1 4 = ρ.1 4 := (by rw [e5, RS.setA_s])
        have s30_5 : ρ5.1 30 = ρ.1 30 := (by rw [e5, RS.setA_s])
        have t_5 : thN ρ5 = thN ρ := by rw [e5]; rfl
        obtain ⟨hA, hB, hC, hD, hE, hN, hG, hH, hI, hJ, hK, hL⟩ := id hCl5
        refine S_aload_n dX8_alter_38 rfl ?_
        refine S_iconst dX8_alter_39 ?_
        refine S_callV (mi := mi_X8_alter) [vI 1] ok_X8_done ml_X8_69 dX8_alter_40 rfl (by decide) rfl (by decide) rfl (Nat.le_of_ble_eq_true rfl) rfl (c_done ⟨sc, kn, hS5, hCl5⟩ 1) ?_
        rintro v' M6 ⟨rfl, hCs6, hF6', hB6'⟩
        obtain ⟨ρ7, e7⟩ : ∃ x : RS, x = (ρ5.setS 42 0) := ⟨_, rfl⟩
        rw [← e7] at hCs6
        obtain ⟨sc, kn, hS7, hCl7⟩ := hCs6
        have hF7 : Fr CLs M M6 := hF5.trans hF6'
        have hB7 : Bg 0 0 M M6 := (hB5.trans hB6').le (by omega) (by omega)
        have s4_7 : ρ7.1 4 = ρ.1 4 := (by rw [e7, RS.setS_ne (by decide), e5, RS.setA_s])
        have s30_7 : ρ7.1 30 = ρ.1 30 := (by rw [e7, RS.setS_ne (by decide), e5, RS.setA_s])
        have t_7 : thN ρ7 = thN ρ5 := by rw [e7]; rfl
        obtain ⟨hA, hB, hC, hD, hE, hN, hG, hH, hI, hJ, hK, hL⟩ := id hCl7
        exact S_iret dX8_alter_43 rfl (Or.inl rfl) (by first | (exfalso; omega) | (have e9 : alterF ρ (↑y) m = ((1 : Int), ρ7) := (by unfold alterF; simp only [Int.toNat_natCast]; (repeat (first | rw [if_pos (by omega)] | rw [if_neg (by omega)])); subst_vars; all_goals rfl); rw [e9]; exact ⟨rfl, ⟨sc, kn, hS7, hCl7⟩, hF7, hB7.le (by omega) (by omega)⟩))
      · refine S_aload_n dX8_alter_22 rfl ?_
        refine S_iconst dX8_alter_23 ?_
        refine S_callV (mi := mi_X8_alter) [vI 1] ok_X8_refuse ml_X8_54 dX8_alter_24 rfl (by decide) rfl (by decide) rfl (Nat.le_of_ble_eq_true rfl) rfl (c_refuse ⟨sc, kn, hS, hCl⟩ 1) ?_
        rintro v' M8 ⟨rfl, hCs8, hF8', hB8'⟩
        obtain ⟨ρ9, e9⟩ : ∃ x : RS, x = (ρ.setS 42 1) := ⟨_, rfl⟩
        rw [← e9] at hCs8
        obtain ⟨sc, kn, hS9, hCl9⟩ := hCs8
        have hF9 : Fr CLs M M8 := hF0.trans hF8'
        have hB9 : Bg 0 0 M M8 := (hB0.trans hB8').le (by omega) (by omega)
        have s4_9 : ρ9.1 4 = ρ.1 4 := (by rw [e9, RS.setS_ne (by decide)])
        have s30_9 : ρ9.1 30 = ρ.1 30 := (by rw [e9, RS.setS_ne (by decide)])
        have t_9 : thN ρ9 = thN ρ := by rw [e9]; rfl
        obtain ⟨hA, hB, hC, hD, hE, hN, hG, hH, hI, hJ, hK, hL⟩ := id hCl9
        exact S_iret dX8_alter_27 rfl (Or.inl rfl) (by first | (exfalso; omega) | (have e9 : alterF ρ (↑y) m = (((-1) : Int), ρ9) := (by unfold alterF; simp only [Int.toNat_natCast]; (repeat (first | rw [if_pos (by omega)] | rw [if_neg (by omega)])); subst_vars; all_goals rfl); rw [e9]; exact ⟨rfl, ⟨sc, kn, hS9, hCl9⟩, hF9, hB9.le (by omega) (by omega)⟩))
  · refine S_callV (mi := mi_X8_alter) [vI l] ok_X8_letterAt ml_X8_171 dX8_alter_2 rfl (by decide) rfl (by decide) rfl (Nat.le_of_ble_eq_true rfl) rfl (c_letterAtN hCl hl l l32 hv) ?_
    rintro v' M10 ⟨rfl, hM10⟩
    rw [hM10]
    clear hM10
    refine S_astore_n dX8_alter_5 (by decide) ?_
    refine S_aload_n dX8_alter_6 rfl ?_
    refine S_ifnull 22 dX8_alter_7 (by decide) (fun c_7 => ?_) (fun c_7 => absurd c_7 (by simp))
    refine S_aload_n dX8_alter_22 rfl ?_
    refine S_iconst dX8_alter_23 ?_
    refine S_callV (mi := mi_X8_alter) [vI 1] ok_X8_refuse ml_X8_54 dX8_alter_24 rfl (by decide) rfl (by decide) rfl (Nat.le_of_ble_eq_true rfl) rfl (c_refuse ⟨sc, kn, hS, hCl⟩ 1) ?_
    rintro v' M11 ⟨rfl, hCs11, hF11', hB11'⟩
    obtain ⟨ρ12, e12⟩ : ∃ x : RS, x = (ρ.setS 42 1) := ⟨_, rfl⟩
    rw [← e12] at hCs11
    obtain ⟨sc, kn, hS12, hCl12⟩ := hCs11
    have hF12 : Fr CLs M M11 := hF0.trans hF11'
    have hB12 : Bg 0 0 M M11 := (hB0.trans hB11').le (by omega) (by omega)
    have s4_12 : ρ12.1 4 = ρ.1 4 := (by rw [e12, RS.setS_ne (by decide)])
    have s30_12 : ρ12.1 30 = ρ.1 30 := (by rw [e12, RS.setS_ne (by decide)])
    have t_12 : thN ρ12 = thN ρ := by rw [e12]; rfl
    obtain ⟨hA, hB, hC, hD, hE, hN, hG, hH, hI, hJ, hK, hL⟩ := id hCl12
    exact S_iret dX8_alter_27 rfl (Or.inl rfl) (by first | (exfalso; omega) | (have e9 : alterF ρ l m = (((-1) : Int), ρ12) := (by unfold alterF; (repeat (first | rw [if_pos (by omega)] | rw [if_neg (by omega)])); subst_vars; all_goals rfl); rw [e9]; exact ⟨rfl, ⟨sc, kn, hS12, hCl12⟩, hF12, hB12.le (by omega) (by omega)⟩))
