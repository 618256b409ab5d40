/-! THE CLASS: trays -/
theorem Cl.same5 {X : Gh} {ρ σ : RS} {M M' : Mem} (h : Cl X ρ M) (hF : Fr [15, 16, 17] M M') (s1 : ∀ k, k ≠ 44 → σ.1 k = ρ.1 k) (sa : ∀ k j, k < 39 → σ.2 k j = ρ.2 k j) (hK' : KK σ M') (hL' : KL σ M') : Cl X σ M' := by
  obtain ⟨hA, hB, hC, hD, hE, hN, hG, hH, hI, hJ, hK, hL⟩ := h
  have e4 : σ.1 4 = ρ.1 4 := s1 4 (by decide)
  have e5 : thN σ = thN ρ := congrArg Int.toNat (s1 5 (by decide))
  refine ⟨?_, ?_, ?_, ?_, ?_, ?_, ?_, ?_, ?_, ?_, hK', hL'⟩
  · show Obj M' (1, 0) [0, 0, 0, 0, 0, 0, 2 * σ.1 4, σ.1 30, σ.1 2, σ.1 3, σ.1 42] pQ
    rw [s1 4 (by decide), s1 30 (by decide), s1 2 (by decide), s1 3 (by decide), s1 42 (by decide)]
    exact hA.fr hF (by decide)
  · show Obj M' (2, 0) [σ.1 0, σ.1 1] []
    rw [s1 0 (by decide), s1 1 (by decide)]
    exact hB.fr hF (by decide)
  · have q := hC.fr hF (by decide) (by decide) (by decide) (by decide)
    refine ⟨q.1, ?_, q.2.2⟩
    rw [e5]
    exact q.2.1
  · exact hD.fr2 hF (by decide) (s1 5 (by decide)) (fun t => ⟨sa 6 t (by decide), sa 7 t (by decide), sa 8 t (by decide), sa 9 t (by decide), sa 10 t (by decide)⟩)
  · have q := hE.fr hF (by decide) (by decide) (by decide) (by decide)
    refine ⟨fun e he => ?_, fun e he => q.2 e (by omega)⟩
    exact (q.1 e (by omega)).cg (eL_cg2 (fun k h1 h2 h3 => sa k e (by omega))) (eQ_cg2 (fun k h1 h2 h3 => sa k e (by omega)))
  · exact ⟨(hF (6, 0) (by decide)).1.trans hN.1, fun e he => (hF.P (6, 0) (by decide)).trans (hN.2 e (by omega))⟩
  · intro e he
    have q := hG.fr hF (by decide) e (by omega)
    exact ⟨q.1, fun i hi => by rw [sa 12 e (by decide)] at hi; rw [sa 13 _ (by decide)]; exact q.2 i hi⟩
  · have q := hH.fr hF (by decide) (by decide)
    refine ⟨fun e he => ⟨(q.1 e (by omega)).1, fun i hi => ?_⟩, q.2⟩
    rw [sa 25 e (by decide)] at hi
    obtain ⟨n, kk, q1, q2, q3, q4⟩ := (q.1 e (by omega)).2 i hi
    refine ⟨n, kk, q1, by rw [sa 28 _ (by decide)]; exact q2, by omega, ?_⟩
    rw [sa 26 _ (by decide), sa 27 _ (by decide), sa 29 _ (by decide), sa 9 _ (by decide)]
    exact q4
  · intro e he
    have q := hI.fr hF (by decide) e (by omega)
    exact ⟨q.1, fun i hi => by rw [sa 23 e (by decide)] at hi; rw [sa 24 _ (by decide)]; exact q.2 i hi⟩
  · have q := hJ.fr hF (by decide) (by decide) (by decide)
    refine ⟨q.1, fun l hl => ?_, fun l hl => q.2.2 l (by rw [← s1 30 (by decide)]; exact hl)⟩
    obtain ⟨q1, q2, q3, q4⟩ := q.2.1 l (by rw [← s1 30 (by decide)]; exact hl)
    refine ⟨q1, q2.cg ?_ ?_, q3, ?_⟩
    · show [ρ.2 31 l, 0, 0, 0, ρ.2 35 l, ρ.2 36 l] = [σ.2 31 l, 0, 0, 0, σ.2 35 l, σ.2 36 l]
      rw [sa 31 l (by decide), sa 35 l (by decide), sa 36 l (by decide)]
    · show [none, qx (ρ.2 38 l), qx (ρ.2 37 l), some (13, l)] = [none, qx (σ.2 38 l), qx (σ.2 37 l), some (13, l)]
      rw [sa 38 l (by decide), sa 37 l (by decide)]
    · rw [sa 32 l (by decide), sa 33 l (by decide), sa 34 l (by decide)]
      exact q4
theorem Cl.tray {X : Gh} {ρ σ : RS} {M M' : Mem} {o1 o2 : Option Role} (h : Cl X ρ M) (i : Nat) (hi : i < 8) (hF : Fx (15, i) M M') (s1 : ∀ k, σ.1 k = ρ.1 k) (sa : ∀ k j, k < 39 ∨ 41 < k ∨ j ≠ i → σ.2 k j = ρ.2 k j) (hO : Obj M' (15, i) [] [o1, o2]) (hT : Tr σ M' i o1 o2) : Cl X σ M' := by
  have hR : Fr [15] M M' := hF.fr (by decide)
  have hK := h.2.2.2.2.2.2.2.2.2.2.1
  have hL := h.2.2.2.2.2.2.2.2.2.2.2
  have e5 : thN σ = thN ρ := congrArg Int.toNat (s1 5)
  refine h.same5 (hF.fr (by decide)) (fun k _ => s1 k) (fun k j hk => sa k j (Or.inl hk)) ⟨(hR (14, 0) (by decide)).1.trans hK.1, fun j hj => ?_⟩ ?_
  · obtain ⟨q1, p1, p2, q2, q3⟩ := hK.2 j hj
    refine ⟨(hR.P (14, 0) (by decide)).trans q1, ?_⟩
    by_cases hji : j = i
    · subst hji
      exact ⟨o1, o2, hO, hT⟩
    · refine ⟨p1, p2, q2.at (hF (15, j) (rni hji)), ?_⟩
      have q := q3.fr hR (by decide)
      rcases q with u | ⟨u1, u2, l, u3, u4, u5⟩ | ⟨u1, u2, n, kk, u3, u4, u5, fr, p, u6⟩ | ⟨u1, t9, u2, u3, u4, u5⟩
      · exact Or.inl (by rw [sa 39 j (by omega)]; exact u)
      · exact Or.inr (Or.inl ⟨by rw [sa 39 j (by omega)]; exact u1, u2, l, u3, by rw [sa 40 j (by omega)]; exact u4, by rw [s1 30]; exact u5⟩)
      · refine Or.inr (Or.inr (Or.inl ⟨by rw [sa 39 j (by omega)]; exact u1, u2, n, kk, u3, by rw [sa 40 j (by omega)]; exact u4, by omega, fr, p, ?_⟩))
        rw [sa 41 j (by omega), sa 9 kk (by omega)]
        exact u6
      · exact Or.inr (Or.inr (Or.inr ⟨u1, t9, u2, by rw [sa 40 j (by omega)]; exact u3, by omega, by rw [sa 39 j (by omega), sa 6 t9 (by omega)]; exact u5⟩))
  · have q := hL.fr hR (by decide) (by decide)
    refine ⟨?_, q.2.1, fun j hj => ?_⟩
    · rw [s1 44]; exact q.1
    · rw [s1 44] at hj
      rw [sa 43 j (by omega)]
      exact q.2.2 j hj

set_option maxRecDepth 100000 in
theorem c_put {G : Ge} {M : Mem} (i : Nat) (o1 o2 : Option Role) : Ct G mi_X7_put [vR ((15, i)), vQ o1, vQ o2] M (fun v' M' => v' = none ∧ M' = (M.putP (15, i) 0 o1).putP (15, i) 1 o2) := by
  refine Ct.of pl_X7_put [some (vR ((15, i))), some (vQ o1), some (vQ o2)] rfl (Nat.le_of_ble_eq_true rfl) ?_
  refine S_aload_n dX7_put_0 rfl ?_
  refine S_aload_n dX7_put_1 rfl ?_
  refine S_putP fl_X7_7 dX7_put_2 rfl rfl rfl  ?_
  refine Sf.nm (fun M1 hM1 => ?_)
  refine S_aload_n dX7_put_5 rfl ?_
  refine S_aload_n dX7_put_6 rfl ?_
  refine S_putP fl_X7_13 dX7_put_7 rfl rfl rfl  ?_
  refine Sf.nm (fun M2 hM2 => ?_)
  exact S_vret dX7_put_10 rfl ⟨rfl, by rw [hM2, hM1]⟩
set_option maxRecDepth 100000 in
theorem c_holdOfLetter {G : Ge} {M : Mem} {Y : (Nat → Bool) × (Nat → Bool)} {ρ : RS} (hCs : Cs Y ρ M) (hIv : Iv Y ρ) (i : Nat) (hi : i < 8) (w9 : Int) (hw9 : w9 = 1 ∨ w9 = 2) (l : Nat) (hll : (l : Int) < ρ.1 30) : Ct G mi_X8_holdOfLetter [vR ((1, 0)), vR ((15, i)), vI w9, vR ((12, l))] M (CP Y (if w9 = 1 then ptR ρ i 2 (ρ.2 37 l) else ptR ρ i 1 ↑l) 0 0 (some (vI 1)) M) := by
  refine Ct.of pl_X8_holdOfLetter [some (vR ((1, 0))), some (vR ((15, i))), some (vI w9), some (vR ((12, l)))] rfl (Nat.le_of_ble_eq_true rfl) ?_
  obtain ⟨sc, kn, hS, hCl⟩ := hCs
  have hF0 : Fr CLs M M := Fr.rf CLs M
  have hB0 : Bg 0 0 M M := Bg.rf M
  obtain ⟨hA, hB, hC, hD, hE, hN, hG, hH, hI, hJ, hK, hL⟩ := id hCl
  obtain ⟨⟨hp, hl, hm, hli, h44⟩, ⟨hTI, hSh⟩, ⟨hRo, hRp⟩, ⟨hEd, hOw, hYs, hSt⟩, hEn, hLf, ⟨hKo, hKy, hTs, hTl⟩, ⟨hLt, hLp⟩, hTr, hFe⟩ := hIv
  refine S_aload_n dX8_holdOfLetter_0 rfl ?_
  refine S_ifnonnull 10 dX8_holdOfLetter_1 (by decide) (fun c_1 => ?_) (fun c_1 => absurd c_1 (by simp))
  obtain ⟨-, -, -, -, -, -, ⟨kk, h37, hkl, hkk⟩, -⟩ := hLt l hll
  refine S_iload_n dX8_holdOfLetter_10 rfl ?_
  refine S_iconst dX8_holdOfLetter_11 ?_
  refine S_icmp_ne 27 dX8_holdOfLetter_12 (by decide) (by omega) (fun c_12 => ?_) (fun c_12 => ?_)
  · refine S_aload_n dX8_holdOfLetter_27 rfl ?_
    refine S_null dX8_holdOfLetter_28 ?_
    refine S_aload_n dX8_holdOfLetter_29 rfl ?_
    refine S_callV (mi := mi_X8_holdOfLetter) [vN, vR ((12, l))] ok_X7_put ml_X8_262 dX8_holdOfLetter_30 rfl (by decide) rfl (by decide) rfl (Nat.le_of_ble_eq_true rfl) rfl (c_put i none (some (12, l))) ?_
    rintro v' M1 ⟨rfl, hM1⟩
    obtain ⟨ρ2, e2⟩ : ∃ z9 : RS, z9 = ((ρ.setA 39 i 1).setA 40 i (↑l)) := ⟨_, rfl⟩
    have hx2 : Fx (15, i) M M1 := by rw [hM1]; exact Fx.trans Fx.pP Fx.pP
    have ho2 : Obj M1 (15, i) [] [none, some (12, l)] := by
      obtain ⟨z1, p1, p2, z2, z3⟩ := hK.2 i (by omega)
      rw [hM1]
      exact (z2.putP (k := 0) (o := none) (show 0 < 2 by decide)).putP (k := 1) (o := some (12, l)) (show 1 < 2 by decide)
    have hCl2 : Cl (Y.1, Y.2, sc, kn) ρ2 M1 := hCl.tray i (by omega) hx2 (fun k => by rw [e2, RS.setA_s, RS.setA_s]) (fun k j hk => by rw [e2, RS.setA_ne (by omega), RS.setA_ne (by omega)]) ho2 (Or.inr (Or.inl ⟨by rw [e2, RS.setA_ne (Or.inl (by decide)), RS.setA_eq], rfl, l, rfl, by rw [e2, RS.setA_eq], by rw [show ρ2.1 30 = ρ.1 30 from by rw [e2, RS.setA_s, RS.setA_s]]; omega⟩))
    have hS2 : StpOK sc kn ρ2 := (by rw [e2]; exact hS)
    have hF2 : Fr CLs M M1 := hF0.trans (hx2.fr (by decide))
    have hB2 : Bg 0 0 M M1 := (by rw [hM1]; exact (hB0.trans ((Bg.pP _ 15 i _ _ (by decide)).trans (Bg.pP _ 15 i _ _ (by decide)))).le (by omega) (by omega))
    have s4_2 : ρ2.1 4 = ρ.1 4 := (by rw [e2, RS.setA_s, RS.setA_s])
    have s30_2 : ρ2.1 30 = ρ.1 30 := (by rw [e2, RS.setA_s, RS.setA_s])
    have t_2 : thN ρ2 = thN ρ := by rw [e2]; rfl
    clear hA hB hC hD hE hN hG hH hI hJ hK hL
    obtain ⟨hA, hB, hC, hD, hE, hN, hG, hH, hI, hJ, hK, hL⟩ := id hCl2
    refine S_aload_n dX8_holdOfLetter_33 rfl ?_
    refine S_iconst dX8_holdOfLetter_34 ?_
    refine S_callV (mi := mi_X8_holdOfLetter) [vI 1] ok_X8_done ml_X8_69 dX8_holdOfLetter_35 rfl (by decide) rfl (by decide) rfl (Nat.le_of_ble_eq_true rfl) rfl (c_done (show Cs Y ρ2 M1 from ⟨sc, kn, hS2, hCl2⟩) 1) ?_
    rintro v' M3 ⟨rfl, hCs3, hF3', hB3'⟩
    obtain ⟨ρ4, e4⟩ : ∃ z9 : RS, z9 = (ρ2.setS 42 0) := ⟨_, rfl⟩
    rw [← e4] at hCs3
    obtain ⟨sc, kn, hS4, hCl4⟩ := hCs3
    have hF4 : Fr CLs M M3 := hF2.trans hF3'
    have hB4 : Bg 0 0 M M3 := (hB2.trans hB3').le (by omega) (by omega)
    have s4_4 : ρ4.1 4 = ρ.1 4 := (by rw [e4, RS.setS_ne (by decide), s4_2])
    have s30_4 : ρ4.1 30 = ρ.1 30 := (by rw [e4, RS.setS_ne (by decide), s30_2])
    have t_4 : thN ρ4 = thN ρ2 := by rw [e4]; rfl
    clear hA hB hC hD hE hN hG hH hI hJ hK hL hCl2 hS2 hF2 hB2
    obtain ⟨hA, hB, hC, hD, hE, hN, hG, hH, hI, hJ, hK, hL⟩ := id hCl4
    exact S_iret dX8_holdOfLetter_38 rfl (Or.inl rfl) (by
      have e8 : (if w9 = 1 then ptR ρ i 2 (ρ.2 37 l) else ptR ρ i 1 ↑l) = ρ4 := by
        rw [if_neg (by omega)]
        unfold ptR
        rw [if_neg (by omega), e4, e2]
      rw [e8]
      exact ⟨rfl, ⟨sc, kn, hS4, hCl4⟩, hF4, hB4.le (by omega) (by omega)⟩)
  · refine S_aload_n dX8_holdOfLetter_15 rfl ?_
    refine S_aload_n dX8_holdOfLetter_16 rfl ?_
    refine S_getP (o := some (18, kk)) fl_X8_221 dX8_holdOfLetter_17 rfl rfl (by rw [(show M.P (12, l) 2 = some (18, kk) from (congrFun (hJ.2.1 l (by omega)).2.1.2.2 2).trans (qx_of h37))]) ?_
    refine S_null dX8_holdOfLetter_20 ?_
    refine S_callV (mi := mi_X8_holdOfLetter) [vR ((18, kk)), vN] ok_X7_put ml_X8_262 dX8_holdOfLetter_21 rfl (by decide) rfl (by decide) rfl (Nat.le_of_ble_eq_true rfl) rfl (c_put i (some (18, kk)) none) ?_
    rintro v' M5 ⟨rfl, hM5⟩
    obtain ⟨ρ6, e6⟩ : ∃ z9 : RS, z9 = ((ρ.setA 39 i 2).setA 40 i (↑kk)) := ⟨_, rfl⟩
    have hx6 : Fx (15, i) M M5 := by rw [hM5]; exact Fx.trans Fx.pP Fx.pP
    have ho6 : Obj M5 (15, i) [] [some (18, kk), none] := by
      obtain ⟨z1, p1, p2, z2, z3⟩ := hK.2 i (by omega)
      rw [hM5]
      exact (z2.putP (k := 0) (o := some (18, kk)) (show 0 < 2 by decide)).putP (k := 1) (o := none) (show 1 < 2 by decide)
    have hCl6 : Cl (Y.1, Y.2, sc, kn) ρ6 M5 := hCl.tray i (by omega) hx6 (fun k => by rw [e6, RS.setA_s, RS.setA_s]) (fun k j hk => by rw [e6, RS.setA_ne (by omega), RS.setA_ne (by omega)]) ho6 (Or.inr (Or.inr (Or.inr ⟨rfl, kk, rfl, by rw [e6, RS.setA_eq], by rw [show thN ρ6 = thN ρ from by rw [e6]; rfl]; omega, by rw [show ρ6.2 6 kk = ρ.2 6 kk from by rw [e6, RS.setA_ne (Or.inl (by decide)), RS.setA_ne (Or.inl (by decide))], hkk, e6, RS.setA_ne (Or.inl (by decide)), RS.setA_eq] <;> decide⟩)))
    have hS6 : StpOK sc kn ρ6 := (by rw [e6]; exact hS)
    have hF6 : Fr CLs M M5 := hF0.trans (hx6.fr (by decide))
    have hB6 : Bg 0 0 M M5 := (by rw [hM5]; exact (hB0.trans ((Bg.pP _ 15 i _ _ (by decide)).trans (Bg.pP _ 15 i _ _ (by decide)))).le (by omega) (by omega))
    have s4_6 : ρ6.1 4 = ρ.1 4 := (by rw [e6, RS.setA_s, RS.setA_s])
    have s30_6 : ρ6.1 30 = ρ.1 30 := (by rw [e6, RS.setA_s, RS.setA_s])
    have t_6 : thN ρ6 = thN ρ := by rw [e6]; rfl
    clear hA hB hC hD hE hN hG hH hI hJ hK hL
    obtain ⟨hA, hB, hC, hD, hE, hN, hG, hH, hI, hJ, hK, hL⟩ := id hCl6
    refine S_goto 33 dX8_holdOfLetter_24 (by decide) ?_
    refine S_aload_n dX8_holdOfLetter_33 rfl ?_
    refine S_iconst dX8_holdOfLetter_34 ?_
    refine S_callV (mi := mi_X8_holdOfLetter) [vI 1] ok_X8_done ml_X8_69 dX8_holdOfLetter_35 rfl (by decide) rfl (by decide) rfl (Nat.le_of_ble_eq_true rfl) rfl (c_done (show Cs Y ρ6 M5 from ⟨sc, kn, hS6, hCl6⟩) 1) ?_
    rintro v' M7 ⟨rfl, hCs7, hF7', hB7'⟩
    obtain ⟨ρ8, e8⟩ : ∃ z9 : RS, z9 = (ρ6.setS 42 0) := ⟨_, rfl⟩
    rw [← e8] at hCs7
    obtain ⟨sc, kn, hS8, hCl8⟩ := hCs7
    have hF8 : Fr CLs M M7 := hF6.trans hF7'
    have hB8 : Bg 0 0 M M7 := (hB6.trans hB7').le (by omega) (by omega)
    have s4_8 : ρ8.1 4 = ρ.1 4 := (by rw [e8, RS.setS_ne (by decide), s4_6])
    have s30_8 : ρ8.1 30 = ρ.1 30 := (by rw [e8, RS.setS_ne (by decide), s30_6])
    have t_8 : thN ρ8 = thN ρ6 := by rw [e8]; rfl
    clear hA hB hC hD hE hN hG hH hI hJ hK hL hCl6 hS6 hF6 hB6
    obtain ⟨hA, hB, hC, hD, hE, hN, hG, hH, hI, hJ, hK, hL⟩ := id hCl8
    exact S_iret dX8_holdOfLetter_38 rfl (Or.inl rfl) (by
      have e8 : (if w9 = 1 then ptR ρ i 2 (ρ.2 37 l) else ptR ρ i 1 ↑l) = ρ8 := by
        rw [if_pos (by omega), h37]
        unfold ptR
        rw [if_neg (by omega), e8, e6]
      rw [e8]
      exact ⟨rfl, ⟨sc, kn, hS8, hCl8⟩, hF8, hB8.le (by omega) (by omega)⟩)
set_option maxRecDepth 100000 in
theorem c_holdOfLetterN {G : Ge} {M : Mem} {Y : (Nat → Bool) × (Nat → Bool)} {ρ : RS} (hCs : Cs Y ρ M) (t9 : Role) (w9 : Int) : Ct G mi_X8_holdOfLetter [vR ((1, 0)), vR t9, vI w9, vN] M (CP Y (ρ.setS 42 1) 0 0 (some (vI (-1))) M) := by
  refine Ct.of pl_X8_holdOfLetter [some (vR ((1, 0))), some (vR t9), some (vI w9), some vN] rfl (Nat.le_of_ble_eq_true rfl) ?_
  obtain ⟨sc, kn, hS, hCl⟩ := hCs
  have hF0 : Fr CLs M M := Fr.rf CLs M
  have hB0 : Bg 0 0 M M := Bg.rf M
  obtain ⟨hA, hB, hC, hD, hE, hN, hG, hH, hI, hJ, hK, hL⟩ := id hCl
  refine S_aload_n dX8_holdOfLetter_0 rfl ?_
  refine S_ifnonnull 10 dX8_holdOfLetter_1 (by decide) (fun c_1 => absurd c_1 (by simp)) (fun c_1 => ?_)
  refine S_aload_n dX8_holdOfLetter_4 rfl ?_
  refine S_iconst dX8_holdOfLetter_5 ?_
  refine S_callV (mi := mi_X8_holdOfLetter) [vI 1] ok_X8_refuse ml_X8_54 dX8_holdOfLetter_6 rfl (by decide) rfl (by decide) rfl (Nat.le_of_ble_eq_true rfl) rfl (c_refuse (show Cs Y ρ M from ⟨sc, kn, hS, hCl⟩) 1) ?_
  rintro v' M1 ⟨rfl, hCs1, hF1', hB1'⟩
  obtain ⟨ρ2, e2⟩ : ∃ z9 : RS, z9 = (ρ.setS 42 1) := ⟨_, rfl⟩
  rw [← e2] at hCs1
  obtain ⟨sc, kn, hS2, hCl2⟩ := hCs1
  have hF2 : Fr CLs M M1 := hF0.trans hF1'
  have hB2 : Bg 0 0 M M1 := (hB0.trans hB1').le (by omega) (by omega)
  have s4_2 : ρ2.1 4 = ρ.1 4 := (by rw [e2, RS.setS_ne (by decide)])
  have s30_2 : ρ2.1 30 = ρ.1 30 := (by rw [e2, RS.setS_ne (by decide)])
  have t_2 : thN ρ2 = thN ρ := by rw [e2]; rfl
  clear hA hB hC hD hE hN hG hH hI hJ hK hL
  obtain ⟨hA, hB, hC, hD, hE, hN, hG, hH, hI, hJ, hK, hL⟩ := id hCl2
  exact S_iret dX8_holdOfLetter_9 rfl (Or.inl rfl) (by rw [← e2]; exact ⟨rfl, ⟨sc, kn, hS2, hCl2⟩, hF2, hB2.le (by omega) (by omega)⟩)
def hoE (ρ : RS) (i : Nat) (w : Int) (e : Nat) : Int × RS := if ρ.2 14 (e / 2) = 0 then (-1, ρ.setS 42 3) else if w = 3 then (1, ptR ρ i 4 (ρ.2 16 e)) else
  if w = 4 then (1, ptR ρ i 3 (ρ.2 17 e)) else if w = 5 then (1, ptR ρ i 3 (ρ.2 18 e)) else if w = 6 then (1, ptR ρ i 5 (ρ.2 15 e)) else
  (1, ptR (ρ.setA 41 i (ρ.2 29 (12 * e))) i 6 (if ρ.2 25 e = 0 then -1 else ρ.2 28 (12 * e)))
set_option maxRecDepth 100000 in
theorem c_holdOfEndN {G : Ge} {M : Mem} {Y : (Nat → Bool) × (Nat → Bool)} {ρ : RS} (hCs : Cs Y ρ M) (t9 : Role) (w9 : Int) : Ct G mi_X8_holdOfEnd [vR ((1, 0)), vR t9, vI w9, vN] M (CP Y (ρ.setS 42 1) 0 0 (some (vI (-1))) M) := by
  refine Ct.of pl_X8_holdOfEnd [some (vR ((1, 0))), some (vR t9), some (vI w9), some vN] rfl (Nat.le_of_ble_eq_true rfl) ?_
  obtain ⟨sc, kn, hS, hCl⟩ := hCs
  have hF0 : Fr CLs M M := Fr.rf CLs M
  have hB0 : Bg 0 0 M M := Bg.rf M
  obtain ⟨hA, hB, hC, hD, hE, hN, hG, hH, hI, hJ, hK, hL⟩ := id hCl
  refine S_aload_n dX8_holdOfEnd_0 rfl ?_
  refine S_ifnonnull 10 dX8_holdOfEnd_1 (by decide) (fun c_1 => absurd c_1 (by simp)) (fun c_1 => ?_)
  refine S_aload_n dX8_holdOfEnd_4 rfl ?_
  refine S_iconst dX8_holdOfEnd_5 ?_
  refine S_callV (mi := mi_X8_holdOfEnd) [vI 1] ok_X8_refuse ml_X8_54 dX8_holdOfEnd_6 rfl (by decide) rfl (by decide) rfl (Nat.le_of_ble_eq_true rfl) rfl (c_refuse (show Cs Y ρ M from ⟨sc, kn, hS, hCl⟩) 1) ?_
  rintro v' M1 ⟨rfl, hCs1, hF1', hB1'⟩
  obtain ⟨ρ2, e2⟩ : ∃ z9 : RS, z9 = (ρ.setS 42 1) := ⟨_, rfl⟩
  rw [← e2] at hCs1
  obtain ⟨sc, kn, hS2, hCl2⟩ := hCs1
  have hF2 : Fr CLs M M1 := hF0.trans hF1'
  have hB2 : Bg 0 0 M M1 := (hB0.trans hB1').le (by omega) (by omega)
  have s4_2 : ρ2.1 4 = ρ.1 4 := (by rw [e2, RS.setS_ne (by decide)])
  have s30_2 : ρ2.1 30 = ρ.1 30 := (by rw [e2, RS.setS_ne (by decide)])
  have t_2 : thN ρ2 = thN ρ := by rw [e2]; rfl
  clear hA hB hC hD hE hN hG hH hI hJ hK hL
  obtain ⟨hA, hB, hC, hD, hE, hN, hG, hH, hI, hJ, hK, hL⟩ := id hCl2
  exact S_iret dX8_holdOfEnd_9 rfl (Or.inl rfl) (by rw [← e2]; exact ⟨rfl, ⟨sc, kn, hS2, hCl2⟩, hF2, hB2.le (by omega) (by omega)⟩)
set_option maxHeartbeats 20000000 in
set_option maxRecDepth 100000 in
theorem c_holdOfEnd {G : Ge} {M : Mem} {Y : (Nat → Bool) × (Nat → Bool)} {ρ : RS} (hCs : Cs Y ρ M) (hIv : Iv Y ρ) (i : Nat) (hi : i < 8) (w9 : Int) (hw9 : 3 ≤ w9 ∧ w9 ≤ 7) (x : Nat) (hxx : (x : Int) < 2 * ρ.1 4) : Ct G mi_X8_holdOfEnd [vR ((1, 0)), vR ((15, i)), vI w9, vR ((7, x))] M (CP Y ((hoE ρ i w9 x).2) 0 0 (some (vI (hoE ρ i w9 x).1)) M) := by
  refine Ct.of pl_X8_holdOfEnd [some (vR ((1, 0))), some (vR ((15, i))), some (vI w9), some (vR ((7, x)))] rfl (Nat.le_of_ble_eq_true rfl) ?_
  obtain ⟨sc, kn, hS, hCl⟩ := hCs
  have hF0 : Fr CLs M M := Fr.rf CLs M
  have hB0 : Bg 0 0 M M := Bg.rf M
  obtain ⟨hA, hB, hC, hD, hE, hN, hG, hH, hI, hJ, hK, hL⟩ := id hCl
  obtain ⟨⟨hp, hl, hm, hli, h44⟩, ⟨hTI, hSh⟩, ⟨hRo, hRp⟩, ⟨hEd, hOw, hYs, hSt⟩, hEn, hLf, ⟨hKo, hKy, hTs, hTl⟩, ⟨hLt, hLp⟩, hTr, hFe⟩ := hIv
  have hl8 := hTI.1.2.1
  refine S_aload_n dX8_holdOfEnd_0 rfl ?_
  refine S_ifnonnull 10 dX8_holdOfEnd_1 (by decide) (fun c_1 => ?_) (fun c_1 => absurd c_1 (by simp))
  by_cases hst : Y.1 x = true
  · have h14 := (hYs x (by omega)).mp hst
    obtain ⟨⟨s, h15, hs, hks⟩, ⟨r, h16, hr, hkr⟩, hsc, htc⟩ := hEd x (by omega) h14
    obtain ⟨n, hn12, h25⟩ := hKo.1 x (by omega)
    refine S_aload_n dX8_holdOfEnd_10 rfl ?_
    refine S_getI (v := 1) fl_X8_99 dX8_holdOfEnd_11 rfl rfl (by rw [(show M.I (7, x) 3 = 1 from (congrFun (hE.1 x (by omega)).2.1 3).trans (if_pos hst))]) ?_
    refine S_if_ne 23 dX8_holdOfEnd_14 (by decide) (by omega) (fun c_14 => ?_) (fun c_14 => absurd c_14 (by omega))
    refine S_iload_n dX8_holdOfEnd_23 rfl ?_
    rcases (show w9 = 3 ∨ w9 = 4 ∨ w9 = 5 ∨ w9 = 6 ∨ (w9 < 3 ∨ 6 < w9) from by omega) with t_24 | t_24 | t_24 | t_24 | t_24
    · refine S_tableIn 56 dX8_holdOfEnd_24 (by omega) (by omega) (by rw [t_24]; rfl) (by decide) ?_
      refine S_aload_n dX8_holdOfEnd_56 rfl ?_
      refine S_aload_n dX8_holdOfEnd_57 rfl ?_
      refine S_getP (o := some (18, r)) fl_X8_119 dX8_holdOfEnd_58 rfl rfl (by rw [(show M.P (7, x) 5 = some (18, r) from (congrFun (hE.1 x (by omega)).2.2 5).trans ((if_pos hst).trans (qx_of h16)))]) ?_
      refine S_null dX8_holdOfEnd_61 ?_
      refine S_callV (mi := mi_X8_holdOfEnd) [vR ((18, r)), vN] ok_X7_put ml_X8_262 dX8_holdOfEnd_62 rfl (by decide) rfl (by decide) rfl (Nat.le_of_ble_eq_true rfl) rfl (c_put i (some (18, r)) none) ?_
      rintro v' M1 ⟨rfl, hM1⟩
      obtain ⟨ρ2, e2⟩ : ∃ z9 : RS, z9 = ((ρ.setA 39 i 4).setA 40 i (↑r)) := ⟨_, rfl⟩
      have hx2 : Fx (15, i) M M1 := by rw [hM1]; exact Fx.trans Fx.pP Fx.pP
      have ho2 : Obj M1 (15, i) [] [some (18, r), none] := by
        obtain ⟨z1, p1, p2, z2, z3⟩ := hK.2 i (by omega)
        rw [hM1]
        exact (z2.putP (k := 0) (o := some (18, r)) (show 0 < 2 by decide)).putP (k := 1) (o := none) (show 1 < 2 by decide)
      have hCl2 : Cl (Y.1, Y.2, sc, kn) ρ2 M1 := hCl.tray i (by omega) hx2 (fun k => by rw [e2, RS.setA_s, RS.setA_s]) (fun k j hk => by rw [e2, RS.setA_ne (by omega), RS.setA_ne (by omega)]) ho2 (Or.inr (Or.inr (Or.inr ⟨rfl, r, rfl, by rw [e2, RS.setA_eq], by rw [show thN ρ2 = thN ρ from by rw [e2]; rfl]; omega, by rw [show ρ2.2 6 r = ρ.2 6 r from by rw [e2, RS.setA_ne (Or.inl (by decide)), RS.setA_ne (Or.inl (by decide))], hkr, e2, RS.setA_ne (Or.inl (by decide)), RS.setA_eq] <;> decide⟩)))
      have hS2 : StpOK sc kn ρ2 := (by rw [e2]; exact hS)
      have hF2 : Fr CLs M M1 := hF0.trans (hx2.fr (by decide))
      have hB2 : Bg 0 0 M M1 := (by rw [hM1]; exact (hB0.trans ((Bg.pP _ 15 i _ _ (by decide)).trans (Bg.pP _ 15 i _ _ (by decide)))).le (by omega) (by omega))
      have s4_2 : ρ2.1 4 = ρ.1 4 := (by rw [e2, RS.setA_s, RS.setA_s])
      have s30_2 : ρ2.1 30 = ρ.1 30 := (by rw [e2, RS.setA_s, RS.setA_s])
      have t_2 : thN ρ2 = thN ρ := by rw [e2]; rfl
      clear hA hB hC hD hE hN hG hH hI hJ hK hL
      obtain ⟨hA, hB, hC, hD, hE, hN, hG, hH, hI, hJ, hK, hL⟩ := id hCl2
      refine S_goto 126 dX8_holdOfEnd_65 (by decide) ?_
      refine S_aload_n dX8_holdOfEnd_126 rfl ?_
      refine S_iconst dX8_holdOfEnd_127 ?_
      refine S_callV (mi := mi_X8_holdOfEnd) [vI 1] ok_X8_done ml_X8_69 dX8_holdOfEnd_128 rfl (by decide) rfl (by decide) rfl (Nat.le_of_ble_eq_true rfl) rfl (c_done (show Cs Y ρ2 M1 from ⟨sc, kn, hS2, hCl2⟩) 1) ?_
      rintro v' M3 ⟨rfl, hCs3, hF3', hB3'⟩
      obtain ⟨ρ4, e4⟩ : ∃ z9 : RS, z9 = (ρ2.setS 42 0) := ⟨_, rfl⟩
      rw [← e4] at hCs3
      obtain ⟨sc, kn, hS4, hCl4⟩ := hCs3
      have hF4 : Fr CLs M M3 := hF2.trans hF3'
      have hB4 : Bg 0 0 M M3 := (hB2.trans hB3').le (by omega) (by omega)
      have s4_4 : ρ4.1 4 = ρ.1 4 := (by rw [e4, RS.setS_ne (by decide), s4_2])
      have s30_4 : ρ4.1 30 = ρ.1 30 := (by rw [e4, RS.setS_ne (by decide), s30_2])
      have t_4 : thN ρ4 = thN ρ2 := by rw [e4]; rfl
      clear hA hB hC hD hE hN hG hH hI hJ hK hL hCl2 hS2 hF2 hB2
      obtain ⟨hA, hB, hC, hD, hE, hN, hG, hH, hI, hJ, hK, hL⟩ := id hCl4
      exact S_iret dX8_holdOfEnd_131 rfl (Or.inl rfl) (by
      have e9 : hoE ρ i w9 x = ((1 : Int), ρ4) := by
        unfold hoE
        rw [if_neg h14, if_pos (by omega)]
        unfold ptR
        rw [h16, if_neg (by omega), e4, e2]
      rw [e9]
      exact ⟨rfl, ⟨sc, kn, hS4, hCl4⟩, hF4, hB4.le (by omega) (by omega)⟩)
    · refine S_tableIn 68 dX8_holdOfEnd_24 (by omega) (by omega) (by rw [t_24]; rfl) (by decide) ?_
      refine S_aload_n dX8_holdOfEnd_68 rfl ?_
      rcases hsc with h17 | ⟨c, h17, cl, ck⟩
      · refine S_aload_n dX8_holdOfEnd_69 rfl ?_
        refine S_getP (o := none) fl_X8_128 dX8_holdOfEnd_70 rfl rfl (by rw [(show M.P (7, x) 6 = none from (congrFun (hE.1 x (by omega)).2.2 6).trans ((if_pos hst).trans ((congrArg qx h17).trans qx_no)))]) ?_
        refine S_null dX8_holdOfEnd_73 ?_
        refine S_callV (mi := mi_X8_holdOfEnd) [vN, vN] ok_X7_put ml_X8_262 dX8_holdOfEnd_74 rfl (by decide) rfl (by decide) rfl (Nat.le_of_ble_eq_true rfl) rfl (c_put i none none) ?_
        rintro v' M5 ⟨rfl, hM5⟩
        obtain ⟨ρ6, e6⟩ : ∃ z9 : RS, z9 = ((ρ.setA 39 i 0).setA 40 i (-1)) := ⟨_, rfl⟩
        have hx6 : Fx (15, i) M M5 := by rw [hM5]; exact Fx.trans Fx.pP Fx.pP
        have ho6 : Obj M5 (15, i) [] [none, none] := by
          obtain ⟨z1, p1, p2, z2, z3⟩ := hK.2 i (by omega)
          rw [hM5]
          exact (z2.putP (k := 0) (o := none) (show 0 < 2 by decide)).putP (k := 1) (o := none) (show 1 < 2 by decide)
        have hCl6 : Cl (Y.1, Y.2, sc, kn) ρ6 M5 := hCl.tray i (by omega) hx6 (fun k => by rw [e6, RS.setA_s, RS.setA_s]) (fun k j hk => by rw [e6, RS.setA_ne (by omega), RS.setA_ne (by omega)]) ho6 (Or.inl ⟨by rw [e6, RS.setA_ne (Or.inl (by decide)), RS.setA_eq], rfl, rfl⟩)
        have hS6 : StpOK sc kn ρ6 := (by rw [e6]; exact hS)
        have hF6 : Fr CLs M M5 := hF0.trans (hx6.fr (by decide))
        have hB6 : Bg 0 0 M M5 := (by rw [hM5]; exact (hB0.trans ((Bg.pP _ 15 i _ _ (by decide)).trans (Bg.pP _ 15 i _ _ (by decide)))).le (by omega) (by omega))
        have s4_6 : ρ6.1 4 = ρ.1 4 := (by rw [e6, RS.setA_s, RS.setA_s])
        have s30_6 : ρ6.1 30 = ρ.1 30 := (by rw [e6, RS.setA_s, RS.setA_s])
        have t_6 : thN ρ6 = thN ρ := by rw [e6]; rfl
        clear hA hB hC hD hE hN hG hH hI hJ hK hL
        obtain ⟨hA, hB, hC, hD, hE, hN, hG, hH, hI, hJ, hK, hL⟩ := id hCl6
        refine S_goto 126 dX8_holdOfEnd_77 (by decide) ?_
        refine S_aload_n dX8_holdOfEnd_126 rfl ?_
        refine S_iconst dX8_holdOfEnd_127 ?_
        refine S_callV (mi := mi_X8_holdOfEnd) [vI 1] ok_X8_done ml_X8_69 dX8_holdOfEnd_128 rfl (by decide) rfl (by decide) rfl (Nat.le_of_ble_eq_true rfl) rfl (c_done (show Cs Y ρ6 M5 from ⟨sc, kn, hS6, hCl6⟩) 1) ?_
        rintro v' M7 ⟨rfl, hCs7, hF7', hB7'⟩
        obtain ⟨ρ8, e8⟩ : ∃ z9 : RS, z9 = (ρ6.setS 42 0) := ⟨_, rfl⟩
        rw [← e8] at hCs7
        obtain ⟨sc, kn, hS8, hCl8⟩ := hCs7
        have hF8 : Fr CLs M M7 := hF6.trans hF7'
        have hB8 : Bg 0 0 M M7 := (hB6.trans hB7').le (by omega) (by omega)
        have s4_8 : ρ8.1 4 = ρ.1 4 := (by rw [e8, RS.setS_ne (by decide), s4_6])
        have s30_8 : ρ8.1 30 = ρ.1 30 := (by rw [e8, RS.setS_ne (by decide), s30_6])
        have t_8 : thN ρ8 = thN ρ6 := by rw [e8]; rfl
        clear hA hB hC hD hE hN hG hH hI hJ hK hL hCl6 hS6 hF6 hB6
        obtain ⟨hA, hB, hC, hD, hE, hN, hG, hH, hI, hJ, hK, hL⟩ := id hCl8
        exact S_iret dX8_holdOfEnd_131 rfl (Or.inl rfl) (by
      have e9 : hoE ρ i w9 x = ((1 : Int), ρ8) := by
        unfold hoE
        rw [if_neg h14, if_neg (by omega), if_pos (by omega)]
        unfold ptR
        rw [h17, if_pos rfl, e8, e6]
      rw [e9]
      exact ⟨rfl, ⟨sc, kn, hS8, hCl8⟩, hF8, hB8.le (by omega) (by omega)⟩)
      · refine S_aload_n dX8_holdOfEnd_69 rfl ?_
        refine S_getP (o := some (18, c)) fl_X8_128 dX8_holdOfEnd_70 rfl rfl (by rw [(show M.P (7, x) 6 = some (18, c) from (congrFun (hE.1 x (by omega)).2.2 6).trans ((if_pos hst).trans (qx_of h17)))]) ?_
        refine S_null dX8_holdOfEnd_73 ?_
        refine S_callV (mi := mi_X8_holdOfEnd) [vR ((18, c)), vN] ok_X7_put ml_X8_262 dX8_holdOfEnd_74 rfl (by decide) rfl (by decide) rfl (Nat.le_of_ble_eq_true rfl) rfl (c_put i (some (18, c)) none) ?_
        rintro v' M9 ⟨rfl, hM9⟩
        obtain ⟨ρ10, e10⟩ : ∃ z9 : RS, z9 = ((ρ.setA 39 i 3).setA 40 i (↑c)) := ⟨_, rfl⟩
        have hx10 : Fx (15, i) M M9 := by rw [hM9]; exact Fx.trans Fx.pP Fx.pP
        have ho10 : Obj M9 (15, i) [] [some (18, c), none] := by
          obtain ⟨z1, p1, p2, z2, z3⟩ := hK.2 i (by omega)
          rw [hM9]
          exact (z2.putP (k := 0) (o := some (18, c)) (show 0 < 2 by decide)).putP (k := 1) (o := none) (show 1 < 2 by decide)
        have hCl10 : Cl (Y.1, Y.2, sc, kn) ρ10 M9 := hCl.tray i (by omega) hx10 (fun k => by rw [e10, RS.setA_s, RS.setA_s]) (fun k j hk => by rw [e10, RS.setA_ne (by omega), RS.setA_ne (by omega)]) ho10 (Or.inr (Or.inr (Or.inr ⟨rfl, c, rfl, by rw [e10, RS.setA_eq], by rw [show thN ρ10 = thN ρ from by rw [e10]; rfl]; omega, by rw [show ρ10.2 6 c = ρ.2 6 c from by rw [e10, RS.setA_ne (Or.inl (by decide)), RS.setA_ne (Or.inl (by decide))], ck, e10, RS.setA_ne (Or.inl (by decide)), RS.setA_eq] <;> decide⟩)))
        have hS10 : StpOK sc kn ρ10 := (by rw [e10]; exact hS)
        have hF10 : Fr CLs M M9 := hF0.trans (hx10.fr (by decide))
        have hB10 : Bg 0 0 M M9 := (by rw [hM9]; exact (hB0.trans ((Bg.pP _ 15 i _ _ (by decide)).trans (Bg.pP _ 15 i _ _ (by decide)))).le (by omega) (by omega))
        have s4_10 : ρ10.1 4 = ρ.1 4 := (by rw [e10, RS.setA_s, RS.setA_s])
        have s30_10 : ρ10.1 30 = ρ.1 30 := (by rw [e10, RS.setA_s, RS.setA_s])
        have t_10 : thN ρ10 = thN ρ := by rw [e10]; rfl
        clear hA hB hC hD hE hN hG hH hI hJ hK hL
        obtain ⟨hA, hB, hC, hD, hE, hN, hG, hH, hI, hJ, hK, hL⟩ := id hCl10
        refine S_goto 126 dX8_holdOfEnd_77 (by decide) ?_
        refine S_aload_n dX8_holdOfEnd_126 rfl ?_
        refine S_iconst dX8_holdOfEnd_127 ?_
        refine S_callV (mi := mi_X8_holdOfEnd) [vI 1] ok_X8_done ml_X8_69 dX8_holdOfEnd_128 rfl (by decide) rfl (by decide) rfl (Nat.le_of_ble_eq_true rfl) rfl (c_done (show Cs Y ρ10 M9 from ⟨sc, kn, hS10, hCl10⟩) 1) ?_
        rintro v' M11 ⟨rfl, hCs11, hF11', hB11'⟩
        obtain ⟨ρ12, e12⟩ : ∃ z9 : RS, z9 = (ρ10.setS 42 0) := ⟨_, rfl⟩
        rw [← e12] at hCs11
        obtain ⟨sc, kn, hS12, hCl12⟩ := hCs11
        have hF12 : Fr CLs M M11 := hF10.trans hF11'
        have hB12 : Bg 0 0 M M11 := (hB10.trans hB11').le (by omega) (by omega)
        have s4_12 : ρ12.1 4 = ρ.1 4 := (by rw [e12, RS.setS_ne (by decide), s4_10])
        have s30_12 : ρ12.1 30 = ρ.1 30 := (by rw [e12, RS.setS_ne (by decide), s30_10])
        have t_12 : thN ρ12 = thN ρ10 := by rw [e12]; rfl
        clear hA hB hC hD hE hN hG hH hI hJ hK hL hCl10 hS10 hF10 hB10
        obtain ⟨hA, hB, hC, hD, hE, hN, hG, hH, hI, hJ, hK, hL⟩ := id hCl12
        exact S_iret dX8_holdOfEnd_131 rfl (Or.inl rfl) (by
      have e9 : hoE ρ i w9 x = ((1 : Int), ρ12) := by
        unfold hoE
        rw [if_neg h14, if_neg (by omega), if_pos (by omega)]
        unfold ptR
        rw [h17, if_neg (by omega), e12, e10]
      rw [e9]
      exact ⟨rfl, ⟨sc, kn, hS12, hCl12⟩, hF12, hB12.le (by omega) (by omega)⟩)
    · refine S_tableIn 80 dX8_holdOfEnd_24 (by omega) (by omega) (by rw [t_24]; rfl) (by decide) ?_
      refine S_aload_n dX8_holdOfEnd_80 rfl ?_
      rcases htc with h18 | ⟨d, h18, dl, dk⟩
      · refine S_aload_n dX8_holdOfEnd_81 rfl ?_
        refine S_getP (o := none) fl_X8_192 dX8_holdOfEnd_82 rfl rfl (by rw [(show M.P (7, x) 7 = none from (congrFun (hE.1 x (by omega)).2.2 7).trans ((if_pos hst).trans ((congrArg qx h18).trans qx_no)))]) ?_
        refine S_null dX8_holdOfEnd_85 ?_
        refine S_callV (mi := mi_X8_holdOfEnd) [vN, vN] ok_X7_put ml_X8_262 dX8_holdOfEnd_86 rfl (by decide) rfl (by decide) rfl (Nat.le_of_ble_eq_true rfl) rfl (c_put i none none) ?_
        rintro v' M13 ⟨rfl, hM13⟩
        obtain ⟨ρ14, e14⟩ : ∃ z9 : RS, z9 = ((ρ.setA 39 i 0).setA 40 i (-1)) := ⟨_, rfl⟩
        have hx14 : Fx (15, i) M M13 := by rw [hM13]; exact Fx.trans Fx.pP Fx.pP
        have ho14 : Obj M13 (15, i) [] [none, none] := by
          obtain ⟨z1, p1, p2, z2, z3⟩ := hK.2 i (by omega)
          rw [hM13]
          exact (z2.putP (k := 0) (o := none) (show 0 < 2 by decide)).putP (k := 1) (o := none) (show 1 < 2 by decide)
        have hCl14 : Cl (Y.1, Y.2, sc, kn) ρ14 M13 := hCl.tray i (by omega) hx14 (fun k => by rw [e14, RS.setA_s, RS.setA_s]) (fun k j hk => by rw [e14, RS.setA_ne (by omega), RS.setA_ne (by omega)]) ho14 (Or.inl ⟨by rw [e14, RS.setA_ne (Or.inl (by decide)), RS.setA_eq], rfl, rfl⟩)
        have hS14 : StpOK sc kn ρ14 := (by rw [e14]; exact hS)
        have hF14 : Fr CLs M M13 := hF0.trans (hx14.fr (by decide))
        have hB14 : Bg 0 0 M M13 := (by rw [hM13]; exact (hB0.trans ((Bg.pP _ 15 i _ _ (by decide)).trans (Bg.pP _ 15 i _ _ (by decide)))).le (by omega) (by omega))
        have s4_14 : ρ14.1 4 = ρ.1 4 := (by rw [e14, RS.setA_s, RS.setA_s])
        have s30_14 : ρ14.1 30 = ρ.1 30 := (by rw [e14, RS.setA_s, RS.setA_s])
        have t_14 : thN ρ14 = thN ρ := by rw [e14]; rfl
        clear hA hB hC hD hE hN hG hH hI hJ hK hL
        obtain ⟨hA, hB, hC, hD, hE, hN, hG, hH, hI, hJ, hK, hL⟩ := id hCl14
        refine S_goto 126 dX8_holdOfEnd_89 (by decide) ?_
        refine S_aload_n dX8_holdOfEnd_126 rfl ?_
        refine S_iconst dX8_holdOfEnd_127 ?_
        refine S_callV (mi := mi_X8_holdOfEnd) [vI 1] ok_X8_done ml_X8_69 dX8_holdOfEnd_128 rfl (by decide) rfl (by decide) rfl (Nat.le_of_ble_eq_true rfl) rfl (c_done (show Cs Y ρ14 M13 from ⟨sc, kn, hS14, hCl14⟩) 1) ?_
        rintro v' M15 ⟨rfl, hCs15, hF15', hB15'⟩
        obtain ⟨ρ16, e16⟩ : ∃ z9 : RS, z9 = (ρ14.setS 42 0) := ⟨_, rfl⟩
        rw [← e16] at hCs15
        obtain ⟨sc, kn, hS16, hCl16⟩ := hCs15
        have hF16 : Fr CLs M M15 := hF14.trans hF15'
        have hB16 : Bg 0 0 M M15 := (hB14.trans hB15').le (by omega) (by omega)
        have s4_16 : ρ16.1 4 = ρ.1 4 := (by rw [e16, RS.setS_ne (by decide), s4_14])
        have s30_16 : ρ16.1 30 = ρ.1 30 := (by rw [e16, RS.setS_ne (by decide), s30_14])
        have t_16 : thN ρ16 = thN ρ14 := by rw [e16]; rfl
        clear hA hB hC hD hE hN hG hH hI hJ hK hL hCl14 hS14 hF14 hB14
        obtain ⟨hA, hB, hC, hD, hE, hN, hG, hH, hI, hJ, hK, hL⟩ := id hCl16
        exact S_iret dX8_holdOfEnd_131 rfl (Or.inl rfl) (by
      have e9 : hoE ρ i w9 x = ((1 : Int), ρ16) := by
        unfold hoE
        rw [if_neg h14, if_neg (by omega), if_neg (by omega), if_pos (by omega)]
        unfold ptR
        rw [h18, if_pos rfl, e16, e14]
      rw [e9]
      exact ⟨rfl, ⟨sc, kn, hS16, hCl16⟩, hF16, hB16.le (by omega) (by omega)⟩)
      · refine S_aload_n dX8_holdOfEnd_81 rfl ?_
        refine S_getP (o := some (18, d)) fl_X8_192 dX8_holdOfEnd_82 rfl rfl (by rw [(show M.P (7, x) 7 = some (18, d) from (congrFun (hE.1 x (by omega)).2.2 7).trans ((if_pos hst).trans (qx_of h18)))]) ?_
        refine S_null dX8_holdOfEnd_85 ?_
        refine S_callV (mi := mi_X8_holdOfEnd) [vR ((18, d)), vN] ok_X7_put ml_X8_262 dX8_holdOfEnd_86 rfl (by decide) rfl (by decide) rfl (Nat.le_of_ble_eq_true rfl) rfl (c_put i (some (18, d)) none) ?_
        rintro v' M17 ⟨rfl, hM17⟩
        obtain ⟨ρ18, e18⟩ : ∃ z9 : RS, z9 = ((ρ.setA 39 i 3).setA 40 i (↑d)) := ⟨_, rfl⟩
        have hx18 : Fx (15, i) M M17 := by rw [hM17]; exact Fx.trans Fx.pP Fx.pP
        have ho18 : Obj M17 (15, i) [] [some (18, d), none] := by
          obtain ⟨z1, p1, p2, z2, z3⟩ := hK.2 i (by omega)
          rw [hM17]
          exact (z2.putP (k := 0) (o := some (18, d)) (show 0 < 2 by decide)).putP (k := 1) (o := none) (show 1 < 2 by decide)
        have hCl18 : Cl (Y.1, Y.2, sc, kn) ρ18 M17 := hCl.tray i (by omega) hx18 (fun k => by rw [e18, RS.setA_s, RS.setA_s]) (fun k j hk => by rw [e18, RS.setA_ne (by omega), RS.setA_ne (by omega)]) ho18 (Or.inr (Or.inr (Or.inr ⟨rfl, d, rfl, by rw [e18, RS.setA_eq], by rw [show thN ρ18 = thN ρ from by rw [e18]; rfl]; omega, by rw [show ρ18.2 6 d = ρ.2 6 d from by rw [e18, RS.setA_ne (Or.inl (by decide)), RS.setA_ne (Or.inl (by decide))], dk, e18, RS.setA_ne (Or.inl (by decide)), RS.setA_eq] <;> decide⟩)))
        have hS18 : StpOK sc kn ρ18 := (by rw [e18]; exact hS)
        have hF18 : Fr CLs M M17 := hF0.trans (hx18.fr (by decide))
        have hB18 : Bg 0 0 M M17 := (by rw [hM17]; exact (hB0.trans ((Bg.pP _ 15 i _ _ (by decide)).trans (Bg.pP _ 15 i _ _ (by decide)))).le (by omega) (by omega))
        have s4_18 : ρ18.1 4 = ρ.1 4 := (by rw [e18, RS.setA_s, RS.setA_s])
        have s30_18 : ρ18.1 30 = ρ.1 30 := (by rw [e18, RS.setA_s, RS.setA_s])
        have t_18 : thN ρ18 = thN ρ := by rw [e18]; rfl
        clear hA hB hC hD hE hN hG hH hI hJ hK hL
        obtain ⟨hA, hB, hC, hD, hE, hN, hG, hH, hI, hJ, hK, hL⟩ := id hCl18
        refine S_goto 126 dX8_holdOfEnd_89 (by decide) ?_
        refine S_aload_n dX8_holdOfEnd_126 rfl ?_
        refine S_iconst dX8_holdOfEnd_127 ?_
        refine S_callV (mi := mi_X8_holdOfEnd) [vI 1] ok_X8_done ml_X8_69 dX8_holdOfEnd_128 rfl (by decide) rfl (by decide) rfl (Nat.le_of_ble_eq_true rfl) rfl (c_done (show Cs Y ρ18 M17 from ⟨sc, kn, hS18, hCl18⟩) 1) ?_
        rintro v' M19 ⟨rfl, hCs19, hF19', hB19'⟩
        obtain ⟨ρ20, e20⟩ : ∃ z9 : RS, z9 = (ρ18.setS 42 0) := ⟨_, rfl⟩
        rw [← e20] at hCs19
        obtain ⟨sc, kn, hS20, hCl20⟩ := hCs19
        have hF20 : Fr CLs M M19 := hF18.trans hF19'
        have hB20 : Bg 0 0 M M19 := (hB18.trans hB19').le (by omega) (by omega)
        have s4_20 : ρ20.1 4 = ρ.1 4 := (by rw [e20, RS.setS_ne (by decide), s4_18])
        have s30_20 : ρ20.1 30 = ρ.1 30 := (by rw [e20, RS.setS_ne (by decide), s30_18])
        have t_20 : thN ρ20 = thN ρ18 := by rw [e20]; rfl
        clear hA hB hC hD hE hN hG hH hI hJ hK hL hCl18 hS18 hF18 hB18
        obtain ⟨hA, hB, hC, hD, hE, hN, hG, hH, hI, hJ, hK, hL⟩ := id hCl20
        exact S_iret dX8_holdOfEnd_131 rfl (Or.inl rfl) (by
      have e9 : hoE ρ i w9 x = ((1 : Int), ρ20) := by
        unfold hoE
        rw [if_neg h14, if_neg (by omega), if_neg (by omega), if_pos (by omega)]
        unfold ptR
        rw [h18, if_neg (by omega), e20, e18]
      rw [e9]
      exact ⟨rfl, ⟨sc, kn, hS20, hCl20⟩, hF20, hB20.le (by omega) (by omega)⟩)
    · refine S_tableIn 92 dX8_holdOfEnd_24 (by omega) (by omega) (by rw [t_24]; rfl) (by decide) ?_
      refine S_aload_n dX8_holdOfEnd_92 rfl ?_
      refine S_aload_n dX8_holdOfEnd_93 rfl ?_
      refine S_getP (o := some (18, s)) fl_X8_115 dX8_holdOfEnd_94 rfl rfl (by rw [(show M.P (7, x) 4 = some (18, s) from (congrFun (hE.1 x (by omega)).2.2 4).trans ((if_pos hst).trans (qx_of h15)))]) ?_
      refine S_null dX8_holdOfEnd_97 ?_
      refine S_callV (mi := mi_X8_holdOfEnd) [vR ((18, s)), vN] ok_X7_put ml_X8_262 dX8_holdOfEnd_98 rfl (by decide) rfl (by decide) rfl (Nat.le_of_ble_eq_true rfl) rfl (c_put i (some (18, s)) none) ?_
      rintro v' M21 ⟨rfl, hM21⟩
      obtain ⟨ρ22, e22⟩ : ∃ z9 : RS, z9 = ((ρ.setA 39 i 5).setA 40 i (↑s)) := ⟨_, rfl⟩
      have hx22 : Fx (15, i) M M21 := by rw [hM21]; exact Fx.trans Fx.pP Fx.pP
      have ho22 : Obj M21 (15, i) [] [some (18, s), none] := by
        obtain ⟨z1, p1, p2, z2, z3⟩ := hK.2 i (by omega)
        rw [hM21]
        exact (z2.putP (k := 0) (o := some (18, s)) (show 0 < 2 by decide)).putP (k := 1) (o := none) (show 1 < 2 by decide)
      have hCl22 : Cl (Y.1, Y.2, sc, kn) ρ22 M21 := hCl.tray i (by omega) hx22 (fun k => by rw [e22, RS.setA_s, RS.setA_s]) (fun k j hk => by rw [e22, RS.setA_ne (by omega), RS.setA_ne (by omega)]) ho22 (Or.inr (Or.inr (Or.inr ⟨rfl, s, rfl, by rw [e22, RS.setA_eq], by rw [show thN ρ22 = thN ρ from by rw [e22]; rfl]; omega, by rw [show ρ22.2 6 s = ρ.2 6 s from by rw [e22, RS.setA_ne (Or.inl (by decide)), RS.setA_ne (Or.inl (by decide))], hks, e22, RS.setA_ne (Or.inl (by decide)), RS.setA_eq] <;> decide⟩)))
      have hS22 : StpOK sc kn ρ22 := (by rw [e22]; exact hS)
      have hF22 : Fr CLs M M21 := hF0.trans (hx22.fr (by decide))
      have hB22 : Bg 0 0 M M21 := (by rw [hM21]; exact (hB0.trans ((Bg.pP _ 15 i _ _ (by decide)).trans (Bg.pP _ 15 i _ _ (by decide)))).le (by omega) (by omega))
      have s4_22 : ρ22.1 4 = ρ.1 4 := (by rw [e22, RS.setA_s, RS.setA_s])
      have s30_22 : ρ22.1 30 = ρ.1 30 := (by rw [e22, RS.setA_s, RS.setA_s])
      have t_22 : thN ρ22 = thN ρ := by rw [e22]; rfl
      clear hA hB hC hD hE hN hG hH hI hJ hK hL
      obtain ⟨hA, hB, hC, hD, hE, hN, hG, hH, hI, hJ, hK, hL⟩ := id hCl22
      refine S_goto 126 dX8_holdOfEnd_101 (by decide) ?_
      refine S_aload_n dX8_holdOfEnd_126 rfl ?_
      refine S_iconst dX8_holdOfEnd_127 ?_
      refine S_callV (mi := mi_X8_holdOfEnd) [vI 1] ok_X8_done ml_X8_69 dX8_holdOfEnd_128 rfl (by decide) rfl (by decide) rfl (Nat.le_of_ble_eq_true rfl) rfl (c_done (show Cs Y ρ22 M21 from ⟨sc, kn, hS22, hCl22⟩) 1) ?_
      rintro v' M23 ⟨rfl, hCs23, hF23', hB23'⟩
      obtain ⟨ρ24, e24⟩ : ∃ z9 : RS, z9 = (ρ22.setS 42 0) := ⟨_, rfl⟩
      rw [← e24] at hCs23
      obtain ⟨sc, kn, hS24, hCl24⟩ := hCs23
      have hF24 : Fr CLs M M23 := hF22.trans hF23'
      have hB24 : Bg 0 0 M M23 := (hB22.trans hB23').le (by omega) (by omega)
      have s4_24 : ρ24.1 4 = ρ.1 4 := (by rw [e24, RS.setS_ne (by decide), s4_22])
      have s30_24 : ρ24.1 30 = ρ.1 30 := (by rw [e24, RS.setS_ne (by decide), s30_22])
      have t_24 : thN ρ24 = thN ρ22 := by rw [e24]; rfl
      clear hA hB hC hD hE hN hG hH hI hJ hK hL hCl22 hS22 hF22 hB22
      obtain ⟨hA, hB, hC, hD, hE, hN, hG, hH, hI, hJ, hK, hL⟩ := id hCl24
      exact S_iret dX8_holdOfEnd_131 rfl (Or.inl rfl) (by
      have e9 : hoE ρ i w9 x = ((1 : Int), ρ24) := by
        unfold hoE
        rw [if_neg h14, if_neg (by omega), if_neg (by omega), if_neg (by omega), if_pos (by omega)]
        unfold ptR
        rw [h15, if_neg (by omega), e24, e22]
      rw [e9]
      exact ⟨rfl, ⟨sc, kn, hS24, hCl24⟩, hF24, hB24.le (by omega) (by omega)⟩)
    · refine S_tableOut 104 dX8_holdOfEnd_24 (by omega) t_24 (by decide) ?_
      refine S_aload_n dX8_holdOfEnd_104 rfl ?_
      refine S_aload_n dX8_holdOfEnd_105 rfl ?_
      refine S_getI (v := ↑n) fl_X8_206 dX8_holdOfEnd_106 rfl rfl (by rw [(show M.I (7, x) 13 = ↑n from (show M.I (7, x) 13 = ρ.2 25 x from congrFun (hE.1 x (by omega)).2.1 13).trans h25)]) ?_
      refine S_if_le 121 dX8_holdOfEnd_109 (by decide) (by omega) (fun c_109 => ?_) (fun c_109 => ?_)
      · refine S_null dX8_holdOfEnd_121 ?_
        refine S_null dX8_holdOfEnd_122 ?_
        refine S_callV (mi := mi_X8_holdOfEnd) [vN, vN] ok_X7_put ml_X8_262 dX8_holdOfEnd_123 rfl (by decide) rfl (by decide) rfl (Nat.le_of_ble_eq_true rfl) rfl (c_put i none none) ?_
        rintro v' M25 ⟨rfl, hM25⟩
        obtain ⟨ρ26, e26⟩ : ∃ z9 : RS, z9 = (((ρ.setA 41 i ((ρ.2 29 (12 * x)))).setA 39 i 0).setA 40 i (-1)) := ⟨_, rfl⟩
        have hx26 : Fx (15, i) M M25 := by rw [hM25]; exact Fx.trans Fx.pP Fx.pP
        have ho26 : Obj M25 (15, i) [] [none, none] := by
          obtain ⟨z1, p1, p2, z2, z3⟩ := hK.2 i (by omega)
          rw [hM25]
          exact (z2.putP (k := 0) (o := none) (show 0 < 2 by decide)).putP (k := 1) (o := none) (show 1 < 2 by decide)
        have hCl26 : Cl (Y.1, Y.2, sc, kn) ρ26 M25 := hCl.tray i (by omega) hx26 (fun k => by rw [e26, RS.setA_s, RS.setA_s, RS.setA_s]) (fun k j hk => by rw [e26, RS.setA_ne (by omega), RS.setA_ne (by omega), RS.setA_ne (by omega)]) ho26 (Or.inl ⟨by rw [e26, RS.setA_ne (Or.inl (by decide)), RS.setA_eq], rfl, rfl⟩)
        have hS26 : StpOK sc kn ρ26 := (by rw [e26]; exact hS)
        have hF26 : Fr CLs M M25 := hF0.trans (hx26.fr (by decide))
        have hB26 : Bg 0 0 M M25 := (by rw [hM25]; exact (hB0.trans ((Bg.pP _ 15 i _ _ (by decide)).trans (Bg.pP _ 15 i _ _ (by decide)))).le (by omega) (by omega))
        have s4_26 : ρ26.1 4 = ρ.1 4 := (by rw [e26, RS.setA_s, RS.setA_s, RS.setA_s])
        have s30_26 : ρ26.1 30 = ρ.1 30 := (by rw [e26, RS.setA_s, RS.setA_s, RS.setA_s])
        have t_26 : thN ρ26 = thN ρ := by rw [e26]; rfl
        clear hA hB hC hD hE hN hG hH hI hJ hK hL
        obtain ⟨hA, hB, hC, hD, hE, hN, hG, hH, hI, hJ, hK, hL⟩ := id hCl26
        refine S_aload_n dX8_holdOfEnd_126 rfl ?_
        refine S_iconst dX8_holdOfEnd_127 ?_
        refine S_callV (mi := mi_X8_holdOfEnd) [vI 1] ok_X8_done ml_X8_69 dX8_holdOfEnd_128 rfl (by decide) rfl (by decide) rfl (Nat.le_of_ble_eq_true rfl) rfl (c_done (show Cs Y ρ26 M25 from ⟨sc, kn, hS26, hCl26⟩) 1) ?_
        rintro v' M27 ⟨rfl, hCs27, hF27', hB27'⟩
        obtain ⟨ρ28, e28⟩ : ∃ z9 : RS, z9 = (ρ26.setS 42 0) := ⟨_, rfl⟩
        rw [← e28] at hCs27
        obtain ⟨sc, kn, hS28, hCl28⟩ := hCs27
        have hF28 : Fr CLs M M27 := hF26.trans hF27'
        have hB28 : Bg 0 0 M M27 := (hB26.trans hB27').le (by omega) (by omega)
        have s4_28 : ρ28.1 4 = ρ.1 4 := (by rw [e28, RS.setS_ne (by decide), s4_26])
        have s30_28 : ρ28.1 30 = ρ.1 30 := (by rw [e28, RS.setS_ne (by decide), s30_26])
        have t_28 : thN ρ28 = thN ρ26 := by rw [e28]; rfl
        clear hA hB hC hD hE hN hG hH hI hJ hK hL hCl26 hS26 hF26 hB26
        obtain ⟨hA, hB, hC, hD, hE, hN, hG, hH, hI, hJ, hK, hL⟩ := id hCl28
        exact S_iret dX8_holdOfEnd_131 rfl (Or.inl rfl) (by
      have e9 : hoE ρ i w9 x = ((1 : Int), ρ28) := by
        unfold hoE
        rw [if_neg h14, if_neg (by omega), if_neg (by omega), if_neg (by omega), if_neg (by omega)]
        unfold ptR
        rw [h25, if_pos (by omega), if_pos (by omega), e28, e26]
      rw [e9]
      exact ⟨rfl, ⟨sc, kn, hS28, hCl28⟩, hF28, hB28.le (by omega) (by omega)⟩)
      · obtain ⟨m, kk, q1, q2, q3, q4⟩ := (hH.1 x (by omega)).2 0 (by rw [h25]; omega)
        rw [Nat.add_zero] at q2
        refine S_aload_n dX8_holdOfEnd_112 rfl ?_
        refine S_getP (o := some (9, x)) fl_X8_209 dX8_holdOfEnd_113 rfl rfl (by rw [(show M.P (7, x) 12 = some (9, x) from congrFun (hE.1 x (by omega)).2.2 12)]) ?_
        refine S_iconst dX8_holdOfEnd_116 ?_
        refine S_aald (o := some (19, m)) 0 dX8_holdOfEnd_117 rfl (by decide) rfl (by rw [(show M.len (9, x) = some 12 from (hH.1 x (by omega)).1)]) (by omega) (by omega) (by rw [q1]) ?_
        refine S_goto 122 dX8_holdOfEnd_118 (by decide) ?_
        refine S_null dX8_holdOfEnd_122 ?_
        refine S_callV (mi := mi_X8_holdOfEnd) [vR ((19, m)), vN] ok_X7_put ml_X8_262 dX8_holdOfEnd_123 rfl (by decide) rfl (by decide) rfl (Nat.le_of_ble_eq_true rfl) rfl (c_put i (some (19, m)) none) ?_
        rintro v' M29 ⟨rfl, hM29⟩
        obtain ⟨ρ30, e30⟩ : ∃ z9 : RS, z9 = (((ρ.setA 41 i ((ρ.2 29 (12 * x)))).setA 39 i 6).setA 40 i (↑kk)) := ⟨_, rfl⟩
        have hx30 : Fx (15, i) M M29 := by rw [hM29]; exact Fx.trans Fx.pP Fx.pP
        have ho30 : Obj M29 (15, i) [] [some (19, m), none] := by
          obtain ⟨z1, p1, p2, z2, z3⟩ := hK.2 i (by omega)
          rw [hM29]
          exact (z2.putP (k := 0) (o := some (19, m)) (show 0 < 2 by decide)).putP (k := 1) (o := none) (show 1 < 2 by decide)
        have hCl30 : Cl (Y.1, Y.2, sc, kn) ρ30 M29 := hCl.tray i (by omega) hx30 (fun k => by rw [e30, RS.setA_s, RS.setA_s, RS.setA_s]) (fun k j hk => by rw [e30, RS.setA_ne (by omega), RS.setA_ne (by omega), RS.setA_ne (by omega)]) ho30 (Or.inr (Or.inr (Or.inl ⟨by rw [e30, RS.setA_ne (Or.inl (by decide)), RS.setA_eq], rfl, m, kk, rfl, by rw [e30, RS.setA_eq], by rw [show thN ρ30 = thN ρ from by rw [e30]; rfl]; omega, _, _, (by
        rw [show ρ30.2 41 i = ρ.2 29 (12 * x + 0) from by rw [e30, RS.setA_ne (by omega), RS.setA_ne (by omega), RS.setA_eq, Nat.add_zero], show ρ30.2 9 kk = ρ.2 9 kk from by rw [e30, RS.setA_ne (by omega), RS.setA_ne (by omega), RS.setA_ne (by omega)]]
        exact Obj.at q4 (hx30 (19, m) (rne (by decide))))⟩)))
        have hS30 : StpOK sc kn ρ30 := (by rw [e30]; exact hS)
        have hF30 : Fr CLs M M29 := hF0.trans (hx30.fr (by decide))
        have hB30 : Bg 0 0 M M29 := (by rw [hM29]; exact (hB0.trans ((Bg.pP _ 15 i _ _ (by decide)).trans (Bg.pP _ 15 i _ _ (by decide)))).le (by omega) (by omega))
        have s4_30 : ρ30.1 4 = ρ.1 4 := (by rw [e30, RS.setA_s, RS.setA_s, RS.setA_s])
        have s30_30 : ρ30.1 30 = ρ.1 30 := (by rw [e30, RS.setA_s, RS.setA_s, RS.setA_s])
        have t_30 : thN ρ30 = thN ρ := by rw [e30]; rfl
        clear hA hB hC hD hE hN hG hH hI hJ hK hL
        obtain ⟨hA, hB, hC, hD, hE, hN, hG, hH, hI, hJ, hK, hL⟩ := id hCl30
        refine S_aload_n dX8_holdOfEnd_126 rfl ?_
        refine S_iconst dX8_holdOfEnd_127 ?_
        refine S_callV (mi := mi_X8_holdOfEnd) [vI 1] ok_X8_done ml_X8_69 dX8_holdOfEnd_128 rfl (by decide) rfl (by decide) rfl (Nat.le_of_ble_eq_true rfl) rfl (c_done (show Cs Y ρ30 M29 from ⟨sc, kn, hS30, hCl30⟩) 1) ?_
        rintro v' M31 ⟨rfl, hCs31, hF31', hB31'⟩
        obtain ⟨ρ32, e32⟩ : ∃ z9 : RS, z9 = (ρ30.setS 42 0) := ⟨_, rfl⟩
        rw [← e32] at hCs31
        obtain ⟨sc, kn, hS32, hCl32⟩ := hCs31
        have hF32 : Fr CLs M M31 := hF30.trans hF31'
        have hB32 : Bg 0 0 M M31 := (hB30.trans hB31').le (by omega) (by omega)
        have s4_32 : ρ32.1 4 = ρ.1 4 := (by rw [e32, RS.setS_ne (by decide), s4_30])
        have s30_32 : ρ32.1 30 = ρ.1 30 := (by rw [e32, RS.setS_ne (by decide), s30_30])
        have t_32 : thN ρ32 = thN ρ30 := by rw [e32]; rfl
        clear hA hB hC hD hE hN hG hH hI hJ hK hL hCl30 hS30 hF30 hB30
        obtain ⟨hA, hB, hC, hD, hE, hN, hG, hH, hI, hJ, hK, hL⟩ := id hCl32
        exact S_iret dX8_holdOfEnd_131 rfl (Or.inl rfl) (by
      have e9 : hoE ρ i w9 x = ((1 : Int), ρ32) := by
        unfold hoE
        rw [if_neg h14, if_neg (by omega), if_neg (by omega), if_neg (by omega), if_neg (by omega)]
        unfold ptR
        rw [h25, if_neg (by omega), q2, if_neg (by omega), e32, e30]
      rw [e9]
      exact ⟨rfl, ⟨sc, kn, hS32, hCl32⟩, hF32, hB32.le (by omega) (by omega)⟩)
  · have h14 : ρ.2 14 (x / 2) = 0 := by
      by_cases h : ρ.2 14 (x / 2) = 0
      · exact h
      · exact absurd ((hYs x (by omega)).mpr h) hst
    refine S_aload_n dX8_holdOfEnd_10 rfl ?_
    refine S_getI (v := 0) fl_X8_99 dX8_holdOfEnd_11 rfl rfl (by rw [(show M.I (7, x) 3 = 0 from (congrFun (hE.1 x (by omega)).2.1 3).trans (if_neg hst))]) ?_
    refine S_if_ne 23 dX8_holdOfEnd_14 (by decide) (by omega) (fun c_14 => absurd c_14 (by omega)) (fun c_14 => ?_)
    refine S_aload_n dX8_holdOfEnd_17 rfl ?_
    refine S_iconst dX8_holdOfEnd_18 ?_
    refine S_callV (mi := mi_X8_holdOfEnd) [vI 3] ok_X8_refuse ml_X8_54 dX8_holdOfEnd_19 rfl (by decide) rfl (by decide) rfl (Nat.le_of_ble_eq_true rfl) rfl (c_refuse (show Cs Y ρ M from ⟨sc, kn, hS, hCl⟩) 3) ?_
    rintro v' M33 ⟨rfl, hCs33, hF33', hB33'⟩
    obtain ⟨ρ34, e34⟩ : ∃ z9 : RS, z9 = (ρ.setS 42 3) := ⟨_, rfl⟩
    rw [← e34] at hCs33
    obtain ⟨sc, kn, hS34, hCl34⟩ := hCs33
    have hF34 : Fr CLs M M33 := hF0.trans hF33'
    have hB34 : Bg 0 0 M M33 := (hB0.trans hB33').le (by omega) (by omega)
    have s4_34 : ρ34.1 4 = ρ.1 4 := (by rw [e34, RS.setS_ne (by decide)])
    have s30_34 : ρ34.1 30 = ρ.1 30 := (by rw [e34, RS.setS_ne (by decide)])
    have t_34 : thN ρ34 = thN ρ := by rw [e34]; rfl
    clear hA hB hC hD hE hN hG hH hI hJ hK hL
    obtain ⟨hA, hB, hC, hD, hE, hN, hG, hH, hI, hJ, hK, hL⟩ := id hCl34
    exact S_iret dX8_holdOfEnd_22 rfl (Or.inl rfl) (by
      have e9 : hoE ρ i w9 x = (((-1) : Int), ρ34) := by
        unfold hoE
        rw [if_pos h14, e34]
      rw [e9]
      exact ⟨rfl, ⟨sc, kn, hS34, hCl34⟩, hF34, hB34.le (by omega) (by omega)⟩)
set_option maxHeartbeats 20000000 in
set_option maxRecDepth 100000 in
theorem c_hold {G : Ge} {M : Mem} {Y : (Nat → Bool) × (Nat → Bool)} {ρ : RS} (hCs : Cs Y ρ M) (hIv : Iv Y ρ) (t w9 n : Int) (t32 : -2147483648 ≤ t ∧ t < 2147483648) (w932 : -2147483648 ≤ w9 ∧ w9 < 2147483648) (n32 : -2147483648 ≤ n ∧ n < 2147483648) : Ct G mi_X8_hold [vR ((1, 0)), vI t, vI w9, vI n] M (CP Y ((holdF ρ t w9 n).2) 0 0 (some (vI (holdF ρ t w9 n).1)) M) := by
  refine Ct.of pl_X8_hold [some (vR ((1, 0))), some (vI t), some (vI w9), some (vI n), none] rfl (Nat.le_of_ble_eq_true rfl) ?_
  obtain ⟨sc, kn, hS, hCl⟩ := hCs
  have hF0 : Fr CLs M M := Fr.rf CLs M
  have hB0 : Bg 0 0 M M := Bg.rf M
  obtain ⟨hA, hB, hC, hD, hE, hN, hG, hH, hI, hJ, hK, hL⟩ := id hCl
  obtain ⟨⟨hp, hl, hm, hli, h44⟩, ⟨hTI, hSh⟩, ⟨hRo, hRp⟩, ⟨hEd, hOw, hYs, hSt⟩, hEn, hLf, ⟨hKo, hKy, hTs, hTl⟩, ⟨hLt, hLp⟩, hTr, hFe⟩ := id hIv
  refine S_aload_n dX8_hold_0 rfl ?_
  refine S_iload_n dX8_hold_1 rfl ?_
  by_cases hvt : 0 ≤ t ∧ t < 8
  · obtain ⟨i, rfl⟩ : ∃ i : Nat, t = ↑i := ⟨t.toNat, by omega⟩
    have hi8 : i < 8 := by omega
    refine S_callV (mi := mi_X8_hold) [vI (↑i)] ok_X8_trayAt ml_X8_258 dX8_hold_2 rfl (by decide) rfl (by decide) rfl (Nat.le_of_ble_eq_true rfl) rfl (c_trayAt hCl i (by omega)) ?_
    rintro v' M1 ⟨rfl, hM1⟩
    rw [hM1]
    clear hM1
    refine S_astore dX8_hold_5 (by decide) ?_
    refine S_aload dX8_hold_7 rfl ?_
    refine S_ifnull 22 dX8_hold_9 (by decide) (fun c_9 => absurd c_9 (by simp)) (fun c_9 => ?_)
    refine S_iload_n dX8_hold_12 rfl ?_
    refine S_if_lt 22 dX8_hold_13 (by decide) (by omega) (fun c_13 => ?_) (fun c_13 => ?_)
    · refine S_aload_n dX8_hold_22 rfl ?_
      refine S_iconst dX8_hold_23 ?_
      refine S_callV (mi := mi_X8_hold) [vI 1] ok_X8_refuse ml_X8_54 dX8_hold_24 rfl (by decide) rfl (by decide) rfl (Nat.le_of_ble_eq_true rfl) rfl (c_refuse (show Cs Y ρ M from ⟨sc, kn, hS, hCl⟩) 1) ?_
      rintro v' M2 ⟨rfl, hCs2, hF2', hB2'⟩
      obtain ⟨ρ3, e3⟩ : ∃ z9 : RS, z9 = (ρ.setS 42 1) := ⟨_, rfl⟩
      rw [← e3] at hCs2
      obtain ⟨sc, kn, hS3, hCl3⟩ := hCs2
      have hF3 : Fr CLs M M2 := hF0.trans hF2'
      have hB3 : Bg 0 0 M M2 := (hB0.trans hB2').le (by omega) (by omega)
      have s4_3 : ρ3.1 4 = ρ.1 4 := (by rw [e3, RS.setS_ne (by decide)])
      have s30_3 : ρ3.1 30 = ρ.1 30 := (by rw [e3, RS.setS_ne (by decide)])
      have t_3 : thN ρ3 = thN ρ := by rw [e3]; rfl
      clear hA hB hC hD hE hN hG hH hI hJ hK hL
      obtain ⟨hA, hB, hC, hD, hE, hN, hG, hH, hI, hJ, hK, hL⟩ := id hCl3
      exact S_iret dX8_hold_27 rfl (Or.inl rfl) (by
      have e9 : holdF ρ (↑i) w9 n = (((-1) : Int), ρ3) := by
        unfold holdF
        rw [if_pos (by omega), e3]
      rw [e9]
      exact ⟨rfl, ⟨sc, kn, hS3, hCl3⟩, hF3, hB3.le (by omega) (by omega)⟩)
    · refine S_iload_n dX8_hold_16 rfl ?_
      refine S_bipush dX8_hold_17 (by decide) ?_
      refine S_icmp_le 28 dX8_hold_19 (by decide) (by omega) (fun c_19 => ?_) (fun c_19 => ?_)
      · refine S_iload_n dX8_hold_28 rfl ?_
        refine S_if_ne 45 dX8_hold_29 (by decide) (by omega) (fun c_29 => ?_) (fun c_29 => ?_)
        · refine S_iload_n dX8_hold_45 rfl ?_
          refine S_iconst dX8_hold_46 ?_
          refine S_icmp_gt 65 dX8_hold_47 (by decide) (by omega) (fun c_47 => ?_) (fun c_47 => ?_)
          · refine S_aload_n dX8_hold_65 rfl ?_
            refine S_aload dX8_hold_66 rfl ?_
            refine S_iload_n dX8_hold_68 rfl ?_
            refine S_aload_n dX8_hold_69 rfl ?_
            refine S_iload_n dX8_hold_70 rfl ?_
            by_cases hve : 0 ≤ n ∧ n < 2 * ρ.1 4
            · obtain ⟨x, rfl⟩ : ∃ x : Nat, n = ↑x := ⟨n.toNat, by omega⟩
              refine S_callV (mi := mi_X8_hold) [vI (↑x)] ok_X8_endAt ml_X8_78 dX8_hold_71 rfl (by decide) rfl (by decide) rfl (Nat.le_of_ble_eq_true rfl) rfl (c_endAt hCl hp x (by omega)) ?_
              rintro v' M4 ⟨rfl, hM4⟩
              rw [hM4]
              clear hM4
              refine S_callV (mi := mi_X8_hold) [vR ((15, i)), vI w9, vR ((7, x))] ok_X8_holdOfEnd ml_X8_270 dX8_hold_74 rfl (by decide) rfl (by decide) rfl (Nat.le_of_ble_eq_true rfl) rfl (c_holdOfEnd (show Cs Y ρ M from ⟨sc, kn, hS, hCl⟩) hIv i hi8 w9 (by omega) x (by omega)) ?_
              rintro v' M5 ⟨rfl, hCs5, hF5, hB5⟩
              exact S_iret dX8_hold_77 rfl (Or.inl rfl) (by
      have e9 : holdF ρ (↑i) w9 (↑x) = hoE ρ i w9 x := by
        unfold holdF
        rw [if_neg (by omega), Int.toNat_natCast, Int.toNat_natCast]
        unfold hoE
        by_cases h1 : ρ.2 14 (x / 2) = 0
        · rw [if_pos ⟨by omega, h1⟩, if_pos h1]
        · rw [if_neg (fun z => h1 z.2), if_neg h1, if_neg (by omega), if_neg (by omega), if_neg (by omega)]
      rw [e9]
      exact ⟨rfl, hCs5, hF5, hB5.le (by omega) (by omega)⟩)
            · refine S_callV (mi := mi_X8_hold) [vI n] ok_X8_endAt ml_X8_78 dX8_hold_71 rfl (by decide) rfl (by decide) rfl (Nat.le_of_ble_eq_true rfl) rfl (c_endAtN hCl hp n n32 hve) ?_
              rintro v' M6 ⟨rfl, hM6⟩
              rw [hM6]
              clear hM6
              refine S_callV (mi := mi_X8_hold) [vR ((15, i)), vI w9, vN] ok_X8_holdOfEnd ml_X8_270 dX8_hold_74 rfl (by decide) rfl (by decide) rfl (Nat.le_of_ble_eq_true rfl) rfl (c_holdOfEndN (show Cs Y ρ M from ⟨sc, kn, hS, hCl⟩) (15, i) w9) ?_
              rintro v' M7 ⟨rfl, hCs7, hF7, hB7⟩
              exact S_iret dX8_hold_77 rfl (Or.inl rfl) (by
      have e9 : holdF ρ (↑i) w9 n = ((-1 : Int), ρ.setS 42 1) := by
        unfold holdF
        rw [if_pos (by omega)]
      rw [e9]
      exact ⟨rfl, hCs7, hF7, hB7.le (by omega) (by omega)⟩)
          · refine S_aload_n dX8_hold_50 rfl ?_
            refine S_aload dX8_hold_51 rfl ?_
            refine S_iload_n dX8_hold_53 rfl ?_
            refine S_aload_n dX8_hold_54 rfl ?_
            refine S_iload_n dX8_hold_55 rfl ?_
            by_cases hvl : 0 ≤ n ∧ n < ρ.1 30
            · obtain ⟨y, rfl⟩ : ∃ y : Nat, n = ↑y := ⟨n.toNat, by omega⟩
              refine S_callV (mi := mi_X8_hold) [vI (↑y)] ok_X8_letterAt ml_X8_171 dX8_hold_56 rfl (by decide) rfl (by decide) rfl (Nat.le_of_ble_eq_true rfl) rfl (c_letterAt hCl hl y (by omega)) ?_
              rintro v' M8 ⟨rfl, hM8⟩
              rw [hM8]
              clear hM8
              refine S_callV (mi := mi_X8_hold) [vR ((15, i)), vI w9, vR ((12, y))] ok_X8_holdOfLetter ml_X8_266 dX8_hold_59 rfl (by decide) rfl (by decide) rfl (Nat.le_of_ble_eq_true rfl) rfl (c_holdOfLetter (show Cs Y ρ M from ⟨sc, kn, hS, hCl⟩) hIv i hi8 w9 (by omega) y (by omega)) ?_
              rintro v' M9 ⟨rfl, hCs9, hF9, hB9⟩
              refine S_goto 77 dX8_hold_62 (by decide) ?_
              exact S_iret dX8_hold_77 rfl (Or.inl rfl) (by
      have e9 : holdF ρ (↑i) w9 (↑y) = ((1 : Int), if w9 = 1 then ptR ρ i 2 (ρ.2 37 y) else ptR ρ i 1 ↑y) := by
        unfold holdF
        rw [if_neg (by omega), if_neg (by omega), if_neg (by omega), Int.toNat_natCast, Int.toNat_natCast]
        by_cases h1 : w9 = 1
        · rw [if_pos h1, if_pos h1]
        · rw [if_neg h1, if_neg h1, if_pos (by omega)]
      rw [e9]
      exact ⟨rfl, hCs9, hF9, hB9.le (by omega) (by omega)⟩)
            · refine S_callV (mi := mi_X8_hold) [vI n] ok_X8_letterAt ml_X8_171 dX8_hold_56 rfl (by decide) rfl (by decide) rfl (Nat.le_of_ble_eq_true rfl) rfl (c_letterAtN hCl hl n n32 hvl) ?_
              rintro v' M10 ⟨rfl, hM10⟩
              rw [hM10]
              clear hM10
              refine S_callV (mi := mi_X8_hold) [vR ((15, i)), vI w9, vN] ok_X8_holdOfLetter ml_X8_266 dX8_hold_59 rfl (by decide) rfl (by decide) rfl (Nat.le_of_ble_eq_true rfl) rfl (c_holdOfLetterN (show Cs Y ρ M from ⟨sc, kn, hS, hCl⟩) (15, i) w9) ?_
              rintro v' M11 ⟨rfl, hCs11, hF11, hB11⟩
              refine S_goto 77 dX8_hold_62 (by decide) ?_
              exact S_iret dX8_hold_77 rfl (Or.inl rfl) (by
      have e9 : holdF ρ (↑i) w9 n = ((-1 : Int), ρ.setS 42 1) := by
        unfold holdF
        rw [if_pos (by omega)]
      rw [e9]
      exact ⟨rfl, hCs11, hF11, hB11.le (by omega) (by omega)⟩)
        · refine S_aload dX8_hold_32 rfl ?_
          refine S_null dX8_hold_34 ?_
          refine S_null dX8_hold_35 ?_
          refine S_callV (mi := mi_X8_hold) [vN, vN] ok_X7_put ml_X8_262 dX8_hold_36 rfl (by decide) rfl (by decide) rfl (Nat.le_of_ble_eq_true rfl) rfl (c_put i none none) ?_
          rintro v' M12 ⟨rfl, hM12⟩
          obtain ⟨ρ13, e13⟩ : ∃ z9 : RS, z9 = ((ρ.setA 39 i 0).setA 40 i (-1)) := ⟨_, rfl⟩
          have hx13 : Fx (15, i) M M12 := by rw [hM12]; exact Fx.trans Fx.pP Fx.pP
          have ho13 : Obj M12 (15, i) [] [none, none] := by
            obtain ⟨z1, p1, p2, z2, z3⟩ := hK.2 i (by omega)
            rw [hM12]
            exact (z2.putP (k := 0) (o := none) (show 0 < 2 by decide)).putP (k := 1) (o := none) (show 1 < 2 by decide)
          have hCl13 : Cl (Y.1, Y.2, sc, kn) ρ13 M12 := hCl.tray i (by omega) hx13 (fun k => by rw [e13, RS.setA_s, RS.setA_s]) (fun k j hk => by rw [e13, RS.setA_ne (by omega), RS.setA_ne (by omega)]) ho13 (Or.inl ⟨by rw [e13, RS.setA_ne (Or.inl (by decide)), RS.setA_eq], rfl, rfl⟩)
          have hS13 : StpOK sc kn ρ13 := (by rw [e13]; exact hS)
          have hF13 : Fr CLs M M12 := hF0.trans (hx13.fr (by decide))
          have hB13 : Bg 0 0 M M12 := (by rw [hM12]; exact (hB0.trans ((Bg.pP _ 15 i _ _ (by decide)).trans (Bg.pP _ 15 i _ _ (by decide)))).le (by omega) (by omega))
          have s4_13 : ρ13.1 4 = ρ.1 4 := (by rw [e13, RS.setA_s, RS.setA_s])
          have s30_13 : ρ13.1 30 = ρ.1 30 := (by rw [e13, RS.setA_s, RS.setA_s])
          have t_13 : thN ρ13 = thN ρ := by rw [e13]; rfl
          clear hA hB hC hD hE hN hG hH hI hJ hK hL
          obtain ⟨hA, hB, hC, hD, hE, hN, hG, hH, hI, hJ, hK, hL⟩ := id hCl13
          refine S_aload_n dX8_hold_39 rfl ?_
          refine S_iconst dX8_hold_40 ?_
          refine S_callV (mi := mi_X8_hold) [vI 1] ok_X8_done ml_X8_69 dX8_hold_41 rfl (by decide) rfl (by decide) rfl (Nat.le_of_ble_eq_true rfl) rfl (c_done (show Cs Y ρ13 M12 from ⟨sc, kn, hS13, hCl13⟩) 1) ?_
          rintro v' M14 ⟨rfl, hCs14, hF14', hB14'⟩
          obtain ⟨ρ15, e15⟩ : ∃ z9 : RS, z9 = (ρ13.setS 42 0) := ⟨_, rfl⟩
          rw [← e15] at hCs14
          obtain ⟨sc, kn, hS15, hCl15⟩ := hCs14
          have hF15 : Fr CLs M M14 := hF13.trans hF14'
          have hB15 : Bg 0 0 M M14 := (hB13.trans hB14').le (by omega) (by omega)
          have s4_15 : ρ15.1 4 = ρ.1 4 := (by rw [e15, RS.setS_ne (by decide), s4_13])
          have s30_15 : ρ15.1 30 = ρ.1 30 := (by rw [e15, RS.setS_ne (by decide), s30_13])
          have t_15 : thN ρ15 = thN ρ13 := by rw [e15]; rfl
          clear hA hB hC hD hE hN hG hH hI hJ hK hL hCl13 hS13 hF13 hB13
          obtain ⟨hA, hB, hC, hD, hE, hN, hG, hH, hI, hJ, hK, hL⟩ := id hCl15
          exact S_iret dX8_hold_44 rfl (Or.inl rfl) (by
      have e9 : holdF ρ (↑i) w9 n = ((1 : Int), ρ15) := by
        unfold holdF
        rw [if_neg (by omega), if_neg (by omega), if_pos (by omega), Int.toNat_natCast]
        unfold ptR
        rw [if_pos rfl, e15, e13]
      rw [e9]
      exact ⟨rfl, ⟨sc, kn, hS15, hCl15⟩, hF15, hB15.le (by omega) (by omega)⟩)
      · refine S_aload_n dX8_hold_22 rfl ?_
        refine S_iconst dX8_hold_23 ?_
        refine S_callV (mi := mi_X8_hold) [vI 1] ok_X8_refuse ml_X8_54 dX8_hold_24 rfl (by decide) rfl (by decide) rfl (Nat.le_of_ble_eq_true rfl) rfl (c_refuse (show Cs Y ρ M from ⟨sc, kn, hS, hCl⟩) 1) ?_
        rintro v' M16 ⟨rfl, hCs16, hF16', hB16'⟩
        obtain ⟨ρ17, e17⟩ : ∃ z9 : RS, z9 = (ρ.setS 42 1) := ⟨_, rfl⟩
        rw [← e17] at hCs16
        obtain ⟨sc, kn, hS17, hCl17⟩ := hCs16
        have hF17 : Fr CLs M M16 := hF0.trans hF16'
        have hB17 : Bg 0 0 M M16 := (hB0.trans hB16').le (by omega) (by omega)
        have s4_17 : ρ17.1 4 = ρ.1 4 := (by rw [e17, RS.setS_ne (by decide)])
        have s30_17 : ρ17.1 30 = ρ.1 30 := (by rw [e17, RS.setS_ne (by decide)])
        have t_17 : thN ρ17 = thN ρ := by rw [e17]; rfl
        clear hA hB hC hD hE hN hG hH hI hJ hK hL
        obtain ⟨hA, hB, hC, hD, hE, hN, hG, hH, hI, hJ, hK, hL⟩ := id hCl17
        exact S_iret dX8_hold_27 rfl (Or.inl rfl) (by
      have e9 : holdF ρ (↑i) w9 n = (((-1) : Int), ρ17) := by
        unfold holdF
        rw [if_pos (by omega), e17]
      rw [e9]
      exact ⟨rfl, ⟨sc, kn, hS17, hCl17⟩, hF17, hB17.le (by omega) (by omega)⟩)
  · refine S_callV (mi := mi_X8_hold) [vI t] ok_X8_trayAt ml_X8_258 dX8_hold_2 rfl (by decide) rfl (by decide) rfl (Nat.le_of_ble_eq_true rfl) rfl (c_trayAtN hCl t t32 hvt) ?_
    rintro v' M18 ⟨rfl, hM18⟩
    rw [hM18]
    clear hM18
    refine S_astore dX8_hold_5 (by decide) ?_
    refine S_aload dX8_hold_7 rfl ?_
    refine S_ifnull 22 dX8_hold_9 (by decide) (fun c_9 => ?_) (fun c_9 => absurd c_9 (by simp))
    refine S_aload_n dX8_hold_22 rfl ?_
    refine S_iconst dX8_hold_23 ?_
    refine S_callV (mi := mi_X8_hold) [vI 1] ok_X8_refuse ml_X8_54 dX8_hold_24 rfl (by decide) rfl (by decide) rfl (Nat.le_of_ble_eq_true rfl) rfl (c_refuse (show Cs Y ρ M from ⟨sc, kn, hS, hCl⟩) 1) ?_
    rintro v' M19 ⟨rfl, hCs19, hF19', hB19'⟩
    obtain ⟨ρ20, e20⟩ : ∃ z9 : RS, z9 = (ρ.setS 42 1) := ⟨_, rfl⟩
    rw [← e20] at hCs19
    obtain ⟨sc, kn, hS20, hCl20⟩ := hCs19
    have hF20 : Fr CLs M M19 := hF0.trans hF19'
    have hB20 : Bg 0 0 M M19 := (hB0.trans hB19').le (by omega) (by omega)
    have s4_20 : ρ20.1 4 = ρ.1 4 := (by rw [e20, RS.setS_ne (by decide)])
    have s30_20 : ρ20.1 30 = ρ.1 30 := (by rw [e20, RS.setS_ne (by decide)])
    have t_20 : thN ρ20 = thN ρ := by rw [e20]; rfl
    clear hA hB hC hD hE hN hG hH hI hJ hK hL
    obtain ⟨hA, hB, hC, hD, hE, hN, hG, hH, hI, hJ, hK, hL⟩ := id hCl20
    exact S_iret dX8_hold_27 rfl (Or.inl rfl) (by
      have e9 : holdF ρ t w9 n = (((-1) : Int), ρ20) := by
        unfold holdF
        rw [if_pos (by omega), e20]
      rw [e9]
      exact ⟨rfl, ⟨sc, kn, hS20, hCl20⟩, hF20, hB20.le (by omega) (by omega)⟩)
