/-! THE CLASS: an end turns to a new public -/
set_option maxHeartbeats 20000000 in
set_option maxRecDepth 100000 in
theorem c_turn {G : Ge} {M : Mem} {Y : (Nat → Bool) × (Nat → Bool)} {ρ : RS} (hCs : Cs Y ρ M) (N : Nat) (hTI : TI Y.2 ρ N) (hNb : N < 7900) (e l r0 s pl n t z lf : Nat) (P : Int) (he : (e : Int) < 2 * ρ.1 4) (hp : 0 ≤ ρ.1 4 ∧ ρ.1 4 ≤ 6) (hl : (l : Int) < ρ.1 30) (hl30 : 0 ≤ ρ.1 30 ∧ ρ.1 30 ≤ 300) (hst : Y.1 e = true) (hKo : KOK ρ) (h16 : ρ.2 16 e = ↑r0) (hr0 : r0 < thN ρ) (h15 : ρ.2 15 e = ↑s) (hs : s < thN ρ) (hks : ρ.2 6 s = 3) (h38 : ρ.2 38 l = ↑z) (hz : z < thN ρ) (hkz : ρ.2 6 z = 3) (h32 : ρ.2 32 l = P) (hP : -1 ≤ P ∧ P ≤ 10007) (h34 : ρ.2 34 l = ↑pl) (hpl : pl ≤ 12) (h12 : ρ.2 12 e = ↑(n + 1)) (hn : n < 12) (h13 : ρ.2 13 (12 * e) = ↑t) (htl : t < thN ρ) (hkt : ρ.2 6 t = 3) (hb12 : ∀ e1 : Nat, (e1 : Int) < 2 * ρ.1 4 → ρ.2 12 e1 ≤ 12) (hrow : ∀ i, i < n + 1 → ∃ t : Nat, ρ.2 13 (12 * e + i) = ↑t) (h23 : ρ.2 23 e = ↑lf) (hlf : lf < 300) (hb23 : ∀ e1 : Nat, (e1 : Int) < 2 * ρ.1 4 → ρ.2 23 e1 ≤ 600) (h19 : -1 ≤ ρ.2 19 e ∧ ρ.2 19 e ≤ 10007) (hps : Y.2 s = decide (e % 2 = 1)) (hpz : Y.2 z = !decide (e % 2 = 1)) (hpt : Y.2 t = decide (e % 2 = 1)) (hRm : Rm 76 400 M) : Ct G mi_X8_turn [vR ((1, 0)), vR ((7, e)), vR ((12, l))] M (CP Y (anC (leR (rmR ρ ↑r0 s z) e) e (rmI ρ ↑r0 s z) pl n t z P) 76 400 none M) := by
  refine Ct.of pl_X8_turn [some (vR ((1, 0))), some (vR ((7, e))), some (vR ((12, l))), none] rfl (Nat.le_of_ble_eq_true rfl) ?_
  obtain ⟨sc, kn, hS, hCl⟩ := hCs
  have hF0 : Fr CLs M M := Fr.rf CLs M
  have hB0 : Bg 0 0 M M := Bg.rf M
  obtain ⟨hA, hB, hC, hD, hE, hN, hG, hH, hI, hJ, hK, hL⟩ := id hCl
  have hl8 := hTI.1.2.1
  have hsz : Y.2 s ≠ Y.2 z := by rw [hps, hpz]; cases decide (e % 2 = 1) <;> decide
  have htz : Y.2 t ≠ Y.2 z := by rw [hpt, hpz]; cases decide (e % 2 = 1) <;> decide
  refine S_aload_n dX8_turn_0 rfl ?_
  refine S_getP (o := some (3, 0)) fl_X8_10 dX8_turn_1 rfl rfl (by rw [(show M.P (1, 0) 1 = some (3, 0) from congrFun hA.2.2 1)]) ?_
  refine S_aload_n dX8_turn_4 rfl ?_
  refine S_getP (o := some (18, r0)) fl_X8_119 dX8_turn_5 rfl rfl (by rw [(show M.P (7, e) 5 = some (18, r0) from (congrFun (hE.1 e (by omega)).2.2 5).trans ((if_pos hst).trans (qx_of h16)))]) ?_
  refine S_aload_n dX8_turn_8 rfl ?_
  refine S_aload_n dX8_turn_9 rfl ?_
  refine S_aload_n dX8_turn_10 rfl ?_
  refine S_getP (o := some (18, z)) fl_X8_345 dX8_turn_11 rfl rfl (by rw [(show M.P (12, l) 1 = some (18, z) from (congrFun (hJ.2.1 l (by omega)).2.1.2.2 1).trans (qx_of h38))]) ?_
  refine S_callV (mi := mi_X8_turn) [vR ((7, e)), vR ((18, z))] ok_X8_meetingAt ml_X8_348 dX8_turn_14 rfl (by decide) rfl (by decide) rfl (Nat.le_of_ble_eq_true rfl) rfl (c_meetingAt (G := G) (show Cs Y ρ M from ⟨sc, kn, hS, hCl⟩) (N) hTI (by omega) e s z (by omega) (by omega) hst (by rw [h15]) (by omega) (by omega) hps hpz (by rw [hks]) (by rw [hkz])  (hRm.sub hB0 (by omega) (by omega))) ?_
  rintro v' M2 ⟨rfl, hCs2, hF2', hB2'⟩
  obtain ⟨ρ3, e3⟩ : ∃ z9 : RS, z9 = (meR ρ s z) := ⟨_, rfl⟩
  rw [← e3] at hCs2
  obtain ⟨m1, em1⟩ : ∃ z9 : Nat, z9 = meI ρ s z := ⟨_, rfl⟩
  rw [← em1]
  have q3 : TI Y.2 (meR ρ s z) (N + 1) ∧ meI ρ s z < thN (meR ρ s z) ∧ thN ρ ≤ thN (meR ρ s z) := hTI.me (by omega) (by omega) hsz
  have k3 : (meR ρ s z).2 6 (meI ρ s z) = 5 := th_kind (by decide)
  rw [← e3, ← em1] at q3 k3
  obtain ⟨hTI3, hi3, g3⟩ := q3
  obtain ⟨sc, kn, hS3, hCl3⟩ := hCs2
  have hF3 : Fr CLs M M2 := hF0.trans hF2'
  have hB3 : Bg 2 8 M M2 := (hB0.trans hB2').le (by omega) (by omega)
  have s4_3 : ρ3.1 4 = ρ.1 4 := (by rw [e3, thR_s _ _ _ _ _ _ (by decide)])
  have s30_3 : ρ3.1 30 = ρ.1 30 := (by rw [e3, thR_s _ _ _ _ _ _ (by decide)])
  have w4 : ρ3.2 16 e = ↑r0 := (by rw [e3, thR_old_at _ _ _ _ _ _ _ (Or.inr (by decide)), h16])
  have w5 : ρ3.2 15 e = ↑s := (by rw [e3, thR_old_at _ _ _ _ _ _ _ (Or.inr (by decide)), h15])
  have w6 : ρ3.2 38 l = ↑z := (by rw [e3, thR_old_at _ _ _ _ _ _ _ (Or.inr (by decide)), h38])
  have w7 : ρ3.2 32 l = P := (by rw [e3, thR_old_at _ _ _ _ _ _ _ (Or.inr (by decide)), h32])
  have w8 : ρ3.2 34 l = ↑pl := (by rw [e3, thR_old_at _ _ _ _ _ _ _ (Or.inr (by decide)), h34])
  have w9 : ρ3.2 12 e = ↑(n + 1) := (by rw [e3, thR_old_at _ _ _ _ _ _ _ (Or.inr (by decide)), h12])
  have w10 : ρ3.2 13 ((12 * e)) = ↑t := (by rw [e3, thR_old_at _ _ _ _ _ _ _ (Or.inr (by decide)), h13])
  have w11 : ρ3.2 20 e = ρ.2 20 e := (by rw [e3, thR_old_at _ _ _ _ _ _ _ (Or.inr (by decide))])
  have w12 : ρ3.2 6 s = 3 := (by rw [e3, thR_old_at _ _ _ _ _ _ _ (Or.inl (by omega)), hks])
  have w13 : ρ3.2 6 t = 3 := (by rw [e3, thR_old_at _ _ _ _ _ _ _ (Or.inl (by omega)), hkt])
  have w14 : ρ3.2 6 z = 3 := (by rw [e3, thR_old_at _ _ _ _ _ _ _ (Or.inl (by omega)), hkz])
  have w15 : ρ3.2 19 e = ρ.2 19 e := (by rw [e3, thR_old_at _ _ _ _ _ _ _ (Or.inr (by decide))])
  have gl3 : thN ρ ≤ thN ρ3 ∧ m1 < thN ρ3 := by omega
  clear hi3 g3
  clear hA hB hC hD hE hN hG hH hI hJ hK hL
  obtain ⟨hA, hB, hC, hD, hE, hN, hG, hH, hI, hJ, hK, hL⟩ := id hCl3
  refine S_callV (mi := mi_X8_turn) [vR ((18, r0)), vR ((18, m1))] ok_X5_rootOf ml_X8_122 dX8_turn_17 rfl (by decide) rfl (by decide) rfl (Nat.le_of_ble_eq_true rfl) rfl (c_rootOf (G := G) (show Cs Y ρ3 M2 from ⟨sc, kn, hS3, hCl3⟩) (N + 1) hTI3 (by omega) r0 m1 (by omega) (by omega)  (hRm.sub hB3 (by omega) (by omega))) ?_
  rintro v' M17 ⟨rfl, hCs17, hF17', hB17'⟩
  obtain ⟨ρ18, e18⟩ : ∃ z9 : RS, z9 = (rtR ρ3 (↑r0) m1) := ⟨_, rfl⟩
  rw [← e18] at hCs17
  obtain ⟨r16, er16⟩ : ∃ z9 : Nat, z9 = rtI ρ3 (↑r0) m1 := ⟨_, rfl⟩
  rw [← er16]
  have q18 : TI Y.2 (rtR ρ3 (↑r0) m1) (N + 2) ∧ rtI ρ3 (↑r0) m1 < thN (rtR ρ3 (↑r0) m1) ∧ thN ρ3 ≤ thN (rtR ρ3 (↑r0) m1) := hTI3.rt (by omega) (by omega)
  have k18 : (rtR ρ3 (↑r0) m1).2 6 (rtI ρ3 (↑r0) m1) = 2 := th_kind (by decide)
  rw [← e18, ← er16] at q18 k18
  obtain ⟨hTI18, hi18, g18⟩ := q18
  obtain ⟨sc, kn, hS18, hCl18⟩ := hCs17
  have hF18 : Fr CLs M M17 := hF3.trans hF17'
  have hB18 : Bg 4 16 M M17 := (hB3.trans hB17').le (by omega) (by omega)
  have s4_18 : ρ18.1 4 = ρ.1 4 := (by rw [e18, thR_s _ _ _ _ _ _ (by decide), s4_3])
  have s30_18 : ρ18.1 30 = ρ.1 30 := (by rw [e18, thR_s _ _ _ _ _ _ (by decide), s30_3])
  have w19 : ρ18.2 16 e = ↑r0 := (by rw [e18, thR_old_at _ _ _ _ _ _ _ (Or.inr (by decide)), w4])
  have w20 : ρ18.2 15 e = ↑s := (by rw [e18, thR_old_at _ _ _ _ _ _ _ (Or.inr (by decide)), w5])
  have w21 : ρ18.2 38 l = ↑z := (by rw [e18, thR_old_at _ _ _ _ _ _ _ (Or.inr (by decide)), w6])
  have w22 : ρ18.2 32 l = P := (by rw [e18, thR_old_at _ _ _ _ _ _ _ (Or.inr (by decide)), w7])
  have w23 : ρ18.2 34 l = ↑pl := (by rw [e18, thR_old_at _ _ _ _ _ _ _ (Or.inr (by decide)), w8])
  have w24 : ρ18.2 12 e = ↑(n + 1) := (by rw [e18, thR_old_at _ _ _ _ _ _ _ (Or.inr (by decide)), w9])
  have w25 : ρ18.2 13 ((12 * e)) = ↑t := (by rw [e18, thR_old_at _ _ _ _ _ _ _ (Or.inr (by decide)), w10])
  have w26 : ρ18.2 20 e = ρ.2 20 e := (by rw [e18, thR_old_at _ _ _ _ _ _ _ (Or.inr (by decide)), w11])
  have w27 : ρ18.2 6 s = 3 := (by rw [e18, thR_old_at _ _ _ _ _ _ _ (Or.inl (by omega)), w12])
  have w28 : ρ18.2 6 t = 3 := (by rw [e18, thR_old_at _ _ _ _ _ _ _ (Or.inl (by omega)), w13])
  have w29 : ρ18.2 6 z = 3 := (by rw [e18, thR_old_at _ _ _ _ _ _ _ (Or.inl (by omega)), w14])
  have w30 : ρ18.2 19 e = ρ.2 19 e := (by rw [e18, thR_old_at _ _ _ _ _ _ _ (Or.inr (by decide)), w15])
  have w31 : ρ18.2 6 m1 = 5 := (by rw [e18, thR_old_at _ _ _ _ _ _ _ (Or.inl (by omega)), k3])
  have gl18 : thN ρ ≤ thN ρ18 ∧ m1 < thN ρ18 ∧ r16 < thN ρ18 := by omega
  clear s4_3 s30_3 w4 w5 w6 w7 w8 w9 w10 w11 w12 w13 w14 w15 k3 gl3 hi18 g18
  clear hA hB hC hD hE hN hG hH hI hJ hK hL hCl3 hS3 hF3 hB3
  obtain ⟨hA, hB, hC, hD, hE, hN, hG, hH, hI, hJ, hK, hL⟩ := id hCl18
  refine S_astore_n dX8_turn_20 (by decide) ?_
  refine S_aload_n dX8_turn_21 rfl ?_
  have hb1 : ∀ e1 : Nat, (e1 : Int) < 2 * ρ18.1 4 → ρ18.2 23 e1 ≤ 600 := fun e1 h1 => by
    rw [e18, thR_old_at _ _ _ _ _ _ _ (Or.inr (by omega)), e3, thR_old_at _ _ _ _ _ _ _ (Or.inr (by omega))]
    exact hb23 e1 (by omega)
  refine S_callV (mi := mi_X8_turn) [] ok_X1_leave ml_X8_352 dX8_turn_22 rfl (by decide) rfl (by decide) rfl (Nat.le_of_ble_eq_true rfl) rfl (c_leave (G := G) (show Cs Y ρ18 M17 from ⟨sc, kn, hS18, hCl18⟩) e lf (by omega) hst (by rw [e18, thR_old_at _ _ _ _ _ _ _ (Or.inr (by decide)), e3, thR_old_at _ _ _ _ _ _ _ (Or.inr (by decide)), h23]) hlf (by rw [w30]; exact h19) hb1) ?_
  rintro v' M32 ⟨rfl, hCs32, hF32', hB32'⟩
  obtain ⟨ρ33, e33⟩ : ∃ z9 : RS, z9 = (leR ρ18 e) := ⟨_, rfl⟩
  rw [← e33] at hCs32
  obtain ⟨sc, kn, hS33, hCl33⟩ := hCs32
  have hF33 : Fr CLs M M32 := hF18.trans hF32'
  have hB33 : Bg 4 16 M M32 := (hB18.trans hB32').le (by omega) (by omega)
  have s4_33 : ρ33.1 4 = ρ.1 4 := (by rw [e33, leR_s, s4_18])
  have s30_33 : ρ33.1 30 = ρ.1 30 := (by rw [e33, leR_s, s30_18])
  have t_33 : thN ρ33 = thN ρ18 := thN_congr (by rw [e33, leR_s])
  have w34 : ρ33.2 16 e = ↑r0 := (by rw [e33, leR_at (by decide), w19])
  have w35 : ρ33.2 15 e = ↑s := (by rw [e33, leR_at (by decide), w20])
  have w36 : ρ33.2 38 l = ↑z := (by rw [e33, leR_at (by decide), w21])
  have w37 : ρ33.2 32 l = P := (by rw [e33, leR_at (by decide), w22])
  have w38 : ρ33.2 34 l = ↑pl := (by rw [e33, leR_at (by decide), w23])
  have w39 : ρ33.2 12 e = ↑(n + 1) := (by rw [e33, leR_at (by decide), w24])
  have w40 : ρ33.2 13 ((12 * e)) = ↑t := (by rw [e33, leR_at (by decide), w25])
  have w41 : ρ33.2 20 e = ρ.2 20 e := (by rw [e33, leR_at (by decide), w26])
  have w42 : ρ33.2 6 s = 3 := (by rw [e33, leR_at (by decide), w27])
  have w43 : ρ33.2 6 t = 3 := (by rw [e33, leR_at (by decide), w28])
  have w44 : ρ33.2 6 z = 3 := (by rw [e33, leR_at (by decide), w29])
  have w45 : ρ33.2 19 e = ρ.2 19 e := (by rw [e33, leR_at (by decide), w30])
  have w46 : ρ33.2 6 m1 = 5 := (by rw [e33, leR_at (by decide), w31])
  have w47 : ρ33.2 6 r16 = 2 := (by rw [e33, leR_at (by decide), k18])
  have gl33 : thN ρ ≤ thN ρ33 ∧ m1 < thN ρ33 ∧ r16 < thN ρ33 := by omega
  clear s4_18 s30_18 w19 w20 w21 w22 w23 w24 w25 w26 w27 w28 w29 w30 w31 k18 gl18 t_33
  clear hA hB hC hD hE hN hG hH hI hJ hK hL hCl18 hS18 hF18 hB18
  obtain ⟨hA, hB, hC, hD, hE, hN, hG, hH, hI, hJ, hK, hL⟩ := id hCl33
  refine S_aload_n dX8_turn_25 rfl ?_
  refine S_aload_n dX8_turn_26 rfl ?_
  refine S_callV (mi := mi_X8_turn) [] ok_X2_from ml_X8_189 dX8_turn_27 rfl (by decide) rfl (by decide) rfl (Nat.le_of_ble_eq_true rfl) rfl ((by have h := c_from (G := G) hCl33 l (by omega); rw [w37] at h; exact h)) ?_
  rintro v' M48 ⟨rfl, hM48⟩
  rw [hM48]
  clear hM48
  refine S_putI fl_X8_139 dX8_turn_30 rfl rfl rfl  (Or.inl rfl) ?_
  refine Sf.nm (fun M49 hM49 => ?_)
  obtain ⟨ρ50, e50⟩ : ∃ z9 : RS, z9 = (ρ33.setA 19 e P) := ⟨_, rfl⟩
  have hCl50 : Cl (Y.1, Y.2, sc, kn) ρ50 M49 := (by rw [e50, hM49]; exact hCl33.e19 e (by omega) hst P)
  have hS50 : StpOK sc kn ρ50 := (by rw [e50]; exact hS33)
  have hF50 : Fr CLs M M49 := (by rw [hM49]; exact hF33.trans (Fr.pI 7 e (by decide)))
  have hB50 : Bg 4 16 M M49 := (by rw [hM49]; exact (hB33.trans (Bg.pI _ _ _ _)).le (by omega) (by omega))
  have s4_50 : ρ50.1 4 = ρ.1 4 := (by rw [e50, RS.setA_s, s4_33])
  have s30_50 : ρ50.1 30 = ρ.1 30 := (by rw [e50, RS.setA_s, s30_33])
  have t_50 : thN ρ50 = thN ρ33 := by rw [e50]; rfl
  have w51 : ρ50.2 16 e = ↑r0 := (by rw [e50, RS.setA_ne (Or.inl (by decide)), w34])
  have w52 : ρ50.2 15 e = ↑s := (by rw [e50, RS.setA_ne (Or.inl (by decide)), w35])
  have w53 : ρ50.2 38 l = ↑z := (by rw [e50, RS.setA_ne (Or.inl (by decide)), w36])
  have w54 : ρ50.2 32 l = P := (by rw [e50, RS.setA_ne (Or.inl (by decide)), w37])
  have w55 : ρ50.2 34 l = ↑pl := (by rw [e50, RS.setA_ne (Or.inl (by decide)), w38])
  have w56 : ρ50.2 12 e = ↑(n + 1) := (by rw [e50, RS.setA_ne (Or.inl (by decide)), w39])
  have w57 : ρ50.2 13 ((12 * e)) = ↑t := (by rw [e50, RS.setA_ne (Or.inl (by decide)), w40])
  have w58 : ρ50.2 20 e = ρ.2 20 e := (by rw [e50, RS.setA_ne (Or.inl (by decide)), w41])
  have w59 : ρ50.2 6 s = 3 := (by rw [e50, RS.setA_ne (Or.inl (by decide)), w42])
  have w60 : ρ50.2 6 t = 3 := (by rw [e50, RS.setA_ne (Or.inl (by decide)), w43])
  have w61 : ρ50.2 6 z = 3 := (by rw [e50, RS.setA_ne (Or.inl (by decide)), w44])
  have w62 : ρ50.2 19 e = P := (by rw [e50, RS.setA_eq])
  have w63 : ρ50.2 6 m1 = 5 := (by rw [e50, RS.setA_ne (Or.inl (by decide)), w46])
  have w64 : ρ50.2 6 r16 = 2 := (by rw [e50, RS.setA_ne (Or.inl (by decide)), w47])
  have gl50 : thN ρ ≤ thN ρ50 ∧ m1 < thN ρ50 ∧ r16 < thN ρ50 := by omega
  clear s4_33 s30_33 w34 w35 w36 w37 w38 w39 w40 w41 w42 w43 w44 w45 w46 w47 gl33 t_50
  clear hA hB hC hD hE hN hG hH hI hJ hK hL hCl33 hS33 hF33 hB33
  obtain ⟨hA, hB, hC, hD, hE, hN, hG, hH, hI, hJ, hK, hL⟩ := id hCl50
  refine S_aload_n dX8_turn_33 rfl ?_
  refine S_aload_n dX8_turn_34 rfl ?_
  refine S_getP (o := some (3, 0)) fl_X8_10 dX8_turn_35 rfl rfl (by rw [(show M49.P (1, 0) 1 = some (3, 0) from congrFun hA.2.2 1)]) ?_
  refine S_aload_n dX8_turn_38 rfl ?_
  have hTI65 : TI Y.2 ρ50 (N + 2) := hTI18.cg ⟨(by rw [e50, RS.setA_s, e33, leR_s]), (by rw [e50, RS.setA_s, e33, leR_s]), (by rw [e50, RS.setA_s, e33, leR_s])⟩ (fun k j a1 a2 => (by rw [e50, RS.setA_ne (Or.inl (by omega)), e33, leR_at (by omega)]))
  refine S_callV (mi := mi_X8_turn) [vR ((18, r16))] ok_X5_chainOf ml_X8_125 dX8_turn_39 rfl (by decide) rfl (by decide) rfl (Nat.le_of_ble_eq_true rfl) rfl (c_chainOf (G := G) (show Cs Y ρ50 M49 from ⟨sc, kn, hS50, hCl50⟩) (N + 2) hTI65 (by omega) r16 (by omega) (by rw [w64]) (hRm.sub hB50 (by omega) (by omega))) ?_
  rintro v' M67 ⟨rfl, hCs67, hF67', hB67'⟩
  obtain ⟨ρ68, e68⟩ : ∃ z9 : RS, z9 = (chR ρ50 r16) := ⟨_, rfl⟩
  rw [← e68] at hCs67
  obtain ⟨c66, ec66⟩ : ∃ z9 : Nat, z9 = chI ρ50 r16 := ⟨_, rfl⟩
  rw [← ec66]
  have q68 : TI Y.2 (chR ρ50 r16) (N + 3) ∧ chI ρ50 r16 < thN (chR ρ50 r16) ∧ thN ρ50 ≤ thN (chR ρ50 r16) := hTI65.ch (by omega)
  have k68 : (chR ρ50 r16).2 6 (chI ρ50 r16) = 1 := th_kind (by decide)
  rw [← e68, ← ec66] at q68 k68
  obtain ⟨hTI68, hi68, g68⟩ := q68
  obtain ⟨sc, kn, hS68, hCl68⟩ := hCs67
  have hF68 : Fr CLs M M67 := hF50.trans hF67'
  have hB68 : Bg 6 24 M M67 := (hB50.trans hB67').le (by omega) (by omega)
  have s4_68 : ρ68.1 4 = ρ.1 4 := (by rw [e68, thR_s _ _ _ _ _ _ (by decide), s4_50])
  have s30_68 : ρ68.1 30 = ρ.1 30 := (by rw [e68, thR_s _ _ _ _ _ _ (by decide), s30_50])
  have w69 : ρ68.2 16 e = ↑r0 := (by rw [e68, thR_old_at _ _ _ _ _ _ _ (Or.inr (by decide)), w51])
  have w70 : ρ68.2 15 e = ↑s := (by rw [e68, thR_old_at _ _ _ _ _ _ _ (Or.inr (by decide)), w52])
  have w71 : ρ68.2 38 l = ↑z := (by rw [e68, thR_old_at _ _ _ _ _ _ _ (Or.inr (by decide)), w53])
  have w72 : ρ68.2 32 l = P := (by rw [e68, thR_old_at _ _ _ _ _ _ _ (Or.inr (by decide)), w54])
  have w73 : ρ68.2 34 l = ↑pl := (by rw [e68, thR_old_at _ _ _ _ _ _ _ (Or.inr (by decide)), w55])
  have w74 : ρ68.2 12 e = ↑(n + 1) := (by rw [e68, thR_old_at _ _ _ _ _ _ _ (Or.inr (by decide)), w56])
  have w75 : ρ68.2 13 ((12 * e)) = ↑t := (by rw [e68, thR_old_at _ _ _ _ _ _ _ (Or.inr (by decide)), w57])
  have w76 : ρ68.2 20 e = ρ.2 20 e := (by rw [e68, thR_old_at _ _ _ _ _ _ _ (Or.inr (by decide)), w58])
  have w77 : ρ68.2 6 s = 3 := (by rw [e68, thR_old_at _ _ _ _ _ _ _ (Or.inl (by omega)), w59])
  have w78 : ρ68.2 6 t = 3 := (by rw [e68, thR_old_at _ _ _ _ _ _ _ (Or.inl (by omega)), w60])
  have w79 : ρ68.2 6 z = 3 := (by rw [e68, thR_old_at _ _ _ _ _ _ _ (Or.inl (by omega)), w61])
  have w80 : ρ68.2 19 e = P := (by rw [e68, thR_old_at _ _ _ _ _ _ _ (Or.inr (by decide)), w62])
  have w81 : ρ68.2 6 m1 = 5 := (by rw [e68, thR_old_at _ _ _ _ _ _ _ (Or.inl (by omega)), w63])
  have w82 : ρ68.2 6 r16 = 2 := (by rw [e68, thR_old_at _ _ _ _ _ _ _ (Or.inl (by omega)), w64])
  have gl68 : thN ρ ≤ thN ρ68 ∧ m1 < thN ρ68 ∧ r16 < thN ρ68 ∧ c66 < thN ρ68 := by omega
  clear s4_50 s30_50 w51 w52 w53 w54 w55 w56 w57 w58 w59 w60 w61 w62 w63 w64 gl50 hi68 g68
  clear hA hB hC hD hE hN hG hH hI hJ hK hL hCl50 hS50 hF50 hB50
  obtain ⟨hA, hB, hC, hD, hE, hN, hG, hH, hI, hJ, hK, hL⟩ := id hCl68
  refine S_putP fl_X8_192 dX8_turn_42 rfl rfl rfl  ?_
  refine Sf.nm (fun M83 hM83 => ?_)
  obtain ⟨ρ84, e84⟩ : ∃ z9 : RS, z9 = (ρ68.setA 18 e (↑c66)) := ⟨_, rfl⟩
  have hCl84 : Cl (Y.1, Y.2, sc, kn) ρ84 M83 := (by rw [e84, hM83, ← (qx_nat c66)]; exact hCl68.e18 e (by omega) hst (↑c66))
  have hS84 : StpOK sc kn ρ84 := (by rw [e84]; exact hS68)
  have hF84 : Fr CLs M M83 := (by rw [hM83]; exact hF68.trans (Fr.pP 7 e (by decide)))
  have hB84 : Bg 6 24 M M83 := (by rw [hM83]; exact (hB68.trans (Bg.pP _ 7 e _ _ (by decide))).le (by omega) (by omega))
  have s4_84 : ρ84.1 4 = ρ.1 4 := (by rw [e84, RS.setA_s, s4_68])
  have s30_84 : ρ84.1 30 = ρ.1 30 := (by rw [e84, RS.setA_s, s30_68])
  have t_84 : thN ρ84 = thN ρ68 := by rw [e84]; rfl
  have w85 : ρ84.2 16 e = ↑r0 := (by rw [e84, RS.setA_ne (Or.inl (by decide)), w69])
  have w86 : ρ84.2 15 e = ↑s := (by rw [e84, RS.setA_ne (Or.inl (by decide)), w70])
  have w87 : ρ84.2 38 l = ↑z := (by rw [e84, RS.setA_ne (Or.inl (by decide)), w71])
  have w88 : ρ84.2 32 l = P := (by rw [e84, RS.setA_ne (Or.inl (by decide)), w72])
  have w89 : ρ84.2 34 l = ↑pl := (by rw [e84, RS.setA_ne (Or.inl (by decide)), w73])
  have w90 : ρ84.2 12 e = ↑(n + 1) := (by rw [e84, RS.setA_ne (Or.inl (by decide)), w74])
  have w91 : ρ84.2 13 ((12 * e)) = ↑t := (by rw [e84, RS.setA_ne (Or.inl (by decide)), w75])
  have w92 : ρ84.2 20 e = ρ.2 20 e := (by rw [e84, RS.setA_ne (Or.inl (by decide)), w76])
  have w93 : ρ84.2 6 s = 3 := (by rw [e84, RS.setA_ne (Or.inl (by decide)), w77])
  have w94 : ρ84.2 6 t = 3 := (by rw [e84, RS.setA_ne (Or.inl (by decide)), w78])
  have w95 : ρ84.2 6 z = 3 := (by rw [e84, RS.setA_ne (Or.inl (by decide)), w79])
  have w96 : ρ84.2 19 e = P := (by rw [e84, RS.setA_ne (Or.inl (by decide)), w80])
  have w97 : ρ84.2 6 m1 = 5 := (by rw [e84, RS.setA_ne (Or.inl (by decide)), w81])
  have w98 : ρ84.2 6 r16 = 2 := (by rw [e84, RS.setA_ne (Or.inl (by decide)), w82])
  have w99 : ρ84.2 6 c66 = 1 := (by rw [e84, RS.setA_ne (Or.inl (by decide)), k68])
  have gl84 : thN ρ ≤ thN ρ84 ∧ m1 < thN ρ84 ∧ r16 < thN ρ84 ∧ c66 < thN ρ84 := by omega
  clear s4_68 s30_68 w69 w70 w71 w72 w73 w74 w75 w76 w77 w78 w79 w80 w81 w82 k68 gl68 t_84
  clear hA hB hC hD hE hN hG hH hI hJ hK hL hCl68 hS68 hF68 hB68
  obtain ⟨hA, hB, hC, hD, hE, hN, hG, hH, hI, hJ, hK, hL⟩ := id hCl84
  refine S_aload_n dX8_turn_45 rfl ?_
  refine S_iconst dX8_turn_46 ?_
  refine S_putI fl_X8_231 dX8_turn_47 rfl rfl rfl  (Or.inl rfl) ?_
  refine Sf.nm (fun M100 hM100 => ?_)
  obtain ⟨ρ101, e101⟩ : ∃ z9 : RS, z9 = (ρ84.setA 22 e 0) := ⟨_, rfl⟩
  have hCl101 : Cl (Y.1, Y.2, sc, kn) ρ101 M100 := (by rw [e101, hM100]; exact hCl84.e22 e (by omega) 0)
  have hS101 : StpOK sc kn ρ101 := (by rw [e101]; exact hS84)
  have hF101 : Fr CLs M M100 := (by rw [hM100]; exact hF84.trans (Fr.pI 7 e (by decide)))
  have hB101 : Bg 6 24 M M100 := (by rw [hM100]; exact (hB84.trans (Bg.pI _ _ _ _)).le (by omega) (by omega))
  have s4_101 : ρ101.1 4 = ρ.1 4 := (by rw [e101, RS.setA_s, s4_84])
  have s30_101 : ρ101.1 30 = ρ.1 30 := (by rw [e101, RS.setA_s, s30_84])
  have t_101 : thN ρ101 = thN ρ84 := by rw [e101]; rfl
  have w102 : ρ101.2 16 e = ↑r0 := (by rw [e101, RS.setA_ne (Or.inl (by decide)), w85])
  have w103 : ρ101.2 15 e = ↑s := (by rw [e101, RS.setA_ne (Or.inl (by decide)), w86])
  have w104 : ρ101.2 38 l = ↑z := (by rw [e101, RS.setA_ne (Or.inl (by decide)), w87])
  have w105 : ρ101.2 32 l = P := (by rw [e101, RS.setA_ne (Or.inl (by decide)), w88])
  have w106 : ρ101.2 34 l = ↑pl := (by rw [e101, RS.setA_ne (Or.inl (by decide)), w89])
  have w107 : ρ101.2 12 e = ↑(n + 1) := (by rw [e101, RS.setA_ne (Or.inl (by decide)), w90])
  have w108 : ρ101.2 13 ((12 * e)) = ↑t := (by rw [e101, RS.setA_ne (Or.inl (by decide)), w91])
  have w109 : ρ101.2 20 e = ρ.2 20 e := (by rw [e101, RS.setA_ne (Or.inl (by decide)), w92])
  have w110 : ρ101.2 6 s = 3 := (by rw [e101, RS.setA_ne (Or.inl (by decide)), w93])
  have w111 : ρ101.2 6 t = 3 := (by rw [e101, RS.setA_ne (Or.inl (by decide)), w94])
  have w112 : ρ101.2 6 z = 3 := (by rw [e101, RS.setA_ne (Or.inl (by decide)), w95])
  have w113 : ρ101.2 19 e = P := (by rw [e101, RS.setA_ne (Or.inl (by decide)), w96])
  have w114 : ρ101.2 6 m1 = 5 := (by rw [e101, RS.setA_ne (Or.inl (by decide)), w97])
  have w115 : ρ101.2 6 r16 = 2 := (by rw [e101, RS.setA_ne (Or.inl (by decide)), w98])
  have w116 : ρ101.2 6 c66 = 1 := (by rw [e101, RS.setA_ne (Or.inl (by decide)), w99])
  have gl101 : thN ρ ≤ thN ρ101 ∧ m1 < thN ρ101 ∧ r16 < thN ρ101 ∧ c66 < thN ρ101 := by omega
  clear s4_84 s30_84 w85 w86 w87 w88 w89 w90 w91 w92 w93 w94 w95 w96 w97 w98 w99 gl84 t_101
  clear hA hB hC hD hE hN hG hH hI hJ hK hL hCl84 hS84 hF84 hB84
  obtain ⟨hA, hB, hC, hD, hE, hN, hG, hH, hI, hJ, hK, hL⟩ := id hCl101
  refine S_aload_n dX8_turn_50 rfl ?_
  refine S_aload_n dX8_turn_51 rfl ?_
  refine S_aload_n dX8_turn_52 rfl ?_
  refine S_callV (mi := mi_X8_turn) [] ok_X2_place ml_X8_242 dX8_turn_53 rfl (by decide) rfl (by decide) rfl (Nat.le_of_ble_eq_true rfl) rfl ((by have h := c_place (G := G) hCl101 l (by omega); rw [w106] at h; exact h)) ?_
  rintro v' M117 ⟨rfl, hM117⟩
  rw [hM117]
  clear hM117
  have hTI118 : TI Y.2 ρ101 (N + 3) := hTI68.cg ⟨(by rw [e101, RS.setA_s, e84, RS.setA_s]), (by rw [e101, RS.setA_s, e84, RS.setA_s]), (by rw [e101, RS.setA_s, e84, RS.setA_s])⟩ (fun k j a1 a2 => (by rw [e101, RS.setA_ne (Or.inl (by omega)), e84, RS.setA_ne (Or.inl (by omega))]))
  have hO119 : SkOK ρ101 e (N + 3) 0 := ⟨hTI118.1, hKo.congr (fun k j a1 a2 => (by rw [e101, RS.setA_ne (Or.inl (by omega)), e84, RS.setA_ne (Or.inl (by omega)), e68, thR_old_at _ _ _ _ _ _ _ (Or.inr (by omega)), e50, RS.setA_ne (Or.inl (by omega)), e33, leR_at (by omega), e18, thR_old_at _ _ _ _ _ _ _ (Or.inr (by omega)), e3, thR_old_at _ _ _ _ _ _ _ (Or.inr (by omega))])), ⟨c66, (by rw [e101, RS.setA_ne (Or.inl (by decide)), e84, RS.setA_eq]), by omega⟩, by rw [w113]; exact hP, by rw [s30_101]; exact hl30, ((by rw [e101, RS.setA_eq]) : ρ101.2 22 e = 0).trans rfl⟩
  have hc119 : ∃ c : Nat, ρ101.2 18 e = ↑c ∧ c < thN ρ101 ∧ ρ101.2 6 c = 1 := ⟨c66, (by rw [e101, RS.setA_ne (Or.inl (by decide)), e84, RS.setA_eq]), by omega, (by rw [w116])⟩
  refine S_callV (mi := mi_X8_turn) [vR ((7, e)), vI (↑pl)] ok_X8_skipTo ml_X8_323 dX8_turn_56 rfl (by decide) rfl (by decide) rfl (Nat.le_of_ble_eq_true rfl) rfl (c_skipTo (G := G) (show Cs Y ρ101 M100 from ⟨sc, kn, hS101, hCl101⟩) e pl pl 0 (N + 3) (by omega) (by omega) (by omega) hst (by omega) (by omega) hO119 hTI118 hc119 (hRm.sub hB101 (by omega) (by omega))) ?_
  rintro v' M120 ⟨rfl, hCs120, hF120', hB120'⟩
  obtain ⟨ρ121, e121⟩ : ∃ z9 : RS, z9 = (skF ρ101 e pl) := ⟨_, rfl⟩
  rw [← e121] at hCs120
  have q121 := SkT.many (par := Y.2) (e := e) (by omega) pl (by omega) (by omega) ⟨hO119, hTI118, hc119⟩
  rw [← e121] at q121
  obtain ⟨⟨O121, hTI121, c121, h18121, hcl121, hck121⟩, G121⟩ := q121
  have g121 := G121.1
  obtain ⟨sc, kn, hS121, hCl121⟩ := hCs120
  have hF121 : Fr CLs M M120 := hF101.trans hF120'
  have hB121 : Bg (6 + 5 * pl) (24 + 28 * pl) M M120 := (hB101.trans hB120').le (by omega) (by omega)
  have s4_121 : ρ121.1 4 = ρ.1 4 := (by rw [e121, skF_s (by decide), s4_101])
  have s30_121 : ρ121.1 30 = ρ.1 30 := (by rw [e121, skF_s (by decide), s30_101])
  have w122 : ρ121.2 16 e = ↑r0 := (by rw [e121, skF_at (by omega), w102])
  have w123 : ρ121.2 15 e = ↑s := (by rw [e121, skF_at (by omega), w103])
  have w124 : ρ121.2 38 l = ↑z := (by rw [e121, skF_at (by omega), w104])
  have w125 : ρ121.2 32 l = P := (by rw [e121, skF_at (by omega), w105])
  have w126 : ρ121.2 34 l = ↑pl := (by rw [e121, skF_at (by omega), w106])
  have w127 : ρ121.2 12 e = ↑(n + 1) := (by rw [e121, skF_at (by omega), w107])
  have w128 : ρ121.2 13 ((12 * e)) = ↑t := (by rw [e121, skF_at (by omega), w108])
  have w129 : ρ121.2 20 e = ρ.2 20 e := (by rw [e121, skF_at (by omega), w109])
  have w130 : ρ121.2 6 s = 3 := (by rw [G121.2 _ _ (by decide) (by decide) (by omega), w110])
  have w131 : ρ121.2 6 t = 3 := (by rw [G121.2 _ _ (by decide) (by decide) (by omega), w111])
  have w132 : ρ121.2 6 z = 3 := (by rw [G121.2 _ _ (by decide) (by decide) (by omega), w112])
  have w133 : ρ121.2 19 e = P := (by rw [e121, skF_at (by omega), w113])
  have w134 : ρ121.2 6 m1 = 5 := (by rw [G121.2 _ _ (by decide) (by decide) (by omega), w114])
  have w135 : ρ121.2 6 r16 = 2 := (by rw [G121.2 _ _ (by decide) (by decide) (by omega), w115])
  have w136 : ρ121.2 6 c66 = 1 := (by rw [G121.2 _ _ (by decide) (by decide) (by omega), w116])
  have gl121 : thN ρ ≤ thN ρ121 ∧ m1 < thN ρ121 ∧ r16 < thN ρ121 ∧ c66 < thN ρ121 := by omega
  clear s4_101 s30_101 w102 w103 w104 w105 w106 w107 w108 w109 w110 w111 w112 w113 w114 w115 w116 gl101 g121
  clear hA hB hC hD hE hN hG hH hI hJ hK hL hCl101 hS101 hF101 hB101
  obtain ⟨hA, hB, hC, hD, hE, hN, hG, hH, hI, hJ, hK, hL⟩ := id hCl121
  refine S_aload_n dX8_turn_59 rfl ?_
  refine S_aload_n dX8_turn_60 rfl ?_
  refine S_callV (mi := mi_X8_turn) [vR ((7, e))] ok_X8_passOne ml_X8_327 dX8_turn_61 rfl (by decide) rfl (by decide) rfl (Nat.le_of_ble_eq_true rfl) rfl (c_passOne (G := G) (show Cs Y ρ121 M120 from ⟨sc, kn, hS121, hCl121⟩) (by omega) (N + 3 + 2 * pl) hTI121 (by omega) e c121 (by omega) hst h18121 hcl121 hck121 (hRm.sub hB121 (by omega) (by omega))) ?_
  rintro v' M137 ⟨rfl, hCs137, hF137', hB137'⟩
  obtain ⟨ρ138, e138⟩ : ∃ z9 : RS, z9 = (opR ρ121 e c121) := ⟨_, rfl⟩
  rw [← e138] at hCs137
  have q138 := hTI121.op (e := e) hcl121
  rw [← e138] at q138
  obtain ⟨hTI138, G138⟩ := q138
  have g138 := G138.1
  obtain ⟨sc, kn, hS138, hCl138⟩ := hCs137
  have hF138 : Fr CLs M M137 := hF121.trans hF137'
  have hB138 : Bg (6 + 5 * pl + 4) (24 + 28 * pl + 16) M M137 := (hB121.trans hB137').le (by omega) (by omega)
  have s4_138 : ρ138.1 4 = ρ.1 4 := (by rw [e138, opR_s (by decide), s4_121])
  have s30_138 : ρ138.1 30 = ρ.1 30 := (by rw [e138, opR_s (by decide), s30_121])
  have w139 : ρ138.2 16 e = ↑r0 := (by rw [e138, opR_at (by omega), w122])
  have w140 : ρ138.2 15 e = ↑s := (by rw [e138, opR_at (by omega), w123])
  have w141 : ρ138.2 38 l = ↑z := (by rw [e138, opR_at (by omega), w124])
  have w142 : ρ138.2 32 l = P := (by rw [e138, opR_at (by omega), w125])
  have w143 : ρ138.2 34 l = ↑pl := (by rw [e138, opR_at (by omega), w126])
  have w144 : ρ138.2 12 e = ↑(n + 1) := (by rw [e138, opR_at (by omega), w127])
  have w145 : ρ138.2 13 ((12 * e)) = ↑t := (by rw [e138, opR_at (by omega), w128])
  have w146 : ρ138.2 20 e = ρ.2 20 e := (by rw [e138, opR_at (by omega), w129])
  have w147 : ρ138.2 6 s = 3 := (by rw [G138.2 _ _ (by decide) (by decide) (by omega), w130])
  have w148 : ρ138.2 6 t = 3 := (by rw [G138.2 _ _ (by decide) (by decide) (by omega), w131])
  have w149 : ρ138.2 6 z = 3 := (by rw [G138.2 _ _ (by decide) (by decide) (by omega), w132])
  have w150 : ρ138.2 19 e = P := (by rw [e138, opR_at (by omega), w133])
  have w151 : ρ138.2 6 m1 = 5 := (by rw [G138.2 _ _ (by decide) (by decide) (by omega), w134])
  have w152 : ρ138.2 6 r16 = 2 := (by rw [G138.2 _ _ (by decide) (by decide) (by omega), w135])
  have w153 : ρ138.2 6 c66 = 1 := (by rw [G138.2 _ _ (by decide) (by decide) (by omega), w136])
  have gl138 : thN ρ ≤ thN ρ138 ∧ m1 < thN ρ138 ∧ r16 < thN ρ138 ∧ c66 < thN ρ138 := by omega
  clear s4_121 s30_121 w122 w123 w124 w125 w126 w127 w128 w129 w130 w131 w132 w133 w134 w135 w136 gl121
  clear hA hB hC hD hE hN hG hH hI hJ hK hL hCl121 hS121 hF121 hB121
  obtain ⟨hA, hB, hC, hD, hE, hN, hG, hH, hI, hJ, hK, hL⟩ := id hCl138
  refine S_aload_n dX8_turn_64 rfl ?_
  refine S_aload_n dX8_turn_65 rfl ?_
  have hb2 : ∀ e1 : Nat, (e1 : Int) < 2 * ρ138.1 4 → ρ138.2 12 e1 ≤ 12 := fun e1 h1 => by
    rw [e138, opR_at (by omega), e121, skF_at (by omega), e101, RS.setA_ne (Or.inl (by decide)), e84, RS.setA_ne (Or.inl (by decide)), e68, thR_old_at _ _ _ _ _ _ _ (Or.inr (by decide)), e50, RS.setA_ne (Or.inl (by decide)), e33, leR_at (by decide), e18, thR_old_at _ _ _ _ _ _ _ (Or.inr (by decide)), e3, thR_old_at _ _ _ _ _ _ _ (Or.inr (by decide))]
    exact hb12 e1 (by omega)
  have hrow2 : ∀ i, i < n + 1 → ∃ t : Nat, ρ138.2 13 (12 * e + i) = ↑t := fun i hi => by
    obtain ⟨t1, q⟩ := hrow i hi
    exact ⟨t1, by rw [e138, opR_at (by omega), e121, skF_at (by omega), e101, RS.setA_ne (Or.inl (by decide)), e84, RS.setA_ne (Or.inl (by decide)), e68, thR_old_at _ _ _ _ _ _ _ (Or.inr (by decide)), e50, RS.setA_ne (Or.inl (by decide)), e33, leR_at (by decide), e18, thR_old_at _ _ _ _ _ _ _ (Or.inr (by decide)), e3, thR_old_at _ _ _ _ _ _ _ (Or.inr (by decide))]; exact q⟩
  refine S_callV (mi := mi_X8_turn) [] ok_X1_nextSecret ml_X8_103 dX8_turn_66 rfl (by decide) rfl (by decide) rfl (Nat.le_of_ble_eq_true rfl) rfl (c_nextSecret (G := G) (show Cs Y ρ138 M137 from ⟨sc, kn, hS138, hCl138⟩) e n t (by omega) hn (by rw [w144]) (by rw [w145]) hb2 hrow2) ?_
  rintro v' M154 ⟨rfl, hCs154, hF154', hB154'⟩
  obtain ⟨ρ155, e155⟩ : ∃ z9 : RS, z9 = (nextR ρ138 e n) := ⟨_, rfl⟩
  rw [← e155] at hCs154
  obtain ⟨sc, kn, hS155, hCl155⟩ := hCs154
  have hF155 : Fr CLs M M154 := hF138.trans hF154'
  have hB155 : Bg (6 + 5 * pl + 4) (24 + 28 * pl + 16) M M154 := (hB138.trans hB154').le (by omega) (by omega)
  have s4_155 : ρ155.1 4 = ρ.1 4 := (by rw [e155, nextR_s, s4_138])
  have s30_155 : ρ155.1 30 = ρ.1 30 := (by rw [e155, nextR_s, s30_138])
  have t_155 : thN ρ155 = thN ρ138 := thN_congr (by rw [e155, nextR_s])
  have w156 : ρ155.2 16 e = ↑r0 := (by rw [e155, nextR_at (by decide), w139])
  have w157 : ρ155.2 15 e = ↑s := (by rw [e155, nextR_at (by decide), w140])
  have w158 : ρ155.2 38 l = ↑z := (by rw [e155, nextR_at (by decide), w141])
  have w159 : ρ155.2 32 l = P := (by rw [e155, nextR_at (by decide), w142])
  have w160 : ρ155.2 34 l = ↑pl := (by rw [e155, nextR_at (by decide), w143])
  have w161 : ρ155.2 12 e = ↑n := (by rw [e155, nextR_12])
  have w162 : ρ155.2 20 e = ρ.2 20 e := (by rw [e155, nextR_at (by decide), w146])
  have w163 : ρ155.2 6 s = 3 := (by rw [e155, nextR_at (by decide), w147])
  have w164 : ρ155.2 6 t = 3 := (by rw [e155, nextR_at (by decide), w148])
  have w165 : ρ155.2 6 z = 3 := (by rw [e155, nextR_at (by decide), w149])
  have w166 : ρ155.2 19 e = P := (by rw [e155, nextR_at (by decide), w150])
  have w167 : ρ155.2 6 m1 = 5 := (by rw [e155, nextR_at (by decide), w151])
  have w168 : ρ155.2 6 r16 = 2 := (by rw [e155, nextR_at (by decide), w152])
  have w169 : ρ155.2 6 c66 = 1 := (by rw [e155, nextR_at (by decide), w153])
  have gl155 : thN ρ ≤ thN ρ155 ∧ m1 < thN ρ155 ∧ r16 < thN ρ155 ∧ c66 < thN ρ155 := by omega
  clear s4_138 s30_138 w139 w140 w141 w142 w143 w144 w145 w146 w147 w148 w149 w150 w151 w152 w153 gl138 t_155
  clear hA hB hC hD hE hN hG hH hI hJ hK hL hCl138 hS138 hF138 hB138
  obtain ⟨hA, hB, hC, hD, hE, hN, hG, hH, hI, hJ, hK, hL⟩ := id hCl155
  refine S_putP fl_X8_115 dX8_turn_69 rfl rfl rfl  ?_
  refine Sf.nm (fun M170 hM170 => ?_)
  obtain ⟨ρ171, e171⟩ : ∃ z9 : RS, z9 = (ρ155.setA 15 e (↑t)) := ⟨_, rfl⟩
  have hCl171 : Cl (Y.1, Y.2, sc, kn) ρ171 M170 := (by rw [e171, hM170, ← (qx_nat t)]; exact hCl155.e15 e (by omega) hst (↑t))
  have hS171 : StpOK sc kn ρ171 := (by rw [e171]; exact hS155)
  have hF171 : Fr CLs M M170 := (by rw [hM170]; exact hF155.trans (Fr.pP 7 e (by decide)))
  have hB171 : Bg (6 + 5 * pl + 4) (24 + 28 * pl + 16) M M170 := (by rw [hM170]; exact (hB155.trans (Bg.pP _ 7 e _ _ (by decide))).le (by omega) (by omega))
  have s4_171 : ρ171.1 4 = ρ.1 4 := (by rw [e171, RS.setA_s, s4_155])
  have s30_171 : ρ171.1 30 = ρ.1 30 := (by rw [e171, RS.setA_s, s30_155])
  have t_171 : thN ρ171 = thN ρ155 := by rw [e171]; rfl
  have w172 : ρ171.2 16 e = ↑r0 := (by rw [e171, RS.setA_ne (Or.inl (by decide)), w156])
  have w173 : ρ171.2 15 e = ↑t := (by rw [e171, RS.setA_eq])
  have w174 : ρ171.2 38 l = ↑z := (by rw [e171, RS.setA_ne (Or.inl (by decide)), w158])
  have w175 : ρ171.2 32 l = P := (by rw [e171, RS.setA_ne (Or.inl (by decide)), w159])
  have w176 : ρ171.2 34 l = ↑pl := (by rw [e171, RS.setA_ne (Or.inl (by decide)), w160])
  have w177 : ρ171.2 12 e = ↑n := (by rw [e171, RS.setA_ne (Or.inl (by decide)), w161])
  have w178 : ρ171.2 20 e = ρ.2 20 e := (by rw [e171, RS.setA_ne (Or.inl (by decide)), w162])
  have w179 : ρ171.2 6 s = 3 := (by rw [e171, RS.setA_ne (Or.inl (by decide)), w163])
  have w180 : ρ171.2 6 t = 3 := (by rw [e171, RS.setA_ne (Or.inl (by decide)), w164])
  have w181 : ρ171.2 6 z = 3 := (by rw [e171, RS.setA_ne (Or.inl (by decide)), w165])
  have w182 : ρ171.2 19 e = P := (by rw [e171, RS.setA_ne (Or.inl (by decide)), w166])
  have w183 : ρ171.2 6 m1 = 5 := (by rw [e171, RS.setA_ne (Or.inl (by decide)), w167])
  have w184 : ρ171.2 6 r16 = 2 := (by rw [e171, RS.setA_ne (Or.inl (by decide)), w168])
  have w185 : ρ171.2 6 c66 = 1 := (by rw [e171, RS.setA_ne (Or.inl (by decide)), w169])
  have gl171 : thN ρ ≤ thN ρ171 ∧ m1 < thN ρ171 ∧ r16 < thN ρ171 ∧ c66 < thN ρ171 := by omega
  clear s4_155 s30_155 w156 w157 w158 w159 w160 w161 w162 w163 w164 w165 w166 w167 w168 w169 gl155 t_171
  clear hA hB hC hD hE hN hG hH hI hJ hK hL hCl155 hS155 hF155 hB155
  obtain ⟨hA, hB, hC, hD, hE, hN, hG, hH, hI, hJ, hK, hL⟩ := id hCl171
  refine S_aload_n dX8_turn_72 rfl ?_
  refine S_aload_n dX8_turn_73 rfl ?_
  refine S_getP (o := some (3, 0)) fl_X8_10 dX8_turn_74 rfl rfl (by rw [(show M170.P (1, 0) 1 = some (3, 0) from congrFun hA.2.2 1)]) ?_
  refine S_aload_n dX8_turn_77 rfl ?_
  refine S_aload_n dX8_turn_78 rfl ?_
  refine S_aload_n dX8_turn_79 rfl ?_
  refine S_aload_n dX8_turn_80 rfl ?_
  refine S_getP (o := some (18, z)) fl_X8_345 dX8_turn_81 rfl rfl (by rw [(show M170.P (12, l) 1 = some (18, z) from (congrFun (hJ.2.1 l (by omega)).2.1.2.2 1).trans (qx_of w174))]) ?_
  have hTI186 : TI Y.2 ρ171 (N + 3 + 2 * pl + 2) := hTI138.cg ⟨(by rw [e171, RS.setA_s, e155, nextR_s]), (by rw [e171, RS.setA_s, e155, nextR_s]), (by rw [e171, RS.setA_s, e155, nextR_s])⟩ (fun k j a1 a2 => (by rw [e171, RS.setA_ne (Or.inl (by omega)), e155, nextR_at (by omega)]))
  refine S_callV (mi := mi_X8_turn) [vR ((7, e)), vR ((18, z))] ok_X8_meetingAt ml_X8_348 dX8_turn_84 rfl (by decide) rfl (by decide) rfl (Nat.le_of_ble_eq_true rfl) rfl (c_meetingAt (G := G) (show Cs Y ρ171 M170 from ⟨sc, kn, hS171, hCl171⟩) (N + 3 + 2 * pl + 2) hTI186 (by omega) e t z (by omega) (by omega) hst (by rw [w173]) (by omega) (by omega) hpt hpz (by rw [w180]) (by rw [w181])  (hRm.sub hB171 (by omega) (by omega))) ?_
  rintro v' M188 ⟨rfl, hCs188, hF188', hB188'⟩
  obtain ⟨ρ189, e189⟩ : ∃ z9 : RS, z9 = (meR ρ171 t z) := ⟨_, rfl⟩
  rw [← e189] at hCs188
  obtain ⟨m187, em187⟩ : ∃ z9 : Nat, z9 = meI ρ171 t z := ⟨_, rfl⟩
  rw [← em187]
  have q189 : TI Y.2 (meR ρ171 t z) (N + 3 + 2 * pl + 3) ∧ meI ρ171 t z < thN (meR ρ171 t z) ∧ thN ρ171 ≤ thN (meR ρ171 t z) := hTI186.me (by omega) (by omega) htz
  have k189 : (meR ρ171 t z).2 6 (meI ρ171 t z) = 5 := th_kind (by decide)
  rw [← e189, ← em187] at q189 k189
  obtain ⟨hTI189, hi189, g189⟩ := q189
  obtain ⟨sc, kn, hS189, hCl189⟩ := hCs188
  have hF189 : Fr CLs M M188 := hF171.trans hF188'
  have hB189 : Bg (6 + 5 * pl + 4 + 2) (24 + 28 * pl + 16 + 8) M M188 := (hB171.trans hB188').le (by omega) (by omega)
  have s4_189 : ρ189.1 4 = ρ.1 4 := (by rw [e189, thR_s _ _ _ _ _ _ (by decide), s4_171])
  have s30_189 : ρ189.1 30 = ρ.1 30 := (by rw [e189, thR_s _ _ _ _ _ _ (by decide), s30_171])
  have w190 : ρ189.2 16 e = ↑r0 := (by rw [e189, thR_old_at _ _ _ _ _ _ _ (Or.inr (by decide)), w172])
  have w191 : ρ189.2 15 e = ↑t := (by rw [e189, thR_old_at _ _ _ _ _ _ _ (Or.inr (by decide)), w173])
  have w192 : ρ189.2 38 l = ↑z := (by rw [e189, thR_old_at _ _ _ _ _ _ _ (Or.inr (by decide)), w174])
  have w193 : ρ189.2 32 l = P := (by rw [e189, thR_old_at _ _ _ _ _ _ _ (Or.inr (by decide)), w175])
  have w194 : ρ189.2 34 l = ↑pl := (by rw [e189, thR_old_at _ _ _ _ _ _ _ (Or.inr (by decide)), w176])
  have w195 : ρ189.2 12 e = ↑n := (by rw [e189, thR_old_at _ _ _ _ _ _ _ (Or.inr (by decide)), w177])
  have w196 : ρ189.2 20 e = ρ.2 20 e := (by rw [e189, thR_old_at _ _ _ _ _ _ _ (Or.inr (by decide)), w178])
  have w197 : ρ189.2 6 s = 3 := (by rw [e189, thR_old_at _ _ _ _ _ _ _ (Or.inl (by omega)), w179])
  have w198 : ρ189.2 6 t = 3 := (by rw [e189, thR_old_at _ _ _ _ _ _ _ (Or.inl (by omega)), w180])
  have w199 : ρ189.2 6 z = 3 := (by rw [e189, thR_old_at _ _ _ _ _ _ _ (Or.inl (by omega)), w181])
  have w200 : ρ189.2 19 e = P := (by rw [e189, thR_old_at _ _ _ _ _ _ _ (Or.inr (by decide)), w182])
  have w201 : ρ189.2 6 m1 = 5 := (by rw [e189, thR_old_at _ _ _ _ _ _ _ (Or.inl (by omega)), w183])
  have w202 : ρ189.2 6 r16 = 2 := (by rw [e189, thR_old_at _ _ _ _ _ _ _ (Or.inl (by omega)), w184])
  have w203 : ρ189.2 6 c66 = 1 := (by rw [e189, thR_old_at _ _ _ _ _ _ _ (Or.inl (by omega)), w185])
  have gl189 : thN ρ ≤ thN ρ189 ∧ m1 < thN ρ189 ∧ r16 < thN ρ189 ∧ c66 < thN ρ189 ∧ m187 < thN ρ189 := by omega
  clear s4_171 s30_171 w172 w173 w174 w175 w176 w177 w178 w179 w180 w181 w182 w183 w184 w185 gl171 hi189 g189
  clear hA hB hC hD hE hN hG hH hI hJ hK hL hCl171 hS171 hF171 hB171
  obtain ⟨hA, hB, hC, hD, hE, hN, hG, hH, hI, hJ, hK, hL⟩ := id hCl189
  refine S_callV (mi := mi_X8_turn) [vR ((18, r16)), vR ((18, m187))] ok_X5_rootOf ml_X8_122 dX8_turn_87 rfl (by decide) rfl (by decide) rfl (Nat.le_of_ble_eq_true rfl) rfl (c_rootOf (G := G) (show Cs Y ρ189 M188 from ⟨sc, kn, hS189, hCl189⟩) (N + 3 + 2 * pl + 3) hTI189 (by omega) r16 m187 (by omega) (by omega)  (hRm.sub hB189 (by omega) (by omega))) ?_
  rintro v' M205 ⟨rfl, hCs205, hF205', hB205'⟩
  obtain ⟨ρ206, e206⟩ : ∃ z9 : RS, z9 = (rtR ρ189 (↑r16) m187) := ⟨_, rfl⟩
  rw [← e206] at hCs205
  obtain ⟨r204, er204⟩ : ∃ z9 : Nat, z9 = rtI ρ189 (↑r16) m187 := ⟨_, rfl⟩
  rw [← er204]
  have q206 : TI Y.2 (rtR ρ189 (↑r16) m187) (N + 3 + 2 * pl + 4) ∧ rtI ρ189 (↑r16) m187 < thN (rtR ρ189 (↑r16) m187) ∧ thN ρ189 ≤ thN (rtR ρ189 (↑r16) m187) := hTI189.rt (by omega) (by omega)
  have k206 : (rtR ρ189 (↑r16) m187).2 6 (rtI ρ189 (↑r16) m187) = 2 := th_kind (by decide)
  rw [← e206, ← er204] at q206 k206
  obtain ⟨hTI206, hi206, g206⟩ := q206
  obtain ⟨sc, kn, hS206, hCl206⟩ := hCs205
  have hF206 : Fr CLs M M205 := hF189.trans hF205'
  have hB206 : Bg (6 + 5 * pl + 4 + 2 + 2) (24 + 28 * pl + 16 + 8 + 8) M M205 := (hB189.trans hB205').le (by omega) (by omega)
  have s4_206 : ρ206.1 4 = ρ.1 4 := (by rw [e206, thR_s _ _ _ _ _ _ (by decide), s4_189])
  have s30_206 : ρ206.1 30 = ρ.1 30 := (by rw [e206, thR_s _ _ _ _ _ _ (by decide), s30_189])
  have w207 : ρ206.2 16 e = ↑r0 := (by rw [e206, thR_old_at _ _ _ _ _ _ _ (Or.inr (by decide)), w190])
  have w208 : ρ206.2 15 e = ↑t := (by rw [e206, thR_old_at _ _ _ _ _ _ _ (Or.inr (by decide)), w191])
  have w209 : ρ206.2 38 l = ↑z := (by rw [e206, thR_old_at _ _ _ _ _ _ _ (Or.inr (by decide)), w192])
  have w210 : ρ206.2 32 l = P := (by rw [e206, thR_old_at _ _ _ _ _ _ _ (Or.inr (by decide)), w193])
  have w211 : ρ206.2 34 l = ↑pl := (by rw [e206, thR_old_at _ _ _ _ _ _ _ (Or.inr (by decide)), w194])
  have w212 : ρ206.2 12 e = ↑n := (by rw [e206, thR_old_at _ _ _ _ _ _ _ (Or.inr (by decide)), w195])
  have w213 : ρ206.2 20 e = ρ.2 20 e := (by rw [e206, thR_old_at _ _ _ _ _ _ _ (Or.inr (by decide)), w196])
  have w214 : ρ206.2 6 s = 3 := (by rw [e206, thR_old_at _ _ _ _ _ _ _ (Or.inl (by omega)), w197])
  have w215 : ρ206.2 6 t = 3 := (by rw [e206, thR_old_at _ _ _ _ _ _ _ (Or.inl (by omega)), w198])
  have w216 : ρ206.2 6 z = 3 := (by rw [e206, thR_old_at _ _ _ _ _ _ _ (Or.inl (by omega)), w199])
  have w217 : ρ206.2 19 e = P := (by rw [e206, thR_old_at _ _ _ _ _ _ _ (Or.inr (by decide)), w200])
  have w218 : ρ206.2 6 m1 = 5 := (by rw [e206, thR_old_at _ _ _ _ _ _ _ (Or.inl (by omega)), w201])
  have w219 : ρ206.2 6 r16 = 2 := (by rw [e206, thR_old_at _ _ _ _ _ _ _ (Or.inl (by omega)), w202])
  have w220 : ρ206.2 6 c66 = 1 := (by rw [e206, thR_old_at _ _ _ _ _ _ _ (Or.inl (by omega)), w203])
  have w221 : ρ206.2 6 m187 = 5 := (by rw [e206, thR_old_at _ _ _ _ _ _ _ (Or.inl (by omega)), k189])
  have gl206 : thN ρ ≤ thN ρ206 ∧ m1 < thN ρ206 ∧ r16 < thN ρ206 ∧ c66 < thN ρ206 ∧ m187 < thN ρ206 ∧ r204 < thN ρ206 := by omega
  clear s4_189 s30_189 w190 w191 w192 w193 w194 w195 w196 w197 w198 w199 w200 w201 w202 w203 k189 gl189 hi206 g206
  clear hA hB hC hD hE hN hG hH hI hJ hK hL hCl189 hS189 hF189 hB189
  obtain ⟨hA, hB, hC, hD, hE, hN, hG, hH, hI, hJ, hK, hL⟩ := id hCl206
  refine S_putP fl_X8_119 dX8_turn_90 rfl rfl rfl  ?_
  refine Sf.nm (fun M222 hM222 => ?_)
  obtain ⟨ρ223, e223⟩ : ∃ z9 : RS, z9 = (ρ206.setA 16 e (↑r204)) := ⟨_, rfl⟩
  have hCl223 : Cl (Y.1, Y.2, sc, kn) ρ223 M222 := (by rw [e223, hM222, ← (qx_nat r204)]; exact hCl206.e16 e (by omega) hst (↑r204))
  have hS223 : StpOK sc kn ρ223 := (by rw [e223]; exact hS206)
  have hF223 : Fr CLs M M222 := (by rw [hM222]; exact hF206.trans (Fr.pP 7 e (by decide)))
  have hB223 : Bg (6 + 5 * pl + 4 + 2 + 2) (24 + 28 * pl + 16 + 8 + 8) M M222 := (by rw [hM222]; exact (hB206.trans (Bg.pP _ 7 e _ _ (by decide))).le (by omega) (by omega))
  have s4_223 : ρ223.1 4 = ρ.1 4 := (by rw [e223, RS.setA_s, s4_206])
  have s30_223 : ρ223.1 30 = ρ.1 30 := (by rw [e223, RS.setA_s, s30_206])
  have t_223 : thN ρ223 = thN ρ206 := by rw [e223]; rfl
  have w224 : ρ223.2 16 e = ↑r204 := (by rw [e223, RS.setA_eq])
  have w225 : ρ223.2 15 e = ↑t := (by rw [e223, RS.setA_ne (Or.inl (by decide)), w208])
  have w226 : ρ223.2 38 l = ↑z := (by rw [e223, RS.setA_ne (Or.inl (by decide)), w209])
  have w227 : ρ223.2 32 l = P := (by rw [e223, RS.setA_ne (Or.inl (by decide)), w210])
  have w228 : ρ223.2 34 l = ↑pl := (by rw [e223, RS.setA_ne (Or.inl (by decide)), w211])
  have w229 : ρ223.2 12 e = ↑n := (by rw [e223, RS.setA_ne (Or.inl (by decide)), w212])
  have w230 : ρ223.2 20 e = ρ.2 20 e := (by rw [e223, RS.setA_ne (Or.inl (by decide)), w213])
  have w231 : ρ223.2 6 s = 3 := (by rw [e223, RS.setA_ne (Or.inl (by decide)), w214])
  have w232 : ρ223.2 6 t = 3 := (by rw [e223, RS.setA_ne (Or.inl (by decide)), w215])
  have w233 : ρ223.2 6 z = 3 := (by rw [e223, RS.setA_ne (Or.inl (by decide)), w216])
  have w234 : ρ223.2 19 e = P := (by rw [e223, RS.setA_ne (Or.inl (by decide)), w217])
  have w235 : ρ223.2 6 m1 = 5 := (by rw [e223, RS.setA_ne (Or.inl (by decide)), w218])
  have w236 : ρ223.2 6 r16 = 2 := (by rw [e223, RS.setA_ne (Or.inl (by decide)), w219])
  have w237 : ρ223.2 6 c66 = 1 := (by rw [e223, RS.setA_ne (Or.inl (by decide)), w220])
  have w238 : ρ223.2 6 m187 = 5 := (by rw [e223, RS.setA_ne (Or.inl (by decide)), w221])
  have w239 : ρ223.2 6 r204 = 2 := (by rw [e223, RS.setA_ne (Or.inl (by decide)), k206])
  have gl223 : thN ρ ≤ thN ρ223 ∧ m1 < thN ρ223 ∧ r16 < thN ρ223 ∧ c66 < thN ρ223 ∧ m187 < thN ρ223 ∧ r204 < thN ρ223 := by omega
  clear s4_206 s30_206 w207 w208 w209 w210 w211 w212 w213 w214 w215 w216 w217 w218 w219 w220 w221 k206 gl206 t_223
  clear hA hB hC hD hE hN hG hH hI hJ hK hL hCl206 hS206 hF206 hB206
  obtain ⟨hA, hB, hC, hD, hE, hN, hG, hH, hI, hJ, hK, hL⟩ := id hCl223
  refine S_aload_n dX8_turn_93 rfl ?_
  refine S_aload_n dX8_turn_94 rfl ?_
  refine S_getP (o := some (3, 0)) fl_X8_10 dX8_turn_95 rfl rfl (by rw [(show M222.P (1, 0) 1 = some (3, 0) from congrFun hA.2.2 1)]) ?_
  refine S_aload_n dX8_turn_98 rfl ?_
  refine S_getP (o := some (18, r204)) fl_X8_119 dX8_turn_99 rfl rfl (by rw [(show M222.P (7, e) 5 = some (18, r204) from (congrFun (hE.1 e (by omega)).2.2 5).trans ((if_pos hst).trans (qx_of w224)))]) ?_
  have hTI240 : TI Y.2 ρ223 (N + 3 + 2 * pl + 4) := hTI206.cg ⟨(by rw [e223, RS.setA_s]), (by rw [e223, RS.setA_s]), (by rw [e223, RS.setA_s])⟩ (fun k j a1 a2 => (by rw [e223, RS.setA_ne (Or.inl (by omega))]))
  refine S_callV (mi := mi_X8_turn) [vR ((18, r204))] ok_X5_chainOf ml_X8_125 dX8_turn_102 rfl (by decide) rfl (by decide) rfl (Nat.le_of_ble_eq_true rfl) rfl (c_chainOf (G := G) (show Cs Y ρ223 M222 from ⟨sc, kn, hS223, hCl223⟩) (N + 3 + 2 * pl + 4) hTI240 (by omega) r204 (by omega) (by rw [w239]) (hRm.sub hB223 (by omega) (by omega))) ?_
  rintro v' M242 ⟨rfl, hCs242, hF242', hB242'⟩
  obtain ⟨ρ243, e243⟩ : ∃ z9 : RS, z9 = (chR ρ223 r204) := ⟨_, rfl⟩
  rw [← e243] at hCs242
  obtain ⟨c241, ec241⟩ : ∃ z9 : Nat, z9 = chI ρ223 r204 := ⟨_, rfl⟩
  rw [← ec241]
  have q243 : TI Y.2 (chR ρ223 r204) (N + 3 + 2 * pl + 5) ∧ chI ρ223 r204 < thN (chR ρ223 r204) ∧ thN ρ223 ≤ thN (chR ρ223 r204) := hTI240.ch (by omega)
  have k243 : (chR ρ223 r204).2 6 (chI ρ223 r204) = 1 := th_kind (by decide)
  rw [← e243, ← ec241] at q243 k243
  obtain ⟨hTI243, hi243, g243⟩ := q243
  obtain ⟨sc, kn, hS243, hCl243⟩ := hCs242
  have hF243 : Fr CLs M M242 := hF223.trans hF242'
  have hB243 : Bg (6 + 5 * pl + 4 + 2 + 2 + 2) (24 + 28 * pl + 16 + 8 + 8 + 8) M M242 := (hB223.trans hB242').le (by omega) (by omega)
  have s4_243 : ρ243.1 4 = ρ.1 4 := (by rw [e243, thR_s _ _ _ _ _ _ (by decide), s4_223])
  have s30_243 : ρ243.1 30 = ρ.1 30 := (by rw [e243, thR_s _ _ _ _ _ _ (by decide), s30_223])
  have w244 : ρ243.2 16 e = ↑r204 := (by rw [e243, thR_old_at _ _ _ _ _ _ _ (Or.inr (by decide)), w224])
  have w245 : ρ243.2 15 e = ↑t := (by rw [e243, thR_old_at _ _ _ _ _ _ _ (Or.inr (by decide)), w225])
  have w246 : ρ243.2 38 l = ↑z := (by rw [e243, thR_old_at _ _ _ _ _ _ _ (Or.inr (by decide)), w226])
  have w247 : ρ243.2 32 l = P := (by rw [e243, thR_old_at _ _ _ _ _ _ _ (Or.inr (by decide)), w227])
  have w248 : ρ243.2 34 l = ↑pl := (by rw [e243, thR_old_at _ _ _ _ _ _ _ (Or.inr (by decide)), w228])
  have w249 : ρ243.2 12 e = ↑n := (by rw [e243, thR_old_at _ _ _ _ _ _ _ (Or.inr (by decide)), w229])
  have w250 : ρ243.2 20 e = ρ.2 20 e := (by rw [e243, thR_old_at _ _ _ _ _ _ _ (Or.inr (by decide)), w230])
  have w251 : ρ243.2 6 s = 3 := (by rw [e243, thR_old_at _ _ _ _ _ _ _ (Or.inl (by omega)), w231])
  have w252 : ρ243.2 6 t = 3 := (by rw [e243, thR_old_at _ _ _ _ _ _ _ (Or.inl (by omega)), w232])
  have w253 : ρ243.2 6 z = 3 := (by rw [e243, thR_old_at _ _ _ _ _ _ _ (Or.inl (by omega)), w233])
  have w254 : ρ243.2 19 e = P := (by rw [e243, thR_old_at _ _ _ _ _ _ _ (Or.inr (by decide)), w234])
  have w255 : ρ243.2 6 m1 = 5 := (by rw [e243, thR_old_at _ _ _ _ _ _ _ (Or.inl (by omega)), w235])
  have w256 : ρ243.2 6 r16 = 2 := (by rw [e243, thR_old_at _ _ _ _ _ _ _ (Or.inl (by omega)), w236])
  have w257 : ρ243.2 6 c66 = 1 := (by rw [e243, thR_old_at _ _ _ _ _ _ _ (Or.inl (by omega)), w237])
  have w258 : ρ243.2 6 m187 = 5 := (by rw [e243, thR_old_at _ _ _ _ _ _ _ (Or.inl (by omega)), w238])
  have w259 : ρ243.2 6 r204 = 2 := (by rw [e243, thR_old_at _ _ _ _ _ _ _ (Or.inl (by omega)), w239])
  have gl243 : thN ρ ≤ thN ρ243 ∧ m1 < thN ρ243 ∧ r16 < thN ρ243 ∧ c66 < thN ρ243 ∧ m187 < thN ρ243 ∧ r204 < thN ρ243 ∧ c241 < thN ρ243 := by omega
  clear s4_223 s30_223 w224 w225 w226 w227 w228 w229 w230 w231 w232 w233 w234 w235 w236 w237 w238 w239 gl223 hi243 g243
  clear hA hB hC hD hE hN hG hH hI hJ hK hL hCl223 hS223 hF223 hB223
  obtain ⟨hA, hB, hC, hD, hE, hN, hG, hH, hI, hJ, hK, hL⟩ := id hCl243
  refine S_putP fl_X8_128 dX8_turn_105 rfl rfl rfl  ?_
  refine Sf.nm (fun M260 hM260 => ?_)
  obtain ⟨ρ261, e261⟩ : ∃ z9 : RS, z9 = (ρ243.setA 17 e (↑c241)) := ⟨_, rfl⟩
  have hCl261 : Cl (Y.1, Y.2, sc, kn) ρ261 M260 := (by rw [e261, hM260, ← (qx_nat c241)]; exact hCl243.e17 e (by omega) hst (↑c241))
  have hS261 : StpOK sc kn ρ261 := (by rw [e261]; exact hS243)
  have hF261 : Fr CLs M M260 := (by rw [hM260]; exact hF243.trans (Fr.pP 7 e (by decide)))
  have hB261 : Bg (6 + 5 * pl + 4 + 2 + 2 + 2) (24 + 28 * pl + 16 + 8 + 8 + 8) M M260 := (by rw [hM260]; exact (hB243.trans (Bg.pP _ 7 e _ _ (by decide))).le (by omega) (by omega))
  have s4_261 : ρ261.1 4 = ρ.1 4 := (by rw [e261, RS.setA_s, s4_243])
  have s30_261 : ρ261.1 30 = ρ.1 30 := (by rw [e261, RS.setA_s, s30_243])
  have t_261 : thN ρ261 = thN ρ243 := by rw [e261]; rfl
  have w262 : ρ261.2 16 e = ↑r204 := (by rw [e261, RS.setA_ne (Or.inl (by decide)), w244])
  have w263 : ρ261.2 15 e = ↑t := (by rw [e261, RS.setA_ne (Or.inl (by decide)), w245])
  have w264 : ρ261.2 38 l = ↑z := (by rw [e261, RS.setA_ne (Or.inl (by decide)), w246])
  have w265 : ρ261.2 32 l = P := (by rw [e261, RS.setA_ne (Or.inl (by decide)), w247])
  have w266 : ρ261.2 34 l = ↑pl := (by rw [e261, RS.setA_ne (Or.inl (by decide)), w248])
  have w267 : ρ261.2 12 e = ↑n := (by rw [e261, RS.setA_ne (Or.inl (by decide)), w249])
  have w268 : ρ261.2 20 e = ρ.2 20 e := (by rw [e261, RS.setA_ne (Or.inl (by decide)), w250])
  have w269 : ρ261.2 6 s = 3 := (by rw [e261, RS.setA_ne (Or.inl (by decide)), w251])
  have w270 : ρ261.2 6 t = 3 := (by rw [e261, RS.setA_ne (Or.inl (by decide)), w252])
  have w271 : ρ261.2 6 z = 3 := (by rw [e261, RS.setA_ne (Or.inl (by decide)), w253])
  have w272 : ρ261.2 19 e = P := (by rw [e261, RS.setA_ne (Or.inl (by decide)), w254])
  have w273 : ρ261.2 6 m1 = 5 := (by rw [e261, RS.setA_ne (Or.inl (by decide)), w255])
  have w274 : ρ261.2 6 r16 = 2 := (by rw [e261, RS.setA_ne (Or.inl (by decide)), w256])
  have w275 : ρ261.2 6 c66 = 1 := (by rw [e261, RS.setA_ne (Or.inl (by decide)), w257])
  have w276 : ρ261.2 6 m187 = 5 := (by rw [e261, RS.setA_ne (Or.inl (by decide)), w258])
  have w277 : ρ261.2 6 r204 = 2 := (by rw [e261, RS.setA_ne (Or.inl (by decide)), w259])
  have w278 : ρ261.2 6 c241 = 1 := (by rw [e261, RS.setA_ne (Or.inl (by decide)), k243])
  have gl261 : thN ρ ≤ thN ρ261 ∧ m1 < thN ρ261 ∧ r16 < thN ρ261 ∧ c66 < thN ρ261 ∧ m187 < thN ρ261 ∧ r204 < thN ρ261 ∧ c241 < thN ρ261 := by omega
  clear s4_243 s30_243 w244 w245 w246 w247 w248 w249 w250 w251 w252 w253 w254 w255 w256 w257 w258 w259 k243 gl243 t_261
  clear hA hB hC hD hE hN hG hH hI hJ hK hL hCl243 hS243 hF243 hB243
  obtain ⟨hA, hB, hC, hD, hE, hN, hG, hH, hI, hJ, hK, hL⟩ := id hCl261
  refine S_aload_n dX8_turn_108 rfl ?_
  refine S_aload_n dX8_turn_109 rfl ?_
  refine S_getI (v := ρ.2 20 e) fl_X8_168 dX8_turn_110 rfl rfl (by rw [(show M260.I (7, e) 9 = ρ.2 20 e from (show M260.I (7, e) 9 = ρ261.2 20 e from congrFun (hE.1 e (by omega)).2.1 9).trans (show ρ261.2 20 e = ρ.2 20 e from (by rw [w268])))]) ?_
  refine S_putI fl_X8_228 dX8_turn_113 rfl rfl rfl  (Or.inl rfl) ?_
  refine Sf.nm (fun M279 hM279 => ?_)
  obtain ⟨ρ280, e280⟩ : ∃ z9 : RS, z9 = (ρ261.setA 21 e (ρ.2 20 e)) := ⟨_, rfl⟩
  have hCl280 : Cl (Y.1, Y.2, sc, kn) ρ280 M279 := (by rw [e280, hM279]; exact hCl261.e21 e (by omega) (ρ.2 20 e))
  have hS280 : StpOK sc kn ρ280 := (by rw [e280]; exact hS261)
  have hF280 : Fr CLs M M279 := (by rw [hM279]; exact hF261.trans (Fr.pI 7 e (by decide)))
  have hB280 : Bg (6 + 5 * pl + 4 + 2 + 2 + 2) (24 + 28 * pl + 16 + 8 + 8 + 8) M M279 := (by rw [hM279]; exact (hB261.trans (Bg.pI _ _ _ _)).le (by omega) (by omega))
  have s4_280 : ρ280.1 4 = ρ.1 4 := (by rw [e280, RS.setA_s, s4_261])
  have s30_280 : ρ280.1 30 = ρ.1 30 := (by rw [e280, RS.setA_s, s30_261])
  have t_280 : thN ρ280 = thN ρ261 := by rw [e280]; rfl
  have w281 : ρ280.2 16 e = ↑r204 := (by rw [e280, RS.setA_ne (Or.inl (by decide)), w262])
  have w282 : ρ280.2 15 e = ↑t := (by rw [e280, RS.setA_ne (Or.inl (by decide)), w263])
  have w283 : ρ280.2 38 l = ↑z := (by rw [e280, RS.setA_ne (Or.inl (by decide)), w264])
  have w284 : ρ280.2 32 l = P := (by rw [e280, RS.setA_ne (Or.inl (by decide)), w265])
  have w285 : ρ280.2 34 l = ↑pl := (by rw [e280, RS.setA_ne (Or.inl (by decide)), w266])
  have w286 : ρ280.2 12 e = ↑n := (by rw [e280, RS.setA_ne (Or.inl (by decide)), w267])
  have w287 : ρ280.2 20 e = ρ.2 20 e := (by rw [e280, RS.setA_ne (Or.inl (by decide)), w268])
  have w288 : ρ280.2 6 s = 3 := (by rw [e280, RS.setA_ne (Or.inl (by decide)), w269])
  have w289 : ρ280.2 6 t = 3 := (by rw [e280, RS.setA_ne (Or.inl (by decide)), w270])
  have w290 : ρ280.2 6 z = 3 := (by rw [e280, RS.setA_ne (Or.inl (by decide)), w271])
  have w291 : ρ280.2 19 e = P := (by rw [e280, RS.setA_ne (Or.inl (by decide)), w272])
  have w292 : ρ280.2 6 m1 = 5 := (by rw [e280, RS.setA_ne (Or.inl (by decide)), w273])
  have w293 : ρ280.2 6 r16 = 2 := (by rw [e280, RS.setA_ne (Or.inl (by decide)), w274])
  have w294 : ρ280.2 6 c66 = 1 := (by rw [e280, RS.setA_ne (Or.inl (by decide)), w275])
  have w295 : ρ280.2 6 m187 = 5 := (by rw [e280, RS.setA_ne (Or.inl (by decide)), w276])
  have w296 : ρ280.2 6 r204 = 2 := (by rw [e280, RS.setA_ne (Or.inl (by decide)), w277])
  have w297 : ρ280.2 6 c241 = 1 := (by rw [e280, RS.setA_ne (Or.inl (by decide)), w278])
  have gl280 : thN ρ ≤ thN ρ280 ∧ m1 < thN ρ280 ∧ r16 < thN ρ280 ∧ c66 < thN ρ280 ∧ m187 < thN ρ280 ∧ r204 < thN ρ280 ∧ c241 < thN ρ280 := by omega
  clear s4_261 s30_261 w262 w263 w264 w265 w266 w267 w268 w269 w270 w271 w272 w273 w274 w275 w276 w277 w278 gl261 t_280
  clear hA hB hC hD hE hN hG hH hI hJ hK hL hCl261 hS261 hF261 hB261
  obtain ⟨hA, hB, hC, hD, hE, hN, hG, hH, hI, hJ, hK, hL⟩ := id hCl280
  refine S_aload_n dX8_turn_116 rfl ?_
  refine S_iconst dX8_turn_117 ?_
  refine S_putI fl_X8_168 dX8_turn_118 rfl rfl rfl  (Or.inl rfl) ?_
  refine Sf.nm (fun M298 hM298 => ?_)
  obtain ⟨ρ299, e299⟩ : ∃ z9 : RS, z9 = (ρ280.setA 20 e 0) := ⟨_, rfl⟩
  have hCl299 : Cl (Y.1, Y.2, sc, kn) ρ299 M298 := (by rw [e299, hM298]; exact hCl280.e20 e (by omega) 0)
  have hS299 : StpOK sc kn ρ299 := (by rw [e299]; exact hS280)
  have hF299 : Fr CLs M M298 := (by rw [hM298]; exact hF280.trans (Fr.pI 7 e (by decide)))
  have hB299 : Bg (6 + 5 * pl + 4 + 2 + 2 + 2) (24 + 28 * pl + 16 + 8 + 8 + 8) M M298 := (by rw [hM298]; exact (hB280.trans (Bg.pI _ _ _ _)).le (by omega) (by omega))
  have s4_299 : ρ299.1 4 = ρ.1 4 := (by rw [e299, RS.setA_s, s4_280])
  have s30_299 : ρ299.1 30 = ρ.1 30 := (by rw [e299, RS.setA_s, s30_280])
  have t_299 : thN ρ299 = thN ρ280 := by rw [e299]; rfl
  have w300 : ρ299.2 16 e = ↑r204 := (by rw [e299, RS.setA_ne (Or.inl (by decide)), w281])
  have w301 : ρ299.2 15 e = ↑t := (by rw [e299, RS.setA_ne (Or.inl (by decide)), w282])
  have w302 : ρ299.2 38 l = ↑z := (by rw [e299, RS.setA_ne (Or.inl (by decide)), w283])
  have w303 : ρ299.2 32 l = P := (by rw [e299, RS.setA_ne (Or.inl (by decide)), w284])
  have w304 : ρ299.2 34 l = ↑pl := (by rw [e299, RS.setA_ne (Or.inl (by decide)), w285])
  have w305 : ρ299.2 12 e = ↑n := (by rw [e299, RS.setA_ne (Or.inl (by decide)), w286])
  have w306 : ρ299.2 20 e = 0 := (by rw [e299, RS.setA_eq])
  have w307 : ρ299.2 6 s = 3 := (by rw [e299, RS.setA_ne (Or.inl (by decide)), w288])
  have w308 : ρ299.2 6 t = 3 := (by rw [e299, RS.setA_ne (Or.inl (by decide)), w289])
  have w309 : ρ299.2 6 z = 3 := (by rw [e299, RS.setA_ne (Or.inl (by decide)), w290])
  have w310 : ρ299.2 19 e = P := (by rw [e299, RS.setA_ne (Or.inl (by decide)), w291])
  have w311 : ρ299.2 6 m1 = 5 := (by rw [e299, RS.setA_ne (Or.inl (by decide)), w292])
  have w312 : ρ299.2 6 r16 = 2 := (by rw [e299, RS.setA_ne (Or.inl (by decide)), w293])
  have w313 : ρ299.2 6 c66 = 1 := (by rw [e299, RS.setA_ne (Or.inl (by decide)), w294])
  have w314 : ρ299.2 6 m187 = 5 := (by rw [e299, RS.setA_ne (Or.inl (by decide)), w295])
  have w315 : ρ299.2 6 r204 = 2 := (by rw [e299, RS.setA_ne (Or.inl (by decide)), w296])
  have w316 : ρ299.2 6 c241 = 1 := (by rw [e299, RS.setA_ne (Or.inl (by decide)), w297])
  have gl299 : thN ρ ≤ thN ρ299 ∧ m1 < thN ρ299 ∧ r16 < thN ρ299 ∧ c66 < thN ρ299 ∧ m187 < thN ρ299 ∧ r204 < thN ρ299 ∧ c241 < thN ρ299 := by omega
  clear s4_280 s30_280 w281 w282 w283 w284 w285 w286 w287 w288 w289 w290 w291 w292 w293 w294 w295 w296 w297 gl280 t_299
  clear hA hB hC hD hE hN hG hH hI hJ hK hL hCl280 hS280 hF280 hB280
  obtain ⟨hA, hB, hC, hD, hE, hN, hG, hH, hI, hJ, hK, hL⟩ := id hCl299
  exact S_vret dX8_turn_121 rfl (by
      have hL : leR (rmR ρ ↑r0 s z) e = ρ33 := by
        unfold rmR
        simp only [e3, e18, e33, em1, er16]
      have hI9 : rmI ρ ↑r0 s z = r16 := by
        unfold rmI
        simp only [e3, e18, e33, em1, er16]
      have e20 : ρ33.2 20 e = ρ.2 20 e := by rw [e33, leR_at (by decide), e18, thR_old_at _ _ _ _ _ _ _ (Or.inr (by decide)), e3, thR_old_at _ _ _ _ _ _ _ (Or.inr (by decide))]
      have hA9 : anB1 ρ33 e r16 P = ρ101 := by
        unfold anB1
        simp only [e50, e68, e84, e101, ec66]
      have hF9 : fuG ρ101 e pl = ρ138 := by
        unfold fuG
        rw [← e121, h18121, Int.toNat_natCast, ← e138]
      have hB9 : anB6 ρ138 e r16 n t z (ρ.2 20 e) = ρ299 := by
        unfold anB6 anB5 anB4 anB3 rmR rmI
        simp only [e155, e171, e189, e206, e223, e243, e261, e280, e299, em187, er204, ec241]
      have hC9 : anC (leR (rmR ρ ↑r0 s z) e) e (rmI ρ ↑r0 s z) pl n t z P = ρ299 := by
        rw [hL, hI9]
        unfold anC
        rw [hA9, hF9, e20]
        exact hB9
      rw [hC9]
      exact ⟨rfl, ⟨sc, kn, hS299, hCl299⟩, hF299, hB299.le (by omega) (by omega)⟩)
