/-! THE CLASS: what ends -/
theorem ssT_cg {sc : Nat → Int} {ρ σ : RS} {t : Nat} (h : ∀ k, 6 ≤ k → k ≤ 10 → σ.2 k t = ρ.2 k t) : ssT sc σ t = ssT sc ρ t := by
  unfold ssT
  rw [h 10 (by decide) (by decide), h 6 (by decide) (by decide), h 7 (by decide) (by decide), h 8 (by decide) (by decide)]
theorem StpOK.cg {sc : Nat → Int} {kn : Int} {ρ σ : RS} (h : StpOK sc kn ρ) (h5 : σ.1 5 = ρ.1 5) (hk : ∀ k t, 6 ≤ k → k ≤ 10 → σ.2 k t = ρ.2 k t) : StpOK sc kn σ := by
  have hn : thN σ = thN ρ := thN_congr h5
  refine ⟨fun t ht => ?_, by rw [hn]; exact h.2⟩
  rw [h.1 t (by omega)]
  exact (ssT_cg (fun k a b => hk k t a b)).symm
set_option maxRecDepth 100000 in
theorem lp_endOld {G : Ge} {Y : (Nat → Bool) × (Nat → Bool)} {ρ : RS} {M0 : Mem} (e n : Nat) (he : (e : Int) < 2 * ρ.1 4) (hp : 0 ≤ ρ.1 4 ∧ ρ.1 4 ≤ 6) (hn : n ≤ 12) (hl : 0 ≤ ρ.1 30 ∧ ρ.1 30 ≤ 300) (hli : 0 ≤ ρ.1 3 ∧ ρ.1 3 ≤ 300) (htk : ∀ i, i < n → 0 ≤ ρ.2 29 (12 * e + i) ∧ ρ.2 29 (12 * e + i) ≤ 300) (hbb : ∀ e1 : Nat, (e1 : Int) < 2 * ρ.1 4 → ρ.2 25 e1 ≤ 12) : ∀ (d : Nat) (k : Nat) (τ : RS) (M : Mem), k + d = n → FcK e ρ τ n k → (∀ j, j < k → oldK ρ e j) → Cs Y τ M → Fr CLs M0 M → Bg 0 0 M0 M → Sf G mi_X1_endOld (fun v' M' => ∃ τ' p, isP ρ e n p ∧ FcK e ρ τ' n p ∧ CP Y τ' 0 0 none M0 v' M') 5 [some (vR ((7, e))), some (vI (ρ.1 30)), some (vI (ρ.1 3)), some (vI (↑d))] [] M := by
  intro d
  induction d with
  | zero =>
    intro k τ M hk hFc ho hCs hF0 hB0
    obtain ⟨sc, kn, hS, hCl⟩ := hCs
    have s4 := hFc.1 4
    have s30 := hFc.1 30
    have s3 := hFc.1 3
    have b25 := hFc.2.2.2.2.1
    obtain ⟨hA, hB, hC, hD, hE, hN, hG, hH, hI, hJ, hK, hL⟩ := id hCl
    refine S_iload_n dX1_endOld_5 rfl ?_
    refine S_if_le 35 dX1_endOld_6 (by decide) (by omega) (fun c_6 => ?_) (fun c_6 => absurd c_6 (by omega))
    exact S_vret dX1_endOld_35 rfl ⟨τ, k, ⟨by omega, ho, fun h => absurd h (by omega)⟩, hFc, rfl, ⟨sc, kn, hS, hCl⟩, hF0, hB0⟩
  | succ d ih =>
    intro k τ M hk hFc ho hCs hF0 hB0
    obtain ⟨sc, kn, hS, hCl⟩ := hCs
    have s4 := hFc.1 4
    have s30 := hFc.1 30
    have s3 := hFc.1 3
    have b25 := hFc.2.2.2.2.1
    obtain ⟨hA, hB, hC, hD, hE, hN, hG, hH, hI, hJ, hK, hL⟩ := id hCl
    obtain ⟨m1, kk, q1, q2, q3, q4⟩ := (hH.1 e (by omega)).2 0 (by rw [b25]; omega)
    have hq11 : M.I (19, m1) 11 = ρ.2 29 (12 * e + k) := by
      have c1 := hFc.2.2.2.2.2 29 0 (by decide) (by decide) (by omega)
      rw [show 12 * e + 0 + k = 12 * e + k from rfl] at c1
      rw [← c1]
      exact congrFun q4.2.1 11
    have htk1 := htk k (by omega)
    refine S_iload_n dX1_endOld_5 rfl ?_
    refine S_if_le 35 dX1_endOld_6 (by decide) (by omega) (fun c_6 => absurd c_6 (by omega)) (fun c_6 => ?_)
    refine S_iload_n dX1_endOld_9 rfl ?_
    refine S_aload_n dX1_endOld_10 rfl ?_
    refine S_getP (o := some (9, e)) fl_X1_23 dX1_endOld_11 rfl rfl (by rw [(show M.P (7, e) 12 = some (9, e) from congrFun (hE.1 e (by omega)).2.2 12)]) ?_
    refine S_iconst dX1_endOld_14 ?_
    refine S_aald (o := some (19, m1)) 0 dX1_endOld_15 rfl (by decide) rfl (by rw [(show M.len (9, e) = some 12 from (hH.1 e (by omega)).1)]) (by omega) (by omega) (by rw [q1]) ?_
    refine S_getI (v := ρ.2 29 (12 * e + k)) fl_X1_58 dX1_endOld_16 rfl rfl (by rw [hq11]) ?_
    refine S_isub dX1_endOld_19 ?_
    refine S_iload_n dX1_endOld_20 rfl ?_
    refine S_icmp_le 35 dX1_endOld_21 (by decide) (by omega) (fun c_21 => ?_) (fun c_21 => ?_)
    · exact S_vret dX1_endOld_35 rfl ⟨τ, k, ⟨by omega, ho, fun _ => by unfold oldK; omega⟩, hFc, rfl, ⟨sc, kn, hS, hCl⟩, hF0, hB0⟩
    · refine S_aload_n dX1_endOld_24 rfl ?_
      refine S_iconst dX1_endOld_25 ?_
      have hb1 : ∀ e1 : Nat, (e1 : Int) < 2 * τ.1 4 → τ.2 25 e1 ≤ 12 := fun e1 h1 => by
        by_cases hee : e1 = e
        · rw [hee, b25]; omega
        · rw [hFc.2.2.1 e1 hee]; exact hbb e1 (by omega)
      refine S_callV (mi := mi_X1_endOld) [vI 0] ok_X1_drop ml_X1_43 dX1_endOld_26 rfl (by decide) rfl (by decide) rfl (Nat.le_of_ble_eq_true rfl) rfl (c_drop ⟨sc, kn, hS, hCl⟩ e 0 d (by omega) (by omega) (by omega) (by rw [b25]; omega) hb1) ?_
      rintro v' M1 ⟨⟨rfl, hCs1, hF1', hB1'⟩, -⟩
      refine S_iinc dX1_endOld_29 rfl (by decide) ?_
      rw [show ((↑(d + 1)) + (-1) : Int) = ↑d from by omega]
      refine S_goto 5 dX1_endOld_32 (by decide) ?_
      have hFc1 : FcK e ρ (dropR τ e 0 d) n (k + 1) := by
        have q := hFc.drop (by omega) hn
        rw [show n - k - 1 = d from by omega] at q
        exact q
      exact ih (k + 1) (dropR τ e 0 d) _ (by omega) hFc1 (fun j hj => by
        by_cases hjk : j = k
        · rw [hjk]; unfold oldK; omega
        · exact ho j (by omega)) hCs1 (hF0.trans hF1') ((hB0.trans hB1').le (by omega) (by omega))
set_option maxRecDepth 100000 in
theorem c_endOld {G : Ge} {M : Mem} {Y : (Nat → Bool) × (Nat → Bool)} {ρ : RS} (e n : Nat) (he : (e : Int) < 2 * ρ.1 4) (hp : 0 ≤ ρ.1 4 ∧ ρ.1 4 ≤ 6) (hn : n ≤ 12) (hl : 0 ≤ ρ.1 30 ∧ ρ.1 30 ≤ 300) (hli : 0 ≤ ρ.1 3 ∧ ρ.1 3 ≤ 300) (htk : ∀ i, i < n → 0 ≤ ρ.2 29 (12 * e + i) ∧ ρ.2 29 (12 * e + i) ≤ 300) (hbb : ∀ e1 : Nat, (e1 : Int) < 2 * ρ.1 4 → ρ.2 25 e1 ≤ 12) (h25 : ρ.2 25 e = ↑n) (hCs : Cs Y ρ M) : Ct G mi_X1_endOld [vR ((7, e)), vI (ρ.1 30), vI (ρ.1 3)] M (fun v' M' => ∃ τ' p, isP ρ e n p ∧ FcK e ρ τ' n p ∧ CP Y τ' 0 0 none M v' M') := by
  refine Ct.of pl_X1_endOld [some (vR ((7, e))), some (vI (ρ.1 30)), some (vI (ρ.1 3)), none] rfl (Nat.le_of_ble_eq_true rfl) ?_
  obtain ⟨sc, kn, hS, hCl⟩ := id hCs
  obtain ⟨hA, hB, hC, hD, hE, hN, hG, hH, hI, hJ, hK, hL⟩ := id hCl
  refine S_aload_n dX1_endOld_0 rfl ?_
  refine S_getI (v := ↑n) fl_X1_40 dX1_endOld_1 rfl rfl (by rw [(show M.I (7, e) 13 = ↑n from (show M.I (7, e) 13 = ρ.2 25 e from congrFun (hE.1 e (by omega)).2.1 13).trans h25)]) ?_
  refine S_istore_n dX1_endOld_4 (by decide) ?_
  exact lp_endOld e n he hp hn hl hli htk hbb n 0 ρ M (by omega) (FcK.rf h25) (fun j hj => absurd hj (by omega)) hCs (Fr.rf _ M) (Bg.rf M)
set_option maxRecDepth 100000 in
theorem lp_eos {G : Ge} {Y : (Nat → Bool) × (Nat → Bool)} {ρ : RS} {M0 : Mem} (m : Nat) (hm : 2 * ρ.1 4 = ↑m) (hm12 : m ≤ 12) (hl : 0 ≤ ρ.1 30 ∧ ρ.1 30 ≤ 300) (hli : 0 ≤ ρ.1 3 ∧ ρ.1 3 ≤ 300) (hKo : KOK ρ) (hTs : TsOK ρ) (hz : ∀ e : Nat, 2 * ρ.1 4 ≤ e → e < 12 → ρ.2 25 e = 0) : ∀ (d : Nat) (e : Nat) (τ : RS) (M : Mem), e + d = m → FAll ρ τ e → Cs Y τ M → Fr CLs M0 M → Bg 0 0 M0 M → Sf G mi_X8_endOldSkipped (CP Y (expR ρ) 0 0 none M0) 2 [some (vR ((1, 0))), some (vI (↑e))] [] M := by
  intro d
  induction d with
  | zero =>
    intro e τ M he hA0 hCs hF0 hB0
    obtain ⟨sc, kn, hS, hCl⟩ := id hCs
    have s4 := hA0.1 4
    have s30 := hA0.1 30
    have s3 := hA0.1 3
    obtain ⟨hA, hB, hC, hD, hE, hN, hG, hH, hI, hJ, hK, hL⟩ := id hCl
    refine S_iload_n dX8_endOldSkipped_2 rfl ?_
    refine S_aload_n dX8_endOldSkipped_3 rfl ?_
    refine S_getI (v := 2 * (ρ.1 4)) fl_X8_58 dX8_endOldSkipped_4 rfl rfl (by rw [(show M.I (1, 0) 6 = 2 * (ρ.1 4) from (show M.I (1, 0) 6 = 2 * τ.1 4 from congrFun hA.2.1 6).trans (congrArg (fun z : Int => 2 * z) (by rw [s4])))]) ?_
    refine S_icmp_ge 33 dX8_endOldSkipped_7 (by decide) (by omega) (fun c_7 => ?_) (fun c_7 => absurd c_7 (by omega))
    exact S_vret dX8_endOldSkipped_33 rfl (by
      have hA1 := hA0.none (m' := 12) (by omega) (fun e1 a b => hz e1 (by omega) b)
      have hA2 := expA_F hTs hKo.1 12 0 ρ rfl (FAll.rf ρ)
      have hC2 := hCl.ends (σ := expR ρ) (ρ := ρ) (by omega) hKo.1 hA1 hA2
      exact ⟨rfl, ⟨sc, kn, hS.cg ((hA2.1 5).trans (hA1.1 5).symm) (fun k t a b => (hA2.2.1 k t (by omega)).trans (hA1.2.1 k t (by omega)).symm), hC2⟩, hF0, hB0⟩)
  | succ d ih =>
    intro e τ M he hA0 hCs hF0 hB0
    obtain ⟨sc, kn, hS, hCl⟩ := id hCs
    have s4 := hA0.1 4
    have s30 := hA0.1 30
    have s3 := hA0.1 3
    obtain ⟨hA, hB, hC, hD, hE, hN, hG, hH, hI, hJ, hK, hL⟩ := id hCl
    refine S_iload_n dX8_endOldSkipped_2 rfl ?_
    refine S_aload_n dX8_endOldSkipped_3 rfl ?_
    refine S_getI (v := 2 * (ρ.1 4)) fl_X8_58 dX8_endOldSkipped_4 rfl rfl (by rw [(show M.I (1, 0) 6 = 2 * (ρ.1 4) from (show M.I (1, 0) 6 = 2 * τ.1 4 from congrFun hA.2.1 6).trans (congrArg (fun z : Int => 2 * z) (by rw [s4])))]) ?_
    refine S_icmp_ge 33 dX8_endOldSkipped_7 (by decide) (by omega) (fun c_7 => absurd c_7 (by omega)) (fun c_7 => ?_)
    refine S_aload_n dX8_endOldSkipped_10 rfl ?_
    refine S_getP (o := some (6, 0)) fl_X8_23 dX8_endOldSkipped_11 rfl rfl (by rw [(show M.P (1, 0) 2 = some (6, 0) from congrFun hA.2.2 2)]) ?_
    refine S_iload_n dX8_endOldSkipped_14 rfl ?_
    refine S_aald (o := some (7, e)) e dX8_endOldSkipped_15 rfl (by decide) rfl (by rw [(show M.len (6, 0) = some 12 from hN.1)]) (by omega) (by omega) (by rw [(show M.P (6, 0) e = some (7, e) from hN.2 e (by omega))]) ?_
    refine S_aload_n dX8_endOldSkipped_16 rfl ?_
    refine S_getI (v := ρ.1 30) fl_X8_142 dX8_endOldSkipped_17 rfl rfl (by rw [(show M.I (1, 0) 7 = ρ.1 30 from (show M.I (1, 0) 7 = τ.1 30 from congrFun hA.2.1 7).trans (by rw [s30]))]) ?_
    refine S_aload_n dX8_endOldSkipped_20 rfl ?_
    refine S_getI (v := ρ.1 3) fl_X8_51 dX8_endOldSkipped_21 rfl rfl (by rw [(show M.I (1, 0) 9 = ρ.1 3 from (show M.I (1, 0) 9 = τ.1 3 from congrFun hA.2.1 9).trans (by rw [s3]))]) ?_
    obtain ⟨n, hn12, hn⟩ := hKo.1 e (by omega)
    obtain ⟨b1, b2⟩ := (hA0.2.2.2 e n (by omega) hn).2 (Nat.le_refl e)
    have hbb : ∀ e1 : Nat, (e1 : Int) < 2 * τ.1 4 → τ.2 25 e1 ≤ 12 := fun e1 h1 => by
      obtain ⟨n1, c1, c2⟩ := hKo.1 e1 (by omega)
      obtain ⟨d1, d2⟩ := hA0.2.2.2 e1 n1 (by omega) c2
      by_cases h9 : e1 < e
      · obtain ⟨p, _, d3, _⟩ := d1 h9
        rw [d3]; omega
      · rw [(d2 (by omega)).1]; omega
    have hco := c_endOld (G := G) (ρ := τ) e n (by omega) (by omega) hn12 (by omega) (by omega) (fun i hi => by rw [b2 29 i (by decide) (by decide) (by omega)]; have := hKo.2 (12 * e + i) (by omega); omega) hbb b1 hCs
    rw [s30, s3] at hco
    refine S_callV (mi := mi_X8_endOldSkipped) [vI (ρ.1 30), vI (ρ.1 3)] ok_X1_endOld ml_X8_362 dX8_endOldSkipped_24 rfl (by decide) rfl (by decide) rfl (Nat.le_of_ble_eq_true rfl) rfl (hco) ?_
    rintro v' M1 ⟨τ', p, hP1, hFc1, rfl, hCs1, hF1', hB1'⟩
    refine S_iinc dX8_endOldSkipped_27 rfl (by decide) ?_
    rw [show ((↑e) + 1 : Int) = ↑(e + 1) from rfl]
    refine S_goto 2 dX8_endOldSkipped_30 (by decide) ?_
    exact ih (e + 1) τ' _ (by omega) (hA0.step (by omega) hn hn12 hP1 hFc1 (fun e1 n1 a b => by
      obtain ⟨n2, c1, c2⟩ := hKo.1 e1 a
      rw [b] at c2
      omega)) hCs1 (hF0.trans hF1') ((hB0.trans hB1').le (by omega) (by omega))
set_option maxRecDepth 100000 in
theorem c_endOldSkipped {G : Ge} {M : Mem} {Y : (Nat → Bool) × (Nat → Bool)} {ρ : RS} (m : Nat) (hm : 2 * ρ.1 4 = ↑m) (hm12 : m ≤ 12) (hl : 0 ≤ ρ.1 30 ∧ ρ.1 30 ≤ 300) (hli : 0 ≤ ρ.1 3 ∧ ρ.1 3 ≤ 300) (hKo : KOK ρ) (hTs : TsOK ρ) (hz : ∀ e : Nat, 2 * ρ.1 4 ≤ e → e < 12 → ρ.2 25 e = 0) (hCs : Cs Y ρ M) : Ct G mi_X8_endOldSkipped [vR ((1, 0))] M (CP Y (expR ρ) 0 0 none M) := by
  refine Ct.of pl_X8_endOldSkipped [some (vR ((1, 0))), none] rfl (Nat.le_of_ble_eq_true rfl) ?_
  obtain ⟨sc, kn, hS, hCl⟩ := id hCs
  obtain ⟨hA, hB, hC, hD, hE, hN, hG, hH, hI, hJ, hK, hL⟩ := id hCl
  refine S_iconst dX8_endOldSkipped_0 ?_
  refine S_istore_n dX8_endOldSkipped_1 (by decide) ?_
  exact lp_eos m hm hm12 hl hli hKo hTs hz m 0 ρ M (by omega) (FAll.rf ρ) hCs (Fr.rf _ M) (Bg.rf M)
set_option maxRecDepth 100000 in
theorem c_limits {G : Ge} {M : Mem} {Y : (Nat → Bool) × (Nat → Bool)} {ρ : RS} (hCs : Cs Y ρ M) (m0 li : Int) (m032 : -2147483648 ≤ m0 ∧ m0 < 2147483648) (li32 : -2147483648 ≤ li ∧ li < 2147483648) (hp : 0 ≤ ρ.1 4 ∧ ρ.1 4 ≤ 6) (hl : 0 ≤ ρ.1 30 ∧ ρ.1 30 ≤ 300) (hKo : KOK ρ) (hTs : TsOK ρ) (hz : ∀ e : Nat, 2 * ρ.1 4 ≤ e → e < 12 → ρ.2 25 e = 0) : Ct G mi_X8_limits [vR ((1, 0)), vI m0, vI li] M (CP Y ((limitsF ρ m0 li).2) 0 0 (some (vI (limitsF ρ m0 li).1)) M) := by
  refine Ct.of pl_X8_limits [some (vR ((1, 0))), some (vI m0), some (vI li)] rfl (Nat.le_of_ble_eq_true rfl) ?_
  obtain ⟨sc, kn, hS, hCl⟩ := hCs
  have hF0 : Fr CLs M M := Fr.rf CLs M
  have hB0 : Bg 0 0 M M := Bg.rf M
  obtain ⟨hA, hB, hC, hD, hE, hN, hG, hH, hI, hJ, hK, hL⟩ := id hCl
  obtain ⟨m, hm, hm12⟩ : ∃ m : Nat, 2 * ρ.1 4 = ↑m ∧ m ≤ 12 := ⟨(2 * ρ.1 4).toNat, by omega, by omega⟩
  refine S_iload_n dX8_limits_0 rfl ?_
  refine S_if_lt 21 dX8_limits_1 (by decide) (by omega) (fun c_1 => ?_) (fun c_1 => ?_)
  · refine S_aload_n dX8_limits_21 rfl ?_
    refine S_iconst dX8_limits_22 ?_
    refine S_callV (mi := mi_X8_limits) [vI 1] ok_X8_refuse ml_X8_54 dX8_limits_23 rfl (by decide) rfl (by decide) rfl (Nat.le_of_ble_eq_true rfl) rfl (c_refuse ⟨sc, kn, hS, hCl⟩ 1) ?_
    rintro v' M1 ⟨rfl, hCs1, hF1', hB1'⟩
    obtain ⟨ρ2, e2⟩ : ∃ x : RS, x = (ρ.setS 42 1) := ⟨_, rfl⟩
    rw [← e2] at hCs1
    obtain ⟨sc, kn, hS2, hCl2⟩ := hCs1
    have hF2 : Fr CLs M M1 := hF0.trans hF1'
    have hB2 : Bg 0 0 M M1 := (hB0.trans hB1').le (by omega) (by omega)
    have s4_2 : ρ2.1 4 = ρ.1 4 := (by rw [e2, RS.setS_ne (by decide)])
    have s30_2 : ρ2.1 30 = ρ.1 30 := (by rw [e2, RS.setS_ne (by decide)])
    have t_2 : thN ρ2 = thN ρ := by rw [e2]; rfl
    obtain ⟨hA, hB, hC, hD, hE, hN, hG, hH, hI, hJ, hK, hL⟩ := id hCl2
    exact S_iret dX8_limits_26 rfl (Or.inl rfl) (by first | (exfalso; omega) | (have e9 : limitsF ρ m0 li = (((-1) : Int), ρ2) := (by unfold limitsF; (repeat (first | rw [if_pos (by omega)] | rw [if_neg (by omega)])); subst_vars; all_goals rfl); rw [e9]; exact ⟨rfl, ⟨sc, kn, hS2, hCl2⟩, hF2, hB2.le (by omega) (by omega)⟩))
  · refine S_iload_n dX8_limits_4 rfl ?_
    refine S_bipush dX8_limits_5 (by decide) ?_
    refine S_icmp_gt 21 dX8_limits_7 (by decide) (by omega) (fun c_7 => ?_) (fun c_7 => ?_)
    · refine S_aload_n dX8_limits_21 rfl ?_
      refine S_iconst dX8_limits_22 ?_
      refine S_callV (mi := mi_X8_limits) [vI 1] ok_X8_refuse ml_X8_54 dX8_limits_23 rfl (by decide) rfl (by decide) rfl (Nat.le_of_ble_eq_true rfl) rfl (c_refuse ⟨sc, kn, hS, hCl⟩ 1) ?_
      rintro v' M3 ⟨rfl, hCs3, hF3', hB3'⟩
      obtain ⟨ρ4, e4⟩ : ∃ x : RS, x = (ρ.setS 42 1) := ⟨_, rfl⟩
      rw [← e4] at hCs3
      obtain ⟨sc, kn, hS4, hCl4⟩ := hCs3
      have hF4 : Fr CLs M M3 := hF0.trans hF3'
      have hB4 : Bg 0 0 M M3 := (hB0.trans hB3').le (by omega) (by omega)
      have s4_4 : ρ4.1 4 = ρ.1 4 := (by rw [e4, RS.setS_ne (by decide)])
      have s30_4 : ρ4.1 30 = ρ.1 30 := (by rw [e4, RS.setS_ne (by decide)])
      have t_4 : thN ρ4 = thN ρ := by rw [e4]; rfl
      obtain ⟨hA, hB, hC, hD, hE, hN, hG, hH, hI, hJ, hK, hL⟩ := id hCl4
      exact S_iret dX8_limits_26 rfl (Or.inl rfl) (by first | (exfalso; omega) | (have e9 : limitsF ρ m0 li = (((-1) : Int), ρ4) := (by unfold limitsF; (repeat (first | rw [if_pos (by omega)] | rw [if_neg (by omega)])); subst_vars; all_goals rfl); rw [e9]; exact ⟨rfl, ⟨sc, kn, hS4, hCl4⟩, hF4, hB4.le (by omega) (by omega)⟩))
    · refine S_iload_n dX8_limits_10 rfl ?_
      refine S_if_lt 21 dX8_limits_11 (by decide) (by omega) (fun c_11 => ?_) (fun c_11 => ?_)
      · refine S_aload_n dX8_limits_21 rfl ?_
        refine S_iconst dX8_limits_22 ?_
        refine S_callV (mi := mi_X8_limits) [vI 1] ok_X8_refuse ml_X8_54 dX8_limits_23 rfl (by decide) rfl (by decide) rfl (Nat.le_of_ble_eq_true rfl) rfl (c_refuse ⟨sc, kn, hS, hCl⟩ 1) ?_
        rintro v' M5 ⟨rfl, hCs5, hF5', hB5'⟩
        obtain ⟨ρ6, e6⟩ : ∃ x : RS, x = (ρ.setS 42 1) := ⟨_, rfl⟩
        rw [← e6] at hCs5
        obtain ⟨sc, kn, hS6, hCl6⟩ := hCs5
        have hF6 : Fr CLs M M5 := hF0.trans hF5'
        have hB6 : Bg 0 0 M M5 := (hB0.trans hB5').le (by omega) (by omega)
        have s4_6 : ρ6.1 4 = ρ.1 4 := (by rw [e6, RS.setS_ne (by decide)])
        have s30_6 : ρ6.1 30 = ρ.1 30 := (by rw [e6, RS.setS_ne (by decide)])
        have t_6 : thN ρ6 = thN ρ := by rw [e6]; rfl
        obtain ⟨hA, hB, hC, hD, hE, hN, hG, hH, hI, hJ, hK, hL⟩ := id hCl6
        exact S_iret dX8_limits_26 rfl (Or.inl rfl) (by first | (exfalso; omega) | (have e9 : limitsF ρ m0 li = (((-1) : Int), ρ6) := (by unfold limitsF; (repeat (first | rw [if_pos (by omega)] | rw [if_neg (by omega)])); subst_vars; all_goals rfl); rw [e9]; exact ⟨rfl, ⟨sc, kn, hS6, hCl6⟩, hF6, hB6.le (by omega) (by omega)⟩))
      · refine S_iload_n dX8_limits_14 rfl ?_
        refine S_sipush dX8_limits_15 (by decide) ?_
        refine S_icmp_le 27 dX8_limits_18 (by decide) (by omega) (fun c_18 => ?_) (fun c_18 => ?_)
        · refine S_aload_n dX8_limits_27 rfl ?_
          refine S_iload_n dX8_limits_28 rfl ?_
          refine S_putI fl_X8_47 dX8_limits_29 rfl rfl rfl  (Or.inl rfl) ?_
          refine Sf.nm (fun M7 hM7 => ?_)
          obtain ⟨ρ8, e8⟩ : ∃ x : RS, x = (ρ.setS 2 m0) := ⟨_, rfl⟩
          have hCl8 : Cl (Y.1, Y.2, sc, kn) ρ8 M7 := (by rw [e8, hM7]; exact hCl.most m0)
          have hS8 : StpOK sc kn ρ8 := (by rw [e8]; exact hS)
          have hF8 : Fr CLs M M7 := (by rw [hM7]; exact hF0.trans (Fr.pI 1 0 (by decide)))
          have hB8 : Bg 0 0 M M7 := (by rw [hM7]; exact (hB0.trans (Bg.pI _ _ _ _)).le (by omega) (by omega))
          have s4_8 : ρ8.1 4 = ρ.1 4 := (by rw [e8, RS.setS_ne (by decide)])
          have s30_8 : ρ8.1 30 = ρ.1 30 := (by rw [e8, RS.setS_ne (by decide)])
          have t_8 : thN ρ8 = thN ρ := by rw [e8]; rfl
          obtain ⟨hA, hB, hC, hD, hE, hN, hG, hH, hI, hJ, hK, hL⟩ := id hCl8
          refine S_aload_n dX8_limits_32 rfl ?_
          refine S_iload_n dX8_limits_33 rfl ?_
          refine S_putI fl_X8_51 dX8_limits_34 rfl rfl rfl  (Or.inl rfl) ?_
          refine Sf.nm (fun M9 hM9 => ?_)
          obtain ⟨ρ10, e10⟩ : ∃ x : RS, x = (ρ8.setS 3 li) := ⟨_, rfl⟩
          have hCl10 : Cl (Y.1, Y.2, sc, kn) ρ10 M9 := (by rw [e10, hM9]; exact hCl8.life li)
          have hS10 : StpOK sc kn ρ10 := (by rw [e10]; exact hS8)
          have hF10 : Fr CLs M M9 := (by rw [hM9]; exact hF8.trans (Fr.pI 1 0 (by decide)))
          have hB10 : Bg 0 0 M M9 := (by rw [hM9]; exact (hB8.trans (Bg.pI _ _ _ _)).le (by omega) (by omega))
          have s4_10 : ρ10.1 4 = ρ.1 4 := (by rw [e10, RS.setS_ne (by decide), e8, RS.setS_ne (by decide)])
          have s30_10 : ρ10.1 30 = ρ.1 30 := (by rw [e10, RS.setS_ne (by decide), e8, RS.setS_ne (by decide)])
          have t_10 : thN ρ10 = thN ρ8 := by rw [e10]; rfl
          obtain ⟨hA, hB, hC, hD, hE, hN, hG, hH, hI, hJ, hK, hL⟩ := id hCl10
          refine S_aload_n dX8_limits_37 rfl ?_
          have hKx : KOK ρ10 := by subst_vars; exact hKo
          have hTx : TsOK ρ10 := by subst_vars; exact hTs
          have hzx : ∀ e : Nat, 2 * ρ10.1 4 ≤ e → e < 12 → ρ10.2 25 e = 0 := by subst_vars; exact hz
          refine S_callV (mi := mi_X8_limits) [] ok_X8_endOldSkipped ml_X8_72 dX8_limits_38 rfl (by decide) rfl (by decide) rfl (Nat.le_of_ble_eq_true rfl) rfl (c_endOldSkipped (ρ := ρ10) m (by rw [e10, RS.setS_ne (by decide), e8, RS.setS_ne (by decide)]; exact hm) hm12 (by rw [e10, RS.setS_ne (by decide), e8, RS.setS_ne (by decide)]; exact hl) (by rw [e10, RS.setS_eq]; omega) hKx hTx hzx ⟨sc, kn, hS10, hCl10⟩) ?_
          rintro v' M11 ⟨rfl, hCs11, hF11', hB11'⟩
          obtain ⟨ρ12, e12⟩ : ∃ x : RS, x = (expR ρ10) := ⟨_, rfl⟩
          rw [← e12] at hCs11
          obtain ⟨sc, kn, hS12, hCl12⟩ := hCs11
          have hF12 : Fr CLs M M11 := hF10.trans hF11'
          have hB12 : Bg 0 0 M M11 := (hB10.trans hB11').le (by omega) (by omega)
          have s4_12 : ρ12.1 4 = ρ.1 4 := (by rw [e12, expR_s (by assumption), e10, RS.setS_ne (by decide), e8, RS.setS_ne (by decide)])
          have s30_12 : ρ12.1 30 = ρ.1 30 := (by rw [e12, expR_s (by assumption), e10, RS.setS_ne (by decide), e8, RS.setS_ne (by decide)])
          obtain ⟨hA, hB, hC, hD, hE, hN, hG, hH, hI, hJ, hK, hL⟩ := id hCl12
          refine S_aload_n dX8_limits_41 rfl ?_
          refine S_iconst dX8_limits_42 ?_
          refine S_callV (mi := mi_X8_limits) [vI 1] ok_X8_done ml_X8_69 dX8_limits_43 rfl (by decide) rfl (by decide) rfl (Nat.le_of_ble_eq_true rfl) rfl (c_done ⟨sc, kn, hS12, hCl12⟩ 1) ?_
          rintro v' M13 ⟨rfl, hCs13, hF13', hB13'⟩
          obtain ⟨ρ14, e14⟩ : ∃ x : RS, x = (ρ12.setS 42 0) := ⟨_, rfl⟩
          rw [← e14] at hCs13
          obtain ⟨sc, kn, hS14, hCl14⟩ := hCs13
          have hF14 : Fr CLs M M13 := hF12.trans hF13'
          have hB14 : Bg 0 0 M M13 := (hB12.trans hB13').le (by omega) (by omega)
          have s4_14 : ρ14.1 4 = ρ.1 4 := (by rw [e14, RS.setS_ne (by decide), e12, expR_s (by assumption), e10, RS.setS_ne (by decide), e8, RS.setS_ne (by decide)])
          have s30_14 : ρ14.1 30 = ρ.1 30 := (by rw [e14, RS.setS_ne (by decide), e12, expR_s (by assumption), e10, RS.setS_ne (by decide), e8, RS.setS_ne (by decide)])
          have t_14 : thN ρ14 = thN ρ12 := by rw [e14]; rfl
          obtain ⟨hA, hB, hC, hD, hE, hN, hG, hH, hI, hJ, hK, hL⟩ := id hCl14
          exact S_iret dX8_limits_46 rfl (Or.inl rfl) (by first | (exfalso; omega) | (have e9 : limitsF ρ m0 li = ((1 : Int), ρ14) := (by unfold limitsF; (repeat (first | rw [if_pos (by omega)] | rw [if_neg (by omega)])); subst_vars; all_goals rfl); rw [e9]; exact ⟨rfl, ⟨sc, kn, hS14, hCl14⟩, hF14, hB14.le (by omega) (by omega)⟩))
        · refine S_aload_n dX8_limits_21 rfl ?_
          refine S_iconst dX8_limits_22 ?_
          refine S_callV (mi := mi_X8_limits) [vI 1] ok_X8_refuse ml_X8_54 dX8_limits_23 rfl (by decide) rfl (by decide) rfl (Nat.le_of_ble_eq_true rfl) rfl (c_refuse ⟨sc, kn, hS, hCl⟩ 1) ?_
          rintro v' M15 ⟨rfl, hCs15, hF15', hB15'⟩
          obtain ⟨ρ16, e16⟩ : ∃ x : RS, x = (ρ.setS 42 1) := ⟨_, rfl⟩
          rw [← e16] at hCs15
          obtain ⟨sc, kn, hS16, hCl16⟩ := hCs15
          have hF16 : Fr CLs M M15 := hF0.trans hF15'
          have hB16 : Bg 0 0 M M15 := (hB0.trans hB15').le (by omega) (by omega)
          have s4_16 : ρ16.1 4 = ρ.1 4 := (by rw [e16, RS.setS_ne (by decide)])
          have s30_16 : ρ16.1 30 = ρ.1 30 := (by rw [e16, RS.setS_ne (by decide)])
          have t_16 : thN ρ16 = thN ρ := by rw [e16]; rfl
          obtain ⟨hA, hB, hC, hD, hE, hN, hG, hH, hI, hJ, hK, hL⟩ := id hCl16
          exact S_iret dX8_limits_26 rfl (Or.inl rfl) (by first | (exfalso; omega) | (have e9 : limitsF ρ m0 li = (((-1) : Int), ρ16) := (by unfold limitsF; (repeat (first | rw [if_pos (by omega)] | rw [if_neg (by omega)])); subst_vars; all_goals rfl); rw [e9]; exact ⟨rfl, ⟨sc, kn, hS16, hCl16⟩, hF16, hB16.le (by omega) (by omega)⟩))
