/-! THE CLASS: what a number stands for; small questions -/
set_option maxRecDepth 100000 in
theorem c_endAt {G : Ge} {M : Mem} {X : Gh} {ρ : RS} (hCl : Cl X ρ M) (hp : 0 ≤ ρ.1 4 ∧ ρ.1 4 ≤ 6) (e : Nat) (he : (e : Int) < 2 * ρ.1 4) : Ct G mi_X8_endAt [vR ((1, 0)), vI (↑e)] M (fun v' M' => v' = some (vR (7, e)) ∧ M' = M) := by
  refine Ct.of pl_X8_endAt [some (vR ((1, 0))), some (vI (↑e))] rfl (Nat.le_of_ble_eq_true rfl) ?_
  obtain ⟨hA, hB, hC, hD, hE, hN, hG, hH, hI, hJ, hK, hL⟩ := id hCl
  refine S_iload_n dX8_endAt_0 rfl ?_
  refine S_if_lt 21 dX8_endAt_1 (by decide) (by omega) (fun c_1 => absurd c_1 (by omega)) (fun c_1 => ?_)
  refine S_iload_n dX8_endAt_4 rfl ?_
  refine S_aload_n dX8_endAt_5 rfl ?_
  refine S_getI (v := 2 * ρ.1 4) fl_X8_58 dX8_endAt_6 rfl rfl (by rw [(show M.I (1, 0) 6 = 2 * ρ.1 4 from congrFun hA.2.1 6)]) ?_
  refine S_icmp_ge 21 dX8_endAt_9 (by decide) (by omega) (fun c_9 => absurd c_9 (by omega)) (fun c_9 => ?_)
  refine S_aload_n dX8_endAt_12 rfl ?_
  refine S_getP (o := some (6, 0)) fl_X8_23 dX8_endAt_13 rfl rfl (by rw [(show M.P (1, 0) 2 = some (6, 0) from congrFun hA.2.2 2)]) ?_
  refine S_iload_n dX8_endAt_16 rfl ?_
  refine S_aald (o := some (7, e)) e dX8_endAt_17 rfl (by decide) rfl (by rw [(show M.len (6, 0) = some 12 from hN.1)]) (by omega) (by omega) (by rw [(show M.P (6, 0) e = some (7, e) from hN.2 e (by omega))]) ?_
  refine S_goto 22 dX8_endAt_18 (by decide) ?_
  exact S_aret dX8_endAt_22 rfl rfl ⟨rfl, rfl⟩
set_option maxRecDepth 100000 in
theorem c_endAtN {G : Ge} {M : Mem} {X : Gh} {ρ : RS} (hCl : Cl X ρ M) (hp : 0 ≤ ρ.1 4 ∧ ρ.1 4 ≤ 6) (v : Int) (v32 : -2147483648 ≤ v ∧ v < 2147483648) (hv : ¬ (0 ≤ v ∧ v < 2 * ρ.1 4)) : Ct G mi_X8_endAt [vR ((1, 0)), vI v] M (fun v' M' => v' = some (vN) ∧ M' = M) := by
  refine Ct.of pl_X8_endAt [some (vR ((1, 0))), some (vI v)] rfl (Nat.le_of_ble_eq_true rfl) ?_
  obtain ⟨hA, hB, hC, hD, hE, hN, hG, hH, hI, hJ, hK, hL⟩ := id hCl
  refine S_iload_n dX8_endAt_0 rfl ?_
  refine S_if_lt 21 dX8_endAt_1 (by decide) (by omega) (fun c_1 => ?_) (fun c_1 => ?_)
  · refine S_null dX8_endAt_21 ?_
    exact S_aret dX8_endAt_22 rfl rfl ⟨rfl, rfl⟩
  · refine S_iload_n dX8_endAt_4 rfl ?_
    refine S_aload_n dX8_endAt_5 rfl ?_
    refine S_getI (v := 2 * ρ.1 4) fl_X8_58 dX8_endAt_6 rfl rfl (by rw [(show M.I (1, 0) 6 = 2 * ρ.1 4 from congrFun hA.2.1 6)]) ?_
    refine S_icmp_ge 21 dX8_endAt_9 (by decide) (by omega) (fun c_9 => ?_) (fun c_9 => absurd c_9 (by omega))
    refine S_null dX8_endAt_21 ?_
    exact S_aret dX8_endAt_22 rfl rfl ⟨rfl, rfl⟩
set_option maxRecDepth 100000 in
theorem c_lowerOf {G : Ge} {M : Mem} {X : Gh} {ρ : RS} (hCl : Cl X ρ M) (hp : 0 ≤ ρ.1 4 ∧ ρ.1 4 ≤ 6) (p : Nat) (h : (p : Int) < ρ.1 4) : Ct G mi_X8_lowerOf [vR ((1, 0)), vI (↑p)] M (fun v' M' => v' = some (vR (7, 2 * p)) ∧ M' = M) := by
  refine Ct.of pl_X8_lowerOf [some (vR ((1, 0))), some (vI (↑p))] rfl (Nat.le_of_ble_eq_true rfl) ?_
  obtain ⟨hA, hB, hC, hD, hE, hN, hG, hH, hI, hJ, hK, hL⟩ := id hCl
  refine S_iload_n dX8_lowerOf_0 rfl ?_
  refine S_if_lt 20 dX8_lowerOf_1 (by decide) (by omega) (fun c_1 => absurd c_1 (by omega)) (fun c_1 => ?_)
  refine S_iload_n dX8_lowerOf_4 rfl ?_
  refine S_bipush dX8_lowerOf_5 (by decide) ?_
  refine S_icmp_ge 20 dX8_lowerOf_7 (by decide) (by omega) (fun c_7 => absurd c_7 (by omega)) (fun c_7 => ?_)
  refine S_aload_n dX8_lowerOf_10 rfl ?_
  refine S_iconst dX8_lowerOf_11 ?_
  refine S_iload_n dX8_lowerOf_12 rfl ?_
  refine S_imul dX8_lowerOf_13 ?_
  rw [show (2 * ↑p : Int) = ↑(2 * p) from rfl]
  refine S_callV (mi := mi_X8_lowerOf) [vI (↑(2 * p))] ok_X8_endAt ml_X8_78 dX8_lowerOf_14 rfl (by decide) rfl (by decide) rfl (Nat.le_of_ble_eq_true rfl) rfl (c_endAt hCl hp (2 * p) (by omega)) ?_
  rintro v' M1 ⟨rfl, hM1⟩
  rw [hM1]
  clear hM1
  refine S_goto 21 dX8_lowerOf_17 (by decide) ?_
  exact S_aret dX8_lowerOf_21 rfl rfl ⟨rfl, rfl⟩
set_option maxRecDepth 100000 in
theorem c_lowerOfN {G : Ge} {M : Mem} {X : Gh} {ρ : RS} (hCl : Cl X ρ M) (hp : 0 ≤ ρ.1 4 ∧ ρ.1 4 ≤ 6) (v : Int) (v32 : -2147483648 ≤ v ∧ v < 2147483648) (hv : ¬ (0 ≤ v ∧ v < ρ.1 4)) : Ct G mi_X8_lowerOf [vR ((1, 0)), vI v] M (fun v' M' => v' = some (vN) ∧ M' = M) := by
  refine Ct.of pl_X8_lowerOf [some (vR ((1, 0))), some (vI v)] rfl (Nat.le_of_ble_eq_true rfl) ?_
  obtain ⟨hA, hB, hC, hD, hE, hN, hG, hH, hI, hJ, hK, hL⟩ := id hCl
  refine S_iload_n dX8_lowerOf_0 rfl ?_
  refine S_if_lt 20 dX8_lowerOf_1 (by decide) (by omega) (fun c_1 => ?_) (fun c_1 => ?_)
  · refine S_null dX8_lowerOf_20 ?_
    exact S_aret dX8_lowerOf_21 rfl rfl ⟨rfl, rfl⟩
  · refine S_iload_n dX8_lowerOf_4 rfl ?_
    refine S_bipush dX8_lowerOf_5 (by decide) ?_
    refine S_icmp_ge 20 dX8_lowerOf_7 (by decide) (by omega) (fun c_7 => ?_) (fun c_7 => ?_)
    · refine S_null dX8_lowerOf_20 ?_
      exact S_aret dX8_lowerOf_21 rfl rfl ⟨rfl, rfl⟩
    · refine S_aload_n dX8_lowerOf_10 rfl ?_
      refine S_iconst dX8_lowerOf_11 ?_
      refine S_iload_n dX8_lowerOf_12 rfl ?_
      refine S_imul dX8_lowerOf_13 ?_
      refine S_callV (mi := mi_X8_lowerOf) [vI (2 * v)] ok_X8_endAt ml_X8_78 dX8_lowerOf_14 rfl (by decide) rfl (by decide) rfl (Nat.le_of_ble_eq_true rfl) rfl (c_endAtN hCl hp (2 * v) (by omega) (by omega)) ?_
      rintro v' M1 ⟨rfl, hM1⟩
      rw [hM1]
      clear hM1
      refine S_goto 21 dX8_lowerOf_17 (by decide) ?_
      exact S_aret dX8_lowerOf_21 rfl rfl ⟨rfl, rfl⟩
set_option maxRecDepth 100000 in
theorem c_otherOf {G : Ge} {M : Mem} {X : Gh} {ρ : RS} (hCl : Cl X ρ M) (hp : 0 ≤ ρ.1 4 ∧ ρ.1 4 ≤ 6) (p : Nat) (h : (p : Int) < ρ.1 4) : Ct G mi_X8_otherOf [vR ((1, 0)), vI (↑p)] M (fun v' M' => v' = some (vR (7, 2 * p + 1)) ∧ M' = M) := by
  refine Ct.of pl_X8_otherOf [some (vR ((1, 0))), some (vI (↑p))] rfl (Nat.le_of_ble_eq_true rfl) ?_
  obtain ⟨hA, hB, hC, hD, hE, hN, hG, hH, hI, hJ, hK, hL⟩ := id hCl
  refine S_iload_n dX8_otherOf_0 rfl ?_
  refine S_if_lt 22 dX8_otherOf_1 (by decide) (by omega) (fun c_1 => absurd c_1 (by omega)) (fun c_1 => ?_)
  refine S_iload_n dX8_otherOf_4 rfl ?_
  refine S_bipush dX8_otherOf_5 (by decide) ?_
  refine S_icmp_ge 22 dX8_otherOf_7 (by decide) (by omega) (fun c_7 => absurd c_7 (by omega)) (fun c_7 => ?_)
  refine S_aload_n dX8_otherOf_10 rfl ?_
  refine S_iconst dX8_otherOf_11 ?_
  refine S_iload_n dX8_otherOf_12 rfl ?_
  refine S_imul dX8_otherOf_13 ?_
  rw [show (2 * ↑p : Int) = ↑(2 * p) from rfl]
  refine S_iconst dX8_otherOf_14 ?_
  refine S_iadd dX8_otherOf_15 ?_
  rw [show (↑(2 * p) + 1 : Int) = ↑(2 * p + 1) from rfl]
  refine S_callV (mi := mi_X8_otherOf) [vI (↑(2 * p + 1))] ok_X8_endAt ml_X8_78 dX8_otherOf_16 rfl (by decide) rfl (by decide) rfl (Nat.le_of_ble_eq_true rfl) rfl (c_endAt hCl hp (2 * p + 1) (by omega)) ?_
  rintro v' M1 ⟨rfl, hM1⟩
  rw [hM1]
  clear hM1
  refine S_goto 23 dX8_otherOf_19 (by decide) ?_
  exact S_aret dX8_otherOf_23 rfl rfl ⟨rfl, rfl⟩
set_option maxRecDepth 100000 in
theorem c_otherOfN {G : Ge} {M : Mem} {X : Gh} {ρ : RS} (hCl : Cl X ρ M) (hp : 0 ≤ ρ.1 4 ∧ ρ.1 4 ≤ 6) (v : Int) (v32 : -2147483648 ≤ v ∧ v < 2147483648) (hv : ¬ (0 ≤ v ∧ v < ρ.1 4)) : Ct G mi_X8_otherOf [vR ((1, 0)), vI v] M (fun v' M' => v' = some (vN) ∧ M' = M) := by
  refine Ct.of pl_X8_otherOf [some (vR ((1, 0))), some (vI v)] rfl (Nat.le_of_ble_eq_true rfl) ?_
  obtain ⟨hA, hB, hC, hD, hE, hN, hG, hH, hI, hJ, hK, hL⟩ := id hCl
  refine S_iload_n dX8_otherOf_0 rfl ?_
  refine S_if_lt 22 dX8_otherOf_1 (by decide) (by omega) (fun c_1 => ?_) (fun c_1 => ?_)
  · refine S_null dX8_otherOf_22 ?_
    exact S_aret dX8_otherOf_23 rfl rfl ⟨rfl, rfl⟩
  · refine S_iload_n dX8_otherOf_4 rfl ?_
    refine S_bipush dX8_otherOf_5 (by decide) ?_
    refine S_icmp_ge 22 dX8_otherOf_7 (by decide) (by omega) (fun c_7 => ?_) (fun c_7 => ?_)
    · refine S_null dX8_otherOf_22 ?_
      exact S_aret dX8_otherOf_23 rfl rfl ⟨rfl, rfl⟩
    · refine S_aload_n dX8_otherOf_10 rfl ?_
      refine S_iconst dX8_otherOf_11 ?_
      refine S_iload_n dX8_otherOf_12 rfl ?_
      refine S_imul dX8_otherOf_13 ?_
      refine S_iconst dX8_otherOf_14 ?_
      refine S_iadd dX8_otherOf_15 ?_
      refine S_callV (mi := mi_X8_otherOf) [vI ((2 * v) + 1)] ok_X8_endAt ml_X8_78 dX8_otherOf_16 rfl (by decide) rfl (by decide) rfl (Nat.le_of_ble_eq_true rfl) rfl (c_endAtN hCl hp (2 * v + 1) (by omega) (by omega)) ?_
      rintro v' M1 ⟨rfl, hM1⟩
      rw [hM1]
      clear hM1
      refine S_goto 23 dX8_otherOf_19 (by decide) ?_
      exact S_aret dX8_otherOf_23 rfl rfl ⟨rfl, rfl⟩
set_option maxRecDepth 100000 in
theorem c_letterAt {G : Ge} {M : Mem} {X : Gh} {ρ : RS} (hCl : Cl X ρ M) (hl : 0 ≤ ρ.1 30 ∧ ρ.1 30 ≤ 300) (l : Nat) (h : (l : Int) < ρ.1 30) : Ct G mi_X8_letterAt [vR ((1, 0)), vI (↑l)] M (fun v' M' => v' = some (vR (12, l)) ∧ M' = M) := by
  refine Ct.of pl_X8_letterAt [some (vR ((1, 0))), some (vI (↑l))] rfl (Nat.le_of_ble_eq_true rfl) ?_
  obtain ⟨hA, hB, hC, hD, hE, hN, hG, hH, hI, hJ, hK, hL⟩ := id hCl
  refine S_iload_n dX8_letterAt_0 rfl ?_
  refine S_if_lt 21 dX8_letterAt_1 (by decide) (by omega) (fun c_1 => absurd c_1 (by omega)) (fun c_1 => ?_)
  refine S_iload_n dX8_letterAt_4 rfl ?_
  refine S_aload_n dX8_letterAt_5 rfl ?_
  refine S_getI (v := ρ.1 30) fl_X8_142 dX8_letterAt_6 rfl rfl (by rw [(show M.I (1, 0) 7 = ρ.1 30 from (show M.I (1, 0) 7 = ρ.1 30 from congrFun hA.2.1 7))]) ?_
  refine S_icmp_ge 21 dX8_letterAt_9 (by decide) (by omega) (fun c_9 => absurd c_9 (by omega)) (fun c_9 => ?_)
  refine S_aload_n dX8_letterAt_12 rfl ?_
  refine S_getP (o := some (11, 0)) fl_X8_29 dX8_letterAt_13 rfl rfl (by rw [(show M.P (1, 0) 3 = some (11, 0) from congrFun hA.2.2 3)]) ?_
  refine S_iload_n dX8_letterAt_16 rfl ?_
  refine S_aald (o := some (12, l)) l dX8_letterAt_17 rfl (by decide) rfl (by rw [(show M.len (11, 0) = some 300 from hJ.1)]) (by omega) (by omega) (by rw [(show M.P (11, 0) l = some (12, l) from (hJ.2.1 l (by omega)).1)]) ?_
  refine S_goto 22 dX8_letterAt_18 (by decide) ?_
  exact S_aret dX8_letterAt_22 rfl rfl ⟨rfl, rfl⟩
set_option maxRecDepth 100000 in
theorem c_letterAtN {G : Ge} {M : Mem} {X : Gh} {ρ : RS} (hCl : Cl X ρ M) (hl : 0 ≤ ρ.1 30 ∧ ρ.1 30 ≤ 300) (v : Int) (v32 : -2147483648 ≤ v ∧ v < 2147483648) (hv : ¬ (0 ≤ v ∧ v < ρ.1 30)) : Ct G mi_X8_letterAt [vR ((1, 0)), vI v] M (fun v' M' => v' = some (vN) ∧ M' = M) := by
  refine Ct.of pl_X8_letterAt [some (vR ((1, 0))), some (vI v)] rfl (Nat.le_of_ble_eq_true rfl) ?_
  obtain ⟨hA, hB, hC, hD, hE, hN, hG, hH, hI, hJ, hK, hL⟩ := id hCl
  refine S_iload_n dX8_letterAt_0 rfl ?_
  refine S_if_lt 21 dX8_letterAt_1 (by decide) (by omega) (fun c_1 => ?_) (fun c_1 => ?_)
  · refine S_null dX8_letterAt_21 ?_
    exact S_aret dX8_letterAt_22 rfl rfl ⟨rfl, rfl⟩
  · refine S_iload_n dX8_letterAt_4 rfl ?_
    refine S_aload_n dX8_letterAt_5 rfl ?_
    refine S_getI (v := ρ.1 30) fl_X8_142 dX8_letterAt_6 rfl rfl (by rw [(show M.I (1, 0) 7 = ρ.1 30 from (show M.I (1, 0) 7 = ρ.1 30 from congrFun hA.2.1 7))]) ?_
    refine S_icmp_ge 21 dX8_letterAt_9 (by decide) (by omega) (fun c_9 => ?_) (fun c_9 => absurd c_9 (by omega))
    refine S_null dX8_letterAt_21 ?_
    exact S_aret dX8_letterAt_22 rfl rfl ⟨rfl, rfl⟩
set_option maxRecDepth 100000 in
theorem c_trayAt {G : Ge} {M : Mem} {X : Gh} {ρ : RS} (hCl : Cl X ρ M) (i : Nat) (h : i < 8) : Ct G mi_X8_trayAt [vR ((1, 0)), vI (↑i)] M (fun v' M' => v' = some (vR (15, i)) ∧ M' = M) := by
  refine Ct.of pl_X8_trayAt [some (vR ((1, 0))), some (vI (↑i))] rfl (Nat.le_of_ble_eq_true rfl) ?_
  obtain ⟨hA, hB, hC, hD, hE, hN, hG, hH, hI, hJ, hK, hL⟩ := id hCl
  refine S_iload_n dX8_trayAt_0 rfl ?_
  refine S_if_lt 19 dX8_trayAt_1 (by decide) (by omega) (fun c_1 => absurd c_1 (by omega)) (fun c_1 => ?_)
  refine S_iload_n dX8_trayAt_4 rfl ?_
  refine S_bipush dX8_trayAt_5 (by decide) ?_
  refine S_icmp_ge 19 dX8_trayAt_7 (by decide) (by omega) (fun c_7 => absurd c_7 (by omega)) (fun c_7 => ?_)
  refine S_aload_n dX8_trayAt_10 rfl ?_
  refine S_getP (o := some (14, 0)) fl_X8_35 dX8_trayAt_11 rfl rfl (by rw [(show M.P (1, 0) 4 = some (14, 0) from congrFun hA.2.2 4)]) ?_
  refine S_iload_n dX8_trayAt_14 rfl ?_
  refine S_aald (o := some (15, i)) i dX8_trayAt_15 rfl (by decide) rfl (by rw [(show M.len (14, 0) = some 8 from hK.1)]) (by omega) (by omega) (by rw [(show M.P (14, 0) i = some (15, i) from (hK.2 i (by omega)).1)]) ?_
  refine S_goto 20 dX8_trayAt_16 (by decide) ?_
  exact S_aret dX8_trayAt_20 rfl rfl ⟨rfl, rfl⟩
set_option maxRecDepth 100000 in
theorem c_trayAtN {G : Ge} {M : Mem} {X : Gh} {ρ : RS} (hCl : Cl X ρ M) (v : Int) (v32 : -2147483648 ≤ v ∧ v < 2147483648) (hv : ¬ (0 ≤ v ∧ v < 8)) : Ct G mi_X8_trayAt [vR ((1, 0)), vI v] M (fun v' M' => v' = some (vN) ∧ M' = M) := by
  refine Ct.of pl_X8_trayAt [some (vR ((1, 0))), some (vI v)] rfl (Nat.le_of_ble_eq_true rfl) ?_
  obtain ⟨hA, hB, hC, hD, hE, hN, hG, hH, hI, hJ, hK, hL⟩ := id hCl
  refine S_iload_n dX8_trayAt_0 rfl ?_
  refine S_if_lt 19 dX8_trayAt_1 (by decide) (by omega) (fun c_1 => ?_) (fun c_1 => ?_)
  · refine S_null dX8_trayAt_19 ?_
    exact S_aret dX8_trayAt_20 rfl rfl ⟨rfl, rfl⟩
  · refine S_iload_n dX8_trayAt_4 rfl ?_
    refine S_bipush dX8_trayAt_5 (by decide) ?_
    refine S_icmp_ge 19 dX8_trayAt_7 (by decide) (by omega) (fun c_7 => ?_) (fun c_7 => absurd c_7 (by omega))
    refine S_null dX8_trayAt_19 ?_
    exact S_aret dX8_trayAt_20 rfl rfl ⟨rfl, rfl⟩
set_option maxRecDepth 100000 in
theorem c_valueOf {G : Ge} {M : Mem} {X : Gh} {ρ : RS} (hCl : Cl X ρ M) (t : Nat) (ht : t < thN ρ) : Ct G mi_X8_valueOf [vR ((18, t))] M (fun v' M' => v' = some (vI (ρ.2 9 t)) ∧ M' = M) := by
  refine Ct.of pl_X8_valueOf [some (vR ((18, t)))] rfl (Nat.le_of_ble_eq_true rfl) ?_
  obtain ⟨hA, hB, hC, hD, hE, hN, hG, hH, hI, hJ, hK, hL⟩ := id hCl
  refine S_aload_n dX8_valueOf_0 rfl ?_
  refine S_ifnonnull 8 dX8_valueOf_1 (by decide) (fun c_1 => ?_) (fun c_1 => absurd c_1 (by simp))
  refine S_aload_n dX8_valueOf_8 rfl ?_
  refine S_getI (v := ρ.2 9 t) fl_X8_131 dX8_valueOf_9 rfl rfl (by rw [(show M.I (18, t) 1 = ρ.2 9 t from (show M.I (18, t) 1 = ρ.2 9 t from congrFun (hD.1 t (by omega)).2.1 1))]) ?_
  exact S_iret dX8_valueOf_12 rfl (Or.inl rfl) ⟨rfl, rfl⟩
set_option maxRecDepth 100000 in
theorem c_valueOfN {G : Ge} {M : Mem}  : Ct G mi_X8_valueOf [vN] M (fun v' M' => v' = some (vI (-1)) ∧ M' = M) := by
  refine Ct.of pl_X8_valueOf [some vN] rfl (Nat.le_of_ble_eq_true rfl) ?_
  refine S_aload_n dX8_valueOf_0 rfl ?_
  refine S_ifnonnull 8 dX8_valueOf_1 (by decide) (fun c_1 => absurd c_1 (by simp)) (fun c_1 => ?_)
  refine S_iconst dX8_valueOf_4 ?_
  refine S_goto 12 dX8_valueOf_5 (by decide) ?_
  exact S_iret dX8_valueOf_12 rfl (Or.inl rfl) ⟨rfl, rfl⟩
set_option maxRecDepth 100000 in
theorem c_from {G : Ge} {M : Mem} {X : Gh} {ρ : RS} (hCl : Cl X ρ M) (l : Nat) (h : (l : Int) < ρ.1 30) : Ct G mi_X2_from [vR ((12, l))] M (fun v' M' => v' = some (vI (ρ.2 32 l)) ∧ M' = M) := by
  refine Ct.of pl_X2_from [some (vR ((12, l)))] rfl (Nat.le_of_ble_eq_true rfl) ?_
  obtain ⟨hA, hB, hC, hD, hE, hN, hG, hH, hI, hJ, hK, hL⟩ := id hCl
  refine S_aload_n dX2_from_0 rfl ?_
  refine S_getP (o := some (13, l)) fl_X2_7 dX2_from_1 rfl rfl (by rw [(show M.P (12, l) 3 = some (13, l) from congrFun (hJ.2.1 l (by omega)).2.1.2.2 3)]) ?_
  refine S_iconst dX2_from_4 ?_
  refine S_iald (v := ρ.2 32 l) 0 dX2_from_5 rfl rfl (by rw [(show M.len (13, l) = some 3 from (hJ.2.1 l (by omega)).2.2.1)]) (by omega) (by omega) (by rw [(show M.I (13, l) 0 = ρ.2 32 l from (show M.I (13, l) 0 = ρ.2 32 l from congrFun (hJ.2.1 l (by omega)).2.2.2 0))]) ?_
  exact S_iret dX2_from_6 rfl (Or.inl rfl) ⟨rfl, rfl⟩
set_option maxRecDepth 100000 in
theorem c_before {G : Ge} {M : Mem} {X : Gh} {ρ : RS} (hCl : Cl X ρ M) (l : Nat) (h : (l : Int) < ρ.1 30) : Ct G mi_X2_before [vR ((12, l))] M (fun v' M' => v' = some (vI (ρ.2 33 l)) ∧ M' = M) := by
  refine Ct.of pl_X2_before [some (vR ((12, l)))] rfl (Nat.le_of_ble_eq_true rfl) ?_
  obtain ⟨hA, hB, hC, hD, hE, hN, hG, hH, hI, hJ, hK, hL⟩ := id hCl
  refine S_aload_n dX2_before_0 rfl ?_
  refine S_getP (o := some (13, l)) fl_X2_7 dX2_before_1 rfl rfl (by rw [(show M.P (12, l) 3 = some (13, l) from congrFun (hJ.2.1 l (by omega)).2.1.2.2 3)]) ?_
  refine S_iconst dX2_before_4 ?_
  refine S_iald (v := ρ.2 33 l) 1 dX2_before_5 rfl rfl (by rw [(show M.len (13, l) = some 3 from (hJ.2.1 l (by omega)).2.2.1)]) (by omega) (by omega) (by rw [(show M.I (13, l) 1 = ρ.2 33 l from (show M.I (13, l) 1 = ρ.2 33 l from congrFun (hJ.2.1 l (by omega)).2.2.2 1))]) ?_
  exact S_iret dX2_before_6 rfl (Or.inl rfl) ⟨rfl, rfl⟩
set_option maxRecDepth 100000 in
theorem c_place {G : Ge} {M : Mem} {X : Gh} {ρ : RS} (hCl : Cl X ρ M) (l : Nat) (h : (l : Int) < ρ.1 30) : Ct G mi_X2_place [vR ((12, l))] M (fun v' M' => v' = some (vI (ρ.2 34 l)) ∧ M' = M) := by
  refine Ct.of pl_X2_place [some (vR ((12, l)))] rfl (Nat.le_of_ble_eq_true rfl) ?_
  obtain ⟨hA, hB, hC, hD, hE, hN, hG, hH, hI, hJ, hK, hL⟩ := id hCl
  refine S_aload_n dX2_place_0 rfl ?_
  refine S_getP (o := some (13, l)) fl_X2_7 dX2_place_1 rfl rfl (by rw [(show M.P (12, l) 3 = some (13, l) from congrFun (hJ.2.1 l (by omega)).2.1.2.2 3)]) ?_
  refine S_iconst dX2_place_4 ?_
  refine S_iald (v := ρ.2 34 l) 2 dX2_place_5 rfl rfl (by rw [(show M.len (13, l) = some 3 from (hJ.2.1 l (by omega)).2.2.1)]) (by omega) (by omega) (by rw [(show M.I (13, l) 2 = ρ.2 34 l from (show M.I (13, l) 2 = ρ.2 34 l from congrFun (hJ.2.1 l (by omega)).2.2.2 2))]) ?_
  exact S_iret dX2_place_6 rfl (Or.inl rfl) ⟨rfl, rfl⟩
set_option maxRecDepth 100000 in
theorem c_status {G : Ge} {M : Mem} {X : Gh} {ρ : RS} (hCl : Cl X ρ M)  : Ct G mi_X8_status [vR ((1, 0))] M (fun v' M' => v' = some (vI (ρ.1 42)) ∧ M' = M) := by
  refine Ct.of pl_X8_status [some (vR ((1, 0)))] rfl (Nat.le_of_ble_eq_true rfl) ?_
  obtain ⟨hA, hB, hC, hD, hE, hN, hG, hH, hI, hJ, hK, hL⟩ := id hCl
  refine S_aload_n dX8_status_0 rfl ?_
  refine S_getI (v := ρ.1 42) fl_X8_310 dX8_status_1 rfl rfl (by rw [(show M.I (1, 0) 10 = ρ.1 42 from (show M.I (1, 0) 10 = ρ.1 42 from congrFun hA.2.1 10))]) ?_
  exact S_iret dX8_status_4 rfl (Or.inl rfl) ⟨rfl, rfl⟩
set_option maxRecDepth 100000 in
theorem lp_keyAhead {G : Ge} {X : Gh} {ρ : RS} {M : Mem} (hCl : Cl X ρ M) (c : Int) (n : Nat) (hc : 0 ≤ c ∧ c ≤ 10007) (hn : n ≤ 1000) (hq : 3 ≤ ρ.1 0 ∧ ρ.1 0 ≤ 10007) : ∀ (d : Nat) (k : Nat), k + d = n → Sf G mi_X8_keyAhead (fun v' M' => v' = some (vI (kbV (ρ.1 0) c n)) ∧ M' = M) 5 [some (vR ((1, 0))), some (vI c), some (vI (↑n)), some (vI (kbF (ρ.1 0) c k)), some (vI (↑k))] [] M := by
  intro d
  induction d with
  | zero =>
    intro k hk
    obtain ⟨hA, hB, hC, hD, hE, hN, hG, hH, hI, hJ, hK, hL⟩ := id hCl
    obtain rfl : k = n := by omega
    have hb := kbF_bd (q := ρ.1 0) (v := c) (by omega) hc k
    refine S_iload dX8_keyAhead_5 rfl ?_
    refine S_iload_n dX8_keyAhead_7 rfl ?_
    refine S_icmp_ge 27 dX8_keyAhead_8 (by decide) (by omega) (fun c_8 => ?_) (fun c_8 => absurd c_8 (by omega))
    refine S_aload_n dX8_keyAhead_27 rfl ?_
    refine S_getP (o := some (2, 0)) fl_X8_20 dX8_keyAhead_28 rfl rfl (by rw [(show M.P (1, 0) 0 = some (2, 0) from congrFun hA.2.2 0)]) ?_
    refine S_iload_n dX8_keyAhead_31 rfl ?_
    refine S_iconst dX8_keyAhead_32 ?_
    refine S_callV (mi := mi_X8_keyAhead) [vI (kbF (ρ.1 0) c k), vI 1] ok_X0_mix ml_X8_158 dX8_keyAhead_33 rfl (by decide) rfl (by decide) rfl (Nat.le_of_ble_eq_true rfl) rfl (c_X0_mix hB (kbF (ρ.1 0) c k) 1 (by omega) (by omega) (by omega)) ?_
    rintro v' M1 ⟨rfl, hM1⟩
    rw [hM1]
    clear hM1
    exact S_iret dX8_keyAhead_36 rfl (Or.inl rfl) ⟨rfl, rfl⟩
  | succ d ih =>
    intro k hk
    obtain ⟨hA, hB, hC, hD, hE, hN, hG, hH, hI, hJ, hK, hL⟩ := id hCl
    have hb := kbF_bd (q := ρ.1 0) (v := c) (by omega) hc k
    refine S_iload dX8_keyAhead_5 rfl ?_
    refine S_iload_n dX8_keyAhead_7 rfl ?_
    refine S_icmp_ge 27 dX8_keyAhead_8 (by decide) (by omega) (fun c_8 => absurd c_8 (by omega)) (fun c_8 => ?_)
    refine S_aload_n dX8_keyAhead_11 rfl ?_
    refine S_getP (o := some (2, 0)) fl_X8_20 dX8_keyAhead_12 rfl rfl (by rw [(show M.P (1, 0) 0 = some (2, 0) from congrFun hA.2.2 0)]) ?_
    refine S_iload_n dX8_keyAhead_15 rfl ?_
    refine S_iconst dX8_keyAhead_16 ?_
    refine S_callV (mi := mi_X8_keyAhead) [vI (kbF (ρ.1 0) c k), vI 2] ok_X0_mix ml_X8_158 dX8_keyAhead_17 rfl (by decide) rfl (by decide) rfl (Nat.le_of_ble_eq_true rfl) rfl (c_X0_mix hB (kbF (ρ.1 0) c k) 2 (by omega) (by omega) (by omega)) ?_
    rintro v' M1 ⟨rfl, hM1⟩
    rw [hM1]
    clear hM1
    refine S_istore_n dX8_keyAhead_20 (by decide) ?_
    refine S_iinc dX8_keyAhead_21 rfl (by decide) ?_
    rw [show ((↑k) + 1 : Int) = ↑(k + 1) from rfl]
    refine S_goto 5 dX8_keyAhead_24 (by decide) ?_
    exact ih (k + 1) (by omega)
set_option maxRecDepth 100000 in
theorem c_keyAhead {G : Ge} {M : Mem} {X : Gh} {ρ : RS} (hCl : Cl X ρ M) (c : Int) (n : Nat) (hc : 0 ≤ c ∧ c ≤ 10007) (hn : n ≤ 1000) (hq : 3 ≤ ρ.1 0 ∧ ρ.1 0 ≤ 10007) : Ct G mi_X8_keyAhead [vR ((1, 0)), vI c, vI (↑n)] M (fun v' M' => v' = some (vI (kbV (ρ.1 0) c n)) ∧ M' = M) := by
  refine Ct.of pl_X8_keyAhead [some (vR ((1, 0))), some (vI c), some (vI (↑n)), none, none] rfl (Nat.le_of_ble_eq_true rfl) ?_
  refine S_iload_n dX8_keyAhead_0 rfl ?_
  refine S_istore_n dX8_keyAhead_1 (by decide) ?_
  refine S_iconst dX8_keyAhead_2 ?_
  refine S_istore dX8_keyAhead_3 (by decide) ?_
  exact lp_keyAhead hCl c n hc hn hq n 0 (by omega)
def opV (ρ : RS) (l : Nat) (key : Int) : Int := if mixF (ρ.1 0) key (byF ρ l key) = ρ.2 36 l then byF ρ l key else -1
theorem byF_emod (ρ : RS) (l : Nat) (key : Int) : (ρ.2 35 l - key) % 256 = byF ρ l key := by
  unfold byF
  rw [Int.tmod_eq_emod_of_nonneg (show (0 : Int) ≤ (ρ.2 35 l - key).tmod 256 + 256 by have := tmb (ρ.2 35 l - key); omega), Int.add_emod_right]
  have h := Int.tmod_def (ρ.2 35 l - key) 256
  rw [h]
  omega
set_option maxRecDepth 100000 in
theorem c_opened {G : Ge} {M : Mem} {X : Gh} {ρ : RS} (hCl : Cl X ρ M) (l : Nat) (key : Int) (h : (l : Int) < ρ.1 30) (hk : 0 ≤ key ∧ key ≤ 10007) (hq : 3 ≤ ρ.1 0 ∧ ρ.1 0 ≤ 10007) (h36 : 0 ≤ ρ.2 36 l ∧ ρ.2 36 l ≤ 10007) : Ct G mi_X8_opened [vR ((1, 0)), vR ((12, l)), vI key] M (fun v' M' => v' = some (vI (opV ρ l key)) ∧ M' = M) := by
  refine Ct.of pl_X8_opened [some (vR ((1, 0))), some (vR ((12, l))), some (vI key), none] rfl (Nat.le_of_ble_eq_true rfl) ?_
  obtain ⟨hA, hB, hC, hD, hE, hN, hG, hH, hI, hJ, hK, hL⟩ := id hCl
  have hb := byF_bd ρ l key
  have hm : 0 ≤ mixF (ρ.1 0) key (byF ρ l key) ∧ mixF (ρ.1 0) key (byF ρ l key) ≤ 10007 := mixv hq hk.1 hb.1
  refine S_aload_n dX8_opened_0 rfl ?_
  refine S_getI (v := ρ.2 35 l) fl_X8_155 dX8_opened_1 rfl rfl (by rw [(show M.I (12, l) 4 = ρ.2 35 l from (show M.I (12, l) 4 = ρ.2 35 l from congrFun (hJ.2.1 l (by omega)).2.1.2.1 4))]) ?_
  refine S_iload_n dX8_opened_4 rfl ?_
  refine S_isub dX8_opened_5 ?_
  refine S_sipush dX8_opened_6 (by decide) ?_
  refine S_iand dX8_opened_9 ?_
  rw [and255, byF_emod]
  refine S_istore_n dX8_opened_10 (by decide) ?_
  refine S_aload_n dX8_opened_11 rfl ?_
  refine S_getP (o := some (2, 0)) fl_X8_20 dX8_opened_12 rfl rfl (by rw [(show M.P (1, 0) 0 = some (2, 0) from congrFun hA.2.2 0)]) ?_
  refine S_iload_n dX8_opened_15 rfl ?_
  refine S_iload_n dX8_opened_16 rfl ?_
  refine S_callV (mi := mi_X8_opened) [vI key, vI (byF ρ l key)] ok_X0_mix ml_X8_158 dX8_opened_17 rfl (by decide) rfl (by decide) rfl (Nat.le_of_ble_eq_true rfl) rfl (c_X0_mix hB key (byF ρ l key) (by omega) (by omega) (by omega)) ?_
  rintro v' M1 ⟨rfl, hM1⟩
  rw [hM1]
  clear hM1
  refine S_aload_n dX8_opened_20 rfl ?_
  refine S_getI (v := ρ.2 36 l) fl_X8_162 dX8_opened_21 rfl rfl (by rw [(show M.I (12, l) 5 = ρ.2 36 l from (show M.I (12, l) 5 = ρ.2 36 l from congrFun (hJ.2.1 l (by omega)).2.1.2.1 5))]) ?_
  refine S_icmp_ne 31 dX8_opened_24 (by decide) (by omega) (fun c_24 => ?_) (fun c_24 => ?_)
  · refine S_iconst dX8_opened_31 ?_
    exact S_iret dX8_opened_32 rfl (Or.inl rfl) (by have e9 : opV ρ l key = (-1) := (by unfold opV; (first | rw [if_pos (by omega)] | rw [if_neg (by omega)])); rw [e9]; exact ⟨rfl, rfl⟩)
  · refine S_iload_n dX8_opened_27 rfl ?_
    refine S_goto 32 dX8_opened_28 (by decide) ?_
    exact S_iret dX8_opened_32 rfl (Or.inl rfl) (by have e9 : opV ρ l key = byF ρ l key := (by unfold opV; (first | rw [if_pos (by omega)] | rw [if_neg (by omega)])); rw [e9]; exact ⟨rfl, rfl⟩)
