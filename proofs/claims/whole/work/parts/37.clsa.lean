/-! THE CLASS: its arithmetic -/
theorem jI_andN (n m : Nat) (hm : m + 1 = 2 ^ n) (hm2 : m < 1000) (x : Int) : (jI x &&& jI ↑m).toInt = x % ↑(m + 1) := by
  have e0 : (jI ↑m).toBitVec.toNat = m := by
    show (BitVec.ofInt 32 (m : Int)).toNat = m
    rw [BitVec.toNat_ofInt]
    omega
  have e1 : (jI x).toBitVec.toNat = (x % ↑(2 ^ 32 : Nat)).toNat := by
    show (BitVec.ofInt 32 x).toNat = _
    rw [BitVec.toNat_ofInt]
  have e2 : (jI x &&& jI ↑m).toBitVec.toNat = (x % ↑(2 ^ 32 : Nat)).toNat % (m + 1) := by
    show ((jI x).toBitVec &&& (jI ↑m).toBitVec).toNat = _
    rw [BitVec.toNat_and, e0, e1, hm, ← Nat.and_two_pow_sub_one_eq_mod, ← hm, Nat.add_sub_cancel]
  have e3 : (jI x &&& jI ↑m).toInt = ((jI x &&& jI ↑m).toBitVec.toNat : Int) := by
    show (jI x &&& jI ↑m).toBitVec.toInt = _
    have h4 := Nat.mod_lt (x % ↑(2 ^ 32 : Nat)).toNat (show 0 < m + 1 by omega)
    exact BitVec.toInt_eq_toNat_of_lt (by rw [e2]; omega)
  rw [e3, e2, Int.natCast_emod, Int.toNat_of_nonneg (Int.emod_nonneg x (by decide))]
  have hn : n ≤ 32 := by
    by_cases h : n ≤ 32
    · exact h
    · have := Nat.pow_le_pow_right (show 0 < 2 by decide) (show 10 ≤ n by omega)
      omega
  have hd : ((m + 1 : Nat) : Int) ∣ ((2 ^ 32 : Nat) : Int) := by
    rw [hm]
    exact Int.natCast_dvd_natCast.mpr (Nat.pow_dvd_pow 2 hn)
  exact Int.emod_emod_of_dvd x hd
theorem and1 (x : Int) : (jI x &&& jI 1).toInt = x % 2 := jI_andN 1 1 rfl (by decide) x
theorem and255 (x : Int) : (jI x &&& jI 255).toInt = x % 256 := jI_andN 8 255 rfl (by decide) x
theorem powF_nat (q b : Nat) (hq : 2 ≤ q) : ∀ n, powF ↑q ↑b n = ↑(b ^ n % q) := by
  intro n
  induction n with
  | zero =>
    show Int.tmod 1 ↑q = _
    rfl
  | succ n ih =>
    show (powF ↑q ↑b n * ↑b).tmod ↑q = _
    rw [ih]
    show ((b ^ n % q * b % q : Nat) : Int) = _
    rw [Nat.pow_succ, Nat.mul_mod, Nat.mod_mod, ← Nat.mul_mod]
theorem powF_comm {q g : Int} (hq : 2 ≤ q) (hg : 0 ≤ g) (a b : Nat) : powF q (powF q g a) b = powF q (powF q g b) a := by
  obtain ⟨q0, rfl⟩ : ∃ n : Nat, q = ↑n := ⟨q.toNat, by omega⟩
  obtain ⟨g0, rfl⟩ : ∃ n : Nat, g = ↑n := ⟨g.toNat, by omega⟩
  rw [powF_nat q0 g0 (by omega), powF_nat q0 g0 (by omega), powF_nat q0 _ (by omega), powF_nat q0 _ (by omega), ← Nat.pow_mod, ← Nat.pow_mod, ← Nat.pow_mul, ← Nat.pow_mul, Nat.mul_comm]
theorem sq_odd (r s q k : Nat) (hk : k % 2 = 1) : (r * s % q * (s * s % q) ^ (k / 2)) % q = (r * s ^ k) % q := by
  have h1 : k = 2 * (k / 2) + 1 := by omega
  have e1 : s ^ k = s * (s * s) ^ (k / 2) := (congrArg (s ^ ·) h1).trans (by show s ^ (2 * (k / 2) + 1) = _; rw [Nat.pow_succ, Nat.pow_mul, Nat.pow_two, Nat.mul_comm])
  rw [e1, Nat.mul_mod, Nat.mod_mod, ← Nat.pow_mod, ← Nat.mul_mod, Nat.mul_assoc]
theorem sq_even (r s q k : Nat) (hk : k % 2 = 0) : (r * (s * s % q) ^ (k / 2)) % q = (r * s ^ k) % q := by
  have h1 : k = 2 * (k / 2) := by omega
  have e1 : s ^ k = (s * s) ^ (k / 2) := (congrArg (s ^ ·) h1).trans (by show s ^ (2 * (k / 2)) = _; rw [Nat.pow_mul, Nat.pow_two])
  rw [e1, Nat.mul_mod, ← Nat.pow_mod, ← Nat.mul_mod]
set_option maxRecDepth 100000 in
theorem c_X0_mix {G : Ge} {M : Mem} {ρ : RS} (hB : KB ρ M) (x y : Int) (hx : 0 ≤ x ∧ x ≤ 10007) (hy : 0 ≤ y ∧ y ≤ 10007) (hq : 0 < ρ.1 0 ∧ ρ.1 0 ≤ 10007) : Ct G mi_X0_mix [vR ((2, 0)), vI x, vI y] M (fun v' M' => v' = some (vI (mixF (ρ.1 0) x y)) ∧ M' = M) := by
  refine Ct.of pl_X0_mix [some (vR ((2, 0))), some (vI x), some (vI y)] rfl (Nat.le_of_ble_eq_true rfl) ?_
  have hm := mul_bd hx hy
  refine S_aload_n dX0_mix_0 rfl ?_
  refine S_getI (v := ρ.1 0) fl_X0_7 dX0_mix_1 rfl rfl (by rw [(show M.I (2, 0) 0 = ρ.1 0 from congrFun hB.2.1 0)]) ?_
  refine S_if_le 31 dX0_mix_4 (by decide) (by omega) (fun c_4 => absurd c_4 (by omega)) (fun c_4 => ?_)
  refine S_bipush dX0_mix_7 (by decide) ?_
  refine S_iload_n dX0_mix_9 rfl ?_
  refine S_imul dX0_mix_10 ?_
  refine S_bipush dX0_mix_11 (by decide) ?_
  refine S_iload_n dX0_mix_13 rfl ?_
  refine S_imul dX0_mix_14 ?_
  refine S_iadd dX0_mix_15 ?_
  refine S_iload_n dX0_mix_16 rfl ?_
  refine S_iload_n dX0_mix_17 rfl ?_
  refine S_imul dX0_mix_18 ?_
  refine S_iadd dX0_mix_19 ?_
  refine S_bipush dX0_mix_20 (by decide) ?_
  refine S_iadd dX0_mix_22 ?_
  refine S_aload_n dX0_mix_23 rfl ?_
  refine S_getI (v := ρ.1 0) fl_X0_7 dX0_mix_24 rfl rfl (by rw [(show M.I (2, 0) 0 = ρ.1 0 from congrFun hB.2.1 0)]) ?_
  refine S_irem dX0_mix_27 (by omega) (by omega) ?_
  refine S_goto 32 dX0_mix_28 (by decide) ?_
  exact S_iret dX0_mix_32 rfl (Or.inl rfl) ⟨rfl, rfl⟩
set_option maxRecDepth 100000 in
theorem lp_X0_power {G : Ge} (q b n : Nat) {ρ : RS} {M : Mem} (hB : KB ρ M) (hq : ρ.1 0 = ↑q) (hq2 : 3 ≤ q ∧ q ≤ 10007) (v : Nat) : ∀ (d : Nat) (k r s : Nat), k ≤ d ∧ k ≤ 100000 → r < q → s < q → (r * s ^ k) % q = v → Sf G mi_X0_power (fun v' M' => v' = some (vI ↑v) ∧ M' = M) 22 [some (vR ((2, 0))), some (vI (↑b)), some (vI (↑n)), some (vI (↑r)), some (vI (↑s)), some (vI (↑k))] [] M := by
  intro d
  induction d with
  | zero =>
    intro k r s hk hr hs hv
    obtain rfl : k = 0 := by omega
    have hvr : v = r := by rw [← hv, Nat.pow_zero, Nat.mul_one, Nat.mod_eq_of_lt hr]
    subst hvr
    refine S_iload dX0_power_22 rfl ?_
    refine S_if_le 66 dX0_power_24 (by decide) (by omega) (fun c_24 => ?_) (fun c_24 => absurd c_24 (by omega))
    refine S_iload_n dX0_power_66 rfl ?_
    exact S_iret dX0_power_67 rfl (Or.inl rfl) ⟨rfl, rfl⟩
  | succ d ih =>
    intro k r s hk hr hs hv
    have hrs : r * s ≤ 10007 * 10007 := Nat.mul_le_mul (by omega) (by omega)
    have hss : s * s ≤ 10007 * 10007 := Nat.mul_le_mul (by omega) (by omega)
    by_cases hk0 : k = 0
    · subst hk0
      exact ih 0 r s (by omega) hr hs hv
    refine S_iload dX0_power_22 rfl ?_
    refine S_if_le 66 dX0_power_24 (by decide) (by omega) (fun c_24 => absurd c_24 (by omega)) (fun c_24 => ?_)
    refine S_iload dX0_power_27 rfl ?_
    refine S_iconst dX0_power_29 ?_
    refine S_iand dX0_power_30 ?_
    rw [and1, show ((k : Int) % 2) = ↑(k % 2) from rfl]
    refine S_iconst dX0_power_31 ?_
    refine S_icmp_ne 45 dX0_power_32 (by decide) (by omega) (fun c_32 => ?_) (fun c_32 => ?_)
    · refine S_iload dX0_power_45 rfl ?_
      refine S_iload dX0_power_47 rfl ?_
      refine S_imul dX0_power_49 ?_
      rw [show (↑s * ↑s : Int) = ↑(s * s) from rfl]
      refine S_aload_n dX0_power_50 rfl ?_
      refine S_getI (v := ↑q) fl_X0_7 dX0_power_51 rfl rfl (by rw [(show M.I (2, 0) 0 = ↑q from (congrFun hB.2.1 0).trans hq)]) ?_
      refine S_irem dX0_power_54 (by omega) (by omega) ?_
      rw [show Int.tmod (↑(s * s)) (↑q) = (↑(s * s % q) : Int) from rfl]
      refine S_istore dX0_power_55 (by decide) ?_
      refine S_iload dX0_power_57 rfl ?_
      refine S_iconst dX0_power_59 ?_
      refine S_ishr1 dX0_power_60 (by omega) ?_
      rw [show (↑k) / 2 = (↑(k / 2) : Int) from rfl]
      refine S_istore dX0_power_61 (by decide) ?_
      refine S_goto 22 dX0_power_63 (by decide) ?_
      exact ih (k / 2) r (s * s % q) (by omega) hr (Nat.mod_lt _ (by omega)) ((sq_even r s q k (by omega)).trans hv)
    · refine S_iload_n dX0_power_35 rfl ?_
      refine S_iload dX0_power_36 rfl ?_
      refine S_imul dX0_power_38 ?_
      rw [show (↑r * ↑s : Int) = ↑(r * s) from rfl]
      refine S_aload_n dX0_power_39 rfl ?_
      refine S_getI (v := ↑q) fl_X0_7 dX0_power_40 rfl rfl (by rw [(show M.I (2, 0) 0 = ↑q from (congrFun hB.2.1 0).trans hq)]) ?_
      refine S_irem dX0_power_43 (by omega) (by omega) ?_
      rw [show Int.tmod (↑(r * s)) (↑q) = (↑(r * s % q) : Int) from rfl]
      refine S_istore_n dX0_power_44 (by decide) ?_
      refine S_iload dX0_power_45 rfl ?_
      refine S_iload dX0_power_47 rfl ?_
      refine S_imul dX0_power_49 ?_
      rw [show (↑s * ↑s : Int) = ↑(s * s) from rfl]
      refine S_aload_n dX0_power_50 rfl ?_
      refine S_getI (v := ↑q) fl_X0_7 dX0_power_51 rfl rfl (by rw [(show M.I (2, 0) 0 = ↑q from (congrFun hB.2.1 0).trans hq)]) ?_
      refine S_irem dX0_power_54 (by omega) (by omega) ?_
      rw [show Int.tmod (↑(s * s)) (↑q) = (↑(s * s % q) : Int) from rfl]
      refine S_istore dX0_power_55 (by decide) ?_
      refine S_iload dX0_power_57 rfl ?_
      refine S_iconst dX0_power_59 ?_
      refine S_ishr1 dX0_power_60 (by omega) ?_
      rw [show (↑k) / 2 = (↑(k / 2) : Int) from rfl]
      refine S_istore dX0_power_61 (by decide) ?_
      refine S_goto 22 dX0_power_63 (by decide) ?_
      exact ih (k / 2) (r * s % q) (s * s % q) (by omega) (Nat.mod_lt _ (by omega)) (Nat.mod_lt _ (by omega)) ((sq_odd r s q k (by omega)).trans hv)
set_option maxRecDepth 100000 in
theorem c_X0_power {G : Ge} {M : Mem} (q b n : Nat) {ρ : RS} (hB : KB ρ M) (hq : ρ.1 0 = ↑q) (hq2 : 3 ≤ q ∧ q ≤ 10007) (hb : b ≤ 10007) (hn : n ≤ 100000) : Ct G mi_X0_power [vR ((2, 0)), vI (↑b), vI (↑n)] M (fun v' M' => v' = some (vI (powF (ρ.1 0) ↑b n)) ∧ M' = M) := by
  refine Ct.of pl_X0_power [some (vR ((2, 0))), some (vI (↑b)), some (vI (↑n)), none, none, none] rfl (Nat.le_of_ble_eq_true rfl) ?_
  rw [hq, powF_nat q b (by omega)]
  refine S_aload_n dX0_power_0 rfl ?_
  refine S_getI (v := ↑q) fl_X0_7 dX0_power_1 rfl rfl (by rw [(show M.I (2, 0) 0 = ↑q from (congrFun hB.2.1 0).trans hq)]) ?_
  refine S_if_gt 9 dX0_power_4 (by decide) (by omega) (fun c_4 => ?_) (fun c_4 => absurd c_4 (by omega))
  refine S_iconst dX0_power_9 ?_
  refine S_istore_n dX0_power_10 (by decide) ?_
  refine S_iload_n dX0_power_11 rfl ?_
  refine S_aload_n dX0_power_12 rfl ?_
  refine S_getI (v := ↑q) fl_X0_7 dX0_power_13 rfl rfl (by rw [(show M.I (2, 0) 0 = ↑q from (congrFun hB.2.1 0).trans hq)]) ?_
  refine S_irem dX0_power_16 (by omega) (by omega) ?_
  rw [show Int.tmod (↑b) (↑q) = (↑(b % q) : Int) from rfl]
  refine S_istore dX0_power_17 (by decide) ?_
  refine S_iload_n dX0_power_19 rfl ?_
  refine S_istore dX0_power_20 (by decide) ?_
  exact lp_X0_power q b n hB hq hq2 (b ^ n % q) n n 1 (b % q) ⟨Nat.le_refl _, hn⟩ (by omega) (Nat.mod_lt _ (by omega)) (by rw [Nat.one_mul, ← Nat.pow_mod])
set_option maxRecDepth 100000 in
theorem c_X0_publicOf {G : Ge} {M : Mem} (q g n : Nat) {ρ : RS} (hB : KB ρ M) (hq : ρ.1 0 = ↑q) (hq2 : 3 ≤ q ∧ q ≤ 10007) (hg : ρ.1 1 = ↑g) (hg2 : g ≤ 10007) (hn : n ≤ 100000) : Ct G mi_X0_publicOf [vR ((2, 0)), vI (↑n)] M (fun v' M' => v' = some (vI (powF (ρ.1 0) (ρ.1 1) n)) ∧ M' = M) := by
  refine Ct.of pl_X0_publicOf [some (vR ((2, 0))), some (vI (↑n))] rfl (Nat.le_of_ble_eq_true rfl) ?_
  rw [hg]
  refine S_aload_n dX0_publicOf_0 rfl ?_
  refine S_aload_n dX0_publicOf_1 rfl ?_
  refine S_getI (v := ↑g) fl_X0_13 dX0_publicOf_2 rfl rfl (by rw [(show M.I (2, 0) 1 = ↑g from (congrFun hB.2.1 1).trans hg)]) ?_
  refine S_iload_n dX0_publicOf_5 rfl ?_
  refine S_callV (mi := mi_X0_publicOf) [vI (↑g), vI (↑n)] ok_X0_power ml_X0_16 dX0_publicOf_6 rfl (by decide) rfl (by decide) rfl (Nat.le_of_ble_eq_true rfl) rfl (c_X0_power q g n hB hq hq2 hg2 hn) ?_
  rintro v' M1 ⟨rfl, hM1⟩
  rw [hM1]
  clear hM1
  exact S_iret dX0_publicOf_9 rfl (Or.inl rfl) ⟨rfl, rfl⟩
