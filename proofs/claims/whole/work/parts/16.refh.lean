/-! THE REFERENCE: its calls, the simple ones -/
def primeF (ρ : RS) (q g : Int) : Int × RS := if ¬ (3 ≤ q ∧ q ≤ 10007) ∨ ¬ (2 ≤ g ∧ g ≤ q - 1) then (-1, ρ.setS 42 1) else if 0 < ρ.1 4 then (-1, ρ.setS 42 3) else (q, ((ρ.setS 0 q).setS 1 g).setS 42 0)
def limitsF (ρ : RS) (m li : Int) : Int × RS := if ¬ (0 ≤ m ∧ m ≤ 12) ∨ ¬ (0 ≤ li ∧ li ≤ 300) then (-1, ρ.setS 42 1) else (1, (expR ((ρ.setS 2 m).setS 3 li)).setS 42 0)
def pairF (ρ : RS) : Int × RS := if ρ.1 4 = 6 then (-1, ρ.setS 42 2) else (ρ.1 4 + 1 - 1, (ρ.setS 4 (ρ.1 4 + 1)).setS 42 0)
def secretF (ρ : RS) (e s : Int) : Int × RS := if ¬ (0 ≤ e ∧ e ≤ 2 * ρ.1 4 - 1) ∨ ¬ (1 ≤ s ∧ s ≤ 10000) then (-1, ρ.setS 42 1) else if ρ.2 12 e.toNat = 12 then (-1, ρ.setS 42 2) else
  (ρ.2 12 e.toNat + 1, (((newT ρ 3 (-1) (-1) s).setA 13 (12 * e.toNat + (ρ.2 12 e.toNat).toNat) (thN ρ)).setA 12 e.toNat (ρ.2 12 e.toNat + 1)).setS 42 0)
def alterF (ρ : RS) (l m : Int) : Int × RS := if ¬ (0 ≤ l ∧ l ≤ ρ.1 30 - 1) ∨ ¬ (1 ≤ m ∧ m ≤ 255) then (-1, ρ.setS 42 1) else (1, (ρ.setA 35 l.toNat (jI (ρ.2 35 l.toNat) ^^^ jI m).toInt).setS 42 0)
theorem r_X9_prime {G : Ge} {ρ : RS} (q g : Int) (q32 : -2147483648 ≤ q ∧ q < 2147483648) (g32 : -2147483648 ≤ g ∧ g < 2147483648) (hp : 0 ≤ ρ.1 4 ∧ ρ.1 4 ≤ 6) : RC G mi_X9_prime [vR ((30, 0)), vI q, vI g] ρ (some (vI (primeF ρ q g).1)) ((primeF ρ q g).2) := by
  intro M hR
  have hS := SameR.rf M
  refine Ct.of pl_X9_prime [some (vR ((30, 0))), some (vI q), some (vI g)] rfl (Nat.le_of_ble_eq_true rfl) ?_
  refine S_iload_n dX9_prime_0 rfl ?_
  refine S_iconst dX9_prime_1 ?_
  refine S_sipush dX9_prime_2 (by decide) ?_
  refine S_callS (mi := mi_X9_prime) [vI q, vI 3, vI 10007] ok_X9_in ml_X9_138 dX9_prime_5 (by decide) rfl (Nat.le_of_ble_eq_true rfl) rfl (r_X9_in (ρ := ρ) q 3 10007 (by omega) (by omega) (by omega) M hR) ?_
  rintro v' M1 ⟨⟨rfl, b_5⟩ | ⟨rfl, b_5⟩, hR1, hS1'⟩
  · have hS1 := hS.trans hS1'
    refine S_if_eq 22 dX9_prime_8 (by decide) (by omega) (fun c_8 => absurd c_8 (by omega)) (fun c_8 => ?_)
    refine S_iload_n dX9_prime_11 rfl ?_
    refine S_iconst dX9_prime_12 ?_
    refine S_iload_n dX9_prime_13 rfl ?_
    refine S_iconst dX9_prime_14 ?_
    refine S_isub dX9_prime_15 ?_
    refine S_callS (mi := mi_X9_prime) [vI g, vI 2, vI (q - 1)] ok_X9_in ml_X9_138 dX9_prime_16 (by decide) rfl (Nat.le_of_ble_eq_true rfl) rfl (r_X9_in (ρ := ρ) g 2 (q - 1) (by omega) (by omega) (by omega) M1 hR1) ?_
    rintro v' M2 ⟨⟨rfl, b_16⟩ | ⟨rfl, b_16⟩, hR2, hS2'⟩
    · have hS2 := hS1.trans hS2'
      refine S_if_ne 28 dX9_prime_19 (by decide) (by omega) (fun c_19 => ?_) (fun c_19 => absurd c_19 (by omega))
      refine S_aload_n dX9_prime_28 rfl ?_
      refine S_getI (v := ρ.1 4) fl_X9_135 dX9_prime_29 rfl rfl (hR2.s 4) ?_
      refine S_if_le 41 dX9_prime_32 (by decide) (by omega) (fun c_32 => ?_) (fun c_32 => ?_)
      · refine S_aload_n dX9_prime_41 rfl ?_
        refine S_iload_n dX9_prime_42 rfl ?_
        refine R_put fl_X9_7 dX9_prime_43 rfl rfl rfl hR2 hS2 (fun M3 hR3 hS3 => ?_)
        refine S_aload_n dX9_prime_46 rfl ?_
        refine S_iload_n dX9_prime_47 rfl ?_
        refine R_put fl_X9_13 dX9_prime_48 rfl rfl rfl hR3 hS3 (fun M4 hR4 hS4 => ?_)
        refine S_aload_n dX9_prime_51 rfl ?_
        refine S_iload_n dX9_prime_52 rfl ?_
        refine S_callV (mi := mi_X9_prime) [vI q] ok_X9_done ml_X9_166 dX9_prime_53 rfl (by decide) rfl (by decide) rfl (Nat.le_of_ble_eq_true rfl) rfl (r_X9_done (ρ := ((ρ.setS 0 q).setS 1 g)) q M4 hR4) ?_
        rintro v' M5 ⟨rfl, hR5, hS5'⟩
        have hS5 := hS4.trans hS5'
        exact S_iret dX9_prime_56 rfl (Or.inl rfl) (by have e9 : primeF ρ q g = ((q : Int), (((ρ.setS 0 q).setS 1 g).setS 42 0)) := (by unfold primeF; (repeat (first | rw [if_pos (by omega)] | rw [if_neg (by omega)])); try rfl); rw [e9]; exact ⟨rfl, hR5, hS5⟩)
      · refine S_aload_n dX9_prime_35 rfl ?_
        refine S_iconst dX9_prime_36 ?_
        refine S_callV (mi := mi_X9_prime) [vI 3] ok_X9_refused ml_X9_163 dX9_prime_37 rfl (by decide) rfl (by decide) rfl (Nat.le_of_ble_eq_true rfl) rfl (r_X9_refused (ρ := ρ) 3 M2 hR2) ?_
        rintro v' M6 ⟨rfl, hR6, hS6'⟩
        have hS6 := hS2.trans hS6'
        exact S_iret dX9_prime_40 rfl (Or.inl rfl) (by have e9 : primeF ρ q g = (((-1) : Int), (ρ.setS 42 3)) := (by unfold primeF; (repeat (first | rw [if_pos (by omega)] | rw [if_neg (by omega)])); try rfl); rw [e9]; exact ⟨rfl, hR6, hS6⟩)
    · have hS2 := hS1.trans hS2'
      refine S_if_ne 28 dX9_prime_19 (by decide) (by omega) (fun c_19 => absurd c_19 (by omega)) (fun c_19 => ?_)
      refine S_aload_n dX9_prime_22 rfl ?_
      refine S_iconst dX9_prime_23 ?_
      refine S_callV (mi := mi_X9_prime) [vI 1] ok_X9_refused ml_X9_163 dX9_prime_24 rfl (by decide) rfl (by decide) rfl (Nat.le_of_ble_eq_true rfl) rfl (r_X9_refused (ρ := ρ) 1 M2 hR2) ?_
      rintro v' M7 ⟨rfl, hR7, hS7'⟩
      have hS7 := hS2.trans hS7'
      exact S_iret dX9_prime_27 rfl (Or.inl rfl) (by have e9 : primeF ρ q g = (((-1) : Int), (ρ.setS 42 1)) := (by unfold primeF; (repeat (first | rw [if_pos (by omega)] | rw [if_neg (by omega)])); try rfl); rw [e9]; exact ⟨rfl, hR7, hS7⟩)
  · have hS1 := hS.trans hS1'
    refine S_if_eq 22 dX9_prime_8 (by decide) (by omega) (fun c_8 => ?_) (fun c_8 => absurd c_8 (by omega))
    refine S_aload_n dX9_prime_22 rfl ?_
    refine S_iconst dX9_prime_23 ?_
    refine S_callV (mi := mi_X9_prime) [vI 1] ok_X9_refused ml_X9_163 dX9_prime_24 rfl (by decide) rfl (by decide) rfl (Nat.le_of_ble_eq_true rfl) rfl (r_X9_refused (ρ := ρ) 1 M1 hR1) ?_
    rintro v' M8 ⟨rfl, hR8, hS8'⟩
    have hS8 := hS1.trans hS8'
    exact S_iret dX9_prime_27 rfl (Or.inl rfl) (by have e9 : primeF ρ q g = (((-1) : Int), (ρ.setS 42 1)) := (by unfold primeF; (repeat (first | rw [if_pos (by omega)] | rw [if_neg (by omega)])); try rfl); rw [e9]; exact ⟨rfl, hR8, hS8⟩)
theorem r_X9_limits {G : Ge} {ρ : RS} (m li : Int) (m32 : -2147483648 ≤ m ∧ m < 2147483648) (li32 : -2147483648 ≤ li ∧ li < 2147483648) (hK : KOK ρ) (hl : 0 ≤ ρ.1 30 ∧ ρ.1 30 ≤ 300) : RC G mi_X9_limits [vR ((30, 0)), vI m, vI li] ρ (some (vI (limitsF ρ m li).1)) ((limitsF ρ m li).2) := by
  intro M hR
  have hS := SameR.rf M
  refine Ct.of pl_X9_limits [some (vR ((30, 0))), some (vI m), some (vI li)] rfl (Nat.le_of_ble_eq_true rfl) ?_
  refine S_iload_n dX9_limits_0 rfl ?_
  refine S_iconst dX9_limits_1 ?_
  refine S_bipush dX9_limits_2 (by decide) ?_
  refine S_callS (mi := mi_X9_limits) [vI m, vI 0, vI 12] ok_X9_in ml_X9_138 dX9_limits_4 (by decide) rfl (Nat.le_of_ble_eq_true rfl) rfl (r_X9_in (ρ := ρ) m 0 12 (by omega) (by omega) (by omega) M hR) ?_
  rintro v' M1 ⟨⟨rfl, b_4⟩ | ⟨rfl, b_4⟩, hR1, hS1'⟩
  · have hS1 := hS.trans hS1'
    refine S_if_eq 21 dX9_limits_7 (by decide) (by omega) (fun c_7 => absurd c_7 (by omega)) (fun c_7 => ?_)
    refine S_iload_n dX9_limits_10 rfl ?_
    refine S_iconst dX9_limits_11 ?_
    refine S_sipush dX9_limits_12 (by decide) ?_
    refine S_callS (mi := mi_X9_limits) [vI li, vI 0, vI 300] ok_X9_in ml_X9_138 dX9_limits_15 (by decide) rfl (Nat.le_of_ble_eq_true rfl) rfl (r_X9_in (ρ := ρ) li 0 300 (by omega) (by omega) (by omega) M1 hR1) ?_
    rintro v' M2 ⟨⟨rfl, b_15⟩ | ⟨rfl, b_15⟩, hR2, hS2'⟩
    · have hS2 := hS1.trans hS2'
      refine S_if_ne 27 dX9_limits_18 (by decide) (by omega) (fun c_18 => ?_) (fun c_18 => absurd c_18 (by omega))
      refine S_aload_n dX9_limits_27 rfl ?_
      refine S_iload_n dX9_limits_28 rfl ?_
      refine R_put fl_X9_16 dX9_limits_29 rfl rfl rfl hR2 hS2 (fun M3 hR3 hS3 => ?_)
      refine S_aload_n dX9_limits_32 rfl ?_
      refine S_iload_n dX9_limits_33 rfl ?_
      refine R_put fl_X9_19 dX9_limits_34 rfl rfl rfl hR3 hS3 (fun M4 hR4 hS4 => ?_)
      refine S_aload_n dX9_limits_37 rfl ?_
      refine S_callV (mi := mi_X9_limits) [] ok_X9_expire ml_X9_169 dX9_limits_38 rfl (by decide) rfl (by decide) rfl (Nat.le_of_ble_eq_true rfl) rfl (r_X9_expire (ρ := ((ρ.setS 2 m).setS 3 li)) (show KOK _ from hK) (show 0 ≤ ρ.1 30 ∧ ρ.1 30 ≤ 300 from hl) (show 0 ≤ li ∧ li ≤ 300 from by omega) M4 hR4) ?_
      rintro v' M5 ⟨rfl, hR5, hS5'⟩
      have hS5 := hS4.trans hS5'
      refine S_aload_n dX9_limits_41 rfl ?_
      refine S_iconst dX9_limits_42 ?_
      refine S_callV (mi := mi_X9_limits) [vI 1] ok_X9_done ml_X9_166 dX9_limits_43 rfl (by decide) rfl (by decide) rfl (Nat.le_of_ble_eq_true rfl) rfl (r_X9_done (ρ := (expR ((ρ.setS 2 m).setS 3 li))) 1 M5 hR5) ?_
      rintro v' M6 ⟨rfl, hR6, hS6'⟩
      have hS6 := hS5.trans hS6'
      exact S_iret dX9_limits_46 rfl (Or.inl rfl) (by have e9 : limitsF ρ m li = ((1 : Int), ((expR ((ρ.setS 2 m).setS 3 li)).setS 42 0)) := (by unfold limitsF; (repeat (first | rw [if_pos (by omega)] | rw [if_neg (by omega)])); try rfl); rw [e9]; exact ⟨rfl, hR6, hS6⟩)
    · have hS2 := hS1.trans hS2'
      refine S_if_ne 27 dX9_limits_18 (by decide) (by omega) (fun c_18 => absurd c_18 (by omega)) (fun c_18 => ?_)
      refine S_aload_n dX9_limits_21 rfl ?_
      refine S_iconst dX9_limits_22 ?_
      refine S_callV (mi := mi_X9_limits) [vI 1] ok_X9_refused ml_X9_163 dX9_limits_23 rfl (by decide) rfl (by decide) rfl (Nat.le_of_ble_eq_true rfl) rfl (r_X9_refused (ρ := ρ) 1 M2 hR2) ?_
      rintro v' M7 ⟨rfl, hR7, hS7'⟩
      have hS7 := hS2.trans hS7'
      exact S_iret dX9_limits_26 rfl (Or.inl rfl) (by have e9 : limitsF ρ m li = (((-1) : Int), (ρ.setS 42 1)) := (by unfold limitsF; (repeat (first | rw [if_pos (by omega)] | rw [if_neg (by omega)])); try rfl); rw [e9]; exact ⟨rfl, hR7, hS7⟩)
  · have hS1 := hS.trans hS1'
    refine S_if_eq 21 dX9_limits_7 (by decide) (by omega) (fun c_7 => ?_) (fun c_7 => absurd c_7 (by omega))
    refine S_aload_n dX9_limits_21 rfl ?_
    refine S_iconst dX9_limits_22 ?_
    refine S_callV (mi := mi_X9_limits) [vI 1] ok_X9_refused ml_X9_163 dX9_limits_23 rfl (by decide) rfl (by decide) rfl (Nat.le_of_ble_eq_true rfl) rfl (r_X9_refused (ρ := ρ) 1 M1 hR1) ?_
    rintro v' M8 ⟨rfl, hR8, hS8'⟩
    have hS8 := hS1.trans hS8'
    exact S_iret dX9_limits_26 rfl (Or.inl rfl) (by have e9 : limitsF ρ m li = (((-1) : Int), (ρ.setS 42 1)) := (by unfold limitsF; (repeat (first | rw [if_pos (by omega)] | rw [if_neg (by omega)])); try rfl); rw [e9]; exact ⟨rfl, hR8, hS8⟩)
theorem r_X9_pair {G : Ge} {ρ : RS} (hp : 0 ≤ ρ.1 4 ∧ ρ.1 4 ≤ 6) : RC G mi_X9_pair [vR ((30, 0))] ρ (some (vI (pairF ρ).1)) ((pairF ρ).2) := by
  intro M hR
  have hS := SameR.rf M
  refine Ct.of pl_X9_pair [some (vR ((30, 0)))] rfl (Nat.le_of_ble_eq_true rfl) ?_
  refine S_aload_n dX9_pair_0 rfl ?_
  refine S_getI (v := ρ.1 4) fl_X9_135 dX9_pair_1 rfl rfl (hR.s 4) ?_
  refine S_bipush dX9_pair_4 (by decide) ?_
  refine S_icmp_ne 15 dX9_pair_6 (by decide) (by omega) (fun c_6 => ?_) (fun c_6 => ?_)
  · refine S_aload_n dX9_pair_15 rfl ?_
    refine S_dup dX9_pair_16 ?_
    refine S_getI (v := ρ.1 4) fl_X9_135 dX9_pair_17 rfl rfl (hR.s 4) ?_
    refine S_iconst dX9_pair_20 ?_
    refine S_iadd dX9_pair_21 ?_
    refine R_put fl_X9_135 dX9_pair_22 rfl rfl rfl hR hS (fun M1 hR1 hS1 => ?_)
    refine S_aload_n dX9_pair_25 rfl ?_
    refine S_aload_n dX9_pair_26 rfl ?_
    refine S_getI (v := (ρ.1 4) + 1) fl_X9_135 dX9_pair_27 rfl rfl (hR1.s 4) ?_
    refine S_iconst dX9_pair_30 ?_
    refine S_isub dX9_pair_31 ?_
    refine S_callV (mi := mi_X9_pair) [vI (((ρ.1 4) + 1) - 1)] ok_X9_done ml_X9_166 dX9_pair_32 rfl (by decide) rfl (by decide) rfl (Nat.le_of_ble_eq_true rfl) rfl (r_X9_done (ρ := (ρ.setS 4 ((ρ.1 4) + 1))) (((ρ.1 4) + 1) - 1) M1 hR1) ?_
    rintro v' M2 ⟨rfl, hR2, hS2'⟩
    have hS2 := hS1.trans hS2'
    exact S_iret dX9_pair_35 rfl (Or.inl rfl) (by have e9 : pairF ρ = ((((ρ.1 4) + 1) - 1 : Int), ((ρ.setS 4 ((ρ.1 4) + 1)).setS 42 0)) := (by unfold pairF; (repeat (first | rw [if_pos (by omega)] | rw [if_neg (by omega)])); try rfl); rw [e9]; exact ⟨rfl, hR2, hS2⟩)
  · refine S_aload_n dX9_pair_9 rfl ?_
    refine S_iconst dX9_pair_10 ?_
    refine S_callV (mi := mi_X9_pair) [vI 2] ok_X9_refused ml_X9_163 dX9_pair_11 rfl (by decide) rfl (by decide) rfl (Nat.le_of_ble_eq_true rfl) rfl (r_X9_refused (ρ := ρ) 2 M hR) ?_
    rintro v' M3 ⟨rfl, hR3, hS3'⟩
    have hS3 := hS.trans hS3'
    exact S_iret dX9_pair_14 rfl (Or.inl rfl) (by have e9 : pairF ρ = (((-1) : Int), (ρ.setS 42 2)) := (by unfold pairF; (repeat (first | rw [if_pos (by omega)] | rw [if_neg (by omega)])); try rfl); rw [e9]; exact ⟨rfl, hR3, hS3⟩)
theorem r_X9_secret {G : Ge} {ρ : RS} (e s : Int) (e32 : -2147483648 ≤ e ∧ e < 2147483648) (s32 : -2147483648 ≤ s ∧ s < 2147483648) (hp : 0 ≤ ρ.1 4 ∧ ρ.1 4 ≤ 6) (N : Nat) (h : ThOK ρ N) (hN : N < 8000) (h12 : ∀ i, i < 12 → ∃ n : Nat, n ≤ 12 ∧ ρ.2 12 i = ↑n) : RC G mi_X9_secret [vR ((30, 0)), vI e, vI s] ρ (some (vI (secretF ρ e s).1)) ((secretF ρ e s).2) := by
  intro M hR
  have hS := SameR.rf M
  refine Ct.of pl_X9_secret [some (vR ((30, 0))), some (vI e), some (vI s)] rfl (Nat.le_of_ble_eq_true rfl) ?_
  obtain ⟨e5, l8, hT⟩ := h.th hN
  have hq : 0 < ρ.1 0 ∧ ρ.1 0 ≤ 10007 := by have := h.2.2.1; omega
  have hg := h.2.2.2.1
  refine S_aload_n dX9_secret_0 rfl ?_
  refine S_iload_n dX9_secret_1 rfl ?_
  refine S_callV (mi := mi_X9_secret) [vI e] ok_X9_isEnd ml_X9_172 dX9_secret_2 rfl (by decide) rfl (by decide) rfl (Nat.le_of_ble_eq_true rfl) rfl (r_X9_isEnd (ρ := ρ) e (by omega) (show 0 ≤ ρ.1 4 ∧ ρ.1 4 ≤ 6 from by omega) M hR) ?_
  rintro v' M1 ⟨⟨rfl, b_2⟩ | ⟨rfl, b_2⟩, hR1, hS1'⟩
  · have hS1 := hS.trans hS1'
    refine S_if_eq 19 dX9_secret_5 (by decide) (by omega) (fun c_5 => absurd c_5 (by omega)) (fun c_5 => ?_)
    refine S_iload_n dX9_secret_8 rfl ?_
    refine S_iconst dX9_secret_9 ?_
    refine S_sipush dX9_secret_10 (by decide) ?_
    refine S_callS (mi := mi_X9_secret) [vI s, vI 1, vI 10000] ok_X9_in ml_X9_138 dX9_secret_13 (by decide) rfl (Nat.le_of_ble_eq_true rfl) rfl (r_X9_in (ρ := ρ) s 1 10000 (by omega) (by omega) (by omega) M1 hR1) ?_
    rintro v' M2 ⟨⟨rfl, b_13⟩ | ⟨rfl, b_13⟩, hR2, hS2'⟩
    · have hS2 := hS1.trans hS2'
      obtain ⟨i, rfl⟩ : ∃ i : Nat, e = ↑i := ⟨e.toNat, by omega⟩
      obtain ⟨n, hn, hr⟩ := h12 i (by omega)
      refine S_if_ne 25 dX9_secret_16 (by decide) (by omega) (fun c_16 => ?_) (fun c_16 => absurd c_16 (by omega))
      refine S_aload_n dX9_secret_25 rfl ?_
      refine S_getP fl_X9_42 dX9_secret_26 rfl rfl (hR2.p 12 rfl) ?_
      refine S_iload_n dX9_secret_29 rfl ?_
      refine R_ald (v := ↑n) i hR2 dX9_secret_30 rfl rfl (by omega) (show _ < 12 from by omega) hr ?_
      refine S_bipush dX9_secret_31 (by decide) ?_
      refine S_icmp_ne 42 dX9_secret_33 (by decide) (by omega) (fun c_33 => ?_) (fun c_33 => ?_)
      · refine S_aload_n dX9_secret_42 rfl ?_
        refine S_getP fl_X9_45 dX9_secret_43 rfl rfl (hR2.p 13 rfl) ?_
        refine S_bipush dX9_secret_46 (by decide) ?_
        refine S_iload_n dX9_secret_48 rfl ?_
        refine S_imul dX9_secret_49 ?_
        refine S_aload_n dX9_secret_50 rfl ?_
        refine S_getP fl_X9_42 dX9_secret_51 rfl rfl (hR2.p 12 rfl) ?_
        refine S_iload_n dX9_secret_54 rfl ?_
        refine R_ald (v := ↑n) i hR2 dX9_secret_55 rfl rfl (by omega) (show _ < 12 from by omega) hr ?_
        refine S_iadd dX9_secret_56 ?_
        refine S_aload_n dX9_secret_57 rfl ?_
        refine S_iconst dX9_secret_58 ?_
        refine S_iconst dX9_secret_59 ?_
        refine S_iconst dX9_secret_60 ?_
        refine S_iload_n dX9_secret_61 rfl ?_
        refine S_callV (mi := mi_X9_secret) [vI 3, vI ((-1)), vI ((-1)), vI s] ok_X9_thing ml_X9_156 dX9_secret_62 rfl (by decide) rfl (by decide) rfl (Nat.le_of_ble_eq_true rfl) rfl (r_X9_thing (ρ := ρ) 3 ((-1)) ((-1)) s e5 l8 (by omega) (by omega) (by omega) hT M2 hR2) ?_
        rintro v' M3 ⟨rfl, hR3, hS3'⟩
        have hS3 := hS2.trans hS3'
        rw [thR_new (show thI ρ 3 (-1) (-1) = thN ρ from if_pos rfl)] at hR3
        rw [show thI ρ 3 (-1) (-1) = thN ρ from if_pos rfl]
        refine R_ast (((12 * i) + n)) dX9_secret_65 rfl rfl (by omega) (show _ < 144 from by omega) hR3 hS3 (fun M4 hR4 hS4 => ?_)
        refine S_aload_n dX9_secret_66 rfl ?_
        refine S_getP fl_X9_42 dX9_secret_67 rfl rfl (hR4.p 12 rfl) ?_
        refine S_iload_n dX9_secret_70 rfl ?_
        refine S_dup2 dX9_secret_71 ?_
        refine R_ald (v := ↑n) i hR4 dX9_secret_72 rfl rfl (by omega) (show _ < 12 from by omega) ((RS.setA_ne (by omega)).trans ((new_old _ _ _ _ _ _ _ (by omega)).trans hr)) ?_
        refine S_iconst dX9_secret_73 ?_
        refine S_iadd dX9_secret_74 ?_
        refine R_ast i dX9_secret_75 rfl rfl (by omega) (show _ < 12 from by omega) hR4 hS4 (fun M5 hR5 hS5 => ?_)
        refine S_aload_n dX9_secret_76 rfl ?_
        refine S_aload_n dX9_secret_77 rfl ?_
        refine S_getP fl_X9_42 dX9_secret_78 rfl rfl (hR5.p 12 rfl) ?_
        refine S_iload_n dX9_secret_81 rfl ?_
        refine R_ald (v := (↑n + 1)) i hR5 dX9_secret_82 rfl rfl (by omega) (show _ < 12 from by omega) (RS.setA_eq _ _ _ _) ?_
        refine S_callV (mi := mi_X9_secret) [vI ((↑n + 1))] ok_X9_done ml_X9_166 dX9_secret_83 rfl (by decide) rfl (by decide) rfl (Nat.le_of_ble_eq_true rfl) rfl (r_X9_done (ρ := (((newT ρ 3 (-1) (-1) s).setA 13 (((12 * i) + n)) (↑(thN ρ))).setA 12 i ((↑n) + 1))) ((↑n + 1)) M5 hR5) ?_
        rintro v' M6 ⟨rfl, hR6, hS6'⟩
        have hS6 := hS5.trans hS6'
        exact S_iret dX9_secret_86 rfl (Or.inl rfl) (by have e9 : secretF ρ ↑i s = (((↑n + 1) : Int), ((((newT ρ 3 (-1) (-1) s).setA 13 (((12 * i) + n)) (↑(thN ρ))).setA 12 i ((↑n) + 1)).setS 42 0)) := (by unfold secretF; simp only [Int.toNat_natCast, hr]; (repeat (first | rw [if_pos (by omega)] | rw [if_neg (by omega)])); try rfl); rw [e9]; exact ⟨rfl, hR6, hS6⟩)
      · refine S_aload_n dX9_secret_36 rfl ?_
        refine S_iconst dX9_secret_37 ?_
        refine S_callV (mi := mi_X9_secret) [vI 2] ok_X9_refused ml_X9_163 dX9_secret_38 rfl (by decide) rfl (by decide) rfl (Nat.le_of_ble_eq_true rfl) rfl (r_X9_refused (ρ := ρ) 2 M2 hR2) ?_
        rintro v' M7 ⟨rfl, hR7, hS7'⟩
        have hS7 := hS2.trans hS7'
        exact S_iret dX9_secret_41 rfl (Or.inl rfl) (by have e9 : secretF ρ ↑i s = (((-1) : Int), (ρ.setS 42 2)) := (by unfold secretF; simp only [Int.toNat_natCast, hr]; (repeat (first | rw [if_pos (by omega)] | rw [if_neg (by omega)])); try rfl); rw [e9]; exact ⟨rfl, hR7, hS7⟩)
    · have hS2 := hS1.trans hS2'
      refine S_if_ne 25 dX9_secret_16 (by decide) (by omega) (fun c_16 => absurd c_16 (by omega)) (fun c_16 => ?_)
      refine S_aload_n dX9_secret_19 rfl ?_
      refine S_iconst dX9_secret_20 ?_
      refine S_callV (mi := mi_X9_secret) [vI 1] ok_X9_refused ml_X9_163 dX9_secret_21 rfl (by decide) rfl (by decide) rfl (Nat.le_of_ble_eq_true rfl) rfl (r_X9_refused (ρ := ρ) 1 M2 hR2) ?_
      rintro v' M8 ⟨rfl, hR8, hS8'⟩
      have hS8 := hS2.trans hS8'
      exact S_iret dX9_secret_24 rfl (Or.inl rfl) (by have e9 : secretF ρ e s = (((-1) : Int), (ρ.setS 42 1)) := (by unfold secretF; (repeat (first | rw [if_pos (by omega)] | rw [if_neg (by omega)])); try rfl); rw [e9]; exact ⟨rfl, hR8, hS8⟩)
  · have hS1 := hS.trans hS1'
    refine S_if_eq 19 dX9_secret_5 (by decide) (by omega) (fun c_5 => ?_) (fun c_5 => absurd c_5 (by omega))
    refine S_aload_n dX9_secret_19 rfl ?_
    refine S_iconst dX9_secret_20 ?_
    refine S_callV (mi := mi_X9_secret) [vI 1] ok_X9_refused ml_X9_163 dX9_secret_21 rfl (by decide) rfl (by decide) rfl (Nat.le_of_ble_eq_true rfl) rfl (r_X9_refused (ρ := ρ) 1 M1 hR1) ?_
    rintro v' M9 ⟨rfl, hR9, hS9'⟩
    have hS9 := hS1.trans hS9'
    exact S_iret dX9_secret_24 rfl (Or.inl rfl) (by have e9 : secretF ρ e s = (((-1) : Int), (ρ.setS 42 1)) := (by unfold secretF; (repeat (first | rw [if_pos (by omega)] | rw [if_neg (by omega)])); try rfl); rw [e9]; exact ⟨rfl, hR9, hS9⟩)
theorem r_X9_alter {G : Ge} {ρ : RS} (l m : Int) (l32 : -2147483648 ≤ l ∧ l < 2147483648) (m32 : -2147483648 ≤ m ∧ m < 2147483648) (hl : 0 ≤ ρ.1 30 ∧ ρ.1 30 ≤ 300) : RC G mi_X9_alter [vR ((30, 0)), vI l, vI m] ρ (some (vI (alterF ρ l m).1)) ((alterF ρ l m).2) := by
  intro M hR
  have hS := SameR.rf M
  refine Ct.of pl_X9_alter [some (vR ((30, 0))), some (vI l), some (vI m)] rfl (Nat.le_of_ble_eq_true rfl) ?_
  refine S_aload_n dX9_alter_0 rfl ?_
  refine S_iload_n dX9_alter_1 rfl ?_
  refine S_callV (mi := mi_X9_alter) [vI l] ok_X9_isLetter ml_X9_191 dX9_alter_2 rfl (by decide) rfl (by decide) rfl (Nat.le_of_ble_eq_true rfl) rfl (r_X9_isLetter (ρ := ρ) l (by omega) (show 0 ≤ ρ.1 30 ∧ ρ.1 30 ≤ 300 from by omega) M hR) ?_
  rintro v' M1 ⟨⟨rfl, b_2⟩ | ⟨rfl, b_2⟩, hR1, hS1'⟩
  · have hS1 := hS.trans hS1'
    refine S_if_eq 19 dX9_alter_5 (by decide) (by omega) (fun c_5 => absurd c_5 (by omega)) (fun c_5 => ?_)
    refine S_iload_n dX9_alter_8 rfl ?_
    refine S_iconst dX9_alter_9 ?_
    refine S_sipush dX9_alter_10 (by decide) ?_
    refine S_callS (mi := mi_X9_alter) [vI m, vI 1, vI 255] ok_X9_in ml_X9_138 dX9_alter_13 (by decide) rfl (Nat.le_of_ble_eq_true rfl) rfl (r_X9_in (ρ := ρ) m 1 255 (by omega) (by omega) (by omega) M1 hR1) ?_
    rintro v' M2 ⟨⟨rfl, b_13⟩ | ⟨rfl, b_13⟩, hR2, hS2'⟩
    · have hS2 := hS1.trans hS2'
      obtain ⟨i, rfl⟩ : ∃ i : Nat, l = ↑i := ⟨l.toNat, by omega⟩
      refine S_if_ne 25 dX9_alter_16 (by decide) (by omega) (fun c_16 => ?_) (fun c_16 => absurd c_16 (by omega))
      refine S_aload_n dX9_alter_25 rfl ?_
      refine S_getP fl_X9_108 dX9_alter_26 rfl rfl (hR2.p 35 rfl) ?_
      refine S_iload_n dX9_alter_29 rfl ?_
      refine S_dup2 dX9_alter_30 ?_
      refine R_ald (v := ρ.2 35 i) i hR2 dX9_alter_31 rfl rfl (by omega) (show _ < 300 from by omega) rfl ?_
      refine S_iload_n dX9_alter_32 rfl ?_
      refine S_ixor dX9_alter_33 ?_
      refine R_ast i dX9_alter_34 rfl rfl (by omega) (show _ < 300 from by omega) hR2 hS2 (fun M3 hR3 hS3 => ?_)
      refine S_aload_n dX9_alter_35 rfl ?_
      refine S_iconst dX9_alter_36 ?_
      refine S_callV (mi := mi_X9_alter) [vI 1] ok_X9_done ml_X9_166 dX9_alter_37 rfl (by decide) rfl (by decide) rfl (Nat.le_of_ble_eq_true rfl) rfl (r_X9_done (ρ := (ρ.setA 35 i ((jI (ρ.2 35 i) ^^^ jI m).toInt))) 1 M3 hR3) ?_
      rintro v' M4 ⟨rfl, hR4, hS4'⟩
      have hS4 := hS3.trans hS4'
      exact S_iret dX9_alter_40 rfl (Or.inl rfl) (by have e9 : alterF ρ ↑i m = ((1 : Int), ((ρ.setA 35 i ((jI (ρ.2 35 i) ^^^ jI m).toInt)).setS 42 0)) := (by unfold alterF; simp only [Int.toNat_natCast]; (repeat (first | rw [if_pos (by omega)] | rw [if_neg (by omega)])); try rfl); rw [e9]; exact ⟨rfl, hR4, hS4⟩)
    · have hS2 := hS1.trans hS2'
      refine S_if_ne 25 dX9_alter_16 (by decide) (by omega) (fun c_16 => absurd c_16 (by omega)) (fun c_16 => ?_)
      refine S_aload_n dX9_alter_19 rfl ?_
      refine S_iconst dX9_alter_20 ?_
      refine S_callV (mi := mi_X9_alter) [vI 1] ok_X9_refused ml_X9_163 dX9_alter_21 rfl (by decide) rfl (by decide) rfl (Nat.le_of_ble_eq_true rfl) rfl (r_X9_refused (ρ := ρ) 1 M2 hR2) ?_
      rintro v' M5 ⟨rfl, hR5, hS5'⟩
      have hS5 := hS2.trans hS5'
      exact S_iret dX9_alter_24 rfl (Or.inl rfl) (by have e9 : alterF ρ l m = (((-1) : Int), (ρ.setS 42 1)) := (by unfold alterF; (repeat (first | rw [if_pos (by omega)] | rw [if_neg (by omega)])); try rfl); rw [e9]; exact ⟨rfl, hR5, hS5⟩)
  · have hS1 := hS.trans hS1'
    refine S_if_eq 19 dX9_alter_5 (by decide) (by omega) (fun c_5 => ?_) (fun c_5 => absurd c_5 (by omega))
    refine S_aload_n dX9_alter_19 rfl ?_
    refine S_iconst dX9_alter_20 ?_
    refine S_callV (mi := mi_X9_alter) [vI 1] ok_X9_refused ml_X9_163 dX9_alter_21 rfl (by decide) rfl (by decide) rfl (Nat.le_of_ble_eq_true rfl) rfl (r_X9_refused (ρ := ρ) 1 M1 hR1) ?_
    rintro v' M6 ⟨rfl, hR6, hS6'⟩
    have hS6 := hS1.trans hS6'
    exact S_iret dX9_alter_24 rfl (Or.inl rfl) (by have e9 : alterF ρ l m = (((-1) : Int), (ρ.setS 42 1)) := (by unfold alterF; (repeat (first | rw [if_pos (by omega)] | rw [if_neg (by omega)])); try rfl); rw [e9]; exact ⟨rfl, hR6, hS6⟩)
