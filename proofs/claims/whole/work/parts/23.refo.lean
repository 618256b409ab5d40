/-! THE REFERENCE: hold -/
def holdF (ρ : RS) (t w n : Int) : Int × RS := if ¬ (0 ≤ t ∧ t ≤ 7) ∨ ¬ (w = 0 ∨ ((1 ≤ w ∧ w ≤ 2) ∧ 0 ≤ n ∧ n ≤ ρ.1 30 - 1) ∨ ((3 ≤ w ∧ w ≤ 7) ∧ 0 ≤ n ∧ n ≤ 2 * ρ.1 4 - 1)) then (-1, ρ.setS 42 1) else if 2 < w ∧ ρ.2 14 (n.toNat / 2) = 0 then (-1, ρ.setS 42 3) else
  if w = 0 then (1, ptR ρ t.toNat 0 (-1)) else if w = 1 then (1, ptR ρ t.toNat 2 (ρ.2 37 n.toNat)) else if w = 2 then (1, ptR ρ t.toNat 1 n) else if w = 3 then (1, ptR ρ t.toNat 4 (ρ.2 16 n.toNat)) else
  if w = 4 then (1, ptR ρ t.toNat 3 (ρ.2 17 n.toNat)) else if w = 5 then (1, ptR ρ t.toNat 3 (ρ.2 18 n.toNat)) else if w = 6 then (1, ptR ρ t.toNat 5 (ρ.2 15 n.toNat)) else
  (1, ptR (ρ.setA 41 t.toNat (ρ.2 29 (12 * n.toNat))) t.toNat 6 (if ρ.2 25 n.toNat = 0 then -1 else ρ.2 28 (12 * n.toNat)))
set_option maxRecDepth 100000 in
theorem r_X9_hold {G : Ge} {ρ : RS} (t w n : Int) (t32 : -2147483648 ≤ t ∧ t < 2147483648) (w32 : -2147483648 ≤ w ∧ w < 2147483648) (n32 : -2147483648 ≤ n ∧ n < 2147483648) (hp : 0 ≤ ρ.1 4 ∧ ρ.1 4 ≤ 6) (N : Nat) (h : ThOK ρ N) (hN : N < 8000) (hst : ∀ p, p < 6 → ρ.2 14 p = 0 ∨ ρ.2 14 p = 1) (hE : ∀ e : Nat, e < 12 → ρ.2 14 (e / 2) ≠ 0 → EndOK ρ e) (hK : KOK ρ) (hl : 0 ≤ ρ.1 30 ∧ ρ.1 30 ≤ 300) (hL : ∀ l : Nat, (l : Int) < ρ.1 30 → (∃ k : Nat, ρ.2 37 l = ↑k ∧ k < thN ρ) ∧ (0 ≤ ρ.2 31 l ∧ ρ.2 31 l ≤ 11)) : RC G mi_X9_hold [vR ((30, 0)), vI t, vI w, vI n] ρ (some (vI (holdF ρ t w n).1)) ((holdF ρ t w n).2) := by
  intro M hR
  have hS := SameR.rf M
  refine Ct.of pl_X9_hold [some (vR ((30, 0))), some (vI t), some (vI w), some (vI n), none] rfl (Nat.le_of_ble_eq_true rfl) ?_
  refine S_iload_n dX9_hold_0 rfl ?_
  refine S_if_eq 39 dX9_hold_1 (by decide) (by omega) (fun c_1 => ?_) (fun c_1 => ?_)
  · refine S_iconst dX9_hold_39 ?_
    refine S_goto 44 dX9_hold_40 (by decide) ?_
    refine S_istore dX9_hold_44 (by decide) ?_
    refine S_iload_n dX9_hold_46 rfl ?_
    refine S_iconst dX9_hold_47 ?_
    refine S_bipush dX9_hold_48 (by decide) ?_
    refine S_callS (mi := mi_X9_hold) [vI t, vI 0, vI 7] ok_X9_in ml_X9_138 dX9_hold_50 (by decide) rfl (Nat.le_of_ble_eq_true rfl) rfl (r_X9_in (ρ := ρ) t 0 7 (by omega) (by omega) (by omega) M hR) ?_
    rintro v' M1 ⟨⟨rfl, b_50⟩ | ⟨rfl, b_50⟩, hR1, hS1'⟩
    · have hS1 := hS.trans hS1'
      obtain ⟨i, rfl⟩ : ∃ i : Nat, t = ↑i := ⟨t.toNat, by omega⟩
      refine S_if_eq 61 dX9_hold_53 (by decide) (by omega) (fun c_53 => absurd c_53 (by omega)) (fun c_53 => ?_)
      refine S_iload dX9_hold_56 rfl ?_
      refine S_if_ne 67 dX9_hold_58 (by decide) (by omega) (fun c_58 => ?_) (fun c_58 => absurd c_58 (by omega))
      refine S_iload_n dX9_hold_67 rfl ?_
      refine S_iconst dX9_hold_68 ?_
      refine S_icmp_le 89 dX9_hold_69 (by decide) (by omega) (fun c_69 => ?_) (fun c_69 => absurd c_69 (by omega))
      refine S_iload_n dX9_hold_89 rfl ?_
      rcases (show w = 0 ∨ w = 1 ∨ w = 2 ∨ w = 3 ∨ w = 4 ∨ w = 5 ∨ w = 6 ∨ (w < 0 ∨ 6 < w) from by omega) with t_90 | t_90 | t_90 | t_90 | t_90 | t_90 | t_90 | t_90
      · refine S_tableIn 132 dX9_hold_90 (by omega) (by omega) (by rw [t_90]; rfl) (by decide) ?_
        refine S_aload_n dX9_hold_132 rfl ?_
        refine S_iload_n dX9_hold_133 rfl ?_
        refine S_iconst dX9_hold_134 ?_
        refine S_iconst dX9_hold_135 ?_
        refine S_callV (mi := mi_X9_hold) [vI (↑i), vI 0, vI ((-1))] ok_X9_puts ml_X9_251 dX9_hold_136 rfl (by decide) rfl (by decide) rfl (Nat.le_of_ble_eq_true rfl) rfl (r_X9_puts (ρ := ρ) i 0 ((-1)) (by omega) (by omega) M1 hR1) ?_
        rintro v' M2 ⟨rfl, hR2, hS2'⟩
        have hS2 := hS1.trans hS2'
        exact S_iret dX9_hold_139 rfl (Or.inl rfl) (by first | (exfalso; omega) | (have e9 : holdF ρ (↑i) w n = ((1 : Int), (ptR ρ i 0 ((-1)))) := (by unfold holdF; simp only [Int.toNat_natCast]; (repeat (first | rw [if_pos (by omega)] | rw [if_neg (by omega)])); try rfl); rw [e9]; exact ⟨rfl, hR2, hS2⟩))
      · exfalso; omega
      · exfalso; omega
      · exfalso; omega
      · exfalso; omega
      · exfalso; omega
      · exfalso; omega
      · exfalso; omega
    · have hS1 := hS.trans hS1'
      refine S_if_eq 61 dX9_hold_53 (by decide) (by omega) (fun c_53 => ?_) (fun c_53 => absurd c_53 (by omega))
      refine S_aload_n dX9_hold_61 rfl ?_
      refine S_iconst dX9_hold_62 ?_
      refine S_callV (mi := mi_X9_hold) [vI 1] ok_X9_refused ml_X9_163 dX9_hold_63 rfl (by decide) rfl (by decide) rfl (Nat.le_of_ble_eq_true rfl) rfl (r_X9_refused (ρ := ρ) 1 M1 hR1) ?_
      rintro v' M3 ⟨rfl, hR3, hS3'⟩
      have hS3 := hS1.trans hS3'
      exact S_iret dX9_hold_66 rfl (Or.inl rfl) (by first | (exfalso; omega) | (have e9 : holdF ρ t w n = (((-1) : Int), (ρ.setS 42 1)) := (by unfold holdF; (repeat (first | rw [if_pos (by omega)] | rw [if_neg (by omega)])); try rfl); rw [e9]; exact ⟨rfl, hR3, hS3⟩))
  · refine S_iload_n dX9_hold_4 rfl ?_
    refine S_iconst dX9_hold_5 ?_
    refine S_iconst dX9_hold_6 ?_
    refine S_callS (mi := mi_X9_hold) [vI w, vI 1, vI 2] ok_X9_in ml_X9_138 dX9_hold_7 (by decide) rfl (Nat.le_of_ble_eq_true rfl) rfl (r_X9_in (ρ := ρ) w 1 2 (by omega) (by omega) (by omega) M hR) ?_
    rintro v' M4 ⟨⟨rfl, b_7⟩ | ⟨rfl, b_7⟩, hR4, hS4'⟩
    · have hS4 := hS.trans hS4'
      refine S_if_eq 21 dX9_hold_10 (by decide) (by omega) (fun c_10 => absurd c_10 (by omega)) (fun c_10 => ?_)
      refine S_aload_n dX9_hold_13 rfl ?_
      refine S_iload_n dX9_hold_14 rfl ?_
      refine S_callV (mi := mi_X9_hold) [vI n] ok_X9_isLetter ml_X9_191 dX9_hold_15 rfl (by decide) rfl (by decide) rfl (Nat.le_of_ble_eq_true rfl) rfl (r_X9_isLetter (ρ := ρ) n (by omega) (show 0 ≤ ρ.1 30 ∧ ρ.1 30 ≤ 300 from by omega) M4 hR4) ?_
      rintro v' M5 ⟨⟨rfl, b_15⟩ | ⟨rfl, b_15⟩, hR5, hS5'⟩
      · have hS5 := hS4.trans hS5'
        obtain ⟨j, rfl⟩ : ∃ j : Nat, n = ↑j := ⟨n.toNat, by omega⟩
        refine S_if_ne 39 dX9_hold_18 (by decide) (by omega) (fun c_18 => ?_) (fun c_18 => absurd c_18 (by omega))
        refine S_iconst dX9_hold_39 ?_
        refine S_goto 44 dX9_hold_40 (by decide) ?_
        refine S_istore dX9_hold_44 (by decide) ?_
        refine S_iload_n dX9_hold_46 rfl ?_
        refine S_iconst dX9_hold_47 ?_
        refine S_bipush dX9_hold_48 (by decide) ?_
        refine S_callS (mi := mi_X9_hold) [vI t, vI 0, vI 7] ok_X9_in ml_X9_138 dX9_hold_50 (by decide) rfl (Nat.le_of_ble_eq_true rfl) rfl (r_X9_in (ρ := ρ) t 0 7 (by omega) (by omega) (by omega) M5 hR5) ?_
        rintro v' M6 ⟨⟨rfl, b_50⟩ | ⟨rfl, b_50⟩, hR6, hS6'⟩
        · have hS6 := hS5.trans hS6'
          obtain ⟨i, rfl⟩ : ∃ i : Nat, t = ↑i := ⟨t.toNat, by omega⟩
          refine S_if_eq 61 dX9_hold_53 (by decide) (by omega) (fun c_53 => absurd c_53 (by omega)) (fun c_53 => ?_)
          refine S_iload dX9_hold_56 rfl ?_
          refine S_if_ne 67 dX9_hold_58 (by decide) (by omega) (fun c_58 => ?_) (fun c_58 => absurd c_58 (by omega))
          refine S_iload_n dX9_hold_67 rfl ?_
          refine S_iconst dX9_hold_68 ?_
          refine S_icmp_le 89 dX9_hold_69 (by decide) (by omega) (fun c_69 => ?_) (fun c_69 => absurd c_69 (by omega))
          refine S_iload_n dX9_hold_89 rfl ?_
          rcases (show w = 0 ∨ w = 1 ∨ w = 2 ∨ w = 3 ∨ w = 4 ∨ w = 5 ∨ w = 6 ∨ (w < 0 ∨ 6 < w) from by omega) with t_90 | t_90 | t_90 | t_90 | t_90 | t_90 | t_90 | t_90
          · exfalso; omega
          · refine S_tableIn 140 dX9_hold_90 (by omega) (by omega) (by rw [t_90]; rfl) (by decide) ?_
            obtain ⟨⟨k9, hk9, hk8⟩, -⟩ := hL j (by omega)
            have hl8 := h.2.1
            refine S_aload_n dX9_hold_140 rfl ?_
            refine S_iload_n dX9_hold_141 rfl ?_
            refine S_iconst dX9_hold_142 ?_
            refine S_aload_n dX9_hold_143 rfl ?_
            refine S_getP fl_X9_114 dX9_hold_144 rfl rfl (hR6.p 37 rfl) ?_
            refine S_iload_n dX9_hold_147 rfl ?_
            refine R_ald (v := ρ.2 37 j) j hR6 dX9_hold_148 rfl rfl (by omega) (show _ < 300 from by omega) rfl ?_
            refine S_callV (mi := mi_X9_hold) [vI (↑i), vI 2, vI (ρ.2 37 j)] ok_X9_puts ml_X9_251 dX9_hold_149 rfl (by decide) rfl (by decide) rfl (Nat.le_of_ble_eq_true rfl) rfl (r_X9_puts (ρ := ρ) i 2 (ρ.2 37 j) (by omega) (by omega) M6 hR6) ?_
            rintro v' M7 ⟨rfl, hR7, hS7'⟩
            have hS7 := hS6.trans hS7'
            exact S_iret dX9_hold_152 rfl (Or.inl rfl) (by first | (exfalso; omega) | (have e9 : holdF ρ (↑i) w (↑j) = ((1 : Int), (ptR ρ i 2 (ρ.2 37 j))) := (by unfold holdF; simp only [Int.toNat_natCast]; (repeat (first | rw [if_pos (by omega)] | rw [if_neg (by omega)])); try rfl); rw [e9]; exact ⟨rfl, hR7, hS7⟩))
          · refine S_tableIn 153 dX9_hold_90 (by omega) (by omega) (by rw [t_90]; rfl) (by decide) ?_
            obtain ⟨⟨k9, hk9, hk8⟩, -⟩ := hL j (by omega)
            have hl8 := h.2.1
            refine S_aload_n dX9_hold_153 rfl ?_
            refine S_iload_n dX9_hold_154 rfl ?_
            refine S_iconst dX9_hold_155 ?_
            refine S_iload_n dX9_hold_156 rfl ?_
            refine S_callV (mi := mi_X9_hold) [vI (↑i), vI 1, vI (↑j)] ok_X9_puts ml_X9_251 dX9_hold_157 rfl (by decide) rfl (by decide) rfl (Nat.le_of_ble_eq_true rfl) rfl (r_X9_puts (ρ := ρ) i 1 (↑j) (by omega) (by omega) M6 hR6) ?_
            rintro v' M8 ⟨rfl, hR8, hS8'⟩
            have hS8 := hS6.trans hS8'
            exact S_iret dX9_hold_160 rfl (Or.inl rfl) (by first | (exfalso; omega) | (have e9 : holdF ρ (↑i) w (↑j) = ((1 : Int), (ptR ρ i 1 (↑j))) := (by unfold holdF; simp only [Int.toNat_natCast]; (repeat (first | rw [if_pos (by omega)] | rw [if_neg (by omega)])); try rfl); rw [e9]; exact ⟨rfl, hR8, hS8⟩))
          · exfalso; omega
          · exfalso; omega
          · exfalso; omega
          · exfalso; omega
          · exfalso; omega
        · have hS6 := hS5.trans hS6'
          refine S_if_eq 61 dX9_hold_53 (by decide) (by omega) (fun c_53 => ?_) (fun c_53 => absurd c_53 (by omega))
          refine S_aload_n dX9_hold_61 rfl ?_
          refine S_iconst dX9_hold_62 ?_
          refine S_callV (mi := mi_X9_hold) [vI 1] ok_X9_refused ml_X9_163 dX9_hold_63 rfl (by decide) rfl (by decide) rfl (Nat.le_of_ble_eq_true rfl) rfl (r_X9_refused (ρ := ρ) 1 M6 hR6) ?_
          rintro v' M9 ⟨rfl, hR9, hS9'⟩
          have hS9 := hS6.trans hS9'
          exact S_iret dX9_hold_66 rfl (Or.inl rfl) (by first | (exfalso; omega) | (have e9 : holdF ρ t w (↑j) = (((-1) : Int), (ρ.setS 42 1)) := (by unfold holdF; simp only [Int.toNat_natCast]; (repeat (first | rw [if_pos (by omega)] | rw [if_neg (by omega)])); try rfl); rw [e9]; exact ⟨rfl, hR9, hS9⟩))
      · have hS5 := hS4.trans hS5'
        refine S_if_ne 39 dX9_hold_18 (by decide) (by omega) (fun c_18 => absurd c_18 (by omega)) (fun c_18 => ?_)
        refine S_iload_n dX9_hold_21 rfl ?_
        refine S_iconst dX9_hold_22 ?_
        refine S_bipush dX9_hold_23 (by decide) ?_
        refine S_callS (mi := mi_X9_hold) [vI w, vI 3, vI 7] ok_X9_in ml_X9_138 dX9_hold_25 (by decide) rfl (Nat.le_of_ble_eq_true rfl) rfl (r_X9_in (ρ := ρ) w 3 7 (by omega) (by omega) (by omega) M5 hR5) ?_
        rintro v' M10 ⟨⟨rfl, b_25⟩ | ⟨rfl, b_25⟩, hR10, hS10'⟩
        · have hS10 := hS5.trans hS10'
          refine S_if_eq 43 dX9_hold_28 (by decide) (by omega) (fun c_28 => absurd c_28 (by omega)) (fun c_28 => ?_)
          refine S_aload_n dX9_hold_31 rfl ?_
          refine S_iload_n dX9_hold_32 rfl ?_
          refine S_callV (mi := mi_X9_hold) [vI n] ok_X9_isEnd ml_X9_172 dX9_hold_33 rfl (by decide) rfl (by decide) rfl (Nat.le_of_ble_eq_true rfl) rfl (r_X9_isEnd (ρ := ρ) n (by omega) (show 0 ≤ ρ.1 4 ∧ ρ.1 4 ≤ 6 from by omega) M10 hR10) ?_
          rintro v' M11 ⟨⟨rfl, b_33⟩ | ⟨rfl, b_33⟩, hR11, hS11'⟩
          · have hS11 := hS10.trans hS11'
            obtain ⟨x, rfl⟩ : ∃ x : Nat, n = ↑x := ⟨n.toNat, by omega⟩
            refine S_if_eq 43 dX9_hold_36 (by decide) (by omega) (fun c_36 => absurd c_36 (by omega)) (fun c_36 => ?_)
            refine S_iconst dX9_hold_39 ?_
            refine S_goto 44 dX9_hold_40 (by decide) ?_
            refine S_istore dX9_hold_44 (by decide) ?_
            refine S_iload_n dX9_hold_46 rfl ?_
            refine S_iconst dX9_hold_47 ?_
            refine S_bipush dX9_hold_48 (by decide) ?_
            refine S_callS (mi := mi_X9_hold) [vI t, vI 0, vI 7] ok_X9_in ml_X9_138 dX9_hold_50 (by decide) rfl (Nat.le_of_ble_eq_true rfl) rfl (r_X9_in (ρ := ρ) t 0 7 (by omega) (by omega) (by omega) M11 hR11) ?_
            rintro v' M12 ⟨⟨rfl, b_50⟩ | ⟨rfl, b_50⟩, hR12, hS12'⟩
            · have hS12 := hS11.trans hS12'
              obtain ⟨i, rfl⟩ : ∃ i : Nat, t = ↑i := ⟨t.toNat, by omega⟩
              refine S_if_eq 61 dX9_hold_53 (by decide) (by omega) (fun c_53 => absurd c_53 (by omega)) (fun c_53 => ?_)
              refine S_iload dX9_hold_56 rfl ?_
              refine S_if_ne 67 dX9_hold_58 (by decide) (by omega) (fun c_58 => ?_) (fun c_58 => absurd c_58 (by omega))
              refine S_iload_n dX9_hold_67 rfl ?_
              refine S_iconst dX9_hold_68 ?_
              refine S_icmp_le 89 dX9_hold_69 (by decide) (by omega) (fun c_69 => absurd c_69 (by omega)) (fun c_69 => ?_)
              refine S_aload_n dX9_hold_72 rfl ?_
              refine S_getP fl_X9_48 dX9_hold_73 rfl rfl (hR12.p 14 rfl) ?_
              refine S_iload_n dX9_hold_76 rfl ?_
              refine S_iconst dX9_hold_77 ?_
              refine S_idiv dX9_hold_78 (by omega) (by omega) ?_
              rw [show Int.tdiv (↑x) 2 = (↑(x / 2) : Int) from rfl]
              refine R_bld (v := ρ.2 14 ((x / 2))) ((x / 2)) hR12 dX9_hold_79 rfl rfl (by omega) (show _ < 6 from by omega) rfl ?_
              refine S_if_ne 89 dX9_hold_80 (by decide) (by have := hst (x / 2) (by omega); omega) (fun c_80 => ?_) (fun c_80 => ?_)
              · have hb9 := (hE x (by omega) (by omega)).bd h hN
                obtain ⟨n9, hn9, hr9⟩ := hK.1 x (by omega)
                have hk28 := hK.2 (12 * x) (by omega)
                refine S_iload_n dX9_hold_89 rfl ?_
                rcases (show w = 0 ∨ w = 1 ∨ w = 2 ∨ w = 3 ∨ w = 4 ∨ w = 5 ∨ w = 6 ∨ (w < 0 ∨ 6 < w) from by omega) with t_90 | t_90 | t_90 | t_90 | t_90 | t_90 | t_90 | t_90
                · exfalso; omega
                · exfalso; omega
                · exfalso; omega
                · refine S_tableIn 161 dX9_hold_90 (by omega) (by omega) (by rw [t_90]; rfl) (by decide) ?_
                  refine S_aload_n dX9_hold_161 rfl ?_
                  refine S_iload_n dX9_hold_162 rfl ?_
                  refine S_iconst dX9_hold_163 ?_
                  refine S_aload_n dX9_hold_164 rfl ?_
                  refine S_getP fl_X9_54 dX9_hold_165 rfl rfl (hR12.p 16 rfl) ?_
                  refine S_iload_n dX9_hold_168 rfl ?_
                  refine R_ald (v := ρ.2 16 x) x hR12 dX9_hold_169 rfl rfl (by omega) (show _ < 12 from by omega) rfl ?_
                  refine S_callV (mi := mi_X9_hold) [vI (↑i), vI 4, vI (ρ.2 16 x)] ok_X9_puts ml_X9_251 dX9_hold_170 rfl (by decide) rfl (by decide) rfl (Nat.le_of_ble_eq_true rfl) rfl (r_X9_puts (ρ := ρ) i 4 (ρ.2 16 x) (by omega) (by omega) M12 hR12) ?_
                  rintro v' M13 ⟨rfl, hR13, hS13'⟩
                  have hS13 := hS12.trans hS13'
                  exact S_iret dX9_hold_173 rfl (Or.inl rfl) (by first | (exfalso; omega) | (have e9 : holdF ρ (↑i) w (↑x) = ((1 : Int), (ptR ρ i 4 (ρ.2 16 x))) := (by unfold holdF; simp only [Int.toNat_natCast]; (repeat (first | rw [if_pos (by omega)] | rw [if_neg (by omega)])); try rfl); rw [e9]; exact ⟨rfl, hR13, hS13⟩))
                · refine S_tableIn 174 dX9_hold_90 (by omega) (by omega) (by rw [t_90]; rfl) (by decide) ?_
                  refine S_aload_n dX9_hold_174 rfl ?_
                  refine S_iload_n dX9_hold_175 rfl ?_
                  refine S_iconst dX9_hold_176 ?_
                  refine S_aload_n dX9_hold_177 rfl ?_
                  refine S_getP fl_X9_57 dX9_hold_178 rfl rfl (hR12.p 17 rfl) ?_
                  refine S_iload_n dX9_hold_181 rfl ?_
                  refine R_ald (v := ρ.2 17 x) x hR12 dX9_hold_182 rfl rfl (by omega) (show _ < 12 from by omega) rfl ?_
                  refine S_callV (mi := mi_X9_hold) [vI (↑i), vI 3, vI (ρ.2 17 x)] ok_X9_puts ml_X9_251 dX9_hold_183 rfl (by decide) rfl (by decide) rfl (Nat.le_of_ble_eq_true rfl) rfl (r_X9_puts (ρ := ρ) i 3 (ρ.2 17 x) (by omega) (by omega) M12 hR12) ?_
                  rintro v' M14 ⟨rfl, hR14, hS14'⟩
                  have hS14 := hS12.trans hS14'
                  exact S_iret dX9_hold_186 rfl (Or.inl rfl) (by first | (exfalso; omega) | (have e9 : holdF ρ (↑i) w (↑x) = ((1 : Int), (ptR ρ i 3 (ρ.2 17 x))) := (by unfold holdF; simp only [Int.toNat_natCast]; (repeat (first | rw [if_pos (by omega)] | rw [if_neg (by omega)])); try rfl); rw [e9]; exact ⟨rfl, hR14, hS14⟩))
                · refine S_tableIn 187 dX9_hold_90 (by omega) (by omega) (by rw [t_90]; rfl) (by decide) ?_
                  refine S_aload_n dX9_hold_187 rfl ?_
                  refine S_iload_n dX9_hold_188 rfl ?_
                  refine S_iconst dX9_hold_189 ?_
                  refine S_aload_n dX9_hold_190 rfl ?_
                  refine S_getP fl_X9_60 dX9_hold_191 rfl rfl (hR12.p 18 rfl) ?_
                  refine S_iload_n dX9_hold_194 rfl ?_
                  refine R_ald (v := ρ.2 18 x) x hR12 dX9_hold_195 rfl rfl (by omega) (show _ < 12 from by omega) rfl ?_
                  refine S_callV (mi := mi_X9_hold) [vI (↑i), vI 3, vI (ρ.2 18 x)] ok_X9_puts ml_X9_251 dX9_hold_196 rfl (by decide) rfl (by decide) rfl (Nat.le_of_ble_eq_true rfl) rfl (r_X9_puts (ρ := ρ) i 3 (ρ.2 18 x) (by omega) (by omega) M12 hR12) ?_
                  rintro v' M15 ⟨rfl, hR15, hS15'⟩
                  have hS15 := hS12.trans hS15'
                  exact S_iret dX9_hold_199 rfl (Or.inl rfl) (by first | (exfalso; omega) | (have e9 : holdF ρ (↑i) w (↑x) = ((1 : Int), (ptR ρ i 3 (ρ.2 18 x))) := (by unfold holdF; simp only [Int.toNat_natCast]; (repeat (first | rw [if_pos (by omega)] | rw [if_neg (by omega)])); try rfl); rw [e9]; exact ⟨rfl, hR15, hS15⟩))
                · refine S_tableIn 200 dX9_hold_90 (by omega) (by omega) (by rw [t_90]; rfl) (by decide) ?_
                  refine S_aload_n dX9_hold_200 rfl ?_
                  refine S_iload_n dX9_hold_201 rfl ?_
                  refine S_iconst dX9_hold_202 ?_
                  refine S_aload_n dX9_hold_203 rfl ?_
                  refine S_getP fl_X9_51 dX9_hold_204 rfl rfl (hR12.p 15 rfl) ?_
                  refine S_iload_n dX9_hold_207 rfl ?_
                  refine R_ald (v := ρ.2 15 x) x hR12 dX9_hold_208 rfl rfl (by omega) (show _ < 12 from by omega) rfl ?_
                  refine S_callV (mi := mi_X9_hold) [vI (↑i), vI 5, vI (ρ.2 15 x)] ok_X9_puts ml_X9_251 dX9_hold_209 rfl (by decide) rfl (by decide) rfl (Nat.le_of_ble_eq_true rfl) rfl (r_X9_puts (ρ := ρ) i 5 (ρ.2 15 x) (by omega) (by omega) M12 hR12) ?_
                  rintro v' M16 ⟨rfl, hR16, hS16'⟩
                  have hS16 := hS12.trans hS16'
                  exact S_iret dX9_hold_212 rfl (Or.inl rfl) (by first | (exfalso; omega) | (have e9 : holdF ρ (↑i) w (↑x) = ((1 : Int), (ptR ρ i 5 (ρ.2 15 x))) := (by unfold holdF; simp only [Int.toNat_natCast]; (repeat (first | rw [if_pos (by omega)] | rw [if_neg (by omega)])); try rfl); rw [e9]; exact ⟨rfl, hR16, hS16⟩))
                · refine S_tableOut 213 dX9_hold_90 (by omega) t_90 (by decide) ?_
                  refine S_aload_n dX9_hold_213 rfl ?_
                  refine S_getP fl_X9_126 dX9_hold_214 rfl rfl (hR12.p 41 rfl) ?_
                  refine S_iload_n dX9_hold_217 rfl ?_
                  refine S_aload_n dX9_hold_218 rfl ?_
                  refine S_getP fl_X9_93 dX9_hold_219 rfl rfl (hR12.p 29 rfl) ?_
                  refine S_bipush dX9_hold_222 (by decide) ?_
                  refine S_iload_n dX9_hold_224 rfl ?_
                  refine S_imul dX9_hold_225 ?_
                  refine R_ald (v := ρ.2 29 ((12 * x))) ((12 * x)) hR12 dX9_hold_226 rfl rfl (by omega) (show _ < 144 from by omega) rfl ?_
                  refine R_ast i dX9_hold_227 rfl rfl (by omega) (show _ < 8 from by omega) hR12 hS12 (fun M17 hR17 hS17 => ?_)
                  refine S_aload_n dX9_hold_228 rfl ?_
                  refine S_iload_n dX9_hold_229 rfl ?_
                  refine S_bipush dX9_hold_230 (by decide) ?_
                  refine S_aload_n dX9_hold_232 rfl ?_
                  refine S_getP fl_X9_81 dX9_hold_233 rfl rfl (hR17.p 25 rfl) ?_
                  refine S_iload_n dX9_hold_236 rfl ?_
                  refine R_ald (v := ρ.2 25 x) x hR17 dX9_hold_237 rfl rfl (by omega) (show _ < 12 from by omega) rfl ?_
                  refine S_if_ne 245 dX9_hold_238 (by decide) (by omega) (fun c_238 => ?_) (fun c_238 => ?_)
                  · refine S_aload_n dX9_hold_245 rfl ?_
                    refine S_getP fl_X9_90 dX9_hold_246 rfl rfl (hR17.p 28 rfl) ?_
                    refine S_bipush dX9_hold_249 (by decide) ?_
                    refine S_iload_n dX9_hold_251 rfl ?_
                    refine S_imul dX9_hold_252 ?_
                    refine R_ald (v := ρ.2 28 ((12 * x))) ((12 * x)) hR17 dX9_hold_253 rfl rfl (by omega) (show _ < 144 from by omega) rfl ?_
                    refine S_callV (mi := mi_X9_hold) [vI (↑i), vI 6, vI (ρ.2 28 ((12 * x)))] ok_X9_puts ml_X9_251 dX9_hold_254 rfl (by decide) rfl (by decide) rfl (Nat.le_of_ble_eq_true rfl) rfl (r_X9_puts (ρ := (ρ.setA 41 i (ρ.2 29 ((12 * x))))) i 6 (ρ.2 28 ((12 * x))) (by omega) (by omega) M17 hR17) ?_
                    rintro v' M18 ⟨rfl, hR18, hS18'⟩
                    have hS18 := hS17.trans hS18'
                    exact S_iret dX9_hold_257 rfl (Or.inl rfl) (by first | (exfalso; omega) | (have e9 : holdF ρ (↑i) w (↑x) = ((1 : Int), (ptR (ρ.setA 41 i (ρ.2 29 ((12 * x)))) i 6 (ρ.2 28 ((12 * x))))) := (by unfold holdF; simp only [Int.toNat_natCast]; (repeat (first | rw [if_pos (by omega)] | rw [if_neg (by omega)])); try rfl); rw [e9]; exact ⟨rfl, hR18, hS18⟩))
                  · refine S_iconst dX9_hold_241 ?_
                    refine S_goto 254 dX9_hold_242 (by decide) ?_
                    refine S_callV (mi := mi_X9_hold) [vI (↑i), vI 6, vI ((-1))] ok_X9_puts ml_X9_251 dX9_hold_254 rfl (by decide) rfl (by decide) rfl (Nat.le_of_ble_eq_true rfl) rfl (r_X9_puts (ρ := (ρ.setA 41 i (ρ.2 29 ((12 * x))))) i 6 ((-1)) (by omega) (by omega) M17 hR17) ?_
                    rintro v' M19 ⟨rfl, hR19, hS19'⟩
                    have hS19 := hS17.trans hS19'
                    exact S_iret dX9_hold_257 rfl (Or.inl rfl) (by first | (exfalso; omega) | (have e9 : holdF ρ (↑i) w (↑x) = ((1 : Int), (ptR (ρ.setA 41 i (ρ.2 29 ((12 * x)))) i 6 ((-1)))) := (by unfold holdF; simp only [Int.toNat_natCast]; (repeat (first | rw [if_pos (by omega)] | rw [if_neg (by omega)])); try rfl); rw [e9]; exact ⟨rfl, hR19, hS19⟩))
              · refine S_aload_n dX9_hold_83 rfl ?_
                refine S_iconst dX9_hold_84 ?_
                refine S_callV (mi := mi_X9_hold) [vI 3] ok_X9_refused ml_X9_163 dX9_hold_85 rfl (by decide) rfl (by decide) rfl (Nat.le_of_ble_eq_true rfl) rfl (r_X9_refused (ρ := ρ) 3 M12 hR12) ?_
                rintro v' M20 ⟨rfl, hR20, hS20'⟩
                have hS20 := hS12.trans hS20'
                exact S_iret dX9_hold_88 rfl (Or.inl rfl) (by first | (exfalso; omega) | (have e9 : holdF ρ (↑i) w (↑x) = (((-1) : Int), (ρ.setS 42 3)) := (by unfold holdF; simp only [Int.toNat_natCast]; (repeat (first | rw [if_pos (by omega)] | rw [if_neg (by omega)])); try rfl); rw [e9]; exact ⟨rfl, hR20, hS20⟩))
            · have hS12 := hS11.trans hS12'
              refine S_if_eq 61 dX9_hold_53 (by decide) (by omega) (fun c_53 => ?_) (fun c_53 => absurd c_53 (by omega))
              refine S_aload_n dX9_hold_61 rfl ?_
              refine S_iconst dX9_hold_62 ?_
              refine S_callV (mi := mi_X9_hold) [vI 1] ok_X9_refused ml_X9_163 dX9_hold_63 rfl (by decide) rfl (by decide) rfl (Nat.le_of_ble_eq_true rfl) rfl (r_X9_refused (ρ := ρ) 1 M12 hR12) ?_
              rintro v' M21 ⟨rfl, hR21, hS21'⟩
              have hS21 := hS12.trans hS21'
              exact S_iret dX9_hold_66 rfl (Or.inl rfl) (by first | (exfalso; omega) | (have e9 : holdF ρ t w (↑x) = (((-1) : Int), (ρ.setS 42 1)) := (by unfold holdF; simp only [Int.toNat_natCast]; (repeat (first | rw [if_pos (by omega)] | rw [if_neg (by omega)])); try rfl); rw [e9]; exact ⟨rfl, hR21, hS21⟩))
          · have hS11 := hS10.trans hS11'
            refine S_if_eq 43 dX9_hold_36 (by decide) (by omega) (fun c_36 => ?_) (fun c_36 => absurd c_36 (by omega))
            refine S_iconst dX9_hold_43 ?_
            refine S_istore dX9_hold_44 (by decide) ?_
            refine S_iload_n dX9_hold_46 rfl ?_
            refine S_iconst dX9_hold_47 ?_
            refine S_bipush dX9_hold_48 (by decide) ?_
            refine S_callS (mi := mi_X9_hold) [vI t, vI 0, vI 7] ok_X9_in ml_X9_138 dX9_hold_50 (by decide) rfl (Nat.le_of_ble_eq_true rfl) rfl (r_X9_in (ρ := ρ) t 0 7 (by omega) (by omega) (by omega) M11 hR11) ?_
            rintro v' M22 ⟨⟨rfl, b_50⟩ | ⟨rfl, b_50⟩, hR22, hS22'⟩
            · have hS22 := hS11.trans hS22'
              obtain ⟨i, rfl⟩ : ∃ i : Nat, t = ↑i := ⟨t.toNat, by omega⟩
              refine S_if_eq 61 dX9_hold_53 (by decide) (by omega) (fun c_53 => absurd c_53 (by omega)) (fun c_53 => ?_)
              refine S_iload dX9_hold_56 rfl ?_
              refine S_if_ne 67 dX9_hold_58 (by decide) (by omega) (fun c_58 => absurd c_58 (by omega)) (fun c_58 => ?_)
              refine S_aload_n dX9_hold_61 rfl ?_
              refine S_iconst dX9_hold_62 ?_
              refine S_callV (mi := mi_X9_hold) [vI 1] ok_X9_refused ml_X9_163 dX9_hold_63 rfl (by decide) rfl (by decide) rfl (Nat.le_of_ble_eq_true rfl) rfl (r_X9_refused (ρ := ρ) 1 M22 hR22) ?_
              rintro v' M23 ⟨rfl, hR23, hS23'⟩
              have hS23 := hS22.trans hS23'
              exact S_iret dX9_hold_66 rfl (Or.inl rfl) (by first | (exfalso; omega) | (have e9 : holdF ρ (↑i) w n = (((-1) : Int), (ρ.setS 42 1)) := (by unfold holdF; simp only [Int.toNat_natCast]; (repeat (first | rw [if_pos (by omega)] | rw [if_neg (by omega)])); try rfl); rw [e9]; exact ⟨rfl, hR23, hS23⟩))
            · have hS22 := hS11.trans hS22'
              refine S_if_eq 61 dX9_hold_53 (by decide) (by omega) (fun c_53 => ?_) (fun c_53 => absurd c_53 (by omega))
              refine S_aload_n dX9_hold_61 rfl ?_
              refine S_iconst dX9_hold_62 ?_
              refine S_callV (mi := mi_X9_hold) [vI 1] ok_X9_refused ml_X9_163 dX9_hold_63 rfl (by decide) rfl (by decide) rfl (Nat.le_of_ble_eq_true rfl) rfl (r_X9_refused (ρ := ρ) 1 M22 hR22) ?_
              rintro v' M24 ⟨rfl, hR24, hS24'⟩
              have hS24 := hS22.trans hS24'
              exact S_iret dX9_hold_66 rfl (Or.inl rfl) (by first | (exfalso; omega) | (have e9 : holdF ρ t w n = (((-1) : Int), (ρ.setS 42 1)) := (by unfold holdF; (repeat (first | rw [if_pos (by omega)] | rw [if_neg (by omega)])); try rfl); rw [e9]; exact ⟨rfl, hR24, hS24⟩))
        · have hS10 := hS5.trans hS10'
          refine S_if_eq 43 dX9_hold_28 (by decide) (by omega) (fun c_28 => ?_) (fun c_28 => absurd c_28 (by omega))
          refine S_iconst dX9_hold_43 ?_
          refine S_istore dX9_hold_44 (by decide) ?_
          refine S_iload_n dX9_hold_46 rfl ?_
          refine S_iconst dX9_hold_47 ?_
          refine S_bipush dX9_hold_48 (by decide) ?_
          refine S_callS (mi := mi_X9_hold) [vI t, vI 0, vI 7] ok_X9_in ml_X9_138 dX9_hold_50 (by decide) rfl (Nat.le_of_ble_eq_true rfl) rfl (r_X9_in (ρ := ρ) t 0 7 (by omega) (by omega) (by omega) M10 hR10) ?_
          rintro v' M25 ⟨⟨rfl, b_50⟩ | ⟨rfl, b_50⟩, hR25, hS25'⟩
          · have hS25 := hS10.trans hS25'
            obtain ⟨i, rfl⟩ : ∃ i : Nat, t = ↑i := ⟨t.toNat, by omega⟩
            refine S_if_eq 61 dX9_hold_53 (by decide) (by omega) (fun c_53 => absurd c_53 (by omega)) (fun c_53 => ?_)
            refine S_iload dX9_hold_56 rfl ?_
            refine S_if_ne 67 dX9_hold_58 (by decide) (by omega) (fun c_58 => absurd c_58 (by omega)) (fun c_58 => ?_)
            refine S_aload_n dX9_hold_61 rfl ?_
            refine S_iconst dX9_hold_62 ?_
            refine S_callV (mi := mi_X9_hold) [vI 1] ok_X9_refused ml_X9_163 dX9_hold_63 rfl (by decide) rfl (by decide) rfl (Nat.le_of_ble_eq_true rfl) rfl (r_X9_refused (ρ := ρ) 1 M25 hR25) ?_
            rintro v' M26 ⟨rfl, hR26, hS26'⟩
            have hS26 := hS25.trans hS26'
            exact S_iret dX9_hold_66 rfl (Or.inl rfl) (by first | (exfalso; omega) | (have e9 : holdF ρ (↑i) w n = (((-1) : Int), (ρ.setS 42 1)) := (by unfold holdF; simp only [Int.toNat_natCast]; (repeat (first | rw [if_pos (by omega)] | rw [if_neg (by omega)])); try rfl); rw [e9]; exact ⟨rfl, hR26, hS26⟩))
          · have hS25 := hS10.trans hS25'
            refine S_if_eq 61 dX9_hold_53 (by decide) (by omega) (fun c_53 => ?_) (fun c_53 => absurd c_53 (by omega))
            refine S_aload_n dX9_hold_61 rfl ?_
            refine S_iconst dX9_hold_62 ?_
            refine S_callV (mi := mi_X9_hold) [vI 1] ok_X9_refused ml_X9_163 dX9_hold_63 rfl (by decide) rfl (by decide) rfl (Nat.le_of_ble_eq_true rfl) rfl (r_X9_refused (ρ := ρ) 1 M25 hR25) ?_
            rintro v' M27 ⟨rfl, hR27, hS27'⟩
            have hS27 := hS25.trans hS27'
            exact S_iret dX9_hold_66 rfl (Or.inl rfl) (by first | (exfalso; omega) | (have e9 : holdF ρ t w n = (((-1) : Int), (ρ.setS 42 1)) := (by unfold holdF; (repeat (first | rw [if_pos (by omega)] | rw [if_neg (by omega)])); try rfl); rw [e9]; exact ⟨rfl, hR27, hS27⟩))
    · have hS4 := hS.trans hS4'
      refine S_if_eq 21 dX9_hold_10 (by decide) (by omega) (fun c_10 => ?_) (fun c_10 => absurd c_10 (by omega))
      refine S_iload_n dX9_hold_21 rfl ?_
      refine S_iconst dX9_hold_22 ?_
      refine S_bipush dX9_hold_23 (by decide) ?_
      refine S_callS (mi := mi_X9_hold) [vI w, vI 3, vI 7] ok_X9_in ml_X9_138 dX9_hold_25 (by decide) rfl (Nat.le_of_ble_eq_true rfl) rfl (r_X9_in (ρ := ρ) w 3 7 (by omega) (by omega) (by omega) M4 hR4) ?_
      rintro v' M28 ⟨⟨rfl, b_25⟩ | ⟨rfl, b_25⟩, hR28, hS28'⟩
      · have hS28 := hS4.trans hS28'
        refine S_if_eq 43 dX9_hold_28 (by decide) (by omega) (fun c_28 => absurd c_28 (by omega)) (fun c_28 => ?_)
        refine S_aload_n dX9_hold_31 rfl ?_
        refine S_iload_n dX9_hold_32 rfl ?_
        refine S_callV (mi := mi_X9_hold) [vI n] ok_X9_isEnd ml_X9_172 dX9_hold_33 rfl (by decide) rfl (by decide) rfl (Nat.le_of_ble_eq_true rfl) rfl (r_X9_isEnd (ρ := ρ) n (by omega) (show 0 ≤ ρ.1 4 ∧ ρ.1 4 ≤ 6 from by omega) M28 hR28) ?_
        rintro v' M29 ⟨⟨rfl, b_33⟩ | ⟨rfl, b_33⟩, hR29, hS29'⟩
        · have hS29 := hS28.trans hS29'
          obtain ⟨x, rfl⟩ : ∃ x : Nat, n = ↑x := ⟨n.toNat, by omega⟩
          refine S_if_eq 43 dX9_hold_36 (by decide) (by omega) (fun c_36 => absurd c_36 (by omega)) (fun c_36 => ?_)
          refine S_iconst dX9_hold_39 ?_
          refine S_goto 44 dX9_hold_40 (by decide) ?_
          refine S_istore dX9_hold_44 (by decide) ?_
          refine S_iload_n dX9_hold_46 rfl ?_
          refine S_iconst dX9_hold_47 ?_
          refine S_bipush dX9_hold_48 (by decide) ?_
          refine S_callS (mi := mi_X9_hold) [vI t, vI 0, vI 7] ok_X9_in ml_X9_138 dX9_hold_50 (by decide) rfl (Nat.le_of_ble_eq_true rfl) rfl (r_X9_in (ρ := ρ) t 0 7 (by omega) (by omega) (by omega) M29 hR29) ?_
          rintro v' M30 ⟨⟨rfl, b_50⟩ | ⟨rfl, b_50⟩, hR30, hS30'⟩
          · have hS30 := hS29.trans hS30'
            obtain ⟨i, rfl⟩ : ∃ i : Nat, t = ↑i := ⟨t.toNat, by omega⟩
            refine S_if_eq 61 dX9_hold_53 (by decide) (by omega) (fun c_53 => absurd c_53 (by omega)) (fun c_53 => ?_)
            refine S_iload dX9_hold_56 rfl ?_
            refine S_if_ne 67 dX9_hold_58 (by decide) (by omega) (fun c_58 => ?_) (fun c_58 => absurd c_58 (by omega))
            refine S_iload_n dX9_hold_67 rfl ?_
            refine S_iconst dX9_hold_68 ?_
            refine S_icmp_le 89 dX9_hold_69 (by decide) (by omega) (fun c_69 => absurd c_69 (by omega)) (fun c_69 => ?_)
            refine S_aload_n dX9_hold_72 rfl ?_
            refine S_getP fl_X9_48 dX9_hold_73 rfl rfl (hR30.p 14 rfl) ?_
            refine S_iload_n dX9_hold_76 rfl ?_
            refine S_iconst dX9_hold_77 ?_
            refine S_idiv dX9_hold_78 (by omega) (by omega) ?_
            rw [show Int.tdiv (↑x) 2 = (↑(x / 2) : Int) from rfl]
            refine R_bld (v := ρ.2 14 ((x / 2))) ((x / 2)) hR30 dX9_hold_79 rfl rfl (by omega) (show _ < 6 from by omega) rfl ?_
            refine S_if_ne 89 dX9_hold_80 (by decide) (by have := hst (x / 2) (by omega); omega) (fun c_80 => ?_) (fun c_80 => ?_)
            · have hb9 := (hE x (by omega) (by omega)).bd h hN
              obtain ⟨n9, hn9, hr9⟩ := hK.1 x (by omega)
              have hk28 := hK.2 (12 * x) (by omega)
              refine S_iload_n dX9_hold_89 rfl ?_
              rcases (show w = 0 ∨ w = 1 ∨ w = 2 ∨ w = 3 ∨ w = 4 ∨ w = 5 ∨ w = 6 ∨ (w < 0 ∨ 6 < w) from by omega) with t_90 | t_90 | t_90 | t_90 | t_90 | t_90 | t_90 | t_90
              · exfalso; omega
              · exfalso; omega
              · exfalso; omega
              · refine S_tableIn 161 dX9_hold_90 (by omega) (by omega) (by rw [t_90]; rfl) (by decide) ?_
                refine S_aload_n dX9_hold_161 rfl ?_
                refine S_iload_n dX9_hold_162 rfl ?_
                refine S_iconst dX9_hold_163 ?_
                refine S_aload_n dX9_hold_164 rfl ?_
                refine S_getP fl_X9_54 dX9_hold_165 rfl rfl (hR30.p 16 rfl) ?_
                refine S_iload_n dX9_hold_168 rfl ?_
                refine R_ald (v := ρ.2 16 x) x hR30 dX9_hold_169 rfl rfl (by omega) (show _ < 12 from by omega) rfl ?_
                refine S_callV (mi := mi_X9_hold) [vI (↑i), vI 4, vI (ρ.2 16 x)] ok_X9_puts ml_X9_251 dX9_hold_170 rfl (by decide) rfl (by decide) rfl (Nat.le_of_ble_eq_true rfl) rfl (r_X9_puts (ρ := ρ) i 4 (ρ.2 16 x) (by omega) (by omega) M30 hR30) ?_
                rintro v' M31 ⟨rfl, hR31, hS31'⟩
                have hS31 := hS30.trans hS31'
                exact S_iret dX9_hold_173 rfl (Or.inl rfl) (by first | (exfalso; omega) | (have e9 : holdF ρ (↑i) w (↑x) = ((1 : Int), (ptR ρ i 4 (ρ.2 16 x))) := (by unfold holdF; simp only [Int.toNat_natCast]; (repeat (first | rw [if_pos (by omega)] | rw [if_neg (by omega)])); try rfl); rw [e9]; exact ⟨rfl, hR31, hS31⟩))
              · refine S_tableIn 174 dX9_hold_90 (by omega) (by omega) (by rw [t_90]; rfl) (by decide) ?_
                refine S_aload_n dX9_hold_174 rfl ?_
                refine S_iload_n dX9_hold_175 rfl ?_
                refine S_iconst dX9_hold_176 ?_
                refine S_aload_n dX9_hold_177 rfl ?_
                refine S_getP fl_X9_57 dX9_hold_178 rfl rfl (hR30.p 17 rfl) ?_
                refine S_iload_n dX9_hold_181 rfl ?_
                refine R_ald (v := ρ.2 17 x) x hR30 dX9_hold_182 rfl rfl (by omega) (show _ < 12 from by omega) rfl ?_
                refine S_callV (mi := mi_X9_hold) [vI (↑i), vI 3, vI (ρ.2 17 x)] ok_X9_puts ml_X9_251 dX9_hold_183 rfl (by decide) rfl (by decide) rfl (Nat.le_of_ble_eq_true rfl) rfl (r_X9_puts (ρ := ρ) i 3 (ρ.2 17 x) (by omega) (by omega) M30 hR30) ?_
                rintro v' M32 ⟨rfl, hR32, hS32'⟩
                have hS32 := hS30.trans hS32'
                exact S_iret dX9_hold_186 rfl (Or.inl rfl) (by first | (exfalso; omega) | (have e9 : holdF ρ (↑i) w (↑x) = ((1 : Int), (ptR ρ i 3 (ρ.2 17 x))) := (by unfold holdF; simp only [Int.toNat_natCast]; (repeat (first | rw [if_pos (by omega)] | rw [if_neg (by omega)])); try rfl); rw [e9]; exact ⟨rfl, hR32, hS32⟩))
              · refine S_tableIn 187 dX9_hold_90 (by omega) (by omega) (by rw [t_90]; rfl) (by decide) ?_
                refine S_aload_n dX9_hold_187 rfl ?_
                refine S_iload_n dX9_hold_188 rfl ?_
                refine S_iconst dX9_hold_189 ?_
                refine S_aload_n dX9_hold_190 rfl ?_
                refine S_getP fl_X9_60 dX9_hold_191 rfl rfl (hR30.p 18 rfl) ?_
                refine S_iload_n dX9_hold_194 rfl ?_
                refine R_ald (v := ρ.2 18 x) x hR30 dX9_hold_195 rfl rfl (by omega) (show _ < 12 from by omega) rfl ?_
                refine S_callV (mi := mi_X9_hold) [vI (↑i), vI 3, vI (ρ.2 18 x)] ok_X9_puts ml_X9_251 dX9_hold_196 rfl (by decide) rfl (by decide) rfl (Nat.le_of_ble_eq_true rfl) rfl (r_X9_puts (ρ := ρ) i 3 (ρ.2 18 x) (by omega) (by omega) M30 hR30) ?_
                rintro v' M33 ⟨rfl, hR33, hS33'⟩
                have hS33 := hS30.trans hS33'
                exact S_iret dX9_hold_199 rfl (Or.inl rfl) (by first | (exfalso; omega) | (have e9 : holdF ρ (↑i) w (↑x) = ((1 : Int), (ptR ρ i 3 (ρ.2 18 x))) := (by unfold holdF; simp only [Int.toNat_natCast]; (repeat (first | rw [if_pos (by omega)] | rw [if_neg (by omega)])); try rfl); rw [e9]; exact ⟨rfl, hR33, hS33⟩))
              · refine S_tableIn 200 dX9_hold_90 (by omega) (by omega) (by rw [t_90]; rfl) (by decide) ?_
                refine S_aload_n dX9_hold_200 rfl ?_
                refine S_iload_n dX9_hold_201 rfl ?_
                refine S_iconst dX9_hold_202 ?_
                refine S_aload_n dX9_hold_203 rfl ?_
                refine S_getP fl_X9_51 dX9_hold_204 rfl rfl (hR30.p 15 rfl) ?_
                refine S_iload_n dX9_hold_207 rfl ?_
                refine R_ald (v := ρ.2 15 x) x hR30 dX9_hold_208 rfl rfl (by omega) (show _ < 12 from by omega) rfl ?_
                refine S_callV (mi := mi_X9_hold) [vI (↑i), vI 5, vI (ρ.2 15 x)] ok_X9_puts ml_X9_251 dX9_hold_209 rfl (by decide) rfl (by decide) rfl (Nat.le_of_ble_eq_true rfl) rfl (r_X9_puts (ρ := ρ) i 5 (ρ.2 15 x) (by omega) (by omega) M30 hR30) ?_
                rintro v' M34 ⟨rfl, hR34, hS34'⟩
                have hS34 := hS30.trans hS34'
                exact S_iret dX9_hold_212 rfl (Or.inl rfl) (by first | (exfalso; omega) | (have e9 : holdF ρ (↑i) w (↑x) = ((1 : Int), (ptR ρ i 5 (ρ.2 15 x))) := (by unfold holdF; simp only [Int.toNat_natCast]; (repeat (first | rw [if_pos (by omega)] | rw [if_neg (by omega)])); try rfl); rw [e9]; exact ⟨rfl, hR34, hS34⟩))
              · refine S_tableOut 213 dX9_hold_90 (by omega) t_90 (by decide) ?_
                refine S_aload_n dX9_hold_213 rfl ?_
                refine S_getP fl_X9_126 dX9_hold_214 rfl rfl (hR30.p 41 rfl) ?_
                refine S_iload_n dX9_hold_217 rfl ?_
                refine S_aload_n dX9_hold_218 rfl ?_
                refine S_getP fl_X9_93 dX9_hold_219 rfl rfl (hR30.p 29 rfl) ?_
                refine S_bipush dX9_hold_222 (by decide) ?_
                refine S_iload_n dX9_hold_224 rfl ?_
                refine S_imul dX9_hold_225 ?_
                refine R_ald (v := ρ.2 29 ((12 * x))) ((12 * x)) hR30 dX9_hold_226 rfl rfl (by omega) (show _ < 144 from by omega) rfl ?_
                refine R_ast i dX9_hold_227 rfl rfl (by omega) (show _ < 8 from by omega) hR30 hS30 (fun M35 hR35 hS35 => ?_)
                refine S_aload_n dX9_hold_228 rfl ?_
                refine S_iload_n dX9_hold_229 rfl ?_
                refine S_bipush dX9_hold_230 (by decide) ?_
                refine S_aload_n dX9_hold_232 rfl ?_
                refine S_getP fl_X9_81 dX9_hold_233 rfl rfl (hR35.p 25 rfl) ?_
                refine S_iload_n dX9_hold_236 rfl ?_
                refine R_ald (v := ρ.2 25 x) x hR35 dX9_hold_237 rfl rfl (by omega) (show _ < 12 from by omega) rfl ?_
                refine S_if_ne 245 dX9_hold_238 (by decide) (by omega) (fun c_238 => ?_) (fun c_238 => ?_)
                · refine S_aload_n dX9_hold_245 rfl ?_
                  refine S_getP fl_X9_90 dX9_hold_246 rfl rfl (hR35.p 28 rfl) ?_
                  refine S_bipush dX9_hold_249 (by decide) ?_
                  refine S_iload_n dX9_hold_251 rfl ?_
                  refine S_imul dX9_hold_252 ?_
                  refine R_ald (v := ρ.2 28 ((12 * x))) ((12 * x)) hR35 dX9_hold_253 rfl rfl (by omega) (show _ < 144 from by omega) rfl ?_
                  refine S_callV (mi := mi_X9_hold) [vI (↑i), vI 6, vI (ρ.2 28 ((12 * x)))] ok_X9_puts ml_X9_251 dX9_hold_254 rfl (by decide) rfl (by decide) rfl (Nat.le_of_ble_eq_true rfl) rfl (r_X9_puts (ρ := (ρ.setA 41 i (ρ.2 29 ((12 * x))))) i 6 (ρ.2 28 ((12 * x))) (by omega) (by omega) M35 hR35) ?_
                  rintro v' M36 ⟨rfl, hR36, hS36'⟩
                  have hS36 := hS35.trans hS36'
                  exact S_iret dX9_hold_257 rfl (Or.inl rfl) (by first | (exfalso; omega) | (have e9 : holdF ρ (↑i) w (↑x) = ((1 : Int), (ptR (ρ.setA 41 i (ρ.2 29 ((12 * x)))) i 6 (ρ.2 28 ((12 * x))))) := (by unfold holdF; simp only [Int.toNat_natCast]; (repeat (first | rw [if_pos (by omega)] | rw [if_neg (by omega)])); try rfl); rw [e9]; exact ⟨rfl, hR36, hS36⟩))
                · refine S_iconst dX9_hold_241 ?_
                  refine S_goto 254 dX9_hold_242 (by decide) ?_
                  refine S_callV (mi := mi_X9_hold) [vI (↑i), vI 6, vI ((-1))] ok_X9_puts ml_X9_251 dX9_hold_254 rfl (by decide) rfl (by decide) rfl (Nat.le_of_ble_eq_true rfl) rfl (r_X9_puts (ρ := (ρ.setA 41 i (ρ.2 29 ((12 * x))))) i 6 ((-1)) (by omega) (by omega) M35 hR35) ?_
                  rintro v' M37 ⟨rfl, hR37, hS37'⟩
                  have hS37 := hS35.trans hS37'
                  exact S_iret dX9_hold_257 rfl (Or.inl rfl) (by first | (exfalso; omega) | (have e9 : holdF ρ (↑i) w (↑x) = ((1 : Int), (ptR (ρ.setA 41 i (ρ.2 29 ((12 * x)))) i 6 ((-1)))) := (by unfold holdF; simp only [Int.toNat_natCast]; (repeat (first | rw [if_pos (by omega)] | rw [if_neg (by omega)])); try rfl); rw [e9]; exact ⟨rfl, hR37, hS37⟩))
            · refine S_aload_n dX9_hold_83 rfl ?_
              refine S_iconst dX9_hold_84 ?_
              refine S_callV (mi := mi_X9_hold) [vI 3] ok_X9_refused ml_X9_163 dX9_hold_85 rfl (by decide) rfl (by decide) rfl (Nat.le_of_ble_eq_true rfl) rfl (r_X9_refused (ρ := ρ) 3 M30 hR30) ?_
              rintro v' M38 ⟨rfl, hR38, hS38'⟩
              have hS38 := hS30.trans hS38'
              exact S_iret dX9_hold_88 rfl (Or.inl rfl) (by first | (exfalso; omega) | (have e9 : holdF ρ (↑i) w (↑x) = (((-1) : Int), (ρ.setS 42 3)) := (by unfold holdF; simp only [Int.toNat_natCast]; (repeat (first | rw [if_pos (by omega)] | rw [if_neg (by omega)])); try rfl); rw [e9]; exact ⟨rfl, hR38, hS38⟩))
          · have hS30 := hS29.trans hS30'
            refine S_if_eq 61 dX9_hold_53 (by decide) (by omega) (fun c_53 => ?_) (fun c_53 => absurd c_53 (by omega))
            refine S_aload_n dX9_hold_61 rfl ?_
            refine S_iconst dX9_hold_62 ?_
            refine S_callV (mi := mi_X9_hold) [vI 1] ok_X9_refused ml_X9_163 dX9_hold_63 rfl (by decide) rfl (by decide) rfl (Nat.le_of_ble_eq_true rfl) rfl (r_X9_refused (ρ := ρ) 1 M30 hR30) ?_
            rintro v' M39 ⟨rfl, hR39, hS39'⟩
            have hS39 := hS30.trans hS39'
            exact S_iret dX9_hold_66 rfl (Or.inl rfl) (by first | (exfalso; omega) | (have e9 : holdF ρ t w (↑x) = (((-1) : Int), (ρ.setS 42 1)) := (by unfold holdF; simp only [Int.toNat_natCast]; (repeat (first | rw [if_pos (by omega)] | rw [if_neg (by omega)])); try rfl); rw [e9]; exact ⟨rfl, hR39, hS39⟩))
        · have hS29 := hS28.trans hS29'
          refine S_if_eq 43 dX9_hold_36 (by decide) (by omega) (fun c_36 => ?_) (fun c_36 => absurd c_36 (by omega))
          refine S_iconst dX9_hold_43 ?_
          refine S_istore dX9_hold_44 (by decide) ?_
          refine S_iload_n dX9_hold_46 rfl ?_
          refine S_iconst dX9_hold_47 ?_
          refine S_bipush dX9_hold_48 (by decide) ?_
          refine S_callS (mi := mi_X9_hold) [vI t, vI 0, vI 7] ok_X9_in ml_X9_138 dX9_hold_50 (by decide) rfl (Nat.le_of_ble_eq_true rfl) rfl (r_X9_in (ρ := ρ) t 0 7 (by omega) (by omega) (by omega) M29 hR29) ?_
          rintro v' M40 ⟨⟨rfl, b_50⟩ | ⟨rfl, b_50⟩, hR40, hS40'⟩
          · have hS40 := hS29.trans hS40'
            obtain ⟨i, rfl⟩ : ∃ i : Nat, t = ↑i := ⟨t.toNat, by omega⟩
            refine S_if_eq 61 dX9_hold_53 (by decide) (by omega) (fun c_53 => absurd c_53 (by omega)) (fun c_53 => ?_)
            refine S_iload dX9_hold_56 rfl ?_
            refine S_if_ne 67 dX9_hold_58 (by decide) (by omega) (fun c_58 => absurd c_58 (by omega)) (fun c_58 => ?_)
            refine S_aload_n dX9_hold_61 rfl ?_
            refine S_iconst dX9_hold_62 ?_
            refine S_callV (mi := mi_X9_hold) [vI 1] ok_X9_refused ml_X9_163 dX9_hold_63 rfl (by decide) rfl (by decide) rfl (Nat.le_of_ble_eq_true rfl) rfl (r_X9_refused (ρ := ρ) 1 M40 hR40) ?_
            rintro v' M41 ⟨rfl, hR41, hS41'⟩
            have hS41 := hS40.trans hS41'
            exact S_iret dX9_hold_66 rfl (Or.inl rfl) (by first | (exfalso; omega) | (have e9 : holdF ρ (↑i) w n = (((-1) : Int), (ρ.setS 42 1)) := (by unfold holdF; simp only [Int.toNat_natCast]; (repeat (first | rw [if_pos (by omega)] | rw [if_neg (by omega)])); try rfl); rw [e9]; exact ⟨rfl, hR41, hS41⟩))
          · have hS40 := hS29.trans hS40'
            refine S_if_eq 61 dX9_hold_53 (by decide) (by omega) (fun c_53 => ?_) (fun c_53 => absurd c_53 (by omega))
            refine S_aload_n dX9_hold_61 rfl ?_
            refine S_iconst dX9_hold_62 ?_
            refine S_callV (mi := mi_X9_hold) [vI 1] ok_X9_refused ml_X9_163 dX9_hold_63 rfl (by decide) rfl (by decide) rfl (Nat.le_of_ble_eq_true rfl) rfl (r_X9_refused (ρ := ρ) 1 M40 hR40) ?_
            rintro v' M42 ⟨rfl, hR42, hS42'⟩
            have hS42 := hS40.trans hS42'
            exact S_iret dX9_hold_66 rfl (Or.inl rfl) (by first | (exfalso; omega) | (have e9 : holdF ρ t w n = (((-1) : Int), (ρ.setS 42 1)) := (by unfold holdF; (repeat (first | rw [if_pos (by omega)] | rw [if_neg (by omega)])); try rfl); rw [e9]; exact ⟨rfl, hR42, hS42⟩))
      · have hS28 := hS4.trans hS28'
        refine S_if_eq 43 dX9_hold_28 (by decide) (by omega) (fun c_28 => ?_) (fun c_28 => absurd c_28 (by omega))
        refine S_iconst dX9_hold_43 ?_
        refine S_istore dX9_hold_44 (by decide) ?_
        refine S_iload_n dX9_hold_46 rfl ?_
        refine S_iconst dX9_hold_47 ?_
        refine S_bipush dX9_hold_48 (by decide) ?_
        refine S_callS (mi := mi_X9_hold) [vI t, vI 0, vI 7] ok_X9_in ml_X9_138 dX9_hold_50 (by decide) rfl (Nat.le_of_ble_eq_true rfl) rfl (r_X9_in (ρ := ρ) t 0 7 (by omega) (by omega) (by omega) M28 hR28) ?_
        rintro v' M43 ⟨⟨rfl, b_50⟩ | ⟨rfl, b_50⟩, hR43, hS43'⟩
        · have hS43 := hS28.trans hS43'
          obtain ⟨i, rfl⟩ : ∃ i : Nat, t = ↑i := ⟨t.toNat, by omega⟩
          refine S_if_eq 61 dX9_hold_53 (by decide) (by omega) (fun c_53 => absurd c_53 (by omega)) (fun c_53 => ?_)
          refine S_iload dX9_hold_56 rfl ?_
          refine S_if_ne 67 dX9_hold_58 (by decide) (by omega) (fun c_58 => absurd c_58 (by omega)) (fun c_58 => ?_)
          refine S_aload_n dX9_hold_61 rfl ?_
          refine S_iconst dX9_hold_62 ?_
          refine S_callV (mi := mi_X9_hold) [vI 1] ok_X9_refused ml_X9_163 dX9_hold_63 rfl (by decide) rfl (by decide) rfl (Nat.le_of_ble_eq_true rfl) rfl (r_X9_refused (ρ := ρ) 1 M43 hR43) ?_
          rintro v' M44 ⟨rfl, hR44, hS44'⟩
          have hS44 := hS43.trans hS44'
          exact S_iret dX9_hold_66 rfl (Or.inl rfl) (by first | (exfalso; omega) | (have e9 : holdF ρ (↑i) w n = (((-1) : Int), (ρ.setS 42 1)) := (by unfold holdF; simp only [Int.toNat_natCast]; (repeat (first | rw [if_pos (by omega)] | rw [if_neg (by omega)])); try rfl); rw [e9]; exact ⟨rfl, hR44, hS44⟩))
        · have hS43 := hS28.trans hS43'
          refine S_if_eq 61 dX9_hold_53 (by decide) (by omega) (fun c_53 => ?_) (fun c_53 => absurd c_53 (by omega))
          refine S_aload_n dX9_hold_61 rfl ?_
          refine S_iconst dX9_hold_62 ?_
          refine S_callV (mi := mi_X9_hold) [vI 1] ok_X9_refused ml_X9_163 dX9_hold_63 rfl (by decide) rfl (by decide) rfl (Nat.le_of_ble_eq_true rfl) rfl (r_X9_refused (ρ := ρ) 1 M43 hR43) ?_
          rintro v' M45 ⟨rfl, hR45, hS45'⟩
          have hS45 := hS43.trans hS45'
          exact S_iret dX9_hold_66 rfl (Or.inl rfl) (by first | (exfalso; omega) | (have e9 : holdF ρ t w n = (((-1) : Int), (ρ.setS 42 1)) := (by unfold holdF; (repeat (first | rw [if_pos (by omega)] | rw [if_neg (by omega)])); try rfl); rw [e9]; exact ⟨rfl, hR45, hS45⟩))
