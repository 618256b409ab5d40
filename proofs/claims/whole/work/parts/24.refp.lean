/-! THE REFERENCE: the host -/
def k6 (n : Int) : Int := (n.tmod 6 + 6).tmod 6
theorem tm6 (x : Int) : -6 < x.tmod 6 ∧ x.tmod 6 < 6 := by
  have h := Int.tmod_def x 6
  have h1 : x.tdiv 6 = if 0 ≤ x then x / 6 else -((-x) / 6) := by
    by_cases hx : 0 ≤ x
    · rw [if_pos hx]; exact Int.tdiv_eq_ediv_of_nonneg hx
    · rw [if_neg hx]
      have h2 := Int.neg_tdiv (a := -x) (b := 6)
      rw [Int.neg_neg] at h2
      rw [h2, Int.tdiv_eq_ediv_of_nonneg (by omega)]
  rw [h1] at h
  split at h <;> omega
theorem k6_bd (n : Int) : 0 ≤ k6 n ∧ k6 n ≤ 5 := by
  have h1 := tm6 n
  have h2 := tmod_bd (x := n.tmod 6 + 6) (q := 6) (by omega) (by decide)
  unfold k6; omega
theorem jI_bd (x : Int32) : -2147483648 ≤ x.toInt ∧ x.toInt < 2147483648 := by
  have h1 := Int32.le_toInt x
  have h2 := Int32.toInt_lt x
  omega
def forgeF (ρ : RS) (t w n : Int) : Int × RS := if ¬ (0 ≤ t ∧ t ≤ 7) ∨ ¬ (0 ≤ w ∧ w ≤ 6) ∨ ¬ (-100 ≤ n ∧ n ≤ 100) then (-1, ρ.setS 42 1) else
  if w = 0 then (if ρ.2 39 t.toNat = 0 then (-1, ρ.setS 42 10) else if ρ.2 39 t.toNat = 1 ∨ ¬ (ρ.2 39 t.toNat - 2 = k6 n ∨ k6 n = 0 ∨ (ρ.2 39 t.toNat - 2 = 2 ∧ k6 n = 1) ∨ (ρ.2 39 t.toNat - 2 = 5 ∧ k6 n = 3)) then (-1, ρ.setS 42 11) else (ρ.2 9 (ρ.2 40 t.toNat).toNat, ρ.setS 42 0)) else
  if w = 1 then (if ρ.2 39 t.toNat = 0 then (-1, ρ.setS 42 10) else if ρ.2 39 t.toNat ≠ 1 then (-1, ρ.setS 42 11) else if 0 ≤ n ∧ n ≤ 2 then (hdV ρ (ρ.2 40 t.toNat).toNat n, ρ.setS 42 0) else (-1, ρ.setS 42 12)) else
  if w = 2 then (if n < 0 then (-1, ρ.setS 42 13) else (n, ρ.setS 42 0)) else
  if w = 3 then (if ρ.2 39 t.toNat = 0 then (-1, ρ.setS 42 10) else if ρ.2 39 t.toNat ≠ 1 then (-1, ρ.setS 42 11) else if 0 ≤ n ∧ n ≤ 2 then ((if 0 < n then ρ.2 33 (ρ.2 40 t.toNat).toNat else 0) + (if 1 < n then ρ.2 34 (ρ.2 40 t.toNat).toNat else 0), ρ.setS 42 0) else (-1, ρ.setS 42 12)) else
  if w = 4 then (if ρ.2 39 t.toNat = 0 then (0, ρ.setS 42 0) else if ρ.2 39 t.toNat = 1 then (-1, ρ.setS 42 11) else if ρ.2 39 t.toNat - 2 = 1 ∨ ρ.2 39 t.toNat - 2 = 2 then (1, ρ.setS 42 0) else (-1, ρ.setS 42 14)) else
  if w = 5 then (if n = 0 then (-1, ρ.setS 42 15) else ((jI 100 / jI n).toInt, ρ.setS 42 0)) else
  (if (jI n &&& jI 1).toInt = 0 then (-1, ρ.setS 42 10) else (1, ρ.setS 42 0))
set_option maxRecDepth 100000 in
theorem r_X9_forge {G : Ge} {ρ : RS} (t w n : Int) (t32 : -2147483648 ≤ t ∧ t < 2147483648) (w32 : -2147483648 ≤ w ∧ w < 2147483648) (n32 : -2147483648 ≤ n ∧ n < 2147483648) (hT : TrOK ρ) (hl : 0 ≤ ρ.1 30 ∧ ρ.1 30 ≤ 300) (N : Nat) (h : ThOK ρ N) (hN : N < 8000) : RC G mi_X9_forge [vR ((30, 0)), vI t, vI w, vI n] ρ (some (vI (forgeF ρ t w n).1)) ((forgeF ρ t w n).2) := by
  intro M hR
  have hS := SameR.rf M
  refine Ct.of pl_X9_forge [some (vR ((30, 0))), some (vI t), some (vI w), some (vI n), none, none, none] rfl (Nat.le_of_ble_eq_true rfl) ?_
  refine S_iload_n dX9_forge_0 rfl ?_
  refine S_iconst dX9_forge_1 ?_
  refine S_bipush dX9_forge_2 (by decide) ?_
  refine S_callS (mi := mi_X9_forge) [vI t, vI 0, vI 7] ok_X9_in ml_X9_138 dX9_forge_4 (by decide) rfl (Nat.le_of_ble_eq_true rfl) rfl (r_X9_in (ρ := ρ) t 0 7 (by omega) (by omega) (by omega) M hR) ?_
  rintro v' M1 ⟨⟨rfl, b_4⟩ | ⟨rfl, b_4⟩, hR1, hS1'⟩
  · have hS1 := hS.trans hS1'
    refine S_if_eq 31 dX9_forge_7 (by decide) (by omega) (fun c_7 => absurd c_7 (by omega)) (fun c_7 => ?_)
    refine S_iload_n dX9_forge_10 rfl ?_
    refine S_iconst dX9_forge_11 ?_
    refine S_bipush dX9_forge_12 (by decide) ?_
    refine S_callS (mi := mi_X9_forge) [vI w, vI 0, vI 6] ok_X9_in ml_X9_138 dX9_forge_14 (by decide) rfl (Nat.le_of_ble_eq_true rfl) rfl (r_X9_in (ρ := ρ) w 0 6 (by omega) (by omega) (by omega) M1 hR1) ?_
    rintro v' M2 ⟨⟨rfl, b_14⟩ | ⟨rfl, b_14⟩, hR2, hS2'⟩
    · have hS2 := hS1.trans hS2'
      refine S_if_eq 31 dX9_forge_17 (by decide) (by omega) (fun c_17 => absurd c_17 (by omega)) (fun c_17 => ?_)
      refine S_iload_n dX9_forge_20 rfl ?_
      refine S_bipush dX9_forge_21 (by decide) ?_
      refine S_bipush dX9_forge_23 (by decide) ?_
      refine S_callS (mi := mi_X9_forge) [vI n, vI ((-100)), vI 100] ok_X9_in ml_X9_138 dX9_forge_25 (by decide) rfl (Nat.le_of_ble_eq_true rfl) rfl (r_X9_in (ρ := ρ) n ((-100)) 100 (by omega) (by omega) (by omega) M2 hR2) ?_
      rintro v' M3 ⟨⟨rfl, b_25⟩ | ⟨rfl, b_25⟩, hR3, hS3'⟩
      · have hS3 := hS2.trans hS3'
        obtain ⟨i, rfl⟩ : ∃ i : Nat, t = ↑i := ⟨t.toNat, by omega⟩
        obtain ⟨ht1, ht2, ht3⟩ := hT i (by omega)
        have hl8 := h.2.1
        have h6 := tm6 n
        have hk6 := k6_bd n
        have hkd : k6 n = Int.tmod (Int.tmod n 6 + 6) 6 := rfl
        refine S_if_ne 37 dX9_forge_28 (by decide) (by omega) (fun c_28 => ?_) (fun c_28 => absurd c_28 (by omega))
        refine S_aload_n dX9_forge_37 rfl ?_
        refine S_getP fl_X9_120 dX9_forge_38 rfl rfl (hR3.p 39 rfl) ?_
        refine S_iload_n dX9_forge_41 rfl ?_
        refine R_ald (v := ρ.2 39 i) i hR3 dX9_forge_42 rfl rfl (by omega) (show _ < 8 from by omega) rfl ?_
        refine S_istore dX9_forge_43 (by decide) ?_
        refine S_aload_n dX9_forge_45 rfl ?_
        refine S_getP fl_X9_123 dX9_forge_46 rfl rfl (hR3.p 40 rfl) ?_
        refine S_iload_n dX9_forge_49 rfl ?_
        refine R_ald (v := ρ.2 40 i) i hR3 dX9_forge_50 rfl rfl (by omega) (show _ < 8 from by omega) rfl ?_
        refine S_istore dX9_forge_51 (by decide) ?_
        refine S_iload_n dX9_forge_53 rfl ?_
        rcases (show w = 0 ∨ w = 1 ∨ w = 2 ∨ w = 3 ∨ w = 4 ∨ w = 5 ∨ (w < 0 ∨ 5 < w) from by omega) with t_54 | t_54 | t_54 | t_54 | t_54 | t_54 | t_54
        · refine S_tableIn 92 dX9_forge_54 (by omega) (by omega) (by rw [t_54]; rfl) (by decide) ?_
          refine S_iload_n dX9_forge_92 rfl ?_
          refine S_bipush dX9_forge_93 (by decide) ?_
          refine S_irem dX9_forge_95 (by omega) (by omega) ?_
          refine S_bipush dX9_forge_96 (by decide) ?_
          refine S_iadd dX9_forge_98 ?_
          refine S_bipush dX9_forge_99 (by decide) ?_
          refine S_irem dX9_forge_101 (by omega) (by omega) ?_
          refine S_istore dX9_forge_102 (by decide) ?_
          refine S_iload dX9_forge_104 rfl ?_
          refine S_if_ne 118 dX9_forge_106 (by decide) (by omega) (fun c_106 => ?_) (fun c_106 => ?_)
          · refine S_iload dX9_forge_118 rfl ?_
            refine S_iconst dX9_forge_120 ?_
            refine S_icmp_eq 136 dX9_forge_121 (by decide) (by omega) (fun c_121 => ?_) (fun c_121 => ?_)
            · refine S_aload_n dX9_forge_136 rfl ?_
              refine S_bipush dX9_forge_137 (by decide) ?_
              refine S_callV (mi := mi_X9_forge) [vI 11] ok_X9_refused ml_X9_163 dX9_forge_139 rfl (by decide) rfl (by decide) rfl (Nat.le_of_ble_eq_true rfl) rfl (r_X9_refused (ρ := ρ) 11 M3 hR3) ?_
              rintro v' M4 ⟨rfl, hR4, hS4'⟩
              have hS4 := hS3.trans hS4'
              refine S_goto 156 dX9_forge_142 (by decide) ?_
              exact S_iret dX9_forge_156 rfl (Or.inl rfl) (by first | (exfalso; omega) | (have e9 : forgeF ρ (↑i) w n = (((-1) : Int), (ρ.setS 42 11)) := (by unfold forgeF; simp only [Int.toNat_natCast]; (repeat (first | rw [if_pos (by omega)] | rw [if_neg (by omega)])); try rfl); rw [e9]; exact ⟨rfl, hR4, hS4⟩))
            · refine S_iload dX9_forge_124 rfl ?_
              refine S_iconst dX9_forge_126 ?_
              refine S_isub dX9_forge_127 ?_
              refine S_iload dX9_forge_128 rfl ?_
              refine S_callS (mi := mi_X9_forge) [vI ((ρ.2 39 i) - 2), vI (Int.tmod ((Int.tmod n 6) + 6) 6)] ok_X9_isOf ml_X9_276 dX9_forge_130 (by decide) rfl (Nat.le_of_ble_eq_true rfl) rfl (r_X9_isOf (ρ := ρ) ((ρ.2 39 i) - 2) (Int.tmod ((Int.tmod n 6) + 6) 6) (by omega) (by omega) M3 hR3) ?_
              rintro v' M5 ⟨⟨rfl, b_130⟩ | ⟨rfl, b_130⟩, hR5, hS5'⟩
              · have hS5 := hS3.trans hS5'
                refine S_if_ne 145 dX9_forge_133 (by decide) (by omega) (fun c_133 => ?_) (fun c_133 => absurd c_133 (by omega))
                refine S_aload_n dX9_forge_145 rfl ?_
                refine S_aload_n dX9_forge_146 rfl ?_
                refine S_getP fl_X9_32 dX9_forge_147 rfl rfl (hR5.p 9 rfl) ?_
                refine S_iload dX9_forge_150 rfl ?_
                refine R_ald (v := ρ.2 9 (ρ.2 40 i).toNat) (ρ.2 40 i).toNat hR5 dX9_forge_152 rfl rfl (by omega) (show _ < 8000 from by omega) rfl ?_
                refine S_callV (mi := mi_X9_forge) [vI (ρ.2 9 (ρ.2 40 i).toNat)] ok_X9_done ml_X9_166 dX9_forge_153 rfl (by decide) rfl (by decide) rfl (Nat.le_of_ble_eq_true rfl) rfl (r_X9_done (ρ := ρ) (ρ.2 9 (ρ.2 40 i).toNat) M5 hR5) ?_
                rintro v' M6 ⟨rfl, hR6, hS6'⟩
                have hS6 := hS5.trans hS6'
                exact S_iret dX9_forge_156 rfl (Or.inl rfl) (by first | (exfalso; omega) | (have e9 : forgeF ρ (↑i) w n = ((ρ.2 9 (ρ.2 40 i).toNat : Int), (ρ.setS 42 0)) := (by unfold forgeF; simp only [Int.toNat_natCast]; (repeat (first | rw [if_pos (by omega)] | rw [if_neg (by omega)])); try rfl); rw [e9]; exact ⟨rfl, hR6, hS6⟩))
              · have hS5 := hS3.trans hS5'
                refine S_if_ne 145 dX9_forge_133 (by decide) (by omega) (fun c_133 => absurd c_133 (by omega)) (fun c_133 => ?_)
                refine S_aload_n dX9_forge_136 rfl ?_
                refine S_bipush dX9_forge_137 (by decide) ?_
                refine S_callV (mi := mi_X9_forge) [vI 11] ok_X9_refused ml_X9_163 dX9_forge_139 rfl (by decide) rfl (by decide) rfl (Nat.le_of_ble_eq_true rfl) rfl (r_X9_refused (ρ := ρ) 11 M5 hR5) ?_
                rintro v' M7 ⟨rfl, hR7, hS7'⟩
                have hS7 := hS5.trans hS7'
                refine S_goto 156 dX9_forge_142 (by decide) ?_
                exact S_iret dX9_forge_156 rfl (Or.inl rfl) (by first | (exfalso; omega) | (have e9 : forgeF ρ (↑i) w n = (((-1) : Int), (ρ.setS 42 11)) := (by unfold forgeF; simp only [Int.toNat_natCast]; (repeat (first | rw [if_pos (by omega)] | rw [if_neg (by omega)])); try rfl); rw [e9]; exact ⟨rfl, hR7, hS7⟩))
          · refine S_aload_n dX9_forge_109 rfl ?_
            refine S_bipush dX9_forge_110 (by decide) ?_
            refine S_callV (mi := mi_X9_forge) [vI 10] ok_X9_refused ml_X9_163 dX9_forge_112 rfl (by decide) rfl (by decide) rfl (Nat.le_of_ble_eq_true rfl) rfl (r_X9_refused (ρ := ρ) 10 M3 hR3) ?_
            rintro v' M8 ⟨rfl, hR8, hS8'⟩
            have hS8 := hS3.trans hS8'
            refine S_goto 156 dX9_forge_115 (by decide) ?_
            exact S_iret dX9_forge_156 rfl (Or.inl rfl) (by first | (exfalso; omega) | (have e9 : forgeF ρ (↑i) w n = (((-1) : Int), (ρ.setS 42 10)) := (by unfold forgeF; simp only [Int.toNat_natCast]; (repeat (first | rw [if_pos (by omega)] | rw [if_neg (by omega)])); try rfl); rw [e9]; exact ⟨rfl, hR8, hS8⟩))
        · refine S_tableIn 157 dX9_forge_54 (by omega) (by omega) (by rw [t_54]; rfl) (by decide) ?_
          refine S_iload dX9_forge_157 rfl ?_
          refine S_if_ne 171 dX9_forge_159 (by decide) (by omega) (fun c_159 => ?_) (fun c_159 => ?_)
          · refine S_iload dX9_forge_171 rfl ?_
            refine S_iconst dX9_forge_173 ?_
            refine S_icmp_eq 186 dX9_forge_174 (by decide) (by omega) (fun c_174 => ?_) (fun c_174 => ?_)
            · refine S_iload_n dX9_forge_186 rfl ?_
              refine S_iconst dX9_forge_187 ?_
              refine S_iconst dX9_forge_188 ?_
              refine S_callS (mi := mi_X9_forge) [vI n, vI 0, vI 2] ok_X9_in ml_X9_138 dX9_forge_189 (by decide) rfl (Nat.le_of_ble_eq_true rfl) rfl (r_X9_in (ρ := ρ) n 0 2 (by omega) (by omega) (by omega) M3 hR3) ?_
              rintro v' M9 ⟨⟨rfl, b_189⟩ | ⟨rfl, b_189⟩, hR9, hS9'⟩
              · have hS9 := hS3.trans hS9'
                refine S_if_eq 209 dX9_forge_192 (by decide) (by omega) (fun c_192 => absurd c_192 (by omega)) (fun c_192 => ?_)
                refine S_aload_n dX9_forge_195 rfl ?_
                refine S_aload_n dX9_forge_196 rfl ?_
                refine S_iload dX9_forge_197 rfl ?_
                refine S_iload_n dX9_forge_199 rfl ?_
                refine S_callV (mi := mi_X9_forge) [vI (ρ.2 40 i), vI n] ok_X9_header ml_X9_279 dX9_forge_200 rfl (by decide) rfl (by decide) rfl (Nat.le_of_ble_eq_true rfl) rfl ((by have h9 := r_X9_header (G := G) (ρ := ρ) (ρ.2 40 i).toNat n (by omega) (by omega) M9 hR9; rw [show (((ρ.2 40 i).toNat : Nat) : Int) = ρ.2 40 i from by omega] at h9; exact h9)) ?_
                rintro v' M10 ⟨rfl, hR10, hS10'⟩
                have hS10 := hS9.trans hS10'
                refine S_callV (mi := mi_X9_forge) [vI (hdV ρ (ρ.2 40 i).toNat n)] ok_X9_done ml_X9_166 dX9_forge_203 rfl (by decide) rfl (by decide) rfl (Nat.le_of_ble_eq_true rfl) rfl (r_X9_done (ρ := ρ) (hdV ρ (ρ.2 40 i).toNat n) M10 hR10) ?_
                rintro v' M11 ⟨rfl, hR11, hS11'⟩
                have hS11 := hS10.trans hS11'
                refine S_goto 215 dX9_forge_206 (by decide) ?_
                exact S_iret dX9_forge_215 rfl (Or.inl rfl) (by first | (exfalso; omega) | (have e9 : forgeF ρ (↑i) w n = ((hdV ρ (ρ.2 40 i).toNat n : Int), (ρ.setS 42 0)) := (by unfold forgeF; simp only [Int.toNat_natCast]; (repeat (first | rw [if_pos (by omega)] | rw [if_neg (by omega)])); try rfl); rw [e9]; exact ⟨rfl, hR11, hS11⟩))
              · have hS9 := hS3.trans hS9'
                refine S_if_eq 209 dX9_forge_192 (by decide) (by omega) (fun c_192 => ?_) (fun c_192 => absurd c_192 (by omega))
                refine S_aload_n dX9_forge_209 rfl ?_
                refine S_bipush dX9_forge_210 (by decide) ?_
                refine S_callV (mi := mi_X9_forge) [vI 12] ok_X9_refused ml_X9_163 dX9_forge_212 rfl (by decide) rfl (by decide) rfl (Nat.le_of_ble_eq_true rfl) rfl (r_X9_refused (ρ := ρ) 12 M9 hR9) ?_
                rintro v' M12 ⟨rfl, hR12, hS12'⟩
                have hS12 := hS9.trans hS12'
                exact S_iret dX9_forge_215 rfl (Or.inl rfl) (by first | (exfalso; omega) | (have e9 : forgeF ρ (↑i) w n = (((-1) : Int), (ρ.setS 42 12)) := (by unfold forgeF; simp only [Int.toNat_natCast]; (repeat (first | rw [if_pos (by omega)] | rw [if_neg (by omega)])); try rfl); rw [e9]; exact ⟨rfl, hR12, hS12⟩))
            · refine S_aload_n dX9_forge_177 rfl ?_
              refine S_bipush dX9_forge_178 (by decide) ?_
              refine S_callV (mi := mi_X9_forge) [vI 11] ok_X9_refused ml_X9_163 dX9_forge_180 rfl (by decide) rfl (by decide) rfl (Nat.le_of_ble_eq_true rfl) rfl (r_X9_refused (ρ := ρ) 11 M3 hR3) ?_
              rintro v' M13 ⟨rfl, hR13, hS13'⟩
              have hS13 := hS3.trans hS13'
              refine S_goto 215 dX9_forge_183 (by decide) ?_
              exact S_iret dX9_forge_215 rfl (Or.inl rfl) (by first | (exfalso; omega) | (have e9 : forgeF ρ (↑i) w n = (((-1) : Int), (ρ.setS 42 11)) := (by unfold forgeF; simp only [Int.toNat_natCast]; (repeat (first | rw [if_pos (by omega)] | rw [if_neg (by omega)])); try rfl); rw [e9]; exact ⟨rfl, hR13, hS13⟩))
          · refine S_aload_n dX9_forge_162 rfl ?_
            refine S_bipush dX9_forge_163 (by decide) ?_
            refine S_callV (mi := mi_X9_forge) [vI 10] ok_X9_refused ml_X9_163 dX9_forge_165 rfl (by decide) rfl (by decide) rfl (Nat.le_of_ble_eq_true rfl) rfl (r_X9_refused (ρ := ρ) 10 M3 hR3) ?_
            rintro v' M14 ⟨rfl, hR14, hS14'⟩
            have hS14 := hS3.trans hS14'
            refine S_goto 215 dX9_forge_168 (by decide) ?_
            exact S_iret dX9_forge_215 rfl (Or.inl rfl) (by first | (exfalso; omega) | (have e9 : forgeF ρ (↑i) w n = (((-1) : Int), (ρ.setS 42 10)) := (by unfold forgeF; simp only [Int.toNat_natCast]; (repeat (first | rw [if_pos (by omega)] | rw [if_neg (by omega)])); try rfl); rw [e9]; exact ⟨rfl, hR14, hS14⟩))
        · refine S_tableIn 216 dX9_forge_54 (by omega) (by omega) (by rw [t_54]; rfl) (by decide) ?_
          refine S_iload_n dX9_forge_216 rfl ?_
          refine S_if_ge 229 dX9_forge_217 (by decide) (by omega) (fun c_217 => ?_) (fun c_217 => ?_)
          · refine S_aload_n dX9_forge_229 rfl ?_
            refine S_iload_n dX9_forge_230 rfl ?_
            refine S_callV (mi := mi_X9_forge) [vI n] ok_X9_done ml_X9_166 dX9_forge_231 rfl (by decide) rfl (by decide) rfl (Nat.le_of_ble_eq_true rfl) rfl (r_X9_done (ρ := ρ) n M3 hR3) ?_
            rintro v' M15 ⟨rfl, hR15, hS15'⟩
            have hS15 := hS3.trans hS15'
            exact S_iret dX9_forge_234 rfl (Or.inl rfl) (by first | (exfalso; omega) | (have e9 : forgeF ρ (↑i) w n = ((n : Int), (ρ.setS 42 0)) := (by unfold forgeF; simp only [Int.toNat_natCast]; (repeat (first | rw [if_pos (by omega)] | rw [if_neg (by omega)])); try rfl); rw [e9]; exact ⟨rfl, hR15, hS15⟩))
          · refine S_aload_n dX9_forge_220 rfl ?_
            refine S_bipush dX9_forge_221 (by decide) ?_
            refine S_callV (mi := mi_X9_forge) [vI 13] ok_X9_refused ml_X9_163 dX9_forge_223 rfl (by decide) rfl (by decide) rfl (Nat.le_of_ble_eq_true rfl) rfl (r_X9_refused (ρ := ρ) 13 M3 hR3) ?_
            rintro v' M16 ⟨rfl, hR16, hS16'⟩
            have hS16 := hS3.trans hS16'
            refine S_goto 234 dX9_forge_226 (by decide) ?_
            exact S_iret dX9_forge_234 rfl (Or.inl rfl) (by first | (exfalso; omega) | (have e9 : forgeF ρ (↑i) w n = (((-1) : Int), (ρ.setS 42 13)) := (by unfold forgeF; simp only [Int.toNat_natCast]; (repeat (first | rw [if_pos (by omega)] | rw [if_neg (by omega)])); try rfl); rw [e9]; exact ⟨rfl, hR16, hS16⟩))
        · refine S_tableIn 235 dX9_forge_54 (by omega) (by omega) (by rw [t_54]; rfl) (by decide) ?_
          refine S_iload dX9_forge_235 rfl ?_
          refine S_if_ne 249 dX9_forge_237 (by decide) (by omega) (fun c_237 => ?_) (fun c_237 => ?_)
          · refine S_iload dX9_forge_249 rfl ?_
            refine S_iconst dX9_forge_251 ?_
            refine S_icmp_eq 264 dX9_forge_252 (by decide) (by omega) (fun c_252 => ?_) (fun c_252 => ?_)
            · refine S_iload_n dX9_forge_264 rfl ?_
              refine S_iconst dX9_forge_265 ?_
              refine S_iconst dX9_forge_266 ?_
              refine S_callS (mi := mi_X9_forge) [vI n, vI 0, vI 2] ok_X9_in ml_X9_138 dX9_forge_267 (by decide) rfl (Nat.le_of_ble_eq_true rfl) rfl (r_X9_in (ρ := ρ) n 0 2 (by omega) (by omega) (by omega) M3 hR3) ?_
              rintro v' M17 ⟨⟨rfl, b_267⟩ | ⟨rfl, b_267⟩, hR17, hS17'⟩
              · have hS17 := hS3.trans hS17'
                refine S_if_eq 312 dX9_forge_270 (by decide) (by omega) (fun c_270 => absurd c_270 (by omega)) (fun c_270 => ?_)
                refine S_aload_n dX9_forge_273 rfl ?_
                refine S_iload_n dX9_forge_274 rfl ?_
                refine S_if_le 288 dX9_forge_275 (by decide) (by omega) (fun c_275 => ?_) (fun c_275 => ?_)
                · refine S_iconst dX9_forge_288 ?_
                  refine S_iload_n dX9_forge_289 rfl ?_
                  refine S_iconst dX9_forge_290 ?_
                  refine S_icmp_le 304 dX9_forge_291 (by decide) (by omega) (fun c_291 => ?_) (fun c_291 => ?_)
                  · refine S_iconst dX9_forge_304 ?_
                    refine S_iadd dX9_forge_305 ?_
                    refine S_callV (mi := mi_X9_forge) [vI (0 + 0)] ok_X9_done ml_X9_166 dX9_forge_306 rfl (by decide) rfl (by decide) rfl (Nat.le_of_ble_eq_true rfl) rfl (r_X9_done (ρ := ρ) (0 + 0) M17 hR17) ?_
                    rintro v' M18 ⟨rfl, hR18, hS18'⟩
                    have hS18 := hS17.trans hS18'
                    refine S_goto 318 dX9_forge_309 (by decide) ?_
                    exact S_iret dX9_forge_318 rfl (Or.inl rfl) (by first | (exfalso; omega) | (have e9 : forgeF ρ (↑i) w n = ((0 + 0 : Int), (ρ.setS 42 0)) := (by unfold forgeF; simp only [Int.toNat_natCast]; (repeat (first | rw [if_pos (by omega)] | rw [if_neg (by omega)])); try rfl); rw [e9]; exact ⟨rfl, hR18, hS18⟩))
                  · refine S_aload_n dX9_forge_294 rfl ?_
                    refine S_getP fl_X9_105 dX9_forge_295 rfl rfl (hR17.p 34 rfl) ?_
                    refine S_iload dX9_forge_298 rfl ?_
                    refine R_ald (v := ρ.2 34 (ρ.2 40 i).toNat) (ρ.2 40 i).toNat hR17 dX9_forge_300 rfl rfl (by omega) (show _ < 300 from by omega) rfl ?_
                    refine S_goto 305 dX9_forge_301 (by decide) ?_
                    refine S_iadd dX9_forge_305 ?_
                    refine S_callV (mi := mi_X9_forge) [vI (0 + (ρ.2 34 (ρ.2 40 i).toNat))] ok_X9_done ml_X9_166 dX9_forge_306 rfl (by decide) rfl (by decide) rfl (Nat.le_of_ble_eq_true rfl) rfl (r_X9_done (ρ := ρ) (0 + (ρ.2 34 (ρ.2 40 i).toNat)) M17 hR17) ?_
                    rintro v' M19 ⟨rfl, hR19, hS19'⟩
                    have hS19 := hS17.trans hS19'
                    refine S_goto 318 dX9_forge_309 (by decide) ?_
                    exact S_iret dX9_forge_318 rfl (Or.inl rfl) (by first | (exfalso; omega) | (have e9 : forgeF ρ (↑i) w n = ((0 + (ρ.2 34 (ρ.2 40 i).toNat) : Int), (ρ.setS 42 0)) := (by unfold forgeF; simp only [Int.toNat_natCast]; (repeat (first | rw [if_pos (by omega)] | rw [if_neg (by omega)])); try rfl); rw [e9]; exact ⟨rfl, hR19, hS19⟩))
                · refine S_aload_n dX9_forge_278 rfl ?_
                  refine S_getP fl_X9_102 dX9_forge_279 rfl rfl (hR17.p 33 rfl) ?_
                  refine S_iload dX9_forge_282 rfl ?_
                  refine R_ald (v := ρ.2 33 (ρ.2 40 i).toNat) (ρ.2 40 i).toNat hR17 dX9_forge_284 rfl rfl (by omega) (show _ < 300 from by omega) rfl ?_
                  refine S_goto 289 dX9_forge_285 (by decide) ?_
                  refine S_iload_n dX9_forge_289 rfl ?_
                  refine S_iconst dX9_forge_290 ?_
                  refine S_icmp_le 304 dX9_forge_291 (by decide) (by omega) (fun c_291 => ?_) (fun c_291 => ?_)
                  · refine S_iconst dX9_forge_304 ?_
                    refine S_iadd dX9_forge_305 ?_
                    refine S_callV (mi := mi_X9_forge) [vI ((ρ.2 33 (ρ.2 40 i).toNat) + 0)] ok_X9_done ml_X9_166 dX9_forge_306 rfl (by decide) rfl (by decide) rfl (Nat.le_of_ble_eq_true rfl) rfl (r_X9_done (ρ := ρ) ((ρ.2 33 (ρ.2 40 i).toNat) + 0) M17 hR17) ?_
                    rintro v' M20 ⟨rfl, hR20, hS20'⟩
                    have hS20 := hS17.trans hS20'
                    refine S_goto 318 dX9_forge_309 (by decide) ?_
                    exact S_iret dX9_forge_318 rfl (Or.inl rfl) (by first | (exfalso; omega) | (have e9 : forgeF ρ (↑i) w n = (((ρ.2 33 (ρ.2 40 i).toNat) + 0 : Int), (ρ.setS 42 0)) := (by unfold forgeF; simp only [Int.toNat_natCast]; (repeat (first | rw [if_pos (by omega)] | rw [if_neg (by omega)])); try rfl); rw [e9]; exact ⟨rfl, hR20, hS20⟩))
                  · refine S_aload_n dX9_forge_294 rfl ?_
                    refine S_getP fl_X9_105 dX9_forge_295 rfl rfl (hR17.p 34 rfl) ?_
                    refine S_iload dX9_forge_298 rfl ?_
                    refine R_ald (v := ρ.2 34 (ρ.2 40 i).toNat) (ρ.2 40 i).toNat hR17 dX9_forge_300 rfl rfl (by omega) (show _ < 300 from by omega) rfl ?_
                    refine S_goto 305 dX9_forge_301 (by decide) ?_
                    refine S_iadd dX9_forge_305 ?_
                    refine S_callV (mi := mi_X9_forge) [vI ((ρ.2 33 (ρ.2 40 i).toNat) + (ρ.2 34 (ρ.2 40 i).toNat))] ok_X9_done ml_X9_166 dX9_forge_306 rfl (by decide) rfl (by decide) rfl (Nat.le_of_ble_eq_true rfl) rfl (r_X9_done (ρ := ρ) ((ρ.2 33 (ρ.2 40 i).toNat) + (ρ.2 34 (ρ.2 40 i).toNat)) M17 hR17) ?_
                    rintro v' M21 ⟨rfl, hR21, hS21'⟩
                    have hS21 := hS17.trans hS21'
                    refine S_goto 318 dX9_forge_309 (by decide) ?_
                    exact S_iret dX9_forge_318 rfl (Or.inl rfl) (by first | (exfalso; omega) | (have e9 : forgeF ρ (↑i) w n = (((ρ.2 33 (ρ.2 40 i).toNat) + (ρ.2 34 (ρ.2 40 i).toNat) : Int), (ρ.setS 42 0)) := (by unfold forgeF; simp only [Int.toNat_natCast]; (repeat (first | rw [if_pos (by omega)] | rw [if_neg (by omega)])); try rfl); rw [e9]; exact ⟨rfl, hR21, hS21⟩))
              · have hS17 := hS3.trans hS17'
                refine S_if_eq 312 dX9_forge_270 (by decide) (by omega) (fun c_270 => ?_) (fun c_270 => absurd c_270 (by omega))
                refine S_aload_n dX9_forge_312 rfl ?_
                refine S_bipush dX9_forge_313 (by decide) ?_
                refine S_callV (mi := mi_X9_forge) [vI 12] ok_X9_refused ml_X9_163 dX9_forge_315 rfl (by decide) rfl (by decide) rfl (Nat.le_of_ble_eq_true rfl) rfl (r_X9_refused (ρ := ρ) 12 M17 hR17) ?_
                rintro v' M22 ⟨rfl, hR22, hS22'⟩
                have hS22 := hS17.trans hS22'
                exact S_iret dX9_forge_318 rfl (Or.inl rfl) (by first | (exfalso; omega) | (have e9 : forgeF ρ (↑i) w n = (((-1) : Int), (ρ.setS 42 12)) := (by unfold forgeF; simp only [Int.toNat_natCast]; (repeat (first | rw [if_pos (by omega)] | rw [if_neg (by omega)])); try rfl); rw [e9]; exact ⟨rfl, hR22, hS22⟩))
            · refine S_aload_n dX9_forge_255 rfl ?_
              refine S_bipush dX9_forge_256 (by decide) ?_
              refine S_callV (mi := mi_X9_forge) [vI 11] ok_X9_refused ml_X9_163 dX9_forge_258 rfl (by decide) rfl (by decide) rfl (Nat.le_of_ble_eq_true rfl) rfl (r_X9_refused (ρ := ρ) 11 M3 hR3) ?_
              rintro v' M23 ⟨rfl, hR23, hS23'⟩
              have hS23 := hS3.trans hS23'
              refine S_goto 318 dX9_forge_261 (by decide) ?_
              exact S_iret dX9_forge_318 rfl (Or.inl rfl) (by first | (exfalso; omega) | (have e9 : forgeF ρ (↑i) w n = (((-1) : Int), (ρ.setS 42 11)) := (by unfold forgeF; simp only [Int.toNat_natCast]; (repeat (first | rw [if_pos (by omega)] | rw [if_neg (by omega)])); try rfl); rw [e9]; exact ⟨rfl, hR23, hS23⟩))
          · refine S_aload_n dX9_forge_240 rfl ?_
            refine S_bipush dX9_forge_241 (by decide) ?_
            refine S_callV (mi := mi_X9_forge) [vI 10] ok_X9_refused ml_X9_163 dX9_forge_243 rfl (by decide) rfl (by decide) rfl (Nat.le_of_ble_eq_true rfl) rfl (r_X9_refused (ρ := ρ) 10 M3 hR3) ?_
            rintro v' M24 ⟨rfl, hR24, hS24'⟩
            have hS24 := hS3.trans hS24'
            refine S_goto 318 dX9_forge_246 (by decide) ?_
            exact S_iret dX9_forge_318 rfl (Or.inl rfl) (by first | (exfalso; omega) | (have e9 : forgeF ρ (↑i) w n = (((-1) : Int), (ρ.setS 42 10)) := (by unfold forgeF; simp only [Int.toNat_natCast]; (repeat (first | rw [if_pos (by omega)] | rw [if_neg (by omega)])); try rfl); rw [e9]; exact ⟨rfl, hR24, hS24⟩))
        · refine S_tableIn 319 dX9_forge_54 (by omega) (by omega) (by rw [t_54]; rfl) (by decide) ?_
          refine S_iload dX9_forge_319 rfl ?_
          refine S_if_ne 332 dX9_forge_321 (by decide) (by omega) (fun c_321 => ?_) (fun c_321 => ?_)
          · refine S_iload dX9_forge_332 rfl ?_
            refine S_iconst dX9_forge_334 ?_
            refine S_icmp_ne 347 dX9_forge_335 (by decide) (by omega) (fun c_335 => ?_) (fun c_335 => ?_)
            · refine S_iload dX9_forge_347 rfl ?_
              refine S_iconst dX9_forge_349 ?_
              refine S_isub dX9_forge_350 ?_
              refine S_callS (mi := mi_X9_forge) [vI ((ρ.2 39 i) - 2)] ok_X9_isChain ml_X9_255 dX9_forge_351 (by decide) rfl (Nat.le_of_ble_eq_true rfl) rfl (r_X9_isChain (ρ := ρ) ((ρ.2 39 i) - 2) (by omega) M3 hR3) ?_
              rintro v' M25 ⟨⟨rfl, b_351⟩ | ⟨rfl, b_351⟩, hR25, hS25'⟩
              · have hS25 := hS3.trans hS25'
                refine S_if_eq 365 dX9_forge_354 (by decide) (by omega) (fun c_354 => absurd c_354 (by omega)) (fun c_354 => ?_)
                refine S_aload_n dX9_forge_357 rfl ?_
                refine S_iconst dX9_forge_358 ?_
                refine S_callV (mi := mi_X9_forge) [vI 1] ok_X9_done ml_X9_166 dX9_forge_359 rfl (by decide) rfl (by decide) rfl (Nat.le_of_ble_eq_true rfl) rfl (r_X9_done (ρ := ρ) 1 M25 hR25) ?_
                rintro v' M26 ⟨rfl, hR26, hS26'⟩
                have hS26 := hS25.trans hS26'
                refine S_goto 371 dX9_forge_362 (by decide) ?_
                exact S_iret dX9_forge_371 rfl (Or.inl rfl) (by first | (exfalso; omega) | (have e9 : forgeF ρ (↑i) w n = ((1 : Int), (ρ.setS 42 0)) := (by unfold forgeF; simp only [Int.toNat_natCast]; (repeat (first | rw [if_pos (by omega)] | rw [if_neg (by omega)])); try rfl); rw [e9]; exact ⟨rfl, hR26, hS26⟩))
              · have hS25 := hS3.trans hS25'
                refine S_if_eq 365 dX9_forge_354 (by decide) (by omega) (fun c_354 => ?_) (fun c_354 => absurd c_354 (by omega))
                refine S_aload_n dX9_forge_365 rfl ?_
                refine S_bipush dX9_forge_366 (by decide) ?_
                refine S_callV (mi := mi_X9_forge) [vI 14] ok_X9_refused ml_X9_163 dX9_forge_368 rfl (by decide) rfl (by decide) rfl (Nat.le_of_ble_eq_true rfl) rfl (r_X9_refused (ρ := ρ) 14 M25 hR25) ?_
                rintro v' M27 ⟨rfl, hR27, hS27'⟩
                have hS27 := hS25.trans hS27'
                exact S_iret dX9_forge_371 rfl (Or.inl rfl) (by first | (exfalso; omega) | (have e9 : forgeF ρ (↑i) w n = (((-1) : Int), (ρ.setS 42 14)) := (by unfold forgeF; simp only [Int.toNat_natCast]; (repeat (first | rw [if_pos (by omega)] | rw [if_neg (by omega)])); try rfl); rw [e9]; exact ⟨rfl, hR27, hS27⟩))
            · refine S_aload_n dX9_forge_338 rfl ?_
              refine S_bipush dX9_forge_339 (by decide) ?_
              refine S_callV (mi := mi_X9_forge) [vI 11] ok_X9_refused ml_X9_163 dX9_forge_341 rfl (by decide) rfl (by decide) rfl (Nat.le_of_ble_eq_true rfl) rfl (r_X9_refused (ρ := ρ) 11 M3 hR3) ?_
              rintro v' M28 ⟨rfl, hR28, hS28'⟩
              have hS28 := hS3.trans hS28'
              refine S_goto 371 dX9_forge_344 (by decide) ?_
              exact S_iret dX9_forge_371 rfl (Or.inl rfl) (by first | (exfalso; omega) | (have e9 : forgeF ρ (↑i) w n = (((-1) : Int), (ρ.setS 42 11)) := (by unfold forgeF; simp only [Int.toNat_natCast]; (repeat (first | rw [if_pos (by omega)] | rw [if_neg (by omega)])); try rfl); rw [e9]; exact ⟨rfl, hR28, hS28⟩))
          · refine S_aload_n dX9_forge_324 rfl ?_
            refine S_iconst dX9_forge_325 ?_
            refine S_callV (mi := mi_X9_forge) [vI 0] ok_X9_done ml_X9_166 dX9_forge_326 rfl (by decide) rfl (by decide) rfl (Nat.le_of_ble_eq_true rfl) rfl (r_X9_done (ρ := ρ) 0 M3 hR3) ?_
            rintro v' M29 ⟨rfl, hR29, hS29'⟩
            have hS29 := hS3.trans hS29'
            refine S_goto 371 dX9_forge_329 (by decide) ?_
            exact S_iret dX9_forge_371 rfl (Or.inl rfl) (by first | (exfalso; omega) | (have e9 : forgeF ρ (↑i) w n = ((0 : Int), (ρ.setS 42 0)) := (by unfold forgeF; simp only [Int.toNat_natCast]; (repeat (first | rw [if_pos (by omega)] | rw [if_neg (by omega)])); try rfl); rw [e9]; exact ⟨rfl, hR29, hS29⟩))
        · refine S_tableIn 372 dX9_forge_54 (by omega) (by omega) (by rw [t_54]; rfl) (by decide) ?_
          refine S_iload_n dX9_forge_372 rfl ?_
          refine S_if_ne 385 dX9_forge_373 (by decide) (by omega) (fun c_373 => ?_) (fun c_373 => ?_)
          · refine S_aload_n dX9_forge_385 rfl ?_
            refine S_bipush dX9_forge_386 (by decide) ?_
            refine S_iload_n dX9_forge_388 rfl ?_
            refine S_idivV dX9_forge_389 (by omega) (by omega) ?_
            refine S_callV (mi := mi_X9_forge) [vI ((jI 100 / jI n).toInt)] ok_X9_done ml_X9_166 dX9_forge_390 rfl (by decide) rfl (by decide) rfl (Nat.le_of_ble_eq_true rfl) rfl (r_X9_done (ρ := ρ) ((jI 100 / jI n).toInt) M3 hR3) ?_
            rintro v' M30 ⟨rfl, hR30, hS30'⟩
            have hS30 := hS3.trans hS30'
            exact S_iret dX9_forge_393 rfl (Or.inl rfl) (by first | (exfalso; omega) | (have e9 : forgeF ρ (↑i) w n = (((jI 100 / jI n).toInt : Int), (ρ.setS 42 0)) := (by unfold forgeF; simp only [Int.toNat_natCast]; (repeat (first | rw [if_pos (by omega)] | rw [if_neg (by omega)])); try rfl); rw [e9]; exact ⟨rfl, hR30, hS30⟩))
          · refine S_aload_n dX9_forge_376 rfl ?_
            refine S_bipush dX9_forge_377 (by decide) ?_
            refine S_callV (mi := mi_X9_forge) [vI 15] ok_X9_refused ml_X9_163 dX9_forge_379 rfl (by decide) rfl (by decide) rfl (Nat.le_of_ble_eq_true rfl) rfl (r_X9_refused (ρ := ρ) 15 M3 hR3) ?_
            rintro v' M31 ⟨rfl, hR31, hS31'⟩
            have hS31 := hS3.trans hS31'
            refine S_goto 393 dX9_forge_382 (by decide) ?_
            exact S_iret dX9_forge_393 rfl (Or.inl rfl) (by first | (exfalso; omega) | (have e9 : forgeF ρ (↑i) w n = (((-1) : Int), (ρ.setS 42 15)) := (by unfold forgeF; simp only [Int.toNat_natCast]; (repeat (first | rw [if_pos (by omega)] | rw [if_neg (by omega)])); try rfl); rw [e9]; exact ⟨rfl, hR31, hS31⟩))
        · refine S_tableOut 394 dX9_forge_54 (by omega) t_54 (by decide) ?_
          refine S_iload_n dX9_forge_394 rfl ?_
          refine S_iconst dX9_forge_395 ?_
          refine S_iand dX9_forge_396 ?_
          refine S_if_ne 409 dX9_forge_397 (by decide) (jI_bd _) (fun c_397 => ?_) (fun c_397 => ?_)
          · refine S_aload_n dX9_forge_409 rfl ?_
            refine S_iconst dX9_forge_410 ?_
            refine S_callV (mi := mi_X9_forge) [vI 1] ok_X9_done ml_X9_166 dX9_forge_411 rfl (by decide) rfl (by decide) rfl (Nat.le_of_ble_eq_true rfl) rfl (r_X9_done (ρ := ρ) 1 M3 hR3) ?_
            rintro v' M32 ⟨rfl, hR32, hS32'⟩
            have hS32 := hS3.trans hS32'
            exact S_iret dX9_forge_414 rfl (Or.inl rfl) (by first | (exfalso; omega) | (have e9 : forgeF ρ (↑i) w n = ((1 : Int), (ρ.setS 42 0)) := (by unfold forgeF; simp only [Int.toNat_natCast]; (repeat (first | rw [if_pos (by omega)] | rw [if_neg (by omega)])); try rfl); rw [e9]; exact ⟨rfl, hR32, hS32⟩))
          · refine S_aload_n dX9_forge_400 rfl ?_
            refine S_bipush dX9_forge_401 (by decide) ?_
            refine S_callV (mi := mi_X9_forge) [vI 10] ok_X9_refused ml_X9_163 dX9_forge_403 rfl (by decide) rfl (by decide) rfl (Nat.le_of_ble_eq_true rfl) rfl (r_X9_refused (ρ := ρ) 10 M3 hR3) ?_
            rintro v' M33 ⟨rfl, hR33, hS33'⟩
            have hS33 := hS3.trans hS33'
            refine S_goto 414 dX9_forge_406 (by decide) ?_
            exact S_iret dX9_forge_414 rfl (Or.inl rfl) (by first | (exfalso; omega) | (have e9 : forgeF ρ (↑i) w n = (((-1) : Int), (ρ.setS 42 10)) := (by unfold forgeF; simp only [Int.toNat_natCast]; (repeat (first | rw [if_pos (by omega)] | rw [if_neg (by omega)])); try rfl); rw [e9]; exact ⟨rfl, hR33, hS33⟩))
      · have hS3 := hS2.trans hS3'
        refine S_if_ne 37 dX9_forge_28 (by decide) (by omega) (fun c_28 => absurd c_28 (by omega)) (fun c_28 => ?_)
        refine S_aload_n dX9_forge_31 rfl ?_
        refine S_iconst dX9_forge_32 ?_
        refine S_callV (mi := mi_X9_forge) [vI 1] ok_X9_refused ml_X9_163 dX9_forge_33 rfl (by decide) rfl (by decide) rfl (Nat.le_of_ble_eq_true rfl) rfl (r_X9_refused (ρ := ρ) 1 M3 hR3) ?_
        rintro v' M34 ⟨rfl, hR34, hS34'⟩
        have hS34 := hS3.trans hS34'
        exact S_iret dX9_forge_36 rfl (Or.inl rfl) (by first | (exfalso; omega) | (have e9 : forgeF ρ t w n = (((-1) : Int), (ρ.setS 42 1)) := (by unfold forgeF; (repeat (first | rw [if_pos (by omega)] | rw [if_neg (by omega)])); try rfl); rw [e9]; exact ⟨rfl, hR34, hS34⟩))
    · have hS2 := hS1.trans hS2'
      refine S_if_eq 31 dX9_forge_17 (by decide) (by omega) (fun c_17 => ?_) (fun c_17 => absurd c_17 (by omega))
      refine S_aload_n dX9_forge_31 rfl ?_
      refine S_iconst dX9_forge_32 ?_
      refine S_callV (mi := mi_X9_forge) [vI 1] ok_X9_refused ml_X9_163 dX9_forge_33 rfl (by decide) rfl (by decide) rfl (Nat.le_of_ble_eq_true rfl) rfl (r_X9_refused (ρ := ρ) 1 M2 hR2) ?_
      rintro v' M35 ⟨rfl, hR35, hS35'⟩
      have hS35 := hS2.trans hS35'
      exact S_iret dX9_forge_36 rfl (Or.inl rfl) (by first | (exfalso; omega) | (have e9 : forgeF ρ t w n = (((-1) : Int), (ρ.setS 42 1)) := (by unfold forgeF; (repeat (first | rw [if_pos (by omega)] | rw [if_neg (by omega)])); try rfl); rw [e9]; exact ⟨rfl, hR35, hS35⟩))
  · have hS1 := hS.trans hS1'
    refine S_if_eq 31 dX9_forge_7 (by decide) (by omega) (fun c_7 => ?_) (fun c_7 => absurd c_7 (by omega))
    refine S_aload_n dX9_forge_31 rfl ?_
    refine S_iconst dX9_forge_32 ?_
    refine S_callV (mi := mi_X9_forge) [vI 1] ok_X9_refused ml_X9_163 dX9_forge_33 rfl (by decide) rfl (by decide) rfl (Nat.le_of_ble_eq_true rfl) rfl (r_X9_refused (ρ := ρ) 1 M1 hR1) ?_
    rintro v' M36 ⟨rfl, hR36, hS36'⟩
    have hS36 := hS1.trans hS36'
    exact S_iret dX9_forge_36 rfl (Or.inl rfl) (by first | (exfalso; omega) | (have e9 : forgeF ρ t w n = (((-1) : Int), (ρ.setS 42 1)) := (by unfold forgeF; (repeat (first | rw [if_pos (by omega)] | rw [if_neg (by omega)])); try rfl); rw [e9]; exact ⟨rfl, hR36, hS36⟩))
