/-! THE REFERENCE: act, trace, the host, holding -/
def actF (ρ : RS) (t a x : Int) : Int × RS := if ¬ (0 ≤ t ∧ t ≤ 7) ∨ ¬ (0 ≤ a ∧ a ≤ 3) then (-1, ρ.setS 42 1) else if ρ.2 39 t.toNat < 2 then (-1, ρ.setS 42 3) else
  if a = 0 then (moveV (ρ.2 39 t.toNat - 2) (ρ.2 9 (ρ.2 40 t.toNat).toNat) x, (ranL (ρ.setS 44 0) 0 (moveL (ρ.2 39 t.toNat - 2))).setS 42 0)
  else if a = 1 then (mixedV (ρ.2 39 t.toNat - 2) (ρ.2 9 (ρ.2 40 t.toNat).toNat) x, (ranL (ρ.setS 44 0) 0 (mixedL (ρ.2 39 t.toNat - 2))).setS 42 0)
  else if a = 2 then (endedV (ρ.2 39 t.toNat - 2) (ρ.2 9 (ρ.2 40 t.toNat).toNat) x (ρ.2 41 t.toNat), (ranL (ρ.setS 44 0) 0 (endedL (ρ.2 39 t.toNat - 2))).setS 42 0)
  else (tellV (ρ.2 39 t.toNat - 2) (ρ.2 9 (ρ.2 40 t.toNat).toNat) x, (ranL (ρ.setS 44 0) 0 (tellL (ρ.2 39 t.toNat - 2))).setS 42 0)
def traceV (ρ : RS) (i : Int) : Int := if 0 ≤ i ∧ i ≤ (if ρ.1 44 < 40 then ρ.1 44 else 40) - 1 then ρ.2 43 i.toNat else -1
def trayV (ρ : RS) (t : Int) : Int := if 0 ≤ t ∧ t ≤ 7 then ρ.2 39 t.toNat else -1
def TrOK (ρ : RS) : Prop := ∀ i, i < 8 → (0 ≤ ρ.2 39 i ∧ ρ.2 39 i ≤ 6) ∧ (ρ.2 39 i = 1 → 0 ≤ ρ.2 40 i ∧ ρ.2 40 i < ρ.1 30) ∧ (2 ≤ ρ.2 39 i → 0 ≤ ρ.2 40 i ∧ ρ.2 40 i < thN ρ)
set_option maxRecDepth 100000 in
theorem r_X9_act {G : Ge} {ρ : RS} (t a x : Int) (t32 : -2147483648 ≤ t ∧ t < 2147483648) (a32 : -2147483648 ≤ a ∧ a < 2147483648) (x32 : -2147483648 ≤ x ∧ x < 2147483648) (hT : TrOK ρ) (N : Nat) (h : ThOK ρ N) (hN : N < 8000) : RC G mi_X9_act [vR ((30, 0)), vI t, vI a, vI x] ρ (some (vI (actF ρ t a x).1)) ((actF ρ t a x).2) := by
  intro M hR
  have hS := SameR.rf M
  refine Ct.of pl_X9_act [some (vR ((30, 0))), some (vI t), some (vI a), some (vI x), none, none] rfl (Nat.le_of_ble_eq_true rfl) ?_
  refine S_iload_n dX9_act_0 rfl ?_
  refine S_iconst dX9_act_1 ?_
  refine S_bipush dX9_act_2 (by decide) ?_
  refine S_callS (mi := mi_X9_act) [vI t, vI 0, vI 7] ok_X9_in ml_X9_138 dX9_act_4 (by decide) rfl (Nat.le_of_ble_eq_true rfl) rfl (r_X9_in (ρ := ρ) t 0 7 (by omega) (by omega) (by omega) M hR) ?_
  rintro v' M1 ⟨⟨rfl, b_4⟩ | ⟨rfl, b_4⟩, hR1, hS1'⟩
  · have hS1 := hS.trans hS1'
    refine S_if_eq 19 dX9_act_7 (by decide) (by omega) (fun c_7 => absurd c_7 (by omega)) (fun c_7 => ?_)
    refine S_iload_n dX9_act_10 rfl ?_
    refine S_iconst dX9_act_11 ?_
    refine S_iconst dX9_act_12 ?_
    refine S_callS (mi := mi_X9_act) [vI a, vI 0, vI 3] ok_X9_in ml_X9_138 dX9_act_13 (by decide) rfl (Nat.le_of_ble_eq_true rfl) rfl (r_X9_in (ρ := ρ) a 0 3 (by omega) (by omega) (by omega) M1 hR1) ?_
    rintro v' M2 ⟨⟨rfl, b_13⟩ | ⟨rfl, b_13⟩, hR2, hS2'⟩
    · have hS2 := hS1.trans hS2'
      obtain ⟨i, rfl⟩ : ∃ i : Nat, t = ↑i := ⟨t.toNat, by omega⟩
      obtain ⟨ht1, ht2, ht3⟩ := hT i (by omega)
      have hl8 := h.2.1
      refine S_if_ne 25 dX9_act_16 (by decide) (by omega) (fun c_16 => ?_) (fun c_16 => absurd c_16 (by omega))
      refine S_aload_n dX9_act_25 rfl ?_
      refine S_getP fl_X9_120 dX9_act_26 rfl rfl (hR2.p 39 rfl) ?_
      refine S_iload_n dX9_act_29 rfl ?_
      refine R_ald (v := ρ.2 39 i) i hR2 dX9_act_30 rfl rfl (by omega) (show _ < 8 from by omega) rfl ?_
      refine S_iconst dX9_act_31 ?_
      refine S_icmp_ge 41 dX9_act_32 (by decide) (by omega) (fun c_32 => ?_) (fun c_32 => ?_)
      · refine S_aload_n dX9_act_41 rfl ?_
        refine S_getP fl_X9_120 dX9_act_42 rfl rfl (hR2.p 39 rfl) ?_
        refine S_iload_n dX9_act_45 rfl ?_
        refine R_ald (v := ρ.2 39 i) i hR2 dX9_act_46 rfl rfl (by omega) (show _ < 8 from by omega) rfl ?_
        refine S_iconst dX9_act_47 ?_
        refine S_isub dX9_act_48 ?_
        refine S_istore dX9_act_49 (by decide) ?_
        refine S_aload_n dX9_act_51 rfl ?_
        refine S_getP fl_X9_32 dX9_act_52 rfl rfl (hR2.p 9 rfl) ?_
        refine S_aload_n dX9_act_55 rfl ?_
        refine S_getP fl_X9_123 dX9_act_56 rfl rfl (hR2.p 40 rfl) ?_
        refine S_iload_n dX9_act_59 rfl ?_
        refine R_ald (v := ρ.2 40 i) i hR2 dX9_act_60 rfl rfl (by omega) (show _ < 8 from by omega) rfl ?_
        refine R_ald (v := ρ.2 9 (ρ.2 40 i).toNat) (ρ.2 40 i).toNat hR2 dX9_act_61 rfl rfl (by omega) (show _ < 8000 from by omega) rfl ?_
        refine S_istore dX9_act_62 (by decide) ?_
        refine S_aload_n dX9_act_64 rfl ?_
        refine S_iconst dX9_act_65 ?_
        refine R_put fl_X9_248 dX9_act_66 rfl rfl rfl hR2 hS2 (fun M3 hR3 hS3 => ?_)
        refine S_aload_n dX9_act_69 rfl ?_
        refine S_iload_n dX9_act_70 rfl ?_
        refine S_if_ne 86 dX9_act_71 (by decide) (by omega) (fun c_71 => ?_) (fun c_71 => ?_)
        · refine S_iload_n dX9_act_86 rfl ?_
          refine S_iconst dX9_act_87 ?_
          refine S_icmp_ne 103 dX9_act_88 (by decide) (by omega) (fun c_88 => ?_) (fun c_88 => ?_)
          · refine S_iload_n dX9_act_103 rfl ?_
            refine S_iconst dX9_act_104 ?_
            refine S_icmp_ne 126 dX9_act_105 (by decide) (by omega) (fun c_105 => ?_) (fun c_105 => ?_)
            · refine S_aload_n dX9_act_126 rfl ?_
              refine S_iload dX9_act_127 rfl ?_
              refine S_iload dX9_act_129 rfl ?_
              refine S_iload_n dX9_act_131 rfl ?_
              refine S_callV (mi := mi_X9_act) [vI ((ρ.2 39 i) - 2), vI (ρ.2 9 (ρ.2 40 i).toNat), vI x] ok_X9_tell ml_X9_267 dX9_act_132 rfl (by decide) rfl (by decide) rfl (Nat.le_of_ble_eq_true rfl) rfl (r_X9_tell (ρ := (ρ.setS 44 0)) ((ρ.2 39 i) - 2) (ρ.2 9 (ρ.2 40 i).toNat) x (by omega) 0 rfl (by omega) M3 hR3) ?_
              rintro v' M4 ⟨rfl, hR4, hS4'⟩
              have hS4 := hS3.trans hS4'
              refine S_callV (mi := mi_X9_act) [vI (tellV ((ρ.2 39 i) - 2) (ρ.2 9 (ρ.2 40 i).toNat) x)] ok_X9_done ml_X9_166 dX9_act_135 rfl (by decide) rfl (by decide) rfl (Nat.le_of_ble_eq_true rfl) rfl (r_X9_done (ρ := (ranL (ρ.setS 44 0) 0 (tellL ((ρ.2 39 i) - 2)))) (tellV ((ρ.2 39 i) - 2) (ρ.2 9 (ρ.2 40 i).toNat) x) M4 hR4) ?_
              rintro v' M5 ⟨rfl, hR5, hS5'⟩
              have hS5 := hS4.trans hS5'
              exact S_iret dX9_act_138 rfl (Or.inl rfl) (by have e9 : actF ρ ↑i a x = ((tellV ((ρ.2 39 i) - 2) (ρ.2 9 (ρ.2 40 i).toNat) x : Int), ((ranL (ρ.setS 44 0) 0 (tellL ((ρ.2 39 i) - 2))).setS 42 0)) := (by unfold actF; simp only [Int.toNat_natCast]; (repeat (first | rw [if_pos (by omega)] | rw [if_neg (by omega)])); try rfl); rw [e9]; exact ⟨rfl, hR5, hS5⟩)
            · refine S_aload_n dX9_act_108 rfl ?_
              refine S_iload dX9_act_109 rfl ?_
              refine S_iload dX9_act_111 rfl ?_
              refine S_iload_n dX9_act_113 rfl ?_
              refine S_aload_n dX9_act_114 rfl ?_
              refine S_getP fl_X9_126 dX9_act_115 rfl rfl (hR3.p 41 rfl) ?_
              refine S_iload_n dX9_act_118 rfl ?_
              refine R_ald (v := ρ.2 41 i) i hR3 dX9_act_119 rfl rfl (by omega) (show _ < 8 from by omega) rfl ?_
              refine S_callV (mi := mi_X9_act) [vI ((ρ.2 39 i) - 2), vI (ρ.2 9 (ρ.2 40 i).toNat), vI x, vI (ρ.2 41 i)] ok_X9_ended ml_X9_273 dX9_act_120 rfl (by decide) rfl (by decide) rfl (Nat.le_of_ble_eq_true rfl) rfl (r_X9_ended (ρ := (ρ.setS 44 0)) ((ρ.2 39 i) - 2) (ρ.2 9 (ρ.2 40 i).toNat) x (ρ.2 41 i) (by omega) 0 rfl (by omega) M3 hR3) ?_
              rintro v' M6 ⟨rfl, hR6, hS6'⟩
              have hS6 := hS3.trans hS6'
              refine S_goto 135 dX9_act_123 (by decide) ?_
              refine S_callV (mi := mi_X9_act) [vI (endedV ((ρ.2 39 i) - 2) (ρ.2 9 (ρ.2 40 i).toNat) x (ρ.2 41 i))] ok_X9_done ml_X9_166 dX9_act_135 rfl (by decide) rfl (by decide) rfl (Nat.le_of_ble_eq_true rfl) rfl (r_X9_done (ρ := (ranL (ρ.setS 44 0) 0 (endedL ((ρ.2 39 i) - 2)))) (endedV ((ρ.2 39 i) - 2) (ρ.2 9 (ρ.2 40 i).toNat) x (ρ.2 41 i)) M6 hR6) ?_
              rintro v' M7 ⟨rfl, hR7, hS7'⟩
              have hS7 := hS6.trans hS7'
              exact S_iret dX9_act_138 rfl (Or.inl rfl) (by have e9 : actF ρ ↑i a x = ((endedV ((ρ.2 39 i) - 2) (ρ.2 9 (ρ.2 40 i).toNat) x (ρ.2 41 i) : Int), ((ranL (ρ.setS 44 0) 0 (endedL ((ρ.2 39 i) - 2))).setS 42 0)) := (by unfold actF; simp only [Int.toNat_natCast]; (repeat (first | rw [if_pos (by omega)] | rw [if_neg (by omega)])); try rfl); rw [e9]; exact ⟨rfl, hR7, hS7⟩)
          · refine S_aload_n dX9_act_91 rfl ?_
            refine S_iload dX9_act_92 rfl ?_
            refine S_iload dX9_act_94 rfl ?_
            refine S_iload_n dX9_act_96 rfl ?_
            refine S_callV (mi := mi_X9_act) [vI ((ρ.2 39 i) - 2), vI (ρ.2 9 (ρ.2 40 i).toNat), vI x] ok_X9_mixed ml_X9_264 dX9_act_97 rfl (by decide) rfl (by decide) rfl (Nat.le_of_ble_eq_true rfl) rfl (r_X9_mixed (ρ := (ρ.setS 44 0)) ((ρ.2 39 i) - 2) (ρ.2 9 (ρ.2 40 i).toNat) x (by omega) 0 rfl (by omega) M3 hR3) ?_
            rintro v' M8 ⟨rfl, hR8, hS8'⟩
            have hS8 := hS3.trans hS8'
            refine S_goto 135 dX9_act_100 (by decide) ?_
            refine S_callV (mi := mi_X9_act) [vI (mixedV ((ρ.2 39 i) - 2) (ρ.2 9 (ρ.2 40 i).toNat) x)] ok_X9_done ml_X9_166 dX9_act_135 rfl (by decide) rfl (by decide) rfl (Nat.le_of_ble_eq_true rfl) rfl (r_X9_done (ρ := (ranL (ρ.setS 44 0) 0 (mixedL ((ρ.2 39 i) - 2)))) (mixedV ((ρ.2 39 i) - 2) (ρ.2 9 (ρ.2 40 i).toNat) x) M8 hR8) ?_
            rintro v' M9 ⟨rfl, hR9, hS9'⟩
            have hS9 := hS8.trans hS9'
            exact S_iret dX9_act_138 rfl (Or.inl rfl) (by have e9 : actF ρ ↑i a x = ((mixedV ((ρ.2 39 i) - 2) (ρ.2 9 (ρ.2 40 i).toNat) x : Int), ((ranL (ρ.setS 44 0) 0 (mixedL ((ρ.2 39 i) - 2))).setS 42 0)) := (by unfold actF; simp only [Int.toNat_natCast]; (repeat (first | rw [if_pos (by omega)] | rw [if_neg (by omega)])); try rfl); rw [e9]; exact ⟨rfl, hR9, hS9⟩)
        · refine S_aload_n dX9_act_74 rfl ?_
          refine S_iload dX9_act_75 rfl ?_
          refine S_iload dX9_act_77 rfl ?_
          refine S_iload_n dX9_act_79 rfl ?_
          refine S_callV (mi := mi_X9_act) [vI ((ρ.2 39 i) - 2), vI (ρ.2 9 (ρ.2 40 i).toNat), vI x] ok_X9_move ml_X9_261 dX9_act_80 rfl (by decide) rfl (by decide) rfl (Nat.le_of_ble_eq_true rfl) rfl (r_X9_move (ρ := (ρ.setS 44 0)) ((ρ.2 39 i) - 2) (ρ.2 9 (ρ.2 40 i).toNat) x (by omega) 0 rfl (by omega) M3 hR3) ?_
          rintro v' M10 ⟨rfl, hR10, hS10'⟩
          have hS10 := hS3.trans hS10'
          refine S_goto 135 dX9_act_83 (by decide) ?_
          refine S_callV (mi := mi_X9_act) [vI (moveV ((ρ.2 39 i) - 2) (ρ.2 9 (ρ.2 40 i).toNat) x)] ok_X9_done ml_X9_166 dX9_act_135 rfl (by decide) rfl (by decide) rfl (Nat.le_of_ble_eq_true rfl) rfl (r_X9_done (ρ := (ranL (ρ.setS 44 0) 0 (moveL ((ρ.2 39 i) - 2)))) (moveV ((ρ.2 39 i) - 2) (ρ.2 9 (ρ.2 40 i).toNat) x) M10 hR10) ?_
          rintro v' M11 ⟨rfl, hR11, hS11'⟩
          have hS11 := hS10.trans hS11'
          exact S_iret dX9_act_138 rfl (Or.inl rfl) (by have e9 : actF ρ ↑i a x = ((moveV ((ρ.2 39 i) - 2) (ρ.2 9 (ρ.2 40 i).toNat) x : Int), ((ranL (ρ.setS 44 0) 0 (moveL ((ρ.2 39 i) - 2))).setS 42 0)) := (by unfold actF; simp only [Int.toNat_natCast]; (repeat (first | rw [if_pos (by omega)] | rw [if_neg (by omega)])); try rfl); rw [e9]; exact ⟨rfl, hR11, hS11⟩)
      · refine S_aload_n dX9_act_35 rfl ?_
        refine S_iconst dX9_act_36 ?_
        refine S_callV (mi := mi_X9_act) [vI 3] ok_X9_refused ml_X9_163 dX9_act_37 rfl (by decide) rfl (by decide) rfl (Nat.le_of_ble_eq_true rfl) rfl (r_X9_refused (ρ := ρ) 3 M2 hR2) ?_
        rintro v' M12 ⟨rfl, hR12, hS12'⟩
        have hS12 := hS2.trans hS12'
        exact S_iret dX9_act_40 rfl (Or.inl rfl) (by have e9 : actF ρ ↑i a x = (((-1) : Int), (ρ.setS 42 3)) := (by unfold actF; simp only [Int.toNat_natCast]; (repeat (first | rw [if_pos (by omega)] | rw [if_neg (by omega)])); try rfl); rw [e9]; exact ⟨rfl, hR12, hS12⟩)
    · have hS2 := hS1.trans hS2'
      refine S_if_ne 25 dX9_act_16 (by decide) (by omega) (fun c_16 => absurd c_16 (by omega)) (fun c_16 => ?_)
      refine S_aload_n dX9_act_19 rfl ?_
      refine S_iconst dX9_act_20 ?_
      refine S_callV (mi := mi_X9_act) [vI 1] ok_X9_refused ml_X9_163 dX9_act_21 rfl (by decide) rfl (by decide) rfl (Nat.le_of_ble_eq_true rfl) rfl (r_X9_refused (ρ := ρ) 1 M2 hR2) ?_
      rintro v' M13 ⟨rfl, hR13, hS13'⟩
      have hS13 := hS2.trans hS13'
      exact S_iret dX9_act_24 rfl (Or.inl rfl) (by have e9 : actF ρ t a x = (((-1) : Int), (ρ.setS 42 1)) := (by unfold actF; (repeat (first | rw [if_pos (by omega)] | rw [if_neg (by omega)])); try rfl); rw [e9]; exact ⟨rfl, hR13, hS13⟩)
  · have hS1 := hS.trans hS1'
    refine S_if_eq 19 dX9_act_7 (by decide) (by omega) (fun c_7 => ?_) (fun c_7 => absurd c_7 (by omega))
    refine S_aload_n dX9_act_19 rfl ?_
    refine S_iconst dX9_act_20 ?_
    refine S_callV (mi := mi_X9_act) [vI 1] ok_X9_refused ml_X9_163 dX9_act_21 rfl (by decide) rfl (by decide) rfl (Nat.le_of_ble_eq_true rfl) rfl (r_X9_refused (ρ := ρ) 1 M1 hR1) ?_
    rintro v' M14 ⟨rfl, hR14, hS14'⟩
    have hS14 := hS1.trans hS14'
    exact S_iret dX9_act_24 rfl (Or.inl rfl) (by have e9 : actF ρ t a x = (((-1) : Int), (ρ.setS 42 1)) := (by unfold actF; (repeat (first | rw [if_pos (by omega)] | rw [if_neg (by omega)])); try rfl); rw [e9]; exact ⟨rfl, hR14, hS14⟩)
set_option maxRecDepth 100000 in
theorem r_X9_status {G : Ge} {ρ : RS}  : RC G mi_X9_status [vR ((30, 0))] ρ (some (vI (ρ.1 42))) ρ := by
  intro M hR
  have hS := SameR.rf M
  refine Ct.of pl_X9_status [some (vR ((30, 0)))] rfl (Nat.le_of_ble_eq_true rfl) ?_
  refine S_aload_n dX9_status_0 rfl ?_
  refine S_getI (v := ρ.1 42) fl_X9_132 dX9_status_1 rfl rfl (hR.s 42) ?_
  exact S_iret dX9_status_4 rfl (Or.inl rfl) ⟨rfl, hR, hS⟩
set_option maxRecDepth 100000 in
theorem r_X9_tray {G : Ge} {ρ : RS} (t : Int) (t32 : -2147483648 ≤ t ∧ t < 2147483648) : RC G mi_X9_tray [vR ((30, 0)), vI t] ρ (some (vI (trayV ρ t))) ρ := by
  intro M hR
  have hS := SameR.rf M
  refine Ct.of pl_X9_tray [some (vR ((30, 0))), some (vI t)] rfl (Nat.le_of_ble_eq_true rfl) ?_
  refine S_iload_n dX9_tray_0 rfl ?_
  refine S_iconst dX9_tray_1 ?_
  refine S_bipush dX9_tray_2 (by decide) ?_
  refine S_callS (mi := mi_X9_tray) [vI t, vI 0, vI 7] ok_X9_in ml_X9_138 dX9_tray_4 (by decide) rfl (Nat.le_of_ble_eq_true rfl) rfl (r_X9_in (ρ := ρ) t 0 7 (by omega) (by omega) (by omega) M hR) ?_
  rintro v' M1 ⟨⟨rfl, b_4⟩ | ⟨rfl, b_4⟩, hR1, hS1'⟩
  · have hS1 := hS.trans hS1'
    obtain ⟨i, rfl⟩ : ∃ i : Nat, t = ↑i := ⟨t.toNat, by omega⟩
    refine S_if_eq 19 dX9_tray_7 (by decide) (by omega) (fun c_7 => absurd c_7 (by omega)) (fun c_7 => ?_)
    refine S_aload_n dX9_tray_10 rfl ?_
    refine S_getP fl_X9_120 dX9_tray_11 rfl rfl (hR1.p 39 rfl) ?_
    refine S_iload_n dX9_tray_14 rfl ?_
    refine R_ald (v := ρ.2 39 i) i hR1 dX9_tray_15 rfl rfl (by omega) (show _ < 8 from by omega) rfl ?_
    refine S_goto 20 dX9_tray_16 (by decide) ?_
    exact S_iret dX9_tray_20 rfl (Or.inl rfl) (by have e9 : trayV ρ (↑i) = (ρ.2 39 i : Int) := (by unfold trayV; (first | rw [if_pos (by omega)] | rw [if_neg (by omega)]); try rfl); rw [e9]; exact ⟨rfl, hR1, hS1⟩)
  · have hS1 := hS.trans hS1'
    refine S_if_eq 19 dX9_tray_7 (by decide) (by omega) (fun c_7 => ?_) (fun c_7 => absurd c_7 (by omega))
    refine S_iconst dX9_tray_19 ?_
    exact S_iret dX9_tray_20 rfl (Or.inl rfl) (by have e9 : trayV ρ t = ((-1) : Int) := (by unfold trayV; (first | rw [if_pos (by omega)] | rw [if_neg (by omega)]); try rfl); rw [e9]; exact ⟨rfl, hR1, hS1⟩)
set_option maxRecDepth 100000 in
theorem r_X9_trace {G : Ge} {ρ : RS} (i : Int) (i32 : -2147483648 ≤ i ∧ i < 2147483648) (h44 : 0 ≤ ρ.1 44 ∧ ρ.1 44 ≤ 40) : RC G mi_X9_trace [vR ((30, 0)), vI i] ρ (some (vI (traceV ρ i))) ρ := by
  intro M hR
  have hS := SameR.rf M
  refine Ct.of pl_X9_trace [some (vR ((30, 0))), some (vI i)] rfl (Nat.le_of_ble_eq_true rfl) ?_
  refine S_iload_n dX9_trace_0 rfl ?_
  refine S_iconst dX9_trace_1 ?_
  refine S_aload_n dX9_trace_2 rfl ?_
  refine S_getI (v := ρ.1 44) fl_X9_248 dX9_trace_3 rfl rfl (hR.s 44) ?_
  refine S_bipush dX9_trace_6 (by decide) ?_
  refine S_icmp_ge 18 dX9_trace_8 (by decide) (by omega) (fun c_8 => ?_) (fun c_8 => ?_)
  · refine S_bipush dX9_trace_18 (by decide) ?_
    refine S_iconst dX9_trace_20 ?_
    refine S_isub dX9_trace_21 ?_
    refine S_callS (mi := mi_X9_trace) [vI i, vI 0, vI (40 - 1)] ok_X9_in ml_X9_138 dX9_trace_22 (by decide) rfl (Nat.le_of_ble_eq_true rfl) rfl (r_X9_in (ρ := ρ) i 0 (40 - 1) (by omega) (by omega) (by omega) M hR) ?_
    rintro v' M1 ⟨⟨rfl, b_22⟩ | ⟨rfl, b_22⟩, hR1, hS1'⟩
    · have hS1 := hS.trans hS1'
      obtain ⟨j, rfl⟩ : ∃ j : Nat, i = ↑j := ⟨i.toNat, by omega⟩
      refine S_if_eq 37 dX9_trace_25 (by decide) (by omega) (fun c_25 => absurd c_25 (by omega)) (fun c_25 => ?_)
      refine S_aload_n dX9_trace_28 rfl ?_
      refine S_getP fl_X9_129 dX9_trace_29 rfl rfl (hR1.p 43 rfl) ?_
      refine S_iload_n dX9_trace_32 rfl ?_
      refine R_ald (v := ρ.2 43 j) j hR1 dX9_trace_33 rfl rfl (by omega) (show _ < 40 from by omega) rfl ?_
      refine S_goto 38 dX9_trace_34 (by decide) ?_
      exact S_iret dX9_trace_38 rfl (Or.inl rfl) (by have e9 : traceV ρ (↑j) = (ρ.2 43 j : Int) := (by unfold traceV; (first | rw [if_pos (show ρ.1 44 < 40 by omega)] | rw [if_neg (show ¬ ρ.1 44 < 40 by omega)]); (first | rw [if_pos (by omega)] | rw [if_neg (by omega)]); try rfl); rw [e9]; exact ⟨rfl, hR1, hS1⟩)
    · have hS1 := hS.trans hS1'
      refine S_if_eq 37 dX9_trace_25 (by decide) (by omega) (fun c_25 => ?_) (fun c_25 => absurd c_25 (by omega))
      refine S_iconst dX9_trace_37 ?_
      exact S_iret dX9_trace_38 rfl (Or.inl rfl) (by have e9 : traceV ρ i = ((-1) : Int) := (by unfold traceV; (first | rw [if_pos (show ρ.1 44 < 40 by omega)] | rw [if_neg (show ¬ ρ.1 44 < 40 by omega)]); (first | rw [if_pos (by omega)] | rw [if_neg (by omega)]); try rfl); rw [e9]; exact ⟨rfl, hR1, hS1⟩)
  · refine S_aload_n dX9_trace_11 rfl ?_
    refine S_getI (v := ρ.1 44) fl_X9_248 dX9_trace_12 rfl rfl (hR.s 44) ?_
    refine S_goto 20 dX9_trace_15 (by decide) ?_
    refine S_iconst dX9_trace_20 ?_
    refine S_isub dX9_trace_21 ?_
    refine S_callS (mi := mi_X9_trace) [vI i, vI 0, vI ((ρ.1 44) - 1)] ok_X9_in ml_X9_138 dX9_trace_22 (by decide) rfl (Nat.le_of_ble_eq_true rfl) rfl (r_X9_in (ρ := ρ) i 0 ((ρ.1 44) - 1) (by omega) (by omega) (by omega) M hR) ?_
    rintro v' M2 ⟨⟨rfl, b_22⟩ | ⟨rfl, b_22⟩, hR2, hS2'⟩
    · have hS2 := hS.trans hS2'
      obtain ⟨j, rfl⟩ : ∃ j : Nat, i = ↑j := ⟨i.toNat, by omega⟩
      refine S_if_eq 37 dX9_trace_25 (by decide) (by omega) (fun c_25 => absurd c_25 (by omega)) (fun c_25 => ?_)
      refine S_aload_n dX9_trace_28 rfl ?_
      refine S_getP fl_X9_129 dX9_trace_29 rfl rfl (hR2.p 43 rfl) ?_
      refine S_iload_n dX9_trace_32 rfl ?_
      refine R_ald (v := ρ.2 43 j) j hR2 dX9_trace_33 rfl rfl (by omega) (show _ < 40 from by omega) rfl ?_
      refine S_goto 38 dX9_trace_34 (by decide) ?_
      exact S_iret dX9_trace_38 rfl (Or.inl rfl) (by have e9 : traceV ρ (↑j) = (ρ.2 43 j : Int) := (by unfold traceV; (first | rw [if_pos (show ρ.1 44 < 40 by omega)] | rw [if_neg (show ¬ ρ.1 44 < 40 by omega)]); (first | rw [if_pos (by omega)] | rw [if_neg (by omega)]); try rfl); rw [e9]; exact ⟨rfl, hR2, hS2⟩)
    · have hS2 := hS.trans hS2'
      refine S_if_eq 37 dX9_trace_25 (by decide) (by omega) (fun c_25 => ?_) (fun c_25 => absurd c_25 (by omega))
      refine S_iconst dX9_trace_37 ?_
      exact S_iret dX9_trace_38 rfl (Or.inl rfl) (by have e9 : traceV ρ i = ((-1) : Int) := (by unfold traceV; (first | rw [if_pos (show ρ.1 44 < 40 by omega)] | rw [if_neg (show ¬ ρ.1 44 < 40 by omega)]); (first | rw [if_pos (by omega)] | rw [if_neg (by omega)]); try rfl); rw [e9]; exact ⟨rfl, hR2, hS2⟩)
set_option maxRecDepth 100000 in
theorem r_X9_isOf {G : Ge} {ρ : RS} (k o : Int) (hk : 0 ≤ k ∧ k ≤ 10) (ho : 0 ≤ o ∧ o ≤ 10) : RB G mi_X9_isOf [vI k, vI o] ρ (k = o ∨ o = 0 ∨ (k = 2 ∧ o = 1) ∨ (k = 5 ∧ o = 3)) := by
  intro M hR
  have hS := SameR.rf M
  refine Ct.of pl_X9_isOf [some (vI k), some (vI o)] rfl (Nat.le_of_ble_eq_true rfl) ?_
  refine S_iload_n dX9_isOf_0 rfl ?_
  refine S_iload_n dX9_isOf_1 rfl ?_
  refine S_icmp_eq 29 dX9_isOf_2 (by decide) (by omega) (fun c_2 => ?_) (fun c_2 => ?_)
  · refine S_iconst dX9_isOf_29 ?_
    refine S_goto 34 dX9_isOf_30 (by decide) ?_
    exact S_iret dX9_isOf_34 rfl (Or.inr ⟨rfl, by omega⟩) ⟨Or.inl ⟨rfl, by omega⟩, hR, hS⟩
  · refine S_iload_n dX9_isOf_5 rfl ?_
    refine S_if_eq 29 dX9_isOf_6 (by decide) (by omega) (fun c_6 => ?_) (fun c_6 => ?_)
    · refine S_iconst dX9_isOf_29 ?_
      refine S_goto 34 dX9_isOf_30 (by decide) ?_
      exact S_iret dX9_isOf_34 rfl (Or.inr ⟨rfl, by omega⟩) ⟨Or.inl ⟨rfl, by omega⟩, hR, hS⟩
    · refine S_iload_n dX9_isOf_9 rfl ?_
      refine S_iconst dX9_isOf_10 ?_
      refine S_icmp_ne 19 dX9_isOf_11 (by decide) (by omega) (fun c_11 => ?_) (fun c_11 => ?_)
      · refine S_iload_n dX9_isOf_19 rfl ?_
        refine S_iconst dX9_isOf_20 ?_
        refine S_icmp_ne 33 dX9_isOf_21 (by decide) (by omega) (fun c_21 => ?_) (fun c_21 => ?_)
        · refine S_iconst dX9_isOf_33 ?_
          exact S_iret dX9_isOf_34 rfl (Or.inr ⟨rfl, by omega⟩) ⟨Or.inr ⟨rfl, by omega⟩, hR, hS⟩
        · refine S_iload_n dX9_isOf_24 rfl ?_
          refine S_iconst dX9_isOf_25 ?_
          refine S_icmp_ne 33 dX9_isOf_26 (by decide) (by omega) (fun c_26 => ?_) (fun c_26 => ?_)
          · refine S_iconst dX9_isOf_33 ?_
            exact S_iret dX9_isOf_34 rfl (Or.inr ⟨rfl, by omega⟩) ⟨Or.inr ⟨rfl, by omega⟩, hR, hS⟩
          · refine S_iconst dX9_isOf_29 ?_
            refine S_goto 34 dX9_isOf_30 (by decide) ?_
            exact S_iret dX9_isOf_34 rfl (Or.inr ⟨rfl, by omega⟩) ⟨Or.inl ⟨rfl, by omega⟩, hR, hS⟩
      · refine S_iload_n dX9_isOf_14 rfl ?_
        refine S_iconst dX9_isOf_15 ?_
        refine S_icmp_eq 29 dX9_isOf_16 (by decide) (by omega) (fun c_16 => ?_) (fun c_16 => ?_)
        · refine S_iconst dX9_isOf_29 ?_
          refine S_goto 34 dX9_isOf_30 (by decide) ?_
          exact S_iret dX9_isOf_34 rfl (Or.inr ⟨rfl, by omega⟩) ⟨Or.inl ⟨rfl, by omega⟩, hR, hS⟩
        · refine S_iload_n dX9_isOf_19 rfl ?_
          refine S_iconst dX9_isOf_20 ?_
          refine S_icmp_ne 33 dX9_isOf_21 (by decide) (by omega) (fun c_21 => ?_) (fun c_21 => ?_)
          · refine S_iconst dX9_isOf_33 ?_
            exact S_iret dX9_isOf_34 rfl (Or.inr ⟨rfl, by omega⟩) ⟨Or.inr ⟨rfl, by omega⟩, hR, hS⟩
          · refine S_iload_n dX9_isOf_24 rfl ?_
            refine S_iconst dX9_isOf_25 ?_
            refine S_icmp_ne 33 dX9_isOf_26 (by decide) (by omega) (fun c_26 => ?_) (fun c_26 => ?_)
            · refine S_iconst dX9_isOf_33 ?_
              exact S_iret dX9_isOf_34 rfl (Or.inr ⟨rfl, by omega⟩) ⟨Or.inr ⟨rfl, by omega⟩, hR, hS⟩
            · refine S_iconst dX9_isOf_29 ?_
              refine S_goto 34 dX9_isOf_30 (by decide) ?_
              exact S_iret dX9_isOf_34 rfl (Or.inr ⟨rfl, by omega⟩) ⟨Or.inl ⟨rfl, by omega⟩, hR, hS⟩
def hdV (ρ : RS) (l : Nat) (n : Int) : Int := if n = 0 then ρ.2 32 l else if n = 1 then ρ.2 33 l else ρ.2 34 l
set_option maxRecDepth 100000 in
theorem r_X9_header {G : Ge} {ρ : RS} (l : Nat) (n : Int) (hl : l < 300) (n32 : -2147483648 ≤ n ∧ n < 2147483648) : RC G mi_X9_header [vR ((30, 0)), vI (↑l), vI n] ρ (some (vI (hdV ρ l n))) ρ := by
  intro M hR
  have hS := SameR.rf M
  refine Ct.of pl_X9_header [some (vR ((30, 0))), some (vI (↑l)), some (vI n)] rfl (Nat.le_of_ble_eq_true rfl) ?_
  refine S_iload_n dX9_header_0 rfl ?_
  refine S_if_ne 13 dX9_header_1 (by decide) (by omega) (fun c_1 => ?_) (fun c_1 => ?_)
  · refine S_iload_n dX9_header_13 rfl ?_
    refine S_iconst dX9_header_14 ?_
    refine S_icmp_ne 27 dX9_header_15 (by decide) (by omega) (fun c_15 => ?_) (fun c_15 => ?_)
    · refine S_aload_n dX9_header_27 rfl ?_
      refine S_getP fl_X9_105 dX9_header_28 rfl rfl (hR.p 34 rfl) ?_
      refine S_iload_n dX9_header_31 rfl ?_
      refine R_ald (v := ρ.2 34 l) l hR dX9_header_32 rfl rfl (by omega) (show _ < 300 from by omega) rfl ?_
      exact S_iret dX9_header_33 rfl (Or.inl rfl) (by have e9 : hdV ρ l n = (ρ.2 34 l : Int) := (by unfold hdV; (repeat (first | rw [if_pos (by omega)] | rw [if_neg (by omega)]))); rw [e9]; exact ⟨rfl, hR, hS⟩)
    · refine S_aload_n dX9_header_18 rfl ?_
      refine S_getP fl_X9_102 dX9_header_19 rfl rfl (hR.p 33 rfl) ?_
      refine S_iload_n dX9_header_22 rfl ?_
      refine R_ald (v := ρ.2 33 l) l hR dX9_header_23 rfl rfl (by omega) (show _ < 300 from by omega) rfl ?_
      refine S_goto 33 dX9_header_24 (by decide) ?_
      exact S_iret dX9_header_33 rfl (Or.inl rfl) (by have e9 : hdV ρ l n = (ρ.2 33 l : Int) := (by unfold hdV; (repeat (first | rw [if_pos (by omega)] | rw [if_neg (by omega)]))); rw [e9]; exact ⟨rfl, hR, hS⟩)
  · refine S_aload_n dX9_header_4 rfl ?_
    refine S_getP fl_X9_99 dX9_header_5 rfl rfl (hR.p 32 rfl) ?_
    refine S_iload_n dX9_header_8 rfl ?_
    refine R_ald (v := ρ.2 32 l) l hR dX9_header_9 rfl rfl (by omega) (show _ < 300 from by omega) rfl ?_
    refine S_goto 33 dX9_header_10 (by decide) ?_
    exact S_iret dX9_header_33 rfl (Or.inl rfl) (by have e9 : hdV ρ l n = (ρ.2 32 l : Int) := (by unfold hdV; (repeat (first | rw [if_pos (by omega)] | rw [if_neg (by omega)]))); rw [e9]; exact ⟨rfl, hR, hS⟩)
def ptR (ρ : RS) (i : Nat) (how t : Int) : RS := ((ρ.setA 39 i (if t = -1 then 0 else how)).setA 40 i t).setS 42 0
set_option maxRecDepth 100000 in
theorem r_X9_puts {G : Ge} {ρ : RS} (i : Nat) (how t : Int) (hi : i < 8) (ht : -1 ≤ t ∧ t ≤ 100000) : RC G mi_X9_puts [vR ((30, 0)), vI (↑i), vI how, vI t] ρ (some (vI 1)) (ptR ρ i how t) := by
  intro M hR
  have hS := SameR.rf M
  refine Ct.of pl_X9_puts [some (vR ((30, 0))), some (vI (↑i)), some (vI how), some (vI t)] rfl (Nat.le_of_ble_eq_true rfl) ?_
  refine S_aload_n dX9_puts_0 rfl ?_
  refine S_getP fl_X9_120 dX9_puts_1 rfl rfl (hR.p 39 rfl) ?_
  refine S_iload_n dX9_puts_4 rfl ?_
  refine S_iload_n dX9_puts_5 rfl ?_
  refine S_iconst dX9_puts_6 ?_
  refine S_icmp_ne 14 dX9_puts_7 (by decide) (by omega) (fun c_7 => ?_) (fun c_7 => ?_)
  · refine S_iload_n dX9_puts_14 rfl ?_
    refine R_ast i dX9_puts_15 rfl rfl (by omega) (show _ < 8 from by omega) hR hS (fun M1 hR1 hS1 => ?_)
    refine S_aload_n dX9_puts_16 rfl ?_
    refine S_getP fl_X9_123 dX9_puts_17 rfl rfl (hR1.p 40 rfl) ?_
    refine S_iload_n dX9_puts_20 rfl ?_
    refine S_iload_n dX9_puts_21 rfl ?_
    refine R_ast i dX9_puts_22 rfl rfl (by omega) (show _ < 8 from by omega) hR1 hS1 (fun M2 hR2 hS2 => ?_)
    refine S_aload_n dX9_puts_23 rfl ?_
    refine S_iconst dX9_puts_24 ?_
    refine S_callV (mi := mi_X9_puts) [vI 1] ok_X9_done ml_X9_166 dX9_puts_25 rfl (by decide) rfl (by decide) rfl (Nat.le_of_ble_eq_true rfl) rfl (r_X9_done (ρ := ((ρ.setA 39 i how).setA 40 i t)) 1 M2 hR2) ?_
    rintro v' M3 ⟨rfl, hR3, hS3'⟩
    have hS3 := hS2.trans hS3'
    exact S_iret dX9_puts_28 rfl (Or.inl rfl) (by have e9 : ptR ρ i how t = (((ρ.setA 39 i how).setA 40 i t).setS 42 0) := (by unfold ptR; (first | rw [if_pos (by omega)] | rw [if_neg (by omega)])); rw [e9]; exact ⟨rfl, hR3, hS3⟩)
  · refine S_iconst dX9_puts_10 ?_
    refine S_goto 15 dX9_puts_11 (by decide) ?_
    refine R_ast i dX9_puts_15 rfl rfl (by omega) (show _ < 8 from by omega) hR hS (fun M4 hR4 hS4 => ?_)
    refine S_aload_n dX9_puts_16 rfl ?_
    refine S_getP fl_X9_123 dX9_puts_17 rfl rfl (hR4.p 40 rfl) ?_
    refine S_iload_n dX9_puts_20 rfl ?_
    refine S_iload_n dX9_puts_21 rfl ?_
    refine R_ast i dX9_puts_22 rfl rfl (by omega) (show _ < 8 from by omega) hR4 hS4 (fun M5 hR5 hS5 => ?_)
    refine S_aload_n dX9_puts_23 rfl ?_
    refine S_iconst dX9_puts_24 ?_
    refine S_callV (mi := mi_X9_puts) [vI 1] ok_X9_done ml_X9_166 dX9_puts_25 rfl (by decide) rfl (by decide) rfl (Nat.le_of_ble_eq_true rfl) rfl (r_X9_done (ρ := ((ρ.setA 39 i 0).setA 40 i t)) 1 M5 hR5) ?_
    rintro v' M6 ⟨rfl, hR6, hS6'⟩
    have hS6 := hS5.trans hS6'
    exact S_iret dX9_puts_28 rfl (Or.inl rfl) (by have e9 : ptR ρ i how t = (((ρ.setA 39 i 0).setA 40 i t).setS 42 0) := (by unfold ptR; (first | rw [if_pos (by omega)] | rw [if_neg (by omega)])); rw [e9]; exact ⟨rfl, hR6, hS6⟩)
