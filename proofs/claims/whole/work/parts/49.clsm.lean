/-! THE CLASS: a thing is made; its steps -/
set_option maxRecDepth 100000 in
theorem c_thingInit {G : Ge} {M : Mem} (t : Nat) (k v : Int) (o w : Option Role) (h : Obj M (18, t) [0, 0, 0, 0, 0, 0, 0, 0] [none, none, none, none, none, none]) : Ct G mi_X4_init [vR ((18, t)), vI k, vI v, vQ o, vQ w] M (fun v' M' => v' = none ∧ Obj M' (18, t) [k, v, 0, 0, 0, 0, 0, -1] [none, none, o, w, none, none] ∧ Fx (18, t) M M' ∧ Bg 0 0 M M') := by
  refine Ct.of pl_X4_init [some (vR ((18, t))), some (vI k), some (vI v), some (vQ o), some (vQ w)] rfl (Nat.le_of_ble_eq_true rfl) ?_
  refine S_aload_n dX4_init_0 rfl ?_
  refine S_objInit oi_X4_3 dX4_init_1 (by decide) (Nat.le_of_ble_eq_true rfl) ?_
  refine S_aload_n dX4_init_4 rfl ?_
  refine S_iconst dX4_init_5 ?_
  refine S_putI fl_X4_9 dX4_init_6 rfl rfl rfl  (Or.inl rfl) ?_
  refine Sf.nm (fun M1 hM1 => ?_)
  refine S_aload_n dX4_init_9 rfl ?_
  refine S_iload_n dX4_init_10 rfl ?_
  refine S_putIF fl_X4_15 dX4_init_11 rfl rfl rfl rfl rfl (Or.inl rfl) ?_
  refine Sf.nm (fun M2 hM2 => ?_)
  refine S_aload_n dX4_init_14 rfl ?_
  refine S_iload_n dX4_init_15 rfl ?_
  refine S_putIF fl_X4_18 dX4_init_16 rfl rfl rfl rfl rfl (Or.inl rfl) ?_
  refine Sf.nm (fun M3 hM3 => ?_)
  refine S_aload_n dX4_init_19 rfl ?_
  refine S_aload_n dX4_init_20 rfl ?_
  refine S_putPF fl_X4_21 dX4_init_21 rfl rfl rfl rfl rfl ?_
  refine Sf.nm (fun M4 hM4 => ?_)
  refine S_aload_n dX4_init_24 rfl ?_
  refine S_aload dX4_init_25 rfl ?_
  refine S_putPF fl_X4_25 dX4_init_27 rfl rfl rfl rfl rfl ?_
  refine Sf.nm (fun M5 hM5 => ?_)
  exact S_vret dX4_init_30 rfl ⟨rfl, (by rw [hM5, hM4, hM3, hM2, hM1]; exact (((((h.putI (k := 7) (show 7 < 8 by decide)).putI (k := 0) (show 0 < 8 by decide)).putI (k := 1) (show 1 < 8 by decide)).putP (k := 2) (show 2 < 6 by decide)).putP (k := 3) (show 3 < 6 by decide))), (by rw [hM5, hM4, hM3, hM2, hM1]; exact ((((((Fx.rf _ M).trans Fx.pI).trans Fx.pI).trans Fx.pI).trans Fx.pP).trans Fx.pP)), (by rw [hM5, hM4, hM3, hM2, hM1]; exact ((((((Bg.rf M).trans (Bg.pI _ _ _ _)).trans (Bg.pI _ _ _ _)).trans (Bg.pI _ _ _ _)).trans (Bg.pP _ 18 t _ _ (by decide))).trans (Bg.pP _ 18 t _ _ (by decide))).le (by decide) (by decide))⟩
set_option maxRecDepth 100000 in
theorem c_thingInitS {G : Ge} {M : Mem} (t : Nat) (k v : Int) (o w : Option Role) (h : Obj M (19, t) [0, 0, 0, 0, 0, 0, 0, 0, 0, 0, 0, 0] [none, none, none, none, none, none, none, none, none]) : Ct G mi_X4_init [vR ((19, t)), vI k, vI v, vQ o, vQ w] M (fun v' M' => v' = none ∧ Obj M' (19, t) [k, v, 0, 0, 0, 0, 0, -1, 0, 0, 0, 0] [none, none, o, w, none, none, none, none, none] ∧ Fx (19, t) M M' ∧ Bg 0 0 M M') := by
  refine Ct.of pl_X4_init [some (vR ((19, t))), some (vI k), some (vI v), some (vQ o), some (vQ w)] rfl (Nat.le_of_ble_eq_true rfl) ?_
  refine S_aload_n dX4_init_0 rfl ?_
  refine S_objInit oi_X4_3 dX4_init_1 (by decide) (Nat.le_of_ble_eq_true rfl) ?_
  refine S_aload_n dX4_init_4 rfl ?_
  refine S_iconst dX4_init_5 ?_
  refine S_putI fl_X4_9_s dX4_init_6 rfl rfl rfl  (Or.inl rfl) ?_
  refine Sf.nm (fun M1 hM1 => ?_)
  refine S_aload_n dX4_init_9 rfl ?_
  refine S_iload_n dX4_init_10 rfl ?_
  refine S_putIF fl_X4_15_s dX4_init_11 rfl rfl rfl rfl rfl (Or.inl rfl) ?_
  refine Sf.nm (fun M2 hM2 => ?_)
  refine S_aload_n dX4_init_14 rfl ?_
  refine S_iload_n dX4_init_15 rfl ?_
  refine S_putIF fl_X4_18_s dX4_init_16 rfl rfl rfl rfl rfl (Or.inl rfl) ?_
  refine Sf.nm (fun M3 hM3 => ?_)
  refine S_aload_n dX4_init_19 rfl ?_
  refine S_aload_n dX4_init_20 rfl ?_
  refine S_putPF fl_X4_21_s dX4_init_21 rfl rfl rfl rfl rfl ?_
  refine Sf.nm (fun M4 hM4 => ?_)
  refine S_aload_n dX4_init_24 rfl ?_
  refine S_aload dX4_init_25 rfl ?_
  refine S_putPF fl_X4_25_s dX4_init_27 rfl rfl rfl rfl rfl ?_
  refine Sf.nm (fun M5 hM5 => ?_)
  exact S_vret dX4_init_30 rfl ⟨rfl, (by rw [hM5, hM4, hM3, hM2, hM1]; exact (((((h.putI (k := 7) (show 7 < 12 by decide)).putI (k := 0) (show 0 < 12 by decide)).putI (k := 1) (show 1 < 12 by decide)).putP (k := 2) (show 2 < 9 by decide)).putP (k := 3) (show 3 < 9 by decide))), (by rw [hM5, hM4, hM3, hM2, hM1]; exact ((((((Fx.rf _ M).trans Fx.pI).trans Fx.pI).trans Fx.pI).trans Fx.pP).trans Fx.pP)), (by rw [hM5, hM4, hM3, hM2, hM1]; exact ((((((Bg.rf M).trans (Bg.pI _ _ _ _)).trans (Bg.pI _ _ _ _)).trans (Bg.pI _ _ _ _)).trans (Bg.pP _ 19 t _ _ (by decide))).trans (Bg.pP _ 19 t _ _ (by decide))).le (by decide) (by decide))⟩
set_option maxRecDepth 100000 in
theorem c_stepsNow {G : Ge} {M : Mem} (t : Nat) (sh k co cw a b : Int) (h6 : M.I (18, t) 6 = sh) (h0 : M.I (18, t) 0 = k) (h2 : M.P (18, t) 2 = qx co) (h3 : M.P (18, t) 3 = qx cw) (hco : -1 ≤ co) (hcw : -1 ≤ cw) (ha : co ≠ -1 → M.I (18, co.toNat) 7 = a) (hb : cw ≠ -1 → M.I (18, cw.toNat) 7 = b) (hsh : 0 ≤ sh ∧ sh ≤ 1) (hk : 0 ≤ k ∧ k ≤ 5) (ha2 : -1 ≤ a ∧ a ≤ 8000) (hb2 : -1 ≤ b ∧ b ≤ 8000) : Ct G mi_X4_stepsNow [vR ((18, t))] M (fun v' M' => v' = some (vI (snV sh k co cw a b)) ∧ M' = M) := by
  refine Ct.of pl_X4_stepsNow [some (vR ((18, t))), none, none] rfl (Nat.le_of_ble_eq_true rfl) ?_
  refine S_aload_n dX4_stepsNow_0 rfl ?_
  refine S_getI (v := sh) fl_X4_28 dX4_stepsNow_1 rfl rfl (by rw [h6]) ?_
  refine S_if_eq 9 dX4_stepsNow_4 (by decide) (by omega) (fun c_4 => ?_) (fun c_4 => ?_)
  · by_cases hc1 : co = -1
    · refine S_aload_n dX4_stepsNow_9 rfl ?_
      refine S_getP (o := none) fl_X4_21 dX4_stepsNow_10 rfl rfl (by rw [(show M.P (18, t) 2 = none from h2.trans (by rw [hc1]; exact qx_no))]) ?_
      refine S_ifnonnull 18 dX4_stepsNow_13 (by decide) (fun c_13 => absurd c_13 (by simp)) (fun c_13 => ?_)
      refine S_iconst dX4_stepsNow_16 ?_
      exact S_iret dX4_stepsNow_17 rfl (Or.inl rfl) (by have e9 : snV sh k co cw a b = ((-1) : Int) := (by unfold snV; (repeat (first | rw [if_pos (by omega)] | rw [if_neg (by omega)])); all_goals rfl); rw [e9]; exact ⟨rfl, rfl⟩)
    · obtain ⟨c, hnc⟩ : ∃ c : Nat, co = ↑c := ⟨co.toNat, by omega⟩
      have ha9c : M.I (18, c) 7 = a := by
        have q := ha hc1
        rw [hnc, Int.toNat_natCast] at q
        exact q
      refine S_aload_n dX4_stepsNow_9 rfl ?_
      refine S_getP (o := some (18, c)) fl_X4_21 dX4_stepsNow_10 rfl rfl (by rw [(h2.trans (qx_of hnc))]) ?_
      refine S_ifnonnull 18 dX4_stepsNow_13 (by decide) (fun c_13 => ?_) (fun c_13 => absurd c_13 (by simp))
      by_cases hc2 : cw = -1
      · refine S_aload_n dX4_stepsNow_18 rfl ?_
        refine S_getP (o := none) fl_X4_25 dX4_stepsNow_19 rfl rfl (by rw [(show M.P (18, t) 3 = none from h3.trans (by rw [hc2]; exact qx_no))]) ?_
        refine S_ifnonnull 50 dX4_stepsNow_22 (by decide) (fun c_22 => absurd c_22 (by simp)) (fun c_22 => ?_)
        refine S_aload_n dX4_stepsNow_25 rfl ?_
        refine S_getP (o := some (18, c)) fl_X4_21 dX4_stepsNow_26 rfl rfl (by rw [(h2.trans (qx_of hnc))]) ?_
        refine S_getI (v := a) fl_X4_9 dX4_stepsNow_29 rfl rfl (by rw [ha9c]) ?_
        refine S_iconst dX4_stepsNow_32 ?_
        refine S_icmp_ne 40 dX4_stepsNow_33 (by decide) (by omega) (fun c_33 => ?_) (fun c_33 => ?_)
        · refine S_aload_n dX4_stepsNow_40 rfl ?_
          refine S_getP (o := some (18, c)) fl_X4_21 dX4_stepsNow_41 rfl rfl (by rw [(h2.trans (qx_of hnc))]) ?_
          refine S_getI (v := a) fl_X4_9 dX4_stepsNow_44 rfl rfl (by rw [ha9c]) ?_
          refine S_iconst dX4_stepsNow_47 ?_
          refine S_iadd dX4_stepsNow_48 ?_
          exact S_iret dX4_stepsNow_49 rfl (Or.inl rfl) (by have e9 : snV sh k co cw a b = (a + 1 : Int) := (by unfold snV; (repeat (first | rw [if_pos (by omega)] | rw [if_neg (by omega)])); all_goals rfl); rw [e9]; exact ⟨rfl, rfl⟩)
        · refine S_iconst dX4_stepsNow_36 ?_
          refine S_goto 49 dX4_stepsNow_37 (by decide) ?_
          exact S_iret dX4_stepsNow_49 rfl (Or.inl rfl) (by have e9 : snV sh k co cw a b = ((-1) : Int) := (by unfold snV; (repeat (first | rw [if_pos (by omega)] | rw [if_neg (by omega)])); all_goals rfl); rw [e9]; exact ⟨rfl, rfl⟩)
      · obtain ⟨d, hnd⟩ : ∃ d : Nat, cw = ↑d := ⟨cw.toNat, by omega⟩
        have hb9d : M.I (18, d) 7 = b := by
          have q := hb hc2
          rw [hnd, Int.toNat_natCast] at q
          exact q
        refine S_aload_n dX4_stepsNow_18 rfl ?_
        refine S_getP (o := some (18, d)) fl_X4_25 dX4_stepsNow_19 rfl rfl (by rw [(h3.trans (qx_of hnd))]) ?_
        refine S_ifnonnull 50 dX4_stepsNow_22 (by decide) (fun c_22 => ?_) (fun c_22 => absurd c_22 (by simp))
        refine S_aload_n dX4_stepsNow_50 rfl ?_
        refine S_getP (o := some (18, c)) fl_X4_21 dX4_stepsNow_51 rfl rfl (by rw [(h2.trans (qx_of hnc))]) ?_
        refine S_getI (v := a) fl_X4_9 dX4_stepsNow_54 rfl rfl (by rw [ha9c]) ?_
        refine S_aload_n dX4_stepsNow_57 rfl ?_
        refine S_getP (o := some (18, d)) fl_X4_25 dX4_stepsNow_58 rfl rfl (by rw [(h3.trans (qx_of hnd))]) ?_
        refine S_getI (v := b) fl_X4_9 dX4_stepsNow_61 rfl rfl (by rw [hb9d]) ?_
        refine S_min mm_X4_32 dX4_stepsNow_64 (by decide) (Nat.le_of_ble_eq_true rfl) (by omega) ?_
        obtain ⟨le, hle⟩ : ∃ x : Int, x = (if (b : Int) < a then b else a) := ⟨_, rfl⟩
        rw [← hle]
        have hle2 : -1 ≤ le ∧ le ≤ 8000 := by rw [hle]; split <;> omega
        refine S_istore_n dX4_stepsNow_67 (by decide) ?_
        refine S_aload_n dX4_stepsNow_68 rfl ?_
        refine S_getP (o := some (18, c)) fl_X4_21 dX4_stepsNow_69 rfl rfl (by rw [(h2.trans (qx_of hnc))]) ?_
        refine S_getI (v := a) fl_X4_9 dX4_stepsNow_72 rfl rfl (by rw [ha9c]) ?_
        refine S_aload_n dX4_stepsNow_75 rfl ?_
        refine S_getP (o := some (18, d)) fl_X4_25 dX4_stepsNow_76 rfl rfl (by rw [(h3.trans (qx_of hnd))]) ?_
        refine S_getI (v := b) fl_X4_9 dX4_stepsNow_79 rfl rfl (by rw [hb9d]) ?_
        refine S_max mm_X4_38 dX4_stepsNow_82 (by decide) (Nat.le_of_ble_eq_true rfl) (by omega) ?_
        obtain ⟨gr, hgr⟩ : ∃ x : Int, x = (if (a : Int) < b then b else a) := ⟨_, rfl⟩
        rw [← hgr]
        have hgr2 : -1 ≤ gr ∧ gr ≤ 8000 := by rw [hgr]; split <;> omega
        refine S_istore_n dX4_stepsNow_85 (by decide) ?_
        refine S_aload_n dX4_stepsNow_86 rfl ?_
        refine S_getI (v := k) fl_X4_15 dX4_stepsNow_87 rfl rfl (by rw [h0]) ?_
        refine S_iconst dX4_stepsNow_90 ?_
        refine S_icmp_ne 116 dX4_stepsNow_91 (by decide) (by omega) (fun c_91 => ?_) (fun c_91 => ?_)
        · refine S_iload_n dX4_stepsNow_116 rfl ?_
          refine S_iconst dX4_stepsNow_117 ?_
          refine S_icmp_ne 125 dX4_stepsNow_118 (by decide) (by omega) (fun c_118 => ?_) (fun c_118 => ?_)
          · refine S_iload_n dX4_stepsNow_125 rfl ?_
            refine S_iconst dX4_stepsNow_126 ?_
            refine S_iadd dX4_stepsNow_127 ?_
            exact S_iret dX4_stepsNow_128 rfl (Or.inl rfl) (by have e9 : snV sh k co cw a b = (gr + 1 : Int) := (by unfold snV; rw [← hle, ← hgr]; (repeat (first | rw [if_pos (by omega)] | rw [if_neg (by omega)])); all_goals rfl); rw [e9]; exact ⟨rfl, rfl⟩)
          · refine S_iconst dX4_stepsNow_121 ?_
            refine S_goto 128 dX4_stepsNow_122 (by decide) ?_
            exact S_iret dX4_stepsNow_128 rfl (Or.inl rfl) (by have e9 : snV sh k co cw a b = ((-1) : Int) := (by unfold snV; rw [← hle, ← hgr]; (repeat (first | rw [if_pos (by omega)] | rw [if_neg (by omega)])); all_goals rfl); rw [e9]; exact ⟨rfl, rfl⟩)
        · refine S_iload_n dX4_stepsNow_94 rfl ?_
          refine S_iconst dX4_stepsNow_95 ?_
          refine S_icmp_ne 103 dX4_stepsNow_96 (by decide) (by omega) (fun c_96 => ?_) (fun c_96 => ?_)
          · refine S_iconst dX4_stepsNow_103 ?_
            refine S_iload_n dX4_stepsNow_104 rfl ?_
            refine S_iconst dX4_stepsNow_105 ?_
            refine S_icmp_ne 113 dX4_stepsNow_106 (by decide) (by omega) (fun c_106 => ?_) (fun c_106 => ?_)
            · refine S_iload_n dX4_stepsNow_113 rfl ?_
              refine S_iadd dX4_stepsNow_114 ?_
              exact S_iret dX4_stepsNow_115 rfl (Or.inl rfl) (by have e9 : snV sh k co cw a b = (1 + le : Int) := (by unfold snV; rw [← hle, ← hgr]; (repeat (first | rw [if_pos (by omega)] | rw [if_neg (by omega)])); all_goals rfl); rw [e9]; exact ⟨rfl, rfl⟩)
            · refine S_iload_n dX4_stepsNow_109 rfl ?_
              refine S_goto 114 dX4_stepsNow_110 (by decide) ?_
              refine S_iadd dX4_stepsNow_114 ?_
              exact S_iret dX4_stepsNow_115 rfl (Or.inl rfl) (by have e9 : snV sh k co cw a b = (1 + gr : Int) := (by unfold snV; rw [← hle, ← hgr]; (repeat (first | rw [if_pos (by omega)] | rw [if_neg (by omega)])); all_goals rfl); rw [e9]; exact ⟨rfl, rfl⟩)
          · refine S_iconst dX4_stepsNow_99 ?_
            refine S_goto 115 dX4_stepsNow_100 (by decide) ?_
            exact S_iret dX4_stepsNow_115 rfl (Or.inl rfl) (by have e9 : snV sh k co cw a b = ((-1) : Int) := (by unfold snV; rw [← hle, ← hgr]; (repeat (first | rw [if_pos (by omega)] | rw [if_neg (by omega)])); all_goals rfl); rw [e9]; exact ⟨rfl, rfl⟩)
  · refine S_iconst dX4_stepsNow_7 ?_
    exact S_iret dX4_stepsNow_8 rfl (Or.inl rfl) (by have e9 : snV sh k co cw a b = (0 : Int) := (by unfold snV; (repeat (first | rw [if_pos (by omega)] | rw [if_neg (by omega)])); all_goals rfl); rw [e9]; exact ⟨rfl, rfl⟩)
