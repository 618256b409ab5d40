/-! THE CLASS: a new object -/
set_option maxRecDepth 100000 in
theorem c_ariInit {G : Ge} {M : Mem} (h : Obj M (2, 0) [0, 0] []) : Ct G mi_X0_init [vR ((2, 0))] M (fun v' M' => v' = none ∧ Obj M' (2, 0) [101, 2] [] ∧ Fx (2, 0) M M' ∧ M'.rc = M.rc ∧ M'.rs = M.rs) := by
  refine Ct.of pl_X0_init [some (vR ((2, 0)))] rfl (Nat.le_of_ble_eq_true rfl) ?_
  refine S_aload_n dX0_init_0 rfl ?_
  refine S_objInit oi_X0_1 dX0_init_1 (by decide) (Nat.le_of_ble_eq_true rfl) ?_
  refine S_aload_n dX0_init_4 rfl ?_
  refine S_bipush dX0_init_5 (by decide) ?_
  refine S_putI fl_X0_7 dX0_init_7 rfl rfl rfl  (Or.inl rfl) ?_
  refine Sf.nm (fun M1 hM1 => ?_)
  refine S_aload_n dX0_init_10 rfl ?_
  refine S_iconst dX0_init_11 ?_
  refine S_putI fl_X0_13 dX0_init_12 rfl rfl rfl  (Or.inl rfl) ?_
  refine Sf.nm (fun M2 hM2 => ?_)
  exact S_vret dX0_init_15 rfl (by
    have ok_0 : Obj M1 (2, 0) ([0, 0].set 0 101) [] := by rw [hM1]; exact h.putI (k := 0) (show 0 < 2 by decide)
    have ok_1 : Obj M2 (2, 0) (([0, 0].set 0 101).set 1 2) [] := by rw [hM2]; exact ok_0.putI (k := 1) (show 1 < 2 by decide)
    exact ⟨rfl, ok_1, by rw [hM2, hM1]; exact Fx.trans Fx.pI Fx.pI, by rw [hM2, hM1]; exact ⟨rfl, rfl⟩⟩)
set_option maxRecDepth 100000 in
theorem c_trayInit {G : Ge} {M : Mem} (i : Nat) : Ct G mi_X7_init [vR ((15, i))] M (fun v' M' => v' = none ∧ M' = M) := by
  refine Ct.of pl_X7_init [some (vR ((15, i)))] rfl (Nat.le_of_ble_eq_true rfl) ?_
  refine S_aload_n dX7_init_0 rfl ?_
  refine S_objInit oi_X7_1 dX7_init_1 (by decide) (Nat.le_of_ble_eq_true rfl) ?_
  exact S_vret dX7_init_4 rfl ⟨rfl, rfl⟩
set_option maxRecDepth 100000 in
theorem c_traceInit {G : Ge} {M : Mem} (h : Obj M (16, 0) [0, 0] [none]) (hf : M.len (17, 0) = none) (hrc : 1 ≤ M.rc) (hrs : 40 ≤ M.rs) : Ct G mi_X6_init [vR ((16, 0))] M (fun v' M' => v' = none ∧ Obj M' (16, 0) [0, 0] [some (17, 0)] ∧ M'.len (17, 0) = some 40 ∧ Fr [16, 17] M M' ∧ M.rc ≤ M'.rc + 1 ∧ M.rs ≤ M'.rs + 40) := by
  refine Ct.of pl_X6_init [some (vR ((16, 0)))] rfl (Nat.le_of_ble_eq_true rfl) ?_
  refine S_aload_n dX6_init_0 rfl ?_
  refine S_objInit oi_X6_3 dX6_init_1 (by decide) (Nat.le_of_ble_eq_true rfl) ?_
  refine S_aload_n dX6_init_4 rfl ?_
  refine S_bipush dX6_init_5 (by decide) ?_
  refine S_newarrI (17, 0) 40 ac_I dX6_init_7 rfl (by omega) rfl rfl hf hrc hrs ?_
  refine Sf.nm (fun M1 hM1 => ?_)
  refine S_putPF fl_X6_9 dX6_init_9 rfl rfl rfl rfl rfl ?_
  refine Sf.nm (fun M2 hM2 => ?_)
  exact S_vret dX6_init_12 rfl (by
    have ok_0 : Obj M1 (16, 0) [0, 0] [none] := by rw [hM1]; exact h.at ⟨Mem.new_len_ne (rne (by decide)), funext fun _ => Mem.new_I_ne (rne (by decide)), funext fun _ => Mem.new_P_ne (rne (by decide))⟩
    have ok_1 : Obj M2 (16, 0) [0, 0] ([none].set 0 (some (17, 0))) := by rw [hM2]; exact ok_0.putP (k := 0) (show 0 < 1 by decide)
    have fM1 : Fr [16, 17] M M1 := by rw [hM1]; exact (Fr.rf [16, 17] M).trans (Fr.nw 17 0 (by decide))
    have fM2 : Fr [16, 17] M M2 := by rw [hM2]; exact fM1.trans (Fr.pP 16 0 (by decide))
    exact ⟨rfl, ok_1, (by rw [hM2, Mem.putP_len, hM1, Mem.new_len_eq]), fM2, by rw [hM2, hM1]; show M.rc ≤ M.rc - 1 + 1; omega, by rw [hM2, hM1]; show M.rs ≤ M.rs - 40 + 40; omega⟩)
set_option maxRecDepth 100000 in
theorem c_thingsInit {G : Ge} {M : Mem} (h : Obj M (3, 0) [0, 0, 0] [none, none]) (hf2 : M.len (2, 0) = none) (hf4 : M.len (4, 0) = none) (hf5 : ∀ c, M.len (5, c) = none) (h20 : M.len (20, 0) = some 0) (hrc : 2 ≤ M.rc) (hrs : 5 ≤ M.rs) : Ct G mi_X5_init [vR ((3, 0))] M (fun v' M' => v' = none ∧ Obj M' (3, 0) [0, 0, 0] [some (2, 0), some (4, 0)] ∧ Obj M' (2, 0) [101, 2] [] ∧ Ls 0 M' ∧ M'.len (20, 0) = some 0 ∧ Fr [2, 3, 4] M M' ∧ M.rc ≤ M'.rc + 2 ∧ M.rs ≤ M'.rs + 5) := by
  refine Ct.of pl_X5_init [some (vR ((3, 0)))] rfl (Nat.le_of_ble_eq_true rfl) ?_
  refine S_aload_n dX5_init_0 rfl ?_
  refine S_objInit oi_X5_3 dX5_init_1 (by decide) (Nat.le_of_ble_eq_true rfl) ?_
  refine S_aload_n dX5_init_4 rfl ?_
  refine S_new (2, 0) nl_X5_9 dX5_init_5 rfl hf2 (by omega) (by show 2 ≤ M.rs; omega) ?_
  refine Sf.nm (fun M1 hM1 => ?_)
  refine S_dup dX5_init_8 ?_
  have hO2 : Obj M1 (2, 0) [0, 0] [] := by rw [hM1]; exact Obj.nw M (2, 0) 2 2 0
  have hr1 : M1.rc = M.rc - 1 ∧ M1.rs = M.rs - 2 := by rw [hM1]; exact ⟨rfl, rfl⟩
  refine S_callIN (mi := mi_X5_init) [] ok_X0_init ml_X5_11 dX5_init_9 rfl rfl (by decide) rfl (Nat.le_of_ble_eq_true rfl) rfl (c_ariInit hO2) ?_
  rintro v' M2 ⟨rfl, hA2, hX2, hrc2, hrs2⟩
  refine S_putPF fl_X5_12 dX5_init_12 rfl rfl rfl rfl rfl ?_
  refine Sf.nm (fun M3 hM3 => ?_)
  refine S_aload_n dX5_init_15 rfl ?_
  refine S_new (4, 0) nl_X5_18 dX5_init_16 rfl (by rw [hM3, Mem.putP_len, (hX2 (4, 0) (rne (by decide))).1, hM1, Mem.new_len_ne (rne (by decide))]; exact hf4) (by have := hr1; rw [hM3]; show 1 ≤ M2.rc; omega) (by have := hr1; rw [hM3]; show 3 ≤ M2.rs; omega) ?_
  refine Sf.nm (fun M4 hM4 => ?_)
  refine S_dup dX5_init_19 ?_
  refine S_callI (mi := mi_X5_init) [] ok_Jx4a65c_init_da8c8 ml_X5_20 dX5_init_20 rfl rfl (by decide) rfl (Nat.le_of_ble_eq_true rfl) rfl (c_Jx4a65c_init_da8c8) ?_
  rintro v' M5 ⟨rfl, hL5⟩
  have hFl : Fr [4] M4 M5 := by rw [hL5]; exact (Fr.pI (cs := [4]) 4 0 (by decide)).trans (Fr.pP 4 0 (by decide))
  refine S_putPF fl_X5_21 dX5_init_23 rfl rfl rfl rfl rfl ?_
  refine Sf.nm (fun M6 hM6 => ?_)
  exact S_vret dX5_init_26 rfl (by
    have ok_0 : Obj M1 (3, 0) [0, 0, 0] [none, none] := by rw [hM1]; exact h.at ⟨Mem.new_len_ne (rne (by decide)), funext fun _ => Mem.new_I_ne (rne (by decide)), funext fun _ => Mem.new_P_ne (rne (by decide))⟩
    have ok_1 : Obj M2 (3, 0) [0, 0, 0] [none, none] := by exact ok_0.at (hX2 (3, 0) (rne (by decide)))
    have ok_2 : Obj M3 (3, 0) [0, 0, 0] ([none, none].set 0 (some (2, 0))) := by rw [hM3]; exact ok_1.putP (k := 0) (show 0 < 2 by decide)
    have ok_3 : Obj M4 (3, 0) [0, 0, 0] ([none, none].set 0 (some (2, 0))) := by rw [hM4]; exact ok_2.at ⟨Mem.new_len_ne (rne (by decide)), funext fun _ => Mem.new_I_ne (rne (by decide)), funext fun _ => Mem.new_P_ne (rne (by decide))⟩
    have ok_4 : Obj M5 (3, 0) [0, 0, 0] ([none, none].set 0 (some (2, 0))) := by exact ok_3.fr hFl (show 3 ∉ [4] by decide)
    have ok_5 : Obj M6 (3, 0) [0, 0, 0] (([none, none].set 0 (some (2, 0))).set 1 (some (4, 0))) := by rw [hM6]; exact ok_4.putP (k := 1) (show 1 < 2 by decide)
    have oa_0 : Obj M3 (2, 0) [101, 2] [] := by rw [hM3]; exact hA2.at (Fx.pP _ (rne (by decide)))
    have oa_1 : Obj M4 (2, 0) [101, 2] [] := by rw [hM4]; exact oa_0.at ⟨Mem.new_len_ne (rne (by decide)), funext fun _ => Mem.new_I_ne (rne (by decide)), funext fun _ => Mem.new_P_ne (rne (by decide))⟩
    have oa_2 : Obj M5 (2, 0) [101, 2] [] := by exact oa_1.fr hFl (show 2 ∉ [4] by decide)
    have oa_3 : Obj M6 (2, 0) [101, 2] [] := by rw [hM6]; exact oa_2.at (Fx.pP _ (rne (by decide)))
    have hl4 : M5.len (4, 0) = some 0 := by rw [hL5, Mem.putP_len, Mem.putI_len, hM4]; exact Mem.new_len_eq
    have hi4 : M5.I (4, 0) 2 = 0 := by rw [hL5, Mem.putP_I, Mem.putI_at (Or.inr (by decide)), hM4]; exact Mem.new_I_eq
    have hp4 : M5.P (4, 0) 1 = some (20, 0) := by rw [hL5]; exact Mem.putP_eq
    have hfz : Fr [3] M5 M6 := by rw [hM6]; exact Fr.pP 3 0 (by decide)
    have h20 : M6.len (20, 0) = some 0 := (by rw [hM6, Mem.putP_len, hFl.len (20, 0) (by decide), hM4, Mem.new_len_ne (rne (by decide)), hM3, Mem.putP_len, (show M2.len (20, 0) = _ from (hX2 (20, 0) (rne (by decide))).1), hM1, Mem.new_len_ne (rne (by decide)), h20])
    have h5 : ∀ c, M6.len (5, c) = none := fun c => by rw [hM6, Mem.putP_len, hFl.len (5, c) (show 5 ∉ [4] by decide), hM4, Mem.new_len_ne (rne (by decide)), hM3, Mem.putP_len, (hX2 (5, c) (rne (by decide))).1, hM1, Mem.new_len_ne (rne (by decide))]; exact hf5 c
    have hLs : Ls 0 M6 := ⟨(hfz (4, 0) (by decide)).1.trans hl4, (hfz.I (4, 0) (by decide)).trans hi4, (20, 0), 0, 0, (hfz.P (4, 0) (by decide)).trans hp4, h20, Or.inl ⟨rfl, rfl⟩, Nat.le_refl _, by decide, fun t ht => absurd ht (by omega), fun c _ => h5 c⟩
    have fM1 : Fr [2, 3, 4] M M1 := by rw [hM1]; exact (Fr.rf [2, 3, 4] M).trans (Fr.nw 2 0 (by decide))
    have fM2 : Fr [2, 3, 4] M M2 := by exact fM1.trans (hX2.fr (by decide))
    have fM3 : Fr [2, 3, 4] M M3 := by rw [hM3]; exact fM2.trans (Fr.pP 3 0 (by decide))
    have fM4 : Fr [2, 3, 4] M M4 := by rw [hM4]; exact fM3.trans (Fr.nw 4 0 (by decide))
    have fM5 : Fr [2, 3, 4] M M5 := by exact fM4.trans (hFl.mono (fun c hc => by revert c; decide))
    have fM6 : Fr [2, 3, 4] M M6 := by rw [hM6]; exact fM5.trans (Fr.pP 3 0 (by decide))
    have hr3 : M6.rc = M2.rc - 1 ∧ M6.rs = M2.rs - 3 := by rw [hM6, hL5, hM4, hM3]; exact ⟨rfl, rfl⟩
    exact ⟨rfl, ok_5, oa_3, hLs, h20, fM6, by omega, by omega⟩)
set_option maxRecDepth 100000 in
theorem ctor_tail {G : Ge} {Ms M : Mem} (o1 : Obj M (1, 0) [0, 0, 0, 0, 0, 0, 0, 0, 0, 0, 0] [some (2, 0), some (3, 0), some (6, 0), some (11, 0), some (14, 0), none]) (o2 : Obj M (2, 0) [101, 2] []) (o3 : Obj M (3, 0) [0, 0, 0] [some (2, 0), some (4, 0)]) (l4 : Ls 0 M) (l20 : M.len (20, 0) = some 0) (l6 : M.len (6, 0) = some 12) (l11 : M.len (11, 0) = some 300) (l14 : M.len (14, 0) = some 8) (ht : ∀ j, j < 8 → M.P (14, 0) j = some (15, j) ∧ Obj M (15, j) [] [none, none]) (hfr : ∀ r : Role, r.1 ∈ [7, 8, 9, 10, 12, 13, 16, 17, 18, 19] → M.len r = none) (hF : Fr CLs Ms M) (hrc : Ms.rc ≤ M.rc + 18) (hrs : Ms.rs ≤ M.rs + 550) (hrc0 : 100 ≤ Ms.rc) (hrs0 : 1000 ≤ Ms.rs) : Sf G mi_X8_init (fun v' M' => v' = none ∧ Cs ((fun _ => false, fun _ => false) : (Nat → Bool) × (Nat → Bool)) ini M' ∧ Fr CLs Ms M' ∧ Ms.rc ≤ M'.rc + 20 ∧ Ms.rs ≤ M'.rs + 600) 81 [some (vR ((1, 0))), some (vI 8)] [] M := by
  refine S_aload_n dX8_init_81 rfl ?_
  refine S_new (16, 0) nl_X8_40 dX8_init_82 rfl (hfr (16, 0) (show 16 ∈ _ by decide)) (by omega) (by show 2 ≤ M.rs; omega) ?_
  refine Sf.nm (fun M1 hM1 => ?_)
  refine S_dup dX8_init_85 ?_
  have hO6 : Obj M1 (16, 0) [0, 0] [none] := by rw [hM1]; exact Obj.nw M (16, 0) 2 2 1
  have hr1 : M1.rc = M.rc - 1 ∧ M1.rs = M.rs - 2 := by rw [hM1]; exact ⟨rfl, rfl⟩
  refine S_callIN (mi := mi_X8_init) [] ok_X6_init ml_X8_42 dX8_init_86 rfl rfl (by decide) rfl (Nat.le_of_ble_eq_true rfl) rfl (c_traceInit hO6 (by rw [hM1, Mem.new_len_ne (rne (by decide))]; exact hfr (17, 0) (show 17 ∈ _ by decide)) (by omega) (by omega)) ?_
  rintro v' M2 ⟨rfl, hT6, hT7, hTF, hrc2, hrs2⟩
  refine S_putPF fl_X8_43 dX8_init_89 rfl rfl rfl rfl rfl ?_
  refine Sf.nm (fun M3 hM3 => ?_)
  refine S_aload_n dX8_init_92 rfl ?_
  refine S_bipush dX8_init_93 (by decide) ?_
  refine S_putI fl_X8_47 dX8_init_95 rfl rfl rfl  (Or.inl rfl) ?_
  refine Sf.nm (fun M4 hM4 => ?_)
  refine S_aload_n dX8_init_98 rfl ?_
  refine S_bipush dX8_init_99 (by decide) ?_
  refine S_putI fl_X8_51 dX8_init_101 rfl rfl rfl  (Or.inl rfl) ?_
  refine Sf.nm (fun M5 hM5 => ?_)
  exact S_vret dX8_init_104 rfl (by
    have ok_0 : Obj M1 (1, 0) [0, 0, 0, 0, 0, 0, 0, 0, 0, 0, 0] [some (2, 0), some (3, 0), some (6, 0), some (11, 0), some (14, 0), none] := by rw [hM1]; exact o1.at ⟨Mem.new_len_ne (rne (by decide)), funext fun _ => Mem.new_I_ne (rne (by decide)), funext fun _ => Mem.new_P_ne (rne (by decide))⟩
    have ok_1 : Obj M2 (1, 0) [0, 0, 0, 0, 0, 0, 0, 0, 0, 0, 0] [some (2, 0), some (3, 0), some (6, 0), some (11, 0), some (14, 0), none] := by exact ok_0.fr hTF (show 1 ∉ [16, 17] by decide)
    have ok_2 : Obj M3 (1, 0) [0, 0, 0, 0, 0, 0, 0, 0, 0, 0, 0] ([some (2, 0), some (3, 0), some (6, 0), some (11, 0), some (14, 0), none].set 5 (some (16, 0))) := by rw [hM3]; exact ok_1.putP (k := 5) (show 5 < 6 by decide)
    have ok_3 : Obj M4 (1, 0) ([0, 0, 0, 0, 0, 0, 0, 0, 0, 0, 0].set 8 6) ([some (2, 0), some (3, 0), some (6, 0), some (11, 0), some (14, 0), none].set 5 (some (16, 0))) := by rw [hM4]; exact ok_2.putI (k := 8) (show 8 < 11 by decide)
    have ok_4 : Obj M5 (1, 0) (([0, 0, 0, 0, 0, 0, 0, 0, 0, 0, 0].set 8 6).set 9 50) ([some (2, 0), some (3, 0), some (6, 0), some (11, 0), some (14, 0), none].set 5 (some (16, 0))) := by rw [hM5]; exact ok_3.putI (k := 9) (show 9 < 11 by decide)
    have ot_0 : Obj M3 (16, 0) [0, 0] [some (17, 0)] := by rw [hM3]; exact hT6.at (Fx.pP _ (rne (by decide)))
    have ot_1 : Obj M4 (16, 0) [0, 0] [some (17, 0)] := by rw [hM4]; exact ot_0.at (Fx.pI _ (rne (by decide)))
    have ot_2 : Obj M5 (16, 0) [0, 0] [some (17, 0)] := by rw [hM5]; exact ot_1.at (Fx.pI _ (rne (by decide)))
    have fM1 : Fr [1, 16, 17] M M1 := by rw [hM1]; exact (Fr.rf [1, 16, 17] M).trans (Fr.nw 16 0 (by decide))
    have fM2 : Fr [1, 16, 17] M M2 := by exact fM1.trans (hTF.mono (fun c hc => by revert c; decide))
    have fM3 : Fr [1, 16, 17] M M3 := by rw [hM3]; exact fM2.trans (Fr.pP 1 0 (by decide))
    have fM4 : Fr [1, 16, 17] M M4 := by rw [hM4]; exact fM3.trans (Fr.pI 1 0 (by decide))
    have fM5 : Fr [1, 16, 17] M M5 := by rw [hM5]; exact fM4.trans (Fr.pI 1 0 (by decide))
    have gM3 : Fr [1] M2 M3 := by rw [hM3]; exact (Fr.rf [1] M2).trans (Fr.pP 1 0 (by decide))
    have gM4 : Fr [1] M2 M4 := by rw [hM4]; exact gM3.trans (Fr.pI 1 0 (by decide))
    have gM5 : Fr [1] M2 M5 := by rw [hM5]; exact gM4.trans (Fr.pI 1 0 (by decide))
    have hz17 : M5.len (17, 0) = some 40 := (gM5 (17, 0) (by decide)).1.trans hT7
    have hzr : M5.rc = M2.rc ∧ M5.rs = M2.rs := by rw [hM5, hM4, hM3]; exact ⟨rfl, rfl⟩
    refine ⟨rfl, ⟨fun _ => 0, 0, ⟨fun t ht => absurd ht (Nat.not_lt_zero t), rfl⟩, ?_⟩, hF.trans (fM5.mono (fun c hc => by revert c; decide)), by omega, by omega⟩
    refine ⟨ok_4, o2.fr fM5 (show 2 ∉ [1, 16, 17] by decide), ⟨o3.fr fM5 (show 3 ∉ [1, 16, 17] by decide), l4.fr fM5 (by decide) (by decide) (by decide), (fM5 (20, 0) (by decide)).1.trans l20⟩, ⟨fun t ht => absurd ht (Nat.not_lt_zero t), fun t _ => (fM5 (18, t) (show 18 ∉ [1, 16, 17] by decide)).1.trans (hfr (18, t) (show 18 ∈ _ by decide))⟩, ⟨fun e he => absurd he (by show ¬ ((e : Int) < 2 * 0); omega), fun e _ => ⟨(fM5 (7, e) (show 7 ∉ [1, 16, 17] by decide)).1.trans (hfr (7, e) (show 7 ∈ _ by decide)), (fM5 (8, e) (show 8 ∉ [1, 16, 17] by decide)).1.trans (hfr (8, e) (show 8 ∈ _ by decide)), (fM5 (9, e) (show 9 ∉ [1, 16, 17] by decide)).1.trans (hfr (9, e) (show 9 ∈ _ by decide)), (fM5 (10, e) (show 10 ∉ [1, 16, 17] by decide)).1.trans (hfr (10, e) (show 10 ∈ _ by decide))⟩⟩, ⟨(fM5 (6, 0) (by decide)).1.trans l6, fun e he => absurd he (by show ¬ ((e : Int) < 2 * 0); omega)⟩, fun e he => absurd he (by show ¬ ((e : Int) < 2 * 0); omega), ⟨fun e he => absurd he (by show ¬ ((e : Int) < 2 * 0); omega), 0, fun n _ => (fM5 (19, n) (show 19 ∉ [1, 16, 17] by decide)).1.trans (hfr (19, n) (show 19 ∈ _ by decide))⟩, fun e he => absurd he (by show ¬ ((e : Int) < 2 * 0); omega), ⟨(fM5 (11, 0) (by decide)).1.trans l11, fun l hl => absurd hl (by show ¬ ((l : Int) < 0); omega), fun l _ => ⟨(fM5 (12, l) (show 12 ∉ [1, 16, 17] by decide)).1.trans (hfr (12, l) (show 12 ∈ _ by decide)), (fM5 (13, l) (show 13 ∉ [1, 16, 17] by decide)).1.trans (hfr (13, l) (show 13 ∈ _ by decide))⟩⟩, ⟨(fM5 (14, 0) (by decide)).1.trans l14, fun i hi => ⟨(fM5.P (14, 0) (show 14 ∉ [1, 16, 17] by decide)).trans (ht i hi).1, none, none, (ht i hi).2.fr fM5 (show 15 ∉ [1, 16, 17] by decide), Or.inl ⟨rfl, rfl, rfl⟩⟩⟩, ot_2, hz17, fun i hi => absurd hi (by show ¬ ((i : Int) < 0); omega)⟩)
set_option maxRecDepth 100000 in
theorem lp_ctor {G : Ge} {Ms : Mem} (hrc0 : 100 ≤ Ms.rc) (hrs0 : 1000 ≤ Ms.rs) : ∀ (d : Nat) (i : Nat) (M : Mem), i + d = 8 → Obj M (1, 0) [0, 0, 0, 0, 0, 0, 0, 0, 0, 0, 0] [some (2, 0), some (3, 0), some (6, 0), some (11, 0), some (14, 0), none] → Obj M (2, 0) [101, 2] [] → Obj M (3, 0) [0, 0, 0] [some (2, 0), some (4, 0)] → Ls 0 M → M.len (20, 0) = some 0 → M.len (6, 0) = some 12 → M.len (11, 0) = some 300 → M.len (14, 0) = some 8 → (∀ r : Role, r.1 ∈ [7, 8, 9, 10, 12, 13, 16, 17, 18, 19] → M.len r = none) → Fr CLs Ms M → Ms.rc ≤ M.rc + 10 + i → Ms.rs ≤ M.rs + 500 + 2 * i → ((∀ j, j < i → M.P (14, 0) j = some (15, j) ∧ Obj M (15, j) [] [none, none])) → ((∀ j, i ≤ j → M.len (15, j) = none)) → Sf G mi_X8_init (fun v' M' => v' = none ∧ Cs ((fun _ => false, fun _ => false) : (Nat → Bool) × (Nat → Bool)) ini M' ∧ Fr CLs Ms M' ∧ Ms.rc ≤ M'.rc + 20 ∧ Ms.rs ≤ M'.rs + 600) 56 [some (vR ((1, 0))), some (vI (↑i))] [] M := by
  intro d
  induction d with
  | zero =>
    intro i M hid o1 o2 o3 l4 l20 l6 l11 l14 hfr hF hrc hrs ht hft
    refine S_iload_n dX8_init_56 rfl ?_
    refine S_bipush dX8_init_57 (by decide) ?_
    refine S_icmp_ge 81 dX8_init_59 (by decide) (by omega) (fun c_59 => ?_) (fun c_59 => absurd c_59 (by omega))
    have hi8 : i = 8 := by omega
    rw [hi8]
    exact ctor_tail o1 o2 o3 l4 l20 l6 l11 l14 (fun j hj => ht j (by omega)) hfr hF (by omega) (by omega) hrc0 hrs0
  | succ d ih =>
    intro i M hid o1 o2 o3 l4 l20 l6 l11 l14 hfr hF hrc hrs ht hft
    refine S_iload_n dX8_init_56 rfl ?_
    refine S_bipush dX8_init_57 (by decide) ?_
    refine S_icmp_ge 81 dX8_init_59 (by decide) (by omega) (fun c_59 => absurd c_59 (by omega)) (fun c_59 => ?_)
    refine S_aload_n dX8_init_62 rfl ?_
    refine S_getP (o := some (14, 0)) fl_X8_35 dX8_init_63 rfl rfl (by rw [(show M.P (1, 0) 4 = some (14, 0) from congrFun o1.2.2 4)]) ?_
    refine S_iload_n dX8_init_66 rfl ?_
    refine S_new (15, i) nl_X8_33 dX8_init_67 rfl (hft i (Nat.le_refl i)) (by omega) (by show 2 ≤ M.rs; omega) ?_
    refine Sf.nm (fun M1 hM1 => ?_)
    refine S_dup dX8_init_70 ?_
    refine S_callIN (mi := mi_X8_init) [] ok_X7_init ml_X8_39 dX8_init_71 rfl rfl (by decide) rfl (Nat.le_of_ble_eq_true rfl) rfl (c_trayInit i) ?_
    rintro v' M2 ⟨rfl, hM2⟩
    rw [hM2]
    clear hM2
    refine S_aast i dX8_init_74 rfl (by decide) rfl rfl (by decide) rfl (by rw [hM1, Mem.new_len_ne (rne (by decide)), l14]) (by omega) (by omega) ?_
    refine Sf.nm (fun M3 hM3 => ?_)
    refine S_iinc dX8_init_75 rfl (by decide) ?_
    rw [show ((↑i) + 1 : Int) = ↑(i + 1) from rfl]
    refine S_goto 56 dX8_init_78 (by decide) ?_
    have fM1 : Fr [14, 15] M M1 := by rw [hM1]; exact (Fr.rf [14, 15] M).trans (Fr.nw 15 i (by decide))
    have fM3 : Fr [14, 15] M M3 := by rw [hM3]; exact fM1.trans (Fr.pP 14 0 (by decide))
    have hxx : Fx (15, i) M M1 := by rw [hM1]; exact Fx.nw
    have hyy : Fx (14, 0) M1 M3 := by rw [hM3]; exact Fx.pP
    exact ih (i + 1) M3 (by omega) (o1.fr fM3 (show 1 ∉ [14, 15] by decide)) (o2.fr fM3 (show 2 ∉ [14, 15] by decide)) (o3.fr fM3 (show 3 ∉ [14, 15] by decide)) (l4.fr fM3 (by decide) (by decide) (by decide)) ((fM3 (20, 0) (by decide)).1.trans l20) ((fM3 (6, 0) (by decide)).1.trans l6) ((fM3 (11, 0) (by decide)).1.trans l11) (by rw [hM3, Mem.putP_len, hM1, Mem.new_len_ne (rne (by decide)), l14]) (fun r hr => (fM3 r (fun hc => by simp only [List.mem_cons, List.not_mem_nil, or_false] at hr hc; omega)).1.trans (hfr r hr)) (hF.trans (fM3.mono (fun c hc => by revert c; decide))) (by rw [hM3, hM1]; show Ms.rc ≤ M.rc - 1 + 10 + (i + 1); omega) (by rw [hM3, hM1]; show Ms.rs ≤ M.rs - 2 + 500 + 2 * (i + 1); omega) (fun j hj => by
      by_cases hji : j = i
      · subst hji
        exact ⟨by rw [hM3]; exact Mem.putP_eq, Obj.at (by rw [hM1]; exact Obj.nw M (15, j) 2 0 2) (hyy (15, j) (rne (by decide)))⟩
      · exact ⟨by rw [hM3, Mem.putP_at (Or.inr hji), hM1, Mem.new_P_ne (rne (by decide))]; exact (ht j (by omega)).1, ((ht j (by omega)).2.at (hxx (15, j) (rni hji))).at (hyy (15, j) (rne (by decide)))⟩) (fun j hj => by rw [hM3, Mem.putP_len, hM1, Mem.new_len_ne (rni (by omega))]; exact hft j (by omega))
set_option maxRecDepth 100000 in
theorem c_init {G : Ge} {M : Mem} (h1 : Obj M (1, 0) (List.replicate 11 0) (List.replicate 6 none)) (hfr : ∀ r : Role, 2 ≤ r.1 → r.1 ≤ 19 → r.1 ≠ 1 → M.len r = none) (h20 : M.len (20, 0) = some 0) (hrc : 100 ≤ M.rc) (hrs : 1000 ≤ M.rs) : Ct G mi_X8_init [vR ((1, 0))] M (fun v' M' => v' = none ∧ Cs ((fun _ => false, fun _ => false) : (Nat → Bool) × (Nat → Bool)) ini M' ∧ Fr CLs M M' ∧ M.rc ≤ M'.rc + 20 ∧ M.rs ≤ M'.rs + 600) := by
  refine Ct.of pl_X8_init [some (vR ((1, 0))), none] rfl (Nat.le_of_ble_eq_true rfl) ?_
  refine S_aload_n dX8_init_0 rfl ?_
  refine S_objInit oi_X8_1 dX8_init_1 (by decide) (Nat.le_of_ble_eq_true rfl) ?_
  refine S_aload_n dX8_init_4 rfl ?_
  refine S_new (3, 0) nl_X8_7 dX8_init_5 rfl (hfr (3, 0) (by decide) (by decide) (by decide)) (by omega) (by show 3 ≤ M.rs; omega) ?_
  refine Sf.nm (fun M1 hM1 => ?_)
  refine S_dup dX8_init_8 ?_
  have hO3 : Obj M1 (3, 0) [0, 0, 0] [none, none] := by rw [hM1]; exact Obj.nw M (3, 0) 3 3 2
  have hr1 : M1.rc = M.rc - 1 ∧ M1.rs = M.rs - 3 := by rw [hM1]; exact ⟨rfl, rfl⟩
  refine S_callIN (mi := mi_X8_init) [] ok_X5_init ml_X8_9 dX8_init_9 rfl rfl (by decide) rfl (Nat.le_of_ble_eq_true rfl) rfl (c_thingsInit hO3 (by rw [hM1, Mem.new_len_ne (rne (by decide))]; exact hfr (2, 0) (by decide) (by decide) (by decide)) (by rw [hM1, Mem.new_len_ne (rne (by decide))]; exact hfr (4, 0) (by decide) (by decide) (by decide)) (fun c => by rw [hM1, Mem.new_len_ne (rne (by decide))]; exact hfr (5, c) (show 2 ≤ 5 by decide) (show 5 ≤ 19 by decide) (show 5 ≠ 1 by decide)) (by rw [hM1, Mem.new_len_ne (rne (by decide))]; exact h20) (by omega) (by omega)) ?_
  rintro v' M2 ⟨rfl, hT3, hT2, hT4, hT20, hTF, hrc2, hrs2⟩
  refine S_putPF fl_X8_10 dX8_init_12 rfl rfl rfl rfl rfl ?_
  refine Sf.nm (fun M3 hM3 => ?_)
  refine S_aload_n dX8_init_15 rfl ?_
  refine S_aload_n dX8_init_16 rfl ?_
  refine S_getP (o := some (3, 0)) fl_X8_10 dX8_init_17 rfl rfl (by rw [hM3, Mem.putP_eq]) ?_
  refine S_getP (o := some (2, 0)) fl_X8_16 dX8_init_20 rfl rfl (by rw [hM3, Mem.putP_at (Or.inl (rne (by decide)))]; exact congrFun hT3.2.2 0) ?_
  refine S_putPF fl_X8_20 dX8_init_23 rfl rfl rfl rfl rfl ?_
  refine Sf.nm (fun M4 hM4 => ?_)
  refine S_aload_n dX8_init_26 rfl ?_
  refine S_bipush dX8_init_27 (by decide) ?_
  refine S_newarrA (6, 0) 12 cl_X8_21 (by decide) dX8_init_29 rfl (by omega) rfl (by decide) rfl rfl (by rw [hM4, Mem.putP_len, hM3, Mem.putP_len, hTF.len (6, 0) (by decide), hM1, Mem.new_len_ne (rne (by decide))]; exact hfr (6, 0) (by decide) (by decide) (by decide)) (by rw [hM4, hM3]; show 1 ≤ M2.rc; omega) (by rw [hM4, hM3]; show 12 ≤ M2.rs; omega) ?_
  refine Sf.nm (fun M5 hM5 => ?_)
  refine S_putPF fl_X8_23 dX8_init_32 rfl rfl rfl rfl rfl ?_
  refine Sf.nm (fun M6 hM6 => ?_)
  refine S_aload_n dX8_init_35 rfl ?_
  refine S_sipush dX8_init_36 (by decide) ?_
  refine S_newarrA (11, 0) 300 cl_X8_27 (by decide) dX8_init_39 rfl (by omega) rfl (by decide) rfl rfl (by rw [hM6, Mem.putP_len, hM5, Mem.new_len_ne (rne (by decide)), hM4, Mem.putP_len, hM3, Mem.putP_len, hTF.len (11, 0) (by decide), hM1, Mem.new_len_ne (rne (by decide))]; exact hfr (11, 0) (by decide) (by decide) (by decide)) (by rw [hM6, hM5, hM4, hM3]; show 1 ≤ M2.rc - 1; omega) (by rw [hM6, hM5, hM4, hM3]; show 300 ≤ M2.rs - 12; omega) ?_
  refine Sf.nm (fun M7 hM7 => ?_)
  refine S_putPF fl_X8_29 dX8_init_42 rfl rfl rfl rfl rfl ?_
  refine Sf.nm (fun M8 hM8 => ?_)
  refine S_aload_n dX8_init_45 rfl ?_
  refine S_bipush dX8_init_46 (by decide) ?_
  refine S_newarrA (14, 0) 8 cl_X8_33 (by decide) dX8_init_48 rfl (by omega) rfl (by decide) rfl rfl (by rw [hM8, Mem.putP_len, hM7, Mem.new_len_ne (rne (by decide)), hM6, Mem.putP_len, hM5, Mem.new_len_ne (rne (by decide)), hM4, Mem.putP_len, hM3, Mem.putP_len, hTF.len (14, 0) (by decide), hM1, Mem.new_len_ne (rne (by decide))]; exact hfr (14, 0) (by decide) (by decide) (by decide)) (by rw [hM8, hM7, hM6, hM5, hM4, hM3]; show 1 ≤ M2.rc - 1 - 1; omega) (by rw [hM8, hM7, hM6, hM5, hM4, hM3]; show 8 ≤ M2.rs - 12 - 300; omega) ?_
  refine Sf.nm (fun M9 hM9 => ?_)
  refine S_putPF fl_X8_35 dX8_init_51 rfl rfl rfl rfl rfl ?_
  refine Sf.nm (fun M10 hM10 => ?_)
  refine S_iconst dX8_init_54 ?_
  refine S_istore_n dX8_init_55 (by decide) ?_
  have ok_0 : Obj M1 (1, 0) (List.replicate 11 0) (List.replicate 6 none) := by rw [hM1]; exact h1.at ⟨Mem.new_len_ne (rne (by decide)), funext fun _ => Mem.new_I_ne (rne (by decide)), funext fun _ => Mem.new_P_ne (rne (by decide))⟩
  have ok_1 : Obj M2 (1, 0) (List.replicate 11 0) (List.replicate 6 none) := by exact ok_0.fr hTF (show 1 ∉ [2, 3, 4] by decide)
  have ok_2 : Obj M3 (1, 0) (List.replicate 11 0) ((List.replicate 6 none).set 1 (some (3, 0))) := by rw [hM3]; exact ok_1.putP (k := 1) (show 1 < 6 by decide)
  have ok_3 : Obj M4 (1, 0) (List.replicate 11 0) (((List.replicate 6 none).set 1 (some (3, 0))).set 0 (some (2, 0))) := by rw [hM4]; exact ok_2.putP (k := 0) (show 0 < 6 by decide)
  have ok_4 : Obj M5 (1, 0) (List.replicate 11 0) (((List.replicate 6 none).set 1 (some (3, 0))).set 0 (some (2, 0))) := by rw [hM5]; exact ok_3.at ⟨Mem.new_len_ne (rne (by decide)), funext fun _ => Mem.new_I_ne (rne (by decide)), funext fun _ => Mem.new_P_ne (rne (by decide))⟩
  have ok_5 : Obj M6 (1, 0) (List.replicate 11 0) ((((List.replicate 6 none).set 1 (some (3, 0))).set 0 (some (2, 0))).set 2 (some (6, 0))) := by rw [hM6]; exact ok_4.putP (k := 2) (show 2 < 6 by decide)
  have ok_6 : Obj M7 (1, 0) (List.replicate 11 0) ((((List.replicate 6 none).set 1 (some (3, 0))).set 0 (some (2, 0))).set 2 (some (6, 0))) := by rw [hM7]; exact ok_5.at ⟨Mem.new_len_ne (rne (by decide)), funext fun _ => Mem.new_I_ne (rne (by decide)), funext fun _ => Mem.new_P_ne (rne (by decide))⟩
  have ok_7 : Obj M8 (1, 0) (List.replicate 11 0) (((((List.replicate 6 none).set 1 (some (3, 0))).set 0 (some (2, 0))).set 2 (some (6, 0))).set 3 (some (11, 0))) := by rw [hM8]; exact ok_6.putP (k := 3) (show 3 < 6 by decide)
  have ok_8 : Obj M9 (1, 0) (List.replicate 11 0) (((((List.replicate 6 none).set 1 (some (3, 0))).set 0 (some (2, 0))).set 2 (some (6, 0))).set 3 (some (11, 0))) := by rw [hM9]; exact ok_7.at ⟨Mem.new_len_ne (rne (by decide)), funext fun _ => Mem.new_I_ne (rne (by decide)), funext fun _ => Mem.new_P_ne (rne (by decide))⟩
  have ok_9 : Obj M10 (1, 0) (List.replicate 11 0) ((((((List.replicate 6 none).set 1 (some (3, 0))).set 0 (some (2, 0))).set 2 (some (6, 0))).set 3 (some (11, 0))).set 4 (some (14, 0))) := by rw [hM10]; exact ok_8.putP (k := 4) (show 4 < 6 by decide)
  have fM3 : Fr [1, 6, 11, 14] M2 M3 := by rw [hM3]; exact (Fr.rf [1, 6, 11, 14] M2).trans (Fr.pP 1 0 (by decide))
  have fM4 : Fr [1, 6, 11, 14] M2 M4 := by rw [hM4]; exact fM3.trans (Fr.pP 1 0 (by decide))
  have fM5 : Fr [1, 6, 11, 14] M2 M5 := by rw [hM5]; exact fM4.trans (Fr.nw 6 0 (by decide))
  have fM6 : Fr [1, 6, 11, 14] M2 M6 := by rw [hM6]; exact fM5.trans (Fr.pP 1 0 (by decide))
  have fM7 : Fr [1, 6, 11, 14] M2 M7 := by rw [hM7]; exact fM6.trans (Fr.nw 11 0 (by decide))
  have fM8 : Fr [1, 6, 11, 14] M2 M8 := by rw [hM8]; exact fM7.trans (Fr.pP 1 0 (by decide))
  have fM9 : Fr [1, 6, 11, 14] M2 M9 := by rw [hM9]; exact fM8.trans (Fr.nw 14 0 (by decide))
  have fM10 : Fr [1, 6, 11, 14] M2 M10 := by rw [hM10]; exact fM9.trans (Fr.pP 1 0 (by decide))
  have gM1 : Fr CLs M M1 := by rw [hM1]; exact (Fr.rf CLs M).trans (Fr.nw 3 0 (by decide))
  have gM2 : Fr CLs M M2 := by exact gM1.trans (hTF.mono (fun c hc => by revert c; decide))
  have gM3 : Fr CLs M M3 := by rw [hM3]; exact gM2.trans (Fr.pP 1 0 (by decide))
  have gM4 : Fr CLs M M4 := by rw [hM4]; exact gM3.trans (Fr.pP 1 0 (by decide))
  have gM5 : Fr CLs M M5 := by rw [hM5]; exact gM4.trans (Fr.nw 6 0 (by decide))
  have gM6 : Fr CLs M M6 := by rw [hM6]; exact gM5.trans (Fr.pP 1 0 (by decide))
  have gM7 : Fr CLs M M7 := by rw [hM7]; exact gM6.trans (Fr.nw 11 0 (by decide))
  have gM8 : Fr CLs M M8 := by rw [hM8]; exact gM7.trans (Fr.pP 1 0 (by decide))
  have gM9 : Fr CLs M M9 := by rw [hM9]; exact gM8.trans (Fr.nw 14 0 (by decide))
  have gM10 : Fr CLs M M10 := by rw [hM10]; exact gM9.trans (Fr.pP 1 0 (by decide))
  have hzr : M10.rc = M2.rc - 1 - 1 - 1 ∧ M10.rs = M2.rs - 12 - 300 - 8 := by rw [hM10, hM9, hM8, hM7, hM6, hM5, hM4, hM3]; exact ⟨rfl, rfl⟩
  have hfz : ∀ r : Role, r.1 ∈ [7, 8, 9, 10, 12, 13, 15, 16, 17, 18, 19] → M10.len r = none := fun r hr => by
    rw [hM10, Mem.putP_len, hM9, Mem.new_len_ne (fun z => by rw [z] at hr; revert hr; decide), hM8, Mem.putP_len, hM7, Mem.new_len_ne (fun z => by rw [z] at hr; revert hr; decide), hM6, Mem.putP_len, hM5, Mem.new_len_ne (fun z => by rw [z] at hr; revert hr; decide), hM4, Mem.putP_len, hM3, Mem.putP_len]
    rw [hTF.len r (fun hc => by simp only [List.mem_cons, List.not_mem_nil, or_false] at hr hc; omega), hM1, Mem.new_len_ne (fun z => by rw [z] at hr; revert hr; decide)]
    exact hfr r (by simp only [List.mem_cons, List.not_mem_nil, or_false] at hr; omega) (by simp only [List.mem_cons, List.not_mem_nil, or_false] at hr; omega) (by simp only [List.mem_cons, List.not_mem_nil, or_false] at hr; omega)
  exact lp_ctor hrc hrs 8 0 M10 (by omega) ok_9 (hT2.fr fM10 (by decide)) (hT3.fr fM10 (by decide)) (hT4.fr fM10 (by decide) (by decide) (by decide)) ((fM10 (20, 0) (by decide)).1.trans hT20) (by rw [hM10, Mem.putP_len, hM9, Mem.new_len_ne (rne (by decide)), hM8, Mem.putP_len, hM7, Mem.new_len_ne (rne (by decide)), hM6, Mem.putP_len, hM5, Mem.new_len_eq]) (by rw [hM10, Mem.putP_len, hM9, Mem.new_len_ne (rne (by decide)), hM8, Mem.putP_len, hM7, Mem.new_len_eq]) (by rw [hM10, Mem.putP_len, hM9, Mem.new_len_eq]) (fun r hr => hfz r (by simp only [List.mem_cons, List.not_mem_nil, or_false] at hr ⊢; omega)) gM10 (by omega) (by omega) (fun j hj => absurd hj (by omega)) (fun j _ => hfz (15, j) (show 15 ∈ _ by decide))
