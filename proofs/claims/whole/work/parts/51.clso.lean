/-! THE CLASS: a thing comes -/
set_option maxRecDepth 100000 in
theorem nw_comeOf {G : Ge} {Y : (Nat → Bool) × (Nat → Bool)} {ρ : RS} {M : Mem} (N : Nat) (hT : ThOK ρ N) (hNb : N < 7990) (hU : UqT ρ) (hTK : ThK Y.2 ρ) (a : Nat) (ha : a < thN ρ) (k f w v wI : Int) (hKf : Kfm Y.2 k f w) (hk3 : k ≠ 3) (hf : f < thN ρ) (hw : w < thN ρ) (hco : cOfV Y.2 k f w = ↑a) (hcw : cWiV Y.2 k f w = wI) (hRm : Rm 2 8 M) (hCs : Cs Y ρ M) (hIx : thI ρ k f w = thN ρ) (x5 : Option AVal) : Sf G mi_X5_comeOf (fun v' M' => CP Y (thR ρ k f w v) 2 8 (some (vR (18, thI ρ k f w))) M v' M' ∧ Fr [3, 4, 5, 18] M M') 42 [some (vR ((3, 0))), some (vR ((18, a))), some (vI k), some (vQ (qx wI)), some (vI v), x5] [] M := by
  obtain ⟨sc, kn, hS, hCl⟩ := hCs
  obtain ⟨hA, hB, hC, hD, hE, hN, hG, hH, hI, hJ, hK, hL⟩ := id hCl
  obtain ⟨n, hn⟩ : ∃ n : Nat, thN ρ = n := ⟨_, rfl⟩
  have hl8 := hT.2.1
  have hna : ((18, a) : Role) ≠ (18, n) := rni (by omega)
  have hfr : M.len (18, n) = none := hD.2 n (by omega)
  have hcap := capM_le hC.2.1
  refine S_new (18, n) nl_X5_25 dX5_comeOf_42 rfl hfr (by have := hRm.1; omega) (by have := hRm.2; show 8 ≤ M.rs; omega) ?_
  refine Sf.nm (fun M1 hM1 => ?_)
  refine S_dup dX5_comeOf_45 ?_
  refine S_iload_n dX5_comeOf_46 rfl ?_
  refine S_iload dX5_comeOf_47 rfl ?_
  refine S_aload_n dX5_comeOf_49 rfl ?_
  refine S_aload_n dX5_comeOf_50 rfl ?_
  have hO0 : Obj M1 (18, n) [0, 0, 0, 0, 0, 0, 0, 0] [none, none, none, none, none, none] := by rw [hM1]; exact Obj.nw M (18, n) 8 8 6
  refine S_callI (mi := mi_X5_comeOf) [vI k, vI v, vR ((18, a)), vQ (qx wI)] ok_X4_init ml_X5_27 dX5_comeOf_51 rfl rfl (by decide) rfl (Nat.le_of_ble_eq_true rfl) rfl (c_thingInit n k v (some (18, a)) (qx wI) hO0) ?_
  rintro v' M2 ⟨rfl, hO2, hX2, hB2⟩
  refine S_astore dX5_comeOf_54 (by decide) ?_
  refine S_aload dX5_comeOf_56 rfl ?_
  refine S_aload_n dX5_comeOf_58 rfl ?_
  refine S_getP (o := qx (prC Y.2 ρ (thN ρ) ↑a)) fl_X5_53 dX5_comeOf_59 rfl rfl (by rw [(show M2.P (18, a) 4 = _ from congrFun (hX2 (18, a) hna).2.2 4), hM1, Mem.new_P_ne hna, (show M.P (18, a) 4 = qx (prC Y.2 ρ (thN ρ) ↑a) from congrFun (hD.1 a (by omega)).2.2 4)]) ?_
  refine S_putP fl_X5_63 dX5_comeOf_62 rfl rfl rfl  ?_
  refine Sf.nm (fun M3 hM3 => ?_)
  refine S_aload_n dX5_comeOf_65 rfl ?_
  refine S_aload dX5_comeOf_66 rfl ?_
  refine S_putP fl_X5_53 dX5_comeOf_68 rfl rfl rfl  ?_
  refine Sf.nm (fun M4 hM4 => ?_)
  refine S_aload dX5_comeOf_71 rfl ?_
  refine S_aload dX5_comeOf_73 rfl ?_
  have hfw : -1 ≤ f ∧ -1 ≤ w := by rcases hKf with q | q | q | q <;> omega
  have hwI : -1 ≤ wI ∧ wI < n := by
    rw [← hcw]
    unfold cWiV
    split
    · split <;> omega
    · split <;> omega
  obtain ⟨b, hb⟩ : ∃ x : Int, x = ssV sc wI := ⟨_, rfl⟩
  have hb2 : -1 ≤ b ∧ b ≤ 8000 := by
    rw [hb]
    unfold ssV
    split
    · omega
    · exact sc_bd hS hT (by omega) _ (by omega)
  have ha2 := sc_bd hS hT (by omega) a (by omega)
  have hbI : wI ≠ -1 → M4.I (18, wI.toNat) 7 = b := fun hne => by
    obtain ⟨d, hd⟩ : ∃ d : Nat, wI = ↑d := ⟨wI.toNat, by omega⟩
    rw [hd, Int.toNat_natCast]
    have e1 : b = sc d := by
      rw [hb]
      unfold ssV
      rw [if_neg hne, hd, Int.toNat_natCast]
    rw [e1]
    by_cases hda : d = a
    · rw [hda]
      rw [hM4, Mem.putP_I, hM3, Mem.putP_I, (show M2.I (18, a) 7 = _ from congrFun (hX2 (18, a) hna).2.1 7), hM1, Mem.new_I_ne hna, (show M.I (18, a) 7 = sc a from congrFun (hD.1 a (by omega)).2.1 7)]
    · rw [hM4, Mem.putP_I, hM3, Mem.putP_I, (show M2.I (18, d) 7 = _ from congrFun (hX2 (18, d) (rni (by omega))).2.1 7), hM1, Mem.new_I_ne (rni (by omega)), (show M.I (18, d) 7 = sc d from congrFun (hD.1 d (by omega)).2.1 7)]
  obtain ⟨s, hsd⟩ : ∃ x : Int, x = ssT sc (newT ρ k f w v) n := ⟨_, rfl⟩
  have hsn : snV 0 k ↑a wI (sc a) b = s := by
    have q := sn_ss (par := Y.2) (sc := sc) (ρ := newT ρ k f w v) (t := thN ρ) (by rw [new_6, new_7, new_8]; exact hKf) (by rw [new_7]; unfold ssV; split; omega; exact (sc_bd hS hT (by omega) _ (by omega)).1) (by rw [new_8]; unfold ssV; split; omega; exact (sc_bd hS hT (by omega) _ (by omega)).1)
    rw [new_10, new_6, new_cOfN, new_cWiN, hco, hcw, hn, ← hsd, ← hb] at q
    rw [← q]
    congr 1
  have hs2 : -1 ≤ s ∧ s ≤ 8001 := by
    rw [← hsn]
    unfold snV
    split
    · omega
    · split
      · omega
      · split
        · split <;> omega
        · split
          · split
            · omega
            · split <;> (try split) <;> omega
          · split
            · omega
            · split <;> omega
  refine S_callV (mi := mi_X5_comeOf) [] ok_X4_stepsNow ml_X5_66 dX5_comeOf_75 rfl (by decide) rfl (by decide) rfl (Nat.le_of_ble_eq_true rfl) rfl (c_stepsNow n 0 k ↑a wI (sc a) b (by rw [hM4, Mem.putP_I, hM3, Mem.putP_I, (show M2.I (18, n) 6 = 0 from congrFun hO2.2.1 6)]) (by rw [hM4, Mem.putP_I, hM3, Mem.putP_I, (show M2.I (18, n) 0 = k from congrFun hO2.2.1 0)]) (by rw [hM4, Mem.putP_at (Or.inl hna.symm), hM3, Mem.putP_at (Or.inr (by decide)), (show M2.P (18, n) 2 = some (18, a) from congrFun hO2.2.2 2)]; exact (qx_nat a).symm) (by rw [hM4, Mem.putP_at (Or.inl hna.symm), hM3, Mem.putP_at (Or.inr (by decide)), (show M2.P (18, n) 3 = qx wI from congrFun hO2.2.2 3)]) (by omega) (by omega) (fun _ => by rw [Int.toNat_natCast, hM4, Mem.putP_I, hM3, Mem.putP_I, (show M2.I (18, a) 7 = _ from congrFun (hX2 (18, a) hna).2.1 7), hM1, Mem.new_I_ne hna, (show M.I (18, a) 7 = sc a from congrFun (hD.1 a (by omega)).2.1 7)]) hbI (by omega) (by rcases hKf with q | q | q | q <;> omega) ha2 hb2) ?_
  rintro v' M5 ⟨rfl, hM5⟩
  rw [hM5]
  clear hM5
  rw [hsn]
  refine S_putI fl_X5_70 dX5_comeOf_78 rfl rfl rfl  (Or.inl rfl) ?_
  refine Sf.nm (fun M6 hM6 => ?_)
  refine S_aload dX5_comeOf_81 rfl ?_
  refine S_getI (v := s) fl_X5_70 dX5_comeOf_83 rfl rfl (by rw [hM6, Mem.putI_eq]) ?_
  refine S_iconst dX5_comeOf_86 ?_
  refine S_icmp_eq 100 dX5_comeOf_87 (by decide) (by omega) (fun c_87 => ?_) (fun c_87 => ?_)
  · refine S_aload_n dX5_comeOf_100 rfl ?_
    refine S_getP (o := some (4, 0)) fl_X5_21 dX5_comeOf_101 rfl rfl (by rw [hM6, Mem.putI_P, hM4, Mem.putP_at (Or.inl (rne (by decide))), hM3, Mem.putP_at (Or.inl (rne (by decide))), (show M2.P (3, 0) 1 = _ from congrFun (hX2 (3, 0) (rne (by decide))).2.2 1), hM1, Mem.new_P_ne (rne (by decide)), (show M.P (3, 0) 1 = some (4, 0) from congrFun hC.1.2.2 1)]) ?_
    refine S_aload dX5_comeOf_104 rfl ?_
    have hf_M1 : Fr [3, 18] M M1 := by rw [hM1]; exact (Fr.rf [3, 18] M).trans (Fr.nw 18 n (by decide))
    have hf_M2 : Fr [3, 18] M M2 := by exact hf_M1.trans (hX2.fr (by decide))
    have hf_M3 : Fr [3, 18] M M3 := by rw [hM3]; exact hf_M2.trans (Fr.pP 18 n (by decide))
    have hf_M4 : Fr [3, 18] M M4 := by rw [hM4]; exact hf_M3.trans (Fr.pP 18 a (by decide))
    have hf_M6 : Fr [3, 18] M M6 := by rw [hM6]; exact hf_M4.trans (Fr.pI 18 n (by decide))
    have hg_M1 : Bg 1 8 M M1 := by rw [hM1]; exact ((Bg.rf M).trans (Bg.nw M 18 n 0 8 (by decide) hfr)).le (by decide) (by decide)
    have hg_M2 : Bg 1 8 M M2 := by exact (hg_M1.trans hB2).le (by decide) (by decide)
    have hg_M3 : Bg 1 8 M M3 := by rw [hM3]; exact (hg_M2.trans (Bg.pP _ 18 n _ _ (by decide))).le (by decide) (by decide)
    have hg_M4 : Bg 1 8 M M4 := by rw [hM4]; exact (hg_M3.trans (Bg.pP _ 18 a _ _ (by decide))).le (by decide) (by decide)
    have hg_M6 : Bg 1 8 M M6 := by rw [hM6]; exact (hg_M4.trans (Bg.pI _ _ _ _)).le (by decide) (by decide)
    have hLs1 : Ls n M6 := (by have q := hC.2.1; rw [hn] at q; exact q.fr hf_M6 (by decide) (by decide) (by decide))
    have h20 : M6.len (20, 0) = some 0 := (hf_M6 (20, 0) (by decide)).1.trans hC.2.2
    refine S_callV (mi := mi_X5_comeOf) [vR ((18, n))] ok_Jx4a65c_add_9ea2d ml_X5_30 dX5_comeOf_106 rfl (by decide) rfl (by decide) rfl (Nat.le_of_ble_eq_true rfl) rfl (c_add n hLs1 h20 (by omega) (by have := hRm.1; have := hg_M6.1; omega) (by have := hRm.2; have := hg_M6.2; omega)) ?_
    rintro v' M7 ⟨rfl, hLs7, hF7, hr7, hs7⟩
    refine S_pop dX5_comeOf_109 ?_
    refine S_aload dX5_comeOf_110 rfl ?_
    exact S_aret dX5_comeOf_112 rfl rfl (by
    have oa_0 : Obj M1 (18, a) (tL (fun j => ρ.2 j a) (sc a)) (tQ (qx (cOf Y.2 ρ a)) (qx (cWi Y.2 ρ a)) (qx (prC Y.2 ρ (thN ρ) ↑a)) (bsC Y.2 ρ a)) := by rw [hM1]; exact (hD.1 a ha).at ⟨Mem.new_len_ne hna, funext fun _ => Mem.new_I_ne hna, funext fun _ => Mem.new_P_ne hna⟩
    have oa_1 : Obj M2 (18, a) (tL (fun j => ρ.2 j a) (sc a)) (tQ (qx (cOf Y.2 ρ a)) (qx (cWi Y.2 ρ a)) (qx (prC Y.2 ρ (thN ρ) ↑a)) (bsC Y.2 ρ a)) := by exact oa_0.at (hX2 (18, a) hna)
    have oa_2 : Obj M3 (18, a) (tL (fun j => ρ.2 j a) (sc a)) (tQ (qx (cOf Y.2 ρ a)) (qx (cWi Y.2 ρ a)) (qx (prC Y.2 ρ (thN ρ) ↑a)) (bsC Y.2 ρ a)) := by rw [hM3]; exact oa_1.at (Fx.pP _ hna)
    have oa_3 : Obj M4 (18, a) (tL (fun j => ρ.2 j a) (sc a)) ((tQ (qx (cOf Y.2 ρ a)) (qx (cWi Y.2 ρ a)) (qx (prC Y.2 ρ (thN ρ) ↑a)) (bsC Y.2 ρ a)).set 4 (some (18, n))) := by rw [hM4]; exact oa_2.putP (k := 4) (show 4 < 6 by decide)
    have oa_4 : Obj M6 (18, a) (tL (fun j => ρ.2 j a) (sc a)) ((tQ (qx (cOf Y.2 ρ a)) (qx (cWi Y.2 ρ a)) (qx (prC Y.2 ρ (thN ρ) ↑a)) (bsC Y.2 ρ a)).set 4 (some (18, n))) := by rw [hM6]; exact oa_3.at (Fx.pI _ hna)
    have oa_5 : Obj M7 (18, a) (tL (fun j => ρ.2 j a) (sc a)) ((tQ (qx (cOf Y.2 ρ a)) (qx (cWi Y.2 ρ a)) (qx (prC Y.2 ρ (thN ρ) ↑a)) (bsC Y.2 ρ a)).set 4 (some (18, n))) := by exact oa_4.fr hF7 (show 18 ∉ [4, 5] by decide)
    have on_0 : Obj M3 (18, n) [k, v, 0, 0, 0, 0, 0, -1] ([none, none, some (18, a), qx wI, none, none].set 5 (qx (prC Y.2 ρ (thN ρ) ↑a))) := by rw [hM3]; exact hO2.putP (k := 5) (show 5 < 6 by decide)
    have on_1 : Obj M4 (18, n) [k, v, 0, 0, 0, 0, 0, -1] ([none, none, some (18, a), qx wI, none, none].set 5 (qx (prC Y.2 ρ (thN ρ) ↑a))) := by rw [hM4]; exact on_0.at (Fx.pP _ hna.symm)
    have on_2 : Obj M6 (18, n) ([k, v, 0, 0, 0, 0, 0, -1].set 7 s) ([none, none, some (18, a), qx wI, none, none].set 5 (qx (prC Y.2 ρ (thN ρ) ↑a))) := by rw [hM6]; exact on_1.putI (k := 7) (show 7 < 8 by decide)
    have on_3 : Obj M7 (18, n) ([k, v, 0, 0, 0, 0, 0, -1].set 7 s) ([none, none, some (18, a), qx wI, none, none].set 5 (qx (prC Y.2 ρ (thN ρ) ↑a))) := by exact on_2.fr hF7 (show 18 ∉ [4, 5] by decide)
    have ot_0 : Obj M1 (3, 0) [0, 0, kn] [some (2, 0), some (4, 0)] := by rw [hM1]; exact hC.1.at ⟨Mem.new_len_ne (rne (by decide)), funext fun _ => Mem.new_I_ne (rne (by decide)), funext fun _ => Mem.new_P_ne (rne (by decide))⟩
    have ot_1 : Obj M2 (3, 0) [0, 0, kn] [some (2, 0), some (4, 0)] := by exact ot_0.at (hX2 (3, 0) (rne (by decide)))
    have ot_2 : Obj M3 (3, 0) [0, 0, kn] [some (2, 0), some (4, 0)] := by rw [hM3]; exact ot_1.at (Fx.pP _ (rne (by decide)))
    have ot_3 : Obj M4 (3, 0) [0, 0, kn] [some (2, 0), some (4, 0)] := by rw [hM4]; exact ot_2.at (Fx.pP _ (rne (by decide)))
    have ot_4 : Obj M6 (3, 0) [0, 0, kn] [some (2, 0), some (4, 0)] := by rw [hM6]; exact ot_3.at (Fx.pI _ (rne (by decide)))
    have ot_5 : Obj M7 (3, 0) [0, 0, kn] [some (2, 0), some (4, 0)] := by exact ot_4.fr hF7 (show 3 ∉ [4, 5] by decide)
    have hFm : Fr [3, 4, 5, 18] M M7 := ((hf_M6).mono (fun c hc => by
      rcases List.mem_cons.mp hc with h | h
      · rw [h]; decide
      · rw [List.mem_singleton.mp h]; decide)).trans ((hF7).mono (fun c hc => by
      rcases List.mem_cons.mp hc with h | h
      · rw [h]; decide
      · rw [List.mem_singleton.mp h]; decide))
    have hob : ∀ t, t < thN ρ → t ≠ a → SameAt (18, t) M M7 := fun t ht hta => by
      have hne : ((18, t) : Role) ≠ (18, n) := rni (by omega)
      have hne2 : ((18, t) : Role) ≠ (18, a) := rni hta
      have z0 : SameAt (18, t) M M1 := (by rw [hM1]; exact ⟨Mem.new_len_ne hne, funext fun _ => Mem.new_I_ne hne, funext fun _ => Mem.new_P_ne hne⟩)
      have z1 : SameAt (18, t) M1 M2 := (hX2 (18, t) hne)
      have z2 : SameAt (18, t) M2 M3 := (by rw [hM3]; exact Fx.pP (18, t) hne)
      have z3 : SameAt (18, t) M3 M4 := (by rw [hM4]; exact Fx.pP (18, t) hne2)
      have z4 : SameAt (18, t) M4 M6 := (by rw [hM6]; exact Fx.pI (18, t) hne)
      have z5 : SameAt (18, t) M6 M7 := (hF7 (18, t) (show 18 ∉ [4, 5] by decide))
      exact ⟨(((((z5.1).trans z4.1).trans z3.1).trans z2.1).trans z1.1).trans z0.1, (((((z5.2.1).trans z4.2.1).trans z3.2.1).trans z2.2.1).trans z1.2.1).trans z0.2.1, (((((z5.2.2).trans z4.2.2).trans z3.2.2).trans z2.2.2).trans z1.2.2).trans z0.2.2⟩
    have hfre : ∀ t, thN ρ < t → M7.len (18, t) = none := fun t ht => by
      have hne : ((18, t) : Role) ≠ (18, n) := rni (by omega)
      have hne2 : ((18, t) : Role) ≠ (18, a) := rni (by omega)
      have z0 : M1.len (18, t) = M.len (18, t) := (by rw [hM1]; exact Mem.new_len_ne hne)
      have z1 : M2.len (18, t) = M1.len (18, t) := (hX2 (18, t) hne).1
      have z2 : M3.len (18, t) = M2.len (18, t) := (by rw [hM3]; rfl)
      have z3 : M4.len (18, t) = M3.len (18, t) := (by rw [hM4]; rfl)
      have z4 : M6.len (18, t) = M4.len (18, t) := (by rw [hM6]; rfl)
      have z5 : M7.len (18, t) = M6.len (18, t) := (hF7 (18, t) (show 18 ∉ [4, 5] by decide)).1
      exact ((((((z5).trans z4).trans z3).trans z2).trans z1).trans z0).trans (hD.2 t (by omega))
    have hkn : (kn + (if s ≠ -1 then 1 else 0)) = kn := by rw [if_neg (by omega), Int.add_zero]
    have hS9 : StpOK (updF sc (thN ρ) s) (kn) (newT ρ k f w v) := by
      have q := hS.nwT (v := v) (s := s) (k := k) (f := f) (w := w) hT ⟨by rcases hKf with q | q | q | q <;> omega, hf⟩ ⟨by rcases hKf with q | q | q | q <;> omega, hw⟩ (by rw [hn]; exact hsd)
      rw [hkn] at q
      exact q
    have hCl9 : Cl (Y.1, Y.2, updF sc (thN ρ) s, kn) (newT ρ k f w v) M7 := hCl.nwT hT a ha hco hcw hFm hob
      (oa_5.cg rfl (by rw [hn]; rfl)) (by rw [hn]; exact on_3.cg rfl (by rw [← hn]; rfl)) hfre (ot_5.cg rfl rfl) (by rw [hn]; exact hLs7) ((hFm (20, 0) (by decide)).1.trans hC.2.2)
    rw [hIx, thR_new hIx, hn]
    exact ⟨⟨rfl, ⟨_, _, hS9, hCl9⟩, hFm.mono (fun c hc => by revert c; decide), ⟨by have := hg_M6.1; omega, by have := hg_M6.2; omega⟩⟩, hFm⟩)
  · refine S_aload_n dX5_comeOf_90 rfl ?_
    refine S_dup dX5_comeOf_91 ?_
    refine S_getI (v := kn) fl_X5_73 dX5_comeOf_92 rfl rfl (by rw [hM6, Mem.putI_at (Or.inl (rne (by decide))), hM4, Mem.putP_I, hM3, Mem.putP_I, (show M2.I (3, 0) 2 = _ from congrFun (hX2 (3, 0) (rne (by decide))).2.1 2), hM1, Mem.new_I_ne (rne (by decide)), (show M.I (3, 0) 2 = kn from congrFun hC.1.2.1 2)]) ?_
    refine S_iconst dX5_comeOf_95 ?_
    refine S_iadd dX5_comeOf_96 ?_
    refine S_putI fl_X5_73 dX5_comeOf_97 rfl rfl rfl  (Or.inl rfl) ?_
    refine Sf.nm (fun M8 hM8 => ?_)
    refine S_aload_n dX5_comeOf_100 rfl ?_
    refine S_getP (o := some (4, 0)) fl_X5_21 dX5_comeOf_101 rfl rfl (by rw [hM8, Mem.putI_P, hM6, Mem.putI_P, hM4, Mem.putP_at (Or.inl (rne (by decide))), hM3, Mem.putP_at (Or.inl (rne (by decide))), (show M2.P (3, 0) 1 = _ from congrFun (hX2 (3, 0) (rne (by decide))).2.2 1), hM1, Mem.new_P_ne (rne (by decide)), (show M.P (3, 0) 1 = some (4, 0) from congrFun hC.1.2.2 1)]) ?_
    refine S_aload dX5_comeOf_104 rfl ?_
    have hf_M1 : Fr [3, 18] M M1 := by rw [hM1]; exact (Fr.rf [3, 18] M).trans (Fr.nw 18 n (by decide))
    have hf_M2 : Fr [3, 18] M M2 := by exact hf_M1.trans (hX2.fr (by decide))
    have hf_M3 : Fr [3, 18] M M3 := by rw [hM3]; exact hf_M2.trans (Fr.pP 18 n (by decide))
    have hf_M4 : Fr [3, 18] M M4 := by rw [hM4]; exact hf_M3.trans (Fr.pP 18 a (by decide))
    have hf_M6 : Fr [3, 18] M M6 := by rw [hM6]; exact hf_M4.trans (Fr.pI 18 n (by decide))
    have hf_M8 : Fr [3, 18] M M8 := by rw [hM8]; exact hf_M6.trans (Fr.pI 3 0 (by decide))
    have hg_M1 : Bg 1 8 M M1 := by rw [hM1]; exact ((Bg.rf M).trans (Bg.nw M 18 n 0 8 (by decide) hfr)).le (by decide) (by decide)
    have hg_M2 : Bg 1 8 M M2 := by exact (hg_M1.trans hB2).le (by decide) (by decide)
    have hg_M3 : Bg 1 8 M M3 := by rw [hM3]; exact (hg_M2.trans (Bg.pP _ 18 n _ _ (by decide))).le (by decide) (by decide)
    have hg_M4 : Bg 1 8 M M4 := by rw [hM4]; exact (hg_M3.trans (Bg.pP _ 18 a _ _ (by decide))).le (by decide) (by decide)
    have hg_M6 : Bg 1 8 M M6 := by rw [hM6]; exact (hg_M4.trans (Bg.pI _ _ _ _)).le (by decide) (by decide)
    have hg_M8 : Bg 1 8 M M8 := by rw [hM8]; exact (hg_M6.trans (Bg.pI _ _ _ _)).le (by decide) (by decide)
    have hLs1 : Ls n M8 := (by have q := hC.2.1; rw [hn] at q; exact q.fr hf_M8 (by decide) (by decide) (by decide))
    have h20 : M8.len (20, 0) = some 0 := (hf_M8 (20, 0) (by decide)).1.trans hC.2.2
    refine S_callV (mi := mi_X5_comeOf) [vR ((18, n))] ok_Jx4a65c_add_9ea2d ml_X5_30 dX5_comeOf_106 rfl (by decide) rfl (by decide) rfl (Nat.le_of_ble_eq_true rfl) rfl (c_add n hLs1 h20 (by omega) (by have := hRm.1; have := hg_M8.1; omega) (by have := hRm.2; have := hg_M8.2; omega)) ?_
    rintro v' M9 ⟨rfl, hLs9, hF9, hr9, hs9⟩
    refine S_pop dX5_comeOf_109 ?_
    refine S_aload dX5_comeOf_110 rfl ?_
    exact S_aret dX5_comeOf_112 rfl rfl (by
    have oa_0 : Obj M1 (18, a) (tL (fun j => ρ.2 j a) (sc a)) (tQ (qx (cOf Y.2 ρ a)) (qx (cWi Y.2 ρ a)) (qx (prC Y.2 ρ (thN ρ) ↑a)) (bsC Y.2 ρ a)) := by rw [hM1]; exact (hD.1 a ha).at ⟨Mem.new_len_ne hna, funext fun _ => Mem.new_I_ne hna, funext fun _ => Mem.new_P_ne hna⟩
    have oa_1 : Obj M2 (18, a) (tL (fun j => ρ.2 j a) (sc a)) (tQ (qx (cOf Y.2 ρ a)) (qx (cWi Y.2 ρ a)) (qx (prC Y.2 ρ (thN ρ) ↑a)) (bsC Y.2 ρ a)) := by exact oa_0.at (hX2 (18, a) hna)
    have oa_2 : Obj M3 (18, a) (tL (fun j => ρ.2 j a) (sc a)) (tQ (qx (cOf Y.2 ρ a)) (qx (cWi Y.2 ρ a)) (qx (prC Y.2 ρ (thN ρ) ↑a)) (bsC Y.2 ρ a)) := by rw [hM3]; exact oa_1.at (Fx.pP _ hna)
    have oa_3 : Obj M4 (18, a) (tL (fun j => ρ.2 j a) (sc a)) ((tQ (qx (cOf Y.2 ρ a)) (qx (cWi Y.2 ρ a)) (qx (prC Y.2 ρ (thN ρ) ↑a)) (bsC Y.2 ρ a)).set 4 (some (18, n))) := by rw [hM4]; exact oa_2.putP (k := 4) (show 4 < 6 by decide)
    have oa_4 : Obj M6 (18, a) (tL (fun j => ρ.2 j a) (sc a)) ((tQ (qx (cOf Y.2 ρ a)) (qx (cWi Y.2 ρ a)) (qx (prC Y.2 ρ (thN ρ) ↑a)) (bsC Y.2 ρ a)).set 4 (some (18, n))) := by rw [hM6]; exact oa_3.at (Fx.pI _ hna)
    have oa_5 : Obj M8 (18, a) (tL (fun j => ρ.2 j a) (sc a)) ((tQ (qx (cOf Y.2 ρ a)) (qx (cWi Y.2 ρ a)) (qx (prC Y.2 ρ (thN ρ) ↑a)) (bsC Y.2 ρ a)).set 4 (some (18, n))) := by rw [hM8]; exact oa_4.at (Fx.pI _ (rne (by decide)))
    have oa_6 : Obj M9 (18, a) (tL (fun j => ρ.2 j a) (sc a)) ((tQ (qx (cOf Y.2 ρ a)) (qx (cWi Y.2 ρ a)) (qx (prC Y.2 ρ (thN ρ) ↑a)) (bsC Y.2 ρ a)).set 4 (some (18, n))) := by exact oa_5.fr hF9 (show 18 ∉ [4, 5] by decide)
    have on_0 : Obj M3 (18, n) [k, v, 0, 0, 0, 0, 0, -1] ([none, none, some (18, a), qx wI, none, none].set 5 (qx (prC Y.2 ρ (thN ρ) ↑a))) := by rw [hM3]; exact hO2.putP (k := 5) (show 5 < 6 by decide)
    have on_1 : Obj M4 (18, n) [k, v, 0, 0, 0, 0, 0, -1] ([none, none, some (18, a), qx wI, none, none].set 5 (qx (prC Y.2 ρ (thN ρ) ↑a))) := by rw [hM4]; exact on_0.at (Fx.pP _ hna.symm)
    have on_2 : Obj M6 (18, n) ([k, v, 0, 0, 0, 0, 0, -1].set 7 s) ([none, none, some (18, a), qx wI, none, none].set 5 (qx (prC Y.2 ρ (thN ρ) ↑a))) := by rw [hM6]; exact on_1.putI (k := 7) (show 7 < 8 by decide)
    have on_3 : Obj M8 (18, n) ([k, v, 0, 0, 0, 0, 0, -1].set 7 s) ([none, none, some (18, a), qx wI, none, none].set 5 (qx (prC Y.2 ρ (thN ρ) ↑a))) := by rw [hM8]; exact on_2.at (Fx.pI _ (rne (by decide)))
    have on_4 : Obj M9 (18, n) ([k, v, 0, 0, 0, 0, 0, -1].set 7 s) ([none, none, some (18, a), qx wI, none, none].set 5 (qx (prC Y.2 ρ (thN ρ) ↑a))) := by exact on_3.fr hF9 (show 18 ∉ [4, 5] by decide)
    have ot_0 : Obj M1 (3, 0) [0, 0, kn] [some (2, 0), some (4, 0)] := by rw [hM1]; exact hC.1.at ⟨Mem.new_len_ne (rne (by decide)), funext fun _ => Mem.new_I_ne (rne (by decide)), funext fun _ => Mem.new_P_ne (rne (by decide))⟩
    have ot_1 : Obj M2 (3, 0) [0, 0, kn] [some (2, 0), some (4, 0)] := by exact ot_0.at (hX2 (3, 0) (rne (by decide)))
    have ot_2 : Obj M3 (3, 0) [0, 0, kn] [some (2, 0), some (4, 0)] := by rw [hM3]; exact ot_1.at (Fx.pP _ (rne (by decide)))
    have ot_3 : Obj M4 (3, 0) [0, 0, kn] [some (2, 0), some (4, 0)] := by rw [hM4]; exact ot_2.at (Fx.pP _ (rne (by decide)))
    have ot_4 : Obj M6 (3, 0) [0, 0, kn] [some (2, 0), some (4, 0)] := by rw [hM6]; exact ot_3.at (Fx.pI _ (rne (by decide)))
    have ot_5 : Obj M8 (3, 0) ([0, 0, kn].set 2 (kn + 1)) [some (2, 0), some (4, 0)] := by rw [hM8]; exact ot_4.putI (k := 2) (show 2 < 3 by decide)
    have ot_6 : Obj M9 (3, 0) ([0, 0, kn].set 2 (kn + 1)) [some (2, 0), some (4, 0)] := by exact ot_5.fr hF9 (show 3 ∉ [4, 5] by decide)
    have hFm : Fr [3, 4, 5, 18] M M9 := ((hf_M8).mono (fun c hc => by
      rcases List.mem_cons.mp hc with h | h
      · rw [h]; decide
      · rw [List.mem_singleton.mp h]; decide)).trans ((hF9).mono (fun c hc => by
      rcases List.mem_cons.mp hc with h | h
      · rw [h]; decide
      · rw [List.mem_singleton.mp h]; decide))
    have hob : ∀ t, t < thN ρ → t ≠ a → SameAt (18, t) M M9 := fun t ht hta => by
      have hne : ((18, t) : Role) ≠ (18, n) := rni (by omega)
      have hne2 : ((18, t) : Role) ≠ (18, a) := rni hta
      have z0 : SameAt (18, t) M M1 := (by rw [hM1]; exact ⟨Mem.new_len_ne hne, funext fun _ => Mem.new_I_ne hne, funext fun _ => Mem.new_P_ne hne⟩)
      have z1 : SameAt (18, t) M1 M2 := (hX2 (18, t) hne)
      have z2 : SameAt (18, t) M2 M3 := (by rw [hM3]; exact Fx.pP (18, t) hne)
      have z3 : SameAt (18, t) M3 M4 := (by rw [hM4]; exact Fx.pP (18, t) hne2)
      have z4 : SameAt (18, t) M4 M6 := (by rw [hM6]; exact Fx.pI (18, t) hne)
      have z5 : SameAt (18, t) M6 M8 := (by rw [hM8]; exact Fx.pI (18, t) (rne (by decide)))
      have z6 : SameAt (18, t) M8 M9 := (hF9 (18, t) (show 18 ∉ [4, 5] by decide))
      exact ⟨((((((z6.1).trans z5.1).trans z4.1).trans z3.1).trans z2.1).trans z1.1).trans z0.1, ((((((z6.2.1).trans z5.2.1).trans z4.2.1).trans z3.2.1).trans z2.2.1).trans z1.2.1).trans z0.2.1, ((((((z6.2.2).trans z5.2.2).trans z4.2.2).trans z3.2.2).trans z2.2.2).trans z1.2.2).trans z0.2.2⟩
    have hfre : ∀ t, thN ρ < t → M9.len (18, t) = none := fun t ht => by
      have hne : ((18, t) : Role) ≠ (18, n) := rni (by omega)
      have hne2 : ((18, t) : Role) ≠ (18, a) := rni (by omega)
      have z0 : M1.len (18, t) = M.len (18, t) := (by rw [hM1]; exact Mem.new_len_ne hne)
      have z1 : M2.len (18, t) = M1.len (18, t) := (hX2 (18, t) hne).1
      have z2 : M3.len (18, t) = M2.len (18, t) := (by rw [hM3]; rfl)
      have z3 : M4.len (18, t) = M3.len (18, t) := (by rw [hM4]; rfl)
      have z4 : M6.len (18, t) = M4.len (18, t) := (by rw [hM6]; rfl)
      have z5 : M8.len (18, t) = M6.len (18, t) := (by rw [hM8]; rfl)
      have z6 : M9.len (18, t) = M8.len (18, t) := (hF9 (18, t) (show 18 ∉ [4, 5] by decide)).1
      exact (((((((z6).trans z5).trans z4).trans z3).trans z2).trans z1).trans z0).trans (hD.2 t (by omega))
    have hkn : (kn + (if s ≠ -1 then 1 else 0)) = kn + 1 := by rw [if_pos (by omega)]
    have hS9 : StpOK (updF sc (thN ρ) s) (kn + 1) (newT ρ k f w v) := by
      have q := hS.nwT (v := v) (s := s) (k := k) (f := f) (w := w) hT ⟨by rcases hKf with q | q | q | q <;> omega, hf⟩ ⟨by rcases hKf with q | q | q | q <;> omega, hw⟩ (by rw [hn]; exact hsd)
      rw [hkn] at q
      exact q
    have hCl9 : Cl (Y.1, Y.2, updF sc (thN ρ) s, kn + 1) (newT ρ k f w v) M9 := hCl.nwT hT a ha hco hcw hFm hob
      (oa_6.cg rfl (by rw [hn]; rfl)) (by rw [hn]; exact on_4.cg rfl (by rw [← hn]; rfl)) hfre (ot_6.cg rfl rfl) (by rw [hn]; exact hLs9) ((hFm (20, 0) (by decide)).1.trans hC.2.2)
    rw [hIx, thR_new hIx, hn]
    exact ⟨⟨rfl, ⟨_, _, hS9, hCl9⟩, hFm.mono (fun c hc => by revert c; decide), ⟨by have := hg_M8.1; omega, by have := hg_M8.2; omega⟩⟩, hFm⟩)
