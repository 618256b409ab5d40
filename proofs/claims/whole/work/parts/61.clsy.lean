/-! THE CLASS: an end takes a letter under a new public -/
theorem rmR_at {ρ : RS} {r : Int} {a b k j : Nat} (h : k < 6 ∨ 10 < k) : (rmR ρ r a b).2 k j = ρ.2 k j := by
  unfold rmR
  rw [thR_old_at _ _ _ _ _ _ _ (Or.inr h), thR_old_at _ _ _ _ _ _ _ (Or.inr h)]
set_option maxHeartbeats 20000000 in
set_option maxRecDepth 100000 in
theorem c_takeNewPublic {G : Ge} {M : Mem} {Y : (Nat → Bool) × (Nat → Bool)} {ρ : RS} (hCs : Cs Y ρ M) (N : Nat) (hTI : TI Y.2 ρ N) (hNb : N < 7800) (e l r0 s pl pa n0 z lf pn bf : Nat) (he : (e : Int) < 2 * ρ.1 4) (hp : 0 ≤ ρ.1 4 ∧ ρ.1 4 ≤ 6) (hl : (l : Int) < ρ.1 30) (hl30 : 0 ≤ ρ.1 30 ∧ ρ.1 30 ≤ 300) (hm : 0 ≤ ρ.1 2 ∧ ρ.1 2 ≤ 12) (hst : Y.1 e = true) (hKo : KOK ρ) (h16 : ρ.2 16 e = ↑r0) (hr0 : r0 < thN ρ) (h15 : ρ.2 15 e = ↑s) (hs : s < thN ρ) (hks : ρ.2 6 s = 3) (h38 : ρ.2 38 l = ↑z) (hz : z < thN ρ) (hkz : ρ.2 6 z = 3) (h32 : ρ.2 32 l = ↑pn) (hpn : pn ≤ 10007) (hpub : ρ.2 32 l = powF (ρ.1 0) (ρ.1 1) (ρ.2 9 z).toNat) (h33 : ρ.2 33 l = ↑bf) (hbf : bf ≤ 300) (h34 : ρ.2 34 l = ↑pl) (hpl : pl ≤ 300) (h22 : ρ.2 22 e = ↑pa) (hpa : pa ≤ 301) (h12 : ρ.2 12 e = ↑n0) (hn : n0 ≤ 12) (h13 : ∀ i, i < n0 → ∃ t : Nat, ρ.2 13 (12 * e + i) = ↑t ∧ t < thN ρ ∧ ρ.2 6 t = 3 ∧ Y.2 t = decide (e % 2 = 1)) (hb12 : ∀ e1 : Nat, (e1 : Int) < 2 * ρ.1 4 → ρ.2 12 e1 ≤ 12) (h23 : ρ.2 23 e = ↑lf) (hlf : lf < 300) (hb23 : ∀ e1 : Nat, (e1 : Int) < 2 * ρ.1 4 → ρ.2 23 e1 ≤ 600) (h24 : ∀ k, k < lf → -1 ≤ ρ.2 24 (600 * e + k) ∧ ρ.2 24 (600 * e + k) ≤ 10007) (h19 : -1 ≤ ρ.2 19 e ∧ ρ.2 19 e ≤ 10007) (h18 : ρ.2 18 e = -1 ∨ ∃ c : Nat, ρ.2 18 e = ↑c ∧ c < thN ρ ∧ ρ.2 6 c = 1) (hps : Y.2 s = decide (e % 2 = 1)) (hpz : Y.2 z = !decide (e % 2 = 1)) (h36 : 0 ≤ ρ.2 36 l ∧ ρ.2 36 l ≤ 10007) (hnot : ¬ (ρ.2 32 l = ρ.2 19 e ∧ ρ.2 18 e ≠ -1)) (hRm : Rm 136 736 M) : Ct G mi_X8_takeNewPublic [vR ((1, 0)), vR ((7, e)), vR ((12, l))] M (CP Y ((anF ρ e l (if ρ.2 32 l = ρ.2 19 e then (1 : Int) else 0)).2) 136 736 (some (vI (anF ρ e l (if ρ.2 32 l = ρ.2 19 e then (1 : Int) else 0)).1)) M) := by
  refine Ct.of pl_X8_takeNewPublic [some (vR ((1, 0))), some (vR ((7, e))), some (vR ((12, l))), none, none, none, none] rfl (Nat.le_of_ble_eq_true rfl) ?_
  obtain ⟨sc, kn, hS, hCl⟩ := hCs
  have hF0 : Fr CLs M M := Fr.rf CLs M
  have hB0 : Bg 0 0 M M := Bg.rf M
  obtain ⟨hA, hB, hC, hD, hE, hN, hG, hH, hI, hJ, hK, hL⟩ := id hCl
  have hq3 := hTI.1.2.2.1
  have hl8 := hTI.1.2.1
  refine S_aload_n dX8_takeNewPublic_0 rfl ?_
  refine S_callV (mi := mi_X8_takeNewPublic) [] ok_X2_from ml_X8_189 dX8_takeNewPublic_1 rfl (by decide) rfl (by decide) rfl (Nat.le_of_ble_eq_true rfl) rfl ((by have h := c_from (G := G) hCl l (by omega); rw [h32] at h; exact h)) ?_
  rintro v' M1 ⟨rfl, hM1⟩
  rw [hM1]
  clear hM1
  refine S_aload_n dX8_takeNewPublic_4 rfl ?_
  refine S_getI (v := ρ.2 19 e) fl_X8_139 dX8_takeNewPublic_5 rfl rfl (by rw [(show M.I (7, e) 8 = ρ.2 19 e from (congrFun (hE.1 e (by omega)).2.1 8).trans ((if_pos hst)))]) ?_
  refine S_icmp_eq 22 dX8_takeNewPublic_8 (by decide) (by omega) (fun c_8 => ?_) (fun c_8 => ?_)
  · refine S_aload_n dX8_takeNewPublic_22 rfl ?_
    refine S_iconst dX8_takeNewPublic_23 ?_
    refine S_callV (mi := mi_X8_takeNewPublic) [vI 4] ok_X8_refuse ml_X8_54 dX8_takeNewPublic_24 rfl (by decide) rfl (by decide) rfl (Nat.le_of_ble_eq_true rfl) rfl (c_refuse (show Cs Y ρ M from ⟨sc, kn, hS, hCl⟩) 4) ?_
    rintro v' M2 ⟨rfl, hCs2, hF2', hB2'⟩
    obtain ⟨ρ3, e3⟩ : ∃ z9 : RS, z9 = (ρ.setS 42 4) := ⟨_, rfl⟩
    rw [← e3] at hCs2
    obtain ⟨sc, kn, hS3, hCl3⟩ := hCs2
    have hF3 : Fr CLs M M2 := hF0.trans hF2'
    have hB3 : Bg 0 0 M M2 := (hB0.trans hB2').le (by omega) (by omega)
    have s4_3 : ρ3.1 4 = ρ.1 4 := (by rw [e3, RS.setS_ne (by decide)])
    have s30_3 : ρ3.1 30 = ρ.1 30 := (by rw [e3, RS.setS_ne (by decide)])
    have t_3 : thN ρ3 = thN ρ := by rw [e3]; rfl
    clear hA hB hC hD hE hN hG hH hI hJ hK hL
    obtain ⟨hA, hB, hC, hD, hE, hN, hG, hH, hI, hJ, hK, hL⟩ := id hCl3
    exact S_iret dX8_takeNewPublic_27 rfl (Or.inl rfl) (by
      have e9 : anF ρ e l (if ρ.2 32 l = ρ.2 19 e then (1 : Int) else 0) = (((-1) : Int), ρ3) := by
        unfold anF
        rw [if_pos (Or.inl (by rw [if_pos (show ρ.2 32 l = ρ.2 19 e by omega)]; decide))]
        rw [e3]
      rw [e9]
      exact ⟨rfl, ⟨sc, kn, hS3, hCl3⟩, hF3, hB3.le (by omega) (by omega)⟩)
  · have hkn0 : (if ρ.2 32 l = ρ.2 19 e then (1 : Int) else 0) = 0 := if_neg (by omega)
    refine S_aload_n dX8_takeNewPublic_11 rfl ?_
    refine S_aload_n dX8_takeNewPublic_12 rfl ?_
    refine S_callV (mi := mi_X8_takeNewPublic) [] ok_X2_from ml_X8_189 dX8_takeNewPublic_13 rfl (by decide) rfl (by decide) rfl (Nat.le_of_ble_eq_true rfl) rfl ((by have h := c_from (G := G) hCl l (by omega); rw [h32] at h; exact h)) ?_
    rintro v' M4 ⟨rfl, hM4⟩
    rw [hM4]
    clear hM4
    refine S_callV (mi := mi_X8_takeNewPublic) [vI ↑pn] ok_X1_hasLeft ml_X8_331 dX8_takeNewPublic_16 rfl (by decide) rfl (by decide) rfl (Nat.le_of_ble_eq_true rfl) rfl (c_hasLeft hCl e lf ↑pn he h23 (by omega) (by omega) h24) ?_
    rintro v' M5 ⟨⟨rfl, hlb⟩ | ⟨rfl, hlb⟩, hM5⟩
    · rw [hM5]
      clear hM5
      refine S_if_eq 28 dX8_takeNewPublic_19 (by decide) (by omega) (fun c_19 => absurd c_19 (by omega)) (fun c_19 => ?_)
      refine S_aload_n dX8_takeNewPublic_22 rfl ?_
      refine S_iconst dX8_takeNewPublic_23 ?_
      refine S_callV (mi := mi_X8_takeNewPublic) [vI 4] ok_X8_refuse ml_X8_54 dX8_takeNewPublic_24 rfl (by decide) rfl (by decide) rfl (Nat.le_of_ble_eq_true rfl) rfl (c_refuse (show Cs Y ρ M from ⟨sc, kn, hS, hCl⟩) 4) ?_
      rintro v' M6 ⟨rfl, hCs6, hF6', hB6'⟩
      obtain ⟨ρ7, e7⟩ : ∃ z9 : RS, z9 = (ρ.setS 42 4) := ⟨_, rfl⟩
      rw [← e7] at hCs6
      obtain ⟨sc, kn, hS7, hCl7⟩ := hCs6
      have hF7 : Fr CLs M M6 := hF0.trans hF6'
      have hB7 : Bg 0 0 M M6 := (hB0.trans hB6').le (by omega) (by omega)
      have s4_7 : ρ7.1 4 = ρ.1 4 := (by rw [e7, RS.setS_ne (by decide)])
      have s30_7 : ρ7.1 30 = ρ.1 30 := (by rw [e7, RS.setS_ne (by decide)])
      have t_7 : thN ρ7 = thN ρ := by rw [e7]; rfl
      clear hA hB hC hD hE hN hG hH hI hJ hK hL
      obtain ⟨hA, hB, hC, hD, hE, hN, hG, hH, hI, hJ, hK, hL⟩ := id hCl7
      exact S_iret dX8_takeNewPublic_27 rfl (Or.inl rfl) (by
      have e9 : anF ρ e l (if ρ.2 32 l = ρ.2 19 e then (1 : Int) else 0) = (((-1) : Int), ρ7) := by
        unfold anF
        rw [if_pos (Or.inr (by rw [h32, h23, Int.toNat_natCast]; exact hlb))]
        rw [e7]
      rw [e9]
      exact ⟨rfl, ⟨sc, kn, hS7, hCl7⟩, hF7, hB7.le (by omega) (by omega)⟩)
    · rw [hM5]
      clear hM5
      refine S_if_eq 28 dX8_takeNewPublic_19 (by decide) (by omega) (fun c_19 => ?_) (fun c_19 => absurd c_19 (by omega))
      have hnk : ¬ ((if ρ.2 32 l = ρ.2 19 e then (1 : Int) else 0) ≠ 0 ∨ lefB ρ e (ρ.2 32 l) (ρ.2 23 e).toNat = true) := fun z => by
        rcases z with z | z
        · exact z hkn0
        · rw [h32, h23, Int.toNat_natCast, hlb] at z
          cases z
      rcases h18 with h18a | ⟨c, h18a, hcl, hck⟩
      · refine S_aload_n dX8_takeNewPublic_28 rfl ?_
        refine S_getP (o := none) fl_X8_192 dX8_takeNewPublic_29 rfl rfl (by rw [(show M.P (7, e) 7 = none from (congrFun (hE.1 e (by omega)).2.2 7).trans ((if_pos hst).trans ((congrArg qx h18a).trans qx_no)))]) ?_
        refine S_ifnonnull 39 dX8_takeNewPublic_32 (by decide) (fun c_32 => absurd c_32 (by simp)) (fun c_32 => ?_)
        refine S_iconst dX8_takeNewPublic_35 ?_
        refine S_goto 52 dX8_takeNewPublic_36 (by decide) ?_
        have hof : oldF ρ e l = 0 := by unfold oldF; rw [if_neg (fun z => z.1 h18a)]
        refine S_istore_n dX8_takeNewPublic_52 (by decide) ?_
        refine S_iload_n dX8_takeNewPublic_53 rfl ?_
        refine S_aload_n dX8_takeNewPublic_54 rfl ?_
        refine S_callV (mi := mi_X8_takeNewPublic) [] ok_X2_place ml_X8_242 dX8_takeNewPublic_55 rfl (by decide) rfl (by decide) rfl (Nat.le_of_ble_eq_true rfl) rfl ((by have h := c_place (G := G) hCl l (by omega); rw [h34] at h; exact h)) ?_
        rintro v' M8 ⟨rfl, hM8⟩
        rw [hM8]
        clear hM8
        refine S_iadd dX8_takeNewPublic_58 ?_
        refine S_aload_n dX8_takeNewPublic_59 rfl ?_
        refine S_getI (v := ρ.1 2) fl_X8_47 dX8_takeNewPublic_60 rfl rfl (by rw [(show M.I (1, 0) 8 = ρ.1 2 from (show M.I (1, 0) 8 = ρ.1 2 from congrFun hA.2.1 8))]) ?_
        refine S_icmp_le 72 dX8_takeNewPublic_63 (by decide) (by omega) (fun c_63 => ?_) (fun c_63 => ?_)
        · refine S_aload_n dX8_takeNewPublic_72 rfl ?_
          refine S_getI (v := ↑n0) fl_X8_82 dX8_takeNewPublic_73 rfl rfl (by rw [(show M.I (7, e) 2 = ↑n0 from (show M.I (7, e) 2 = ρ.2 12 e from congrFun (hE.1 e (by omega)).2.1 2).trans h12)]) ?_
          refine S_if_ne 86 dX8_takeNewPublic_76 (by decide) (by omega) (fun c_76 => ?_) (fun c_76 => ?_)
          · obtain ⟨n, rfl⟩ : ∃ n : Nat, n0 = n + 1 := ⟨n0 - 1, by omega⟩
            obtain ⟨t, htt, htl, hkt, hpt⟩ := h13 0 (by omega)
            rw [Nat.add_zero] at htt
            have hws := hTI.2.2.2 s hs hks
            obtain ⟨ws, hws9⟩ : ∃ n : Nat, ρ.2 9 s = ↑n := ⟨(ρ.2 9 s).toNat, by omega⟩
            obtain ⟨q, hq⟩ : ∃ q : Nat, ρ.1 0 = ↑q := ⟨(ρ.1 0).toNat, by omega⟩
            have hbr := (hTI.1.2.2.2.2 r0 hr0).2.2.2
            refine S_aload_n dX8_takeNewPublic_86 rfl ?_
            refine S_getP (o := some (2, 0)) fl_X8_20 dX8_takeNewPublic_87 rfl rfl (by rw [(show M.P (1, 0) 0 = some (2, 0) from congrFun hA.2.2 0)]) ?_
            refine S_aload_n dX8_takeNewPublic_90 rfl ?_
            refine S_callV (mi := mi_X8_takeNewPublic) [] ok_X2_from ml_X8_189 dX8_takeNewPublic_91 rfl (by decide) rfl (by decide) rfl (Nat.le_of_ble_eq_true rfl) rfl ((by have h := c_from (G := G) hCl l (by omega); rw [h32] at h; exact h)) ?_
            rintro v' M9 ⟨rfl, hM9⟩
            rw [hM9]
            clear hM9
            refine S_aload_n dX8_takeNewPublic_94 rfl ?_
            refine S_getP (o := some (18, s)) fl_X8_115 dX8_takeNewPublic_95 rfl rfl (by rw [(show M.P (7, e) 4 = some (18, s) from (congrFun (hE.1 e (by omega)).2.2 4).trans ((if_pos hst).trans (qx_of h15)))]) ?_
            refine S_getI (v := ↑ws) fl_X8_131 dX8_takeNewPublic_98 rfl rfl (by rw [(show M.I (18, s) 1 = ↑ws from (show M.I (18, s) 1 = ρ.2 9 s from congrFun (hD.1 s (by omega)).2.1 1).trans hws9)]) ?_
            refine S_callV (mi := mi_X8_takeNewPublic) [vI (↑pn), vI (↑ws)] ok_X0_power ml_X8_338 dX8_takeNewPublic_101 rfl (by decide) rfl (by decide) rfl (Nat.le_of_ble_eq_true rfl) rfl (c_X0_power q pn ws hB hq (by omega) hpn (by omega)) ?_
            rintro v' M10 ⟨rfl, hM10⟩
            rw [hM10]
            clear hM10
            have hmet : 0 ≤ powF (ρ.1 0) ↑pn ws ∧ powF (ρ.1 0) ↑pn ws ≤ 10007 := powv hq3 (by omega) ws
            obtain ⟨met, emet⟩ : ∃ z9 : Int, z9 = powF (ρ.1 0) ↑pn ws := ⟨_, rfl⟩
            rw [← emet] at hmet ⊢
            refine S_istore dX8_takeNewPublic_104 (by decide) ?_
            refine S_aload_n dX8_takeNewPublic_106 rfl ?_
            refine S_getP (o := some (2, 0)) fl_X8_20 dX8_takeNewPublic_107 rfl rfl (by rw [(show M.P (1, 0) 0 = some (2, 0) from congrFun hA.2.2 0)]) ?_
            refine S_aload_n dX8_takeNewPublic_110 rfl ?_
            refine S_getP (o := some (2, 0)) fl_X8_20 dX8_takeNewPublic_111 rfl rfl (by rw [(show M.P (1, 0) 0 = some (2, 0) from congrFun hA.2.2 0)]) ?_
            refine S_aload_n dX8_takeNewPublic_114 rfl ?_
            refine S_getP (o := some (18, r0)) fl_X8_119 dX8_takeNewPublic_115 rfl rfl (by rw [(show M.P (7, e) 5 = some (18, r0) from (congrFun (hE.1 e (by omega)).2.2 5).trans ((if_pos hst).trans (qx_of h16)))]) ?_
            refine S_getI (v := ρ.2 9 r0) fl_X8_131 dX8_takeNewPublic_118 rfl rfl (by rw [(show M.I (18, r0) 1 = ρ.2 9 r0 from (show M.I (18, r0) 1 = ρ.2 9 r0 from congrFun (hD.1 r0 (by omega)).2.1 1))]) ?_
            refine S_iload dX8_takeNewPublic_121 rfl ?_
            refine S_callV (mi := mi_X8_takeNewPublic) [vI (ρ.2 9 r0), vI met] ok_X0_mix ml_X8_158 dX8_takeNewPublic_123 rfl (by decide) rfl (by decide) rfl (Nat.le_of_ble_eq_true rfl) rfl (c_X0_mix hB (ρ.2 9 r0) met (by omega) (by omega) (by omega)) ?_
            rintro v' M11 ⟨rfl, hM11⟩
            rw [hM11]
            clear hM11
            have hc1 : 0 ≤ mixF (ρ.1 0) (ρ.2 9 r0) met ∧ mixF (ρ.1 0) (ρ.2 9 r0) met ≤ 10007 := mixv hq3 (by omega) (by omega)
            obtain ⟨c1, ec1⟩ : ∃ z9 : Int, z9 = mixF (ρ.1 0) (ρ.2 9 r0) met := ⟨_, rfl⟩
            rw [← ec1] at hc1 ⊢
            refine S_iconst dX8_takeNewPublic_126 ?_
            refine S_callV (mi := mi_X8_takeNewPublic) [vI c1, vI 3] ok_X0_mix ml_X8_158 dX8_takeNewPublic_127 rfl (by decide) rfl (by decide) rfl (Nat.le_of_ble_eq_true rfl) rfl (c_X0_mix hB c1 3 (by omega) (by omega) (by omega)) ?_
            rintro v' M12 ⟨rfl, hM12⟩
            rw [hM12]
            clear hM12
            have hc2 : 0 ≤ mixF (ρ.1 0) c1 3 ∧ mixF (ρ.1 0) c1 3 ≤ 10007 := mixv hq3 (by omega) (by omega)
            obtain ⟨c2, ec2⟩ : ∃ z9 : Int, z9 = mixF (ρ.1 0) c1 3 := ⟨_, rfl⟩
            rw [← ec2] at hc2 ⊢
            refine S_istore dX8_takeNewPublic_130 (by decide) ?_
            refine S_aload_n dX8_takeNewPublic_132 rfl ?_
            refine S_aload_n dX8_takeNewPublic_133 rfl ?_
            refine S_aload_n dX8_takeNewPublic_134 rfl ?_
            refine S_iload dX8_takeNewPublic_135 rfl ?_
            refine S_aload_n dX8_takeNewPublic_137 rfl ?_
            refine S_callV (mi := mi_X8_takeNewPublic) [] ok_X2_place ml_X8_242 dX8_takeNewPublic_138 rfl (by decide) rfl (by decide) rfl (Nat.le_of_ble_eq_true rfl) rfl ((by have h := c_place (G := G) hCl l (by omega); rw [h34] at h; exact h)) ?_
            rintro v' M13 ⟨rfl, hM13⟩
            rw [hM13]
            clear hM13
            refine S_callV (mi := mi_X8_takeNewPublic) [vI c2, vI (↑pl)] ok_X8_keyAhead ml_X8_320 dX8_takeNewPublic_141 rfl (by decide) rfl (by decide) rfl (Nat.le_of_ble_eq_true rfl) rfl (c_keyAhead hCl c2 pl hc2 (by omega) hq3) ?_
            rintro v' M14 ⟨rfl, hM14⟩
            rw [hM14]
            clear hM14
            have hkey : 0 ≤ kbV (ρ.1 0) c2 pl ∧ kbV (ρ.1 0) c2 pl ≤ 10007 := mixv hq3 (kbF_bd (by omega) hc2 pl).1 (by decide)
            obtain ⟨key, ekey⟩ : ∃ z9 : Int, z9 = kbV (ρ.1 0) c2 pl := ⟨_, rfl⟩
            rw [← ekey] at hkey ⊢
            have hkv : akF ρ e l = key := by
              unfold akF
              rw [h16, h38, h15, h34, Int.toNat_natCast, Int.toNat_natCast, Int.toNat_natCast, Int.toNat_natCast, ← hpub, h32, hws9, Int.toNat_natCast, ← emet, ← ec1, ← ec2, ← ekey]
            refine S_callV (mi := mi_X8_takeNewPublic) [vR ((12, l)), vI key] ok_X8_opened ml_X8_313 dX8_takeNewPublic_144 rfl (by decide) rfl (by decide) rfl (Nat.le_of_ble_eq_true rfl) rfl (c_opened hCl l key (by omega) hkey hq3 h36) ?_
            rintro v' M15 ⟨rfl, hM15⟩
            rw [hM15]
            clear hM15
            have hoc := opV_cs ρ l key
            obtain ⟨ob, hob⟩ : ∃ z9 : Int, z9 = opV ρ l key := ⟨_, rfl⟩
            rw [← hob] at hoc ⊢
            refine S_istore dX8_takeNewPublic_147 (by decide) ?_
            refine S_iload dX8_takeNewPublic_149 rfl ?_
            refine S_iconst dX8_takeNewPublic_151 ?_
            refine S_icmp_ne 162 dX8_takeNewPublic_152 (by decide) (by rcases hoc with q | q <;> omega) (fun c_152 => ?_) (fun c_152 => ?_)
            · refine S_iload_n dX8_takeNewPublic_162 rfl ?_
              refine S_if_le 175 dX8_takeNewPublic_163 (by decide) (by omega) (fun c_163 => ?_) (fun c_163 => absurd c_163 (by omega))
              refine S_aload_n dX8_takeNewPublic_175 rfl ?_
              refine S_aload_n dX8_takeNewPublic_176 rfl ?_
              refine S_aload_n dX8_takeNewPublic_177 rfl ?_
              refine S_callV (mi := mi_X8_takeNewPublic) [vR ((7, e)), vR ((12, l))] ok_X8_turn ml_X8_341 dX8_takeNewPublic_178 rfl (by decide) rfl (by decide) rfl (Nat.le_of_ble_eq_true rfl) rfl ((show Ct G mi_X8_turn [vR (1, 0), vR (7, e), vR (12, l)] M (CP Y (anD2 ρ e r0 s z pl n t ↑pn) 76 400 none M) from c_turn (G := G) (show Cs Y ρ M from ⟨sc, kn, hS, hCl⟩) (N) hTI (by omega) e l r0 s pl n t z lf ↑pn (by omega) (by omega) (by omega) hl30 hst hKo (by rw [h16]) (by omega) (by rw [h15]) (by omega) hks (by rw [h38]) (by omega) hkz (by rw [h32]) (by omega) (by rw [h34]) (by omega) (by rw [h12]) (by omega) (by rw [htt]) (by omega) hkt hb12 (fun i hi => by obtain ⟨t1, u1, _⟩ := h13 i hi; exact ⟨t1, u1⟩) (by rw [h23]) hlf hb23 h19 hps hpz hpt (hRm.sub hB0 (by omega) (by omega)))) ?_
              rintro v' M17 ⟨rfl, hCs17, hF17', hB17'⟩
              obtain ⟨ρ18, e18⟩ : ∃ z9 : RS, z9 = (anD2 ρ e r0 s z pl n t (↑pn)) := ⟨_, rfl⟩
              rw [← e18] at hCs17
              obtain ⟨sc, kn, hS18, hCl18⟩ := hCs17
              have hF18 : Fr CLs M M17 := hF0.trans hF17'
              have hB18 : Bg 76 400 M M17 := (hB0.trans hB17').le (by omega) (by omega)
              clear hA hB hC hD hE hN hG hH hI hJ hK hL
              obtain ⟨hA, hB, hC, hD, hE, hN, hG, hH, hI, hJ, hK, hL⟩ := id hCl18
              refine S_aload_n dX8_takeNewPublic_181 rfl ?_
              refine S_iload dX8_takeNewPublic_182 rfl ?_
              refine S_callV (mi := mi_X8_takeNewPublic) [vI ob] ok_X8_done ml_X8_69 dX8_takeNewPublic_184 rfl (by decide) rfl (by decide) rfl (Nat.le_of_ble_eq_true rfl) rfl (c_done (show Cs Y ρ18 M17 from ⟨sc, kn, hS18, hCl18⟩) ob) ?_
              rintro v' M19 ⟨rfl, hCs19, hF19', hB19'⟩
              obtain ⟨ρ20, e20⟩ : ∃ z9 : RS, z9 = (ρ18.setS 42 0) := ⟨_, rfl⟩
              rw [← e20] at hCs19
              obtain ⟨sc, kn, hS20, hCl20⟩ := hCs19
              have hF20 : Fr CLs M M19 := hF18.trans hF19'
              have hB20 : Bg 76 400 M M19 := (hB18.trans hB19').le (by omega) (by omega)
              have t_20 : thN ρ20 = thN ρ18 := by rw [e20]; rfl
              clear hA hB hC hD hE hN hG hH hI hJ hK hL hCl18 hS18 hF18 hB18
              obtain ⟨hA, hB, hC, hD, hE, hN, hG, hH, hI, hJ, hK, hL⟩ := id hCl20
              exact S_iret dX8_takeNewPublic_187 rfl (Or.inl rfl) (by
      have e9 : anF ρ e l (if ρ.2 32 l = ρ.2 19 e then (1 : Int) else 0) = ((ob : Int), ρ20) := by
        unfold anF
        rw [if_neg hnk, hof]
        unfold anF2
        rw [if_neg (by rw [h34]; omega), if_neg (by omega), hkv, if_neg (by rcases hoc with q | q; omega; exact fun z => z q.2.2.2), show byF ρ l key = ob from by rcases hoc with q | q <;> omega]
        unfold anD
        rw [h16, h15, h38, h34, h12, htt, h32, Int.toNat_natCast, Int.toNat_natCast, Int.toNat_natCast, Int.toNat_natCast, Int.toNat_natCast, Int.toNat_natCast, show n + 1 - 1 = n from rfl]
        show (ob, (anD2 ρ e r0 s z pl n t ↑pn).setS 42 0) = _
        rw [e20, e18]
      rw [e9]
      exact ⟨rfl, ⟨sc, kn, hS20, hCl20⟩, hF20, hB20.le (by omega) (by omega)⟩)
            · refine S_aload_n dX8_takeNewPublic_155 rfl ?_
              refine S_bipush dX8_takeNewPublic_156 (by decide) ?_
              refine S_callV (mi := mi_X8_takeNewPublic) [vI 7] ok_X8_refuse ml_X8_54 dX8_takeNewPublic_158 rfl (by decide) rfl (by decide) rfl (Nat.le_of_ble_eq_true rfl) rfl (c_refuse (show Cs Y ρ M from ⟨sc, kn, hS, hCl⟩) 7) ?_
              rintro v' M21 ⟨rfl, hCs21, hF21', hB21'⟩
              obtain ⟨ρ22, e22⟩ : ∃ z9 : RS, z9 = (ρ.setS 42 7) := ⟨_, rfl⟩
              rw [← e22] at hCs21
              obtain ⟨sc, kn, hS22, hCl22⟩ := hCs21
              have hF22 : Fr CLs M M21 := hF0.trans hF21'
              have hB22 : Bg 0 0 M M21 := (hB0.trans hB21').le (by omega) (by omega)
              have s4_22 : ρ22.1 4 = ρ.1 4 := (by rw [e22, RS.setS_ne (by decide)])
              have s30_22 : ρ22.1 30 = ρ.1 30 := (by rw [e22, RS.setS_ne (by decide)])
              have t_22 : thN ρ22 = thN ρ := by rw [e22]; rfl
              clear hA hB hC hD hE hN hG hH hI hJ hK hL
              obtain ⟨hA, hB, hC, hD, hE, hN, hG, hH, hI, hJ, hK, hL⟩ := id hCl22
              exact S_iret dX8_takeNewPublic_161 rfl (Or.inl rfl) (by
      have e9 : anF ρ e l (if ρ.2 32 l = ρ.2 19 e then (1 : Int) else 0) = (((-1) : Int), ρ22) := by
        unfold anF
        rw [if_neg hnk, hof]
        unfold anF2
        rw [if_neg (by rw [h34]; omega), if_neg (by omega), hkv, if_pos (by rcases hoc with q | q; exact q.2; omega), e22]
      rw [e9]
      exact ⟨rfl, ⟨sc, kn, hS22, hCl22⟩, hF22, hB22.le (by omega) (by omega)⟩)
          · refine S_aload_n dX8_takeNewPublic_79 rfl ?_
            refine S_bipush dX8_takeNewPublic_80 (by decide) ?_
            refine S_callV (mi := mi_X8_takeNewPublic) [vI 6] ok_X8_refuse ml_X8_54 dX8_takeNewPublic_82 rfl (by decide) rfl (by decide) rfl (Nat.le_of_ble_eq_true rfl) rfl (c_refuse (show Cs Y ρ M from ⟨sc, kn, hS, hCl⟩) 6) ?_
            rintro v' M23 ⟨rfl, hCs23, hF23', hB23'⟩
            obtain ⟨ρ24, e24⟩ : ∃ z9 : RS, z9 = (ρ.setS 42 6) := ⟨_, rfl⟩
            rw [← e24] at hCs23
            obtain ⟨sc, kn, hS24, hCl24⟩ := hCs23
            have hF24 : Fr CLs M M23 := hF0.trans hF23'
            have hB24 : Bg 0 0 M M23 := (hB0.trans hB23').le (by omega) (by omega)
            have s4_24 : ρ24.1 4 = ρ.1 4 := (by rw [e24, RS.setS_ne (by decide)])
            have s30_24 : ρ24.1 30 = ρ.1 30 := (by rw [e24, RS.setS_ne (by decide)])
            have t_24 : thN ρ24 = thN ρ := by rw [e24]; rfl
            clear hA hB hC hD hE hN hG hH hI hJ hK hL
            obtain ⟨hA, hB, hC, hD, hE, hN, hG, hH, hI, hJ, hK, hL⟩ := id hCl24
            exact S_iret dX8_takeNewPublic_85 rfl (Or.inl rfl) (by
      have e9 : anF ρ e l (if ρ.2 32 l = ρ.2 19 e then (1 : Int) else 0) = (((-1) : Int), ρ24) := by
        unfold anF
        rw [if_neg hnk, hof]
        unfold anF2
        rw [if_neg (by rw [h34]; omega), if_pos (by omega), e24]
      rw [e9]
      exact ⟨rfl, ⟨sc, kn, hS24, hCl24⟩, hF24, hB24.le (by omega) (by omega)⟩)
        · refine S_aload_n dX8_takeNewPublic_66 rfl ?_
          refine S_iconst dX8_takeNewPublic_67 ?_
          refine S_callV (mi := mi_X8_takeNewPublic) [vI 5] ok_X8_refuse ml_X8_54 dX8_takeNewPublic_68 rfl (by decide) rfl (by decide) rfl (Nat.le_of_ble_eq_true rfl) rfl (c_refuse (show Cs Y ρ M from ⟨sc, kn, hS, hCl⟩) 5) ?_
          rintro v' M25 ⟨rfl, hCs25, hF25', hB25'⟩
          obtain ⟨ρ26, e26⟩ : ∃ z9 : RS, z9 = (ρ.setS 42 5) := ⟨_, rfl⟩
          rw [← e26] at hCs25
          obtain ⟨sc, kn, hS26, hCl26⟩ := hCs25
          have hF26 : Fr CLs M M25 := hF0.trans hF25'
          have hB26 : Bg 0 0 M M25 := (hB0.trans hB25').le (by omega) (by omega)
          have s4_26 : ρ26.1 4 = ρ.1 4 := (by rw [e26, RS.setS_ne (by decide)])
          have s30_26 : ρ26.1 30 = ρ.1 30 := (by rw [e26, RS.setS_ne (by decide)])
          have t_26 : thN ρ26 = thN ρ := by rw [e26]; rfl
          clear hA hB hC hD hE hN hG hH hI hJ hK hL
          obtain ⟨hA, hB, hC, hD, hE, hN, hG, hH, hI, hJ, hK, hL⟩ := id hCl26
          exact S_iret dX8_takeNewPublic_71 rfl (Or.inl rfl) (by
      have e9 : anF ρ e l (if ρ.2 32 l = ρ.2 19 e then (1 : Int) else 0) = (((-1) : Int), ρ26) := by
        unfold anF
        rw [if_neg hnk, hof]
        unfold anF2
        rw [if_pos (by rw [h34]; omega), e26]
      rw [e9]
      exact ⟨rfl, ⟨sc, kn, hS26, hCl26⟩, hF26, hB26.le (by omega) (by omega)⟩)
      · refine S_aload_n dX8_takeNewPublic_28 rfl ?_
        refine S_getP (o := some (18, c)) fl_X8_192 dX8_takeNewPublic_29 rfl rfl (by rw [(show M.P (7, e) 7 = some (18, c) from (congrFun (hE.1 e (by omega)).2.2 7).trans ((if_pos hst).trans (qx_of h18a)))]) ?_
        refine S_ifnonnull 39 dX8_takeNewPublic_32 (by decide) (fun c_32 => ?_) (fun c_32 => absurd c_32 (by simp))
        refine S_iconst dX8_takeNewPublic_39 ?_
        refine S_aload_n dX8_takeNewPublic_40 rfl ?_
        refine S_callV (mi := mi_X8_takeNewPublic) [] ok_X2_before ml_X8_240 dX8_takeNewPublic_41 rfl (by decide) rfl (by decide) rfl (Nat.le_of_ble_eq_true rfl) rfl ((by have h := c_before (G := G) hCl l (by omega); rw [h33] at h; exact h)) ?_
        rintro v' M27 ⟨rfl, hM27⟩
        rw [hM27]
        clear hM27
        refine S_aload_n dX8_takeNewPublic_44 rfl ?_
        refine S_getI (v := ↑pa) fl_X8_231 dX8_takeNewPublic_45 rfl rfl (by rw [(show M.I (7, e) 11 = ↑pa from (show M.I (7, e) 11 = ρ.2 22 e from congrFun (hE.1 e (by omega)).2.1 11).trans h22)]) ?_
        refine S_isub dX8_takeNewPublic_48 ?_
        refine S_max mm_X8_335 dX8_takeNewPublic_49 (by decide) (Nat.le_of_ble_eq_true rfl) (by omega) ?_
        obtain ⟨old, hold⟩ : ∃ old : Nat, (if (0 : Int) < ((bf : Int) - (pa : Int)) then ((bf : Int) - (pa : Int)) else 0) = ↑old := ⟨(if (0 : Int) < ((bf : Int) - (pa : Int)) then ((bf : Int) - (pa : Int)) else 0).toNat, by split <;> omega⟩
        rw [hold]
        have hof : oldF ρ e l = old := by
          unfold oldF
          rw [h22, h33]
          by_cases hlt : (pa : Int) < bf
          · rw [if_pos ⟨by rw [h18a]; omega, hlt⟩]
            rw [if_pos (by omega)] at hold
            omega
          · rw [if_neg (fun z => hlt z.2)]
            rw [if_neg (by omega)] at hold
            omega
        have hold3 : old ≤ 300 ∧ (0 < old → bf = pa + old) := by
          by_cases hlt : (pa : Int) < bf
          · rw [if_pos (by omega)] at hold
            omega
          · rw [if_neg (by omega)] at hold
            omega
        refine S_istore_n dX8_takeNewPublic_52 (by decide) ?_
        refine S_iload_n dX8_takeNewPublic_53 rfl ?_
        refine S_aload_n dX8_takeNewPublic_54 rfl ?_
        refine S_callV (mi := mi_X8_takeNewPublic) [] ok_X2_place ml_X8_242 dX8_takeNewPublic_55 rfl (by decide) rfl (by decide) rfl (Nat.le_of_ble_eq_true rfl) rfl ((by have h := c_place (G := G) hCl l (by omega); rw [h34] at h; exact h)) ?_
        rintro v' M28 ⟨rfl, hM28⟩
        rw [hM28]
        clear hM28
        refine S_iadd dX8_takeNewPublic_58 ?_
        refine S_aload_n dX8_takeNewPublic_59 rfl ?_
        refine S_getI (v := ρ.1 2) fl_X8_47 dX8_takeNewPublic_60 rfl rfl (by rw [(show M.I (1, 0) 8 = ρ.1 2 from (show M.I (1, 0) 8 = ρ.1 2 from congrFun hA.2.1 8))]) ?_
        refine S_icmp_le 72 dX8_takeNewPublic_63 (by decide) (by omega) (fun c_63 => ?_) (fun c_63 => ?_)
        · refine S_aload_n dX8_takeNewPublic_72 rfl ?_
          refine S_getI (v := ↑n0) fl_X8_82 dX8_takeNewPublic_73 rfl rfl (by rw [(show M.I (7, e) 2 = ↑n0 from (show M.I (7, e) 2 = ρ.2 12 e from congrFun (hE.1 e (by omega)).2.1 2).trans h12)]) ?_
          refine S_if_ne 86 dX8_takeNewPublic_76 (by decide) (by omega) (fun c_76 => ?_) (fun c_76 => ?_)
          · obtain ⟨n, rfl⟩ : ∃ n : Nat, n0 = n + 1 := ⟨n0 - 1, by omega⟩
            obtain ⟨t, htt, htl, hkt, hpt⟩ := h13 0 (by omega)
            rw [Nat.add_zero] at htt
            have hws := hTI.2.2.2 s hs hks
            obtain ⟨ws, hws9⟩ : ∃ n : Nat, ρ.2 9 s = ↑n := ⟨(ρ.2 9 s).toNat, by omega⟩
            obtain ⟨q, hq⟩ : ∃ q : Nat, ρ.1 0 = ↑q := ⟨(ρ.1 0).toNat, by omega⟩
            have hbr := (hTI.1.2.2.2.2 r0 hr0).2.2.2
            refine S_aload_n dX8_takeNewPublic_86 rfl ?_
            refine S_getP (o := some (2, 0)) fl_X8_20 dX8_takeNewPublic_87 rfl rfl (by rw [(show M.P (1, 0) 0 = some (2, 0) from congrFun hA.2.2 0)]) ?_
            refine S_aload_n dX8_takeNewPublic_90 rfl ?_
            refine S_callV (mi := mi_X8_takeNewPublic) [] ok_X2_from ml_X8_189 dX8_takeNewPublic_91 rfl (by decide) rfl (by decide) rfl (Nat.le_of_ble_eq_true rfl) rfl ((by have h := c_from (G := G) hCl l (by omega); rw [h32] at h; exact h)) ?_
            rintro v' M29 ⟨rfl, hM29⟩
            rw [hM29]
            clear hM29
            refine S_aload_n dX8_takeNewPublic_94 rfl ?_
            refine S_getP (o := some (18, s)) fl_X8_115 dX8_takeNewPublic_95 rfl rfl (by rw [(show M.P (7, e) 4 = some (18, s) from (congrFun (hE.1 e (by omega)).2.2 4).trans ((if_pos hst).trans (qx_of h15)))]) ?_
            refine S_getI (v := ↑ws) fl_X8_131 dX8_takeNewPublic_98 rfl rfl (by rw [(show M.I (18, s) 1 = ↑ws from (show M.I (18, s) 1 = ρ.2 9 s from congrFun (hD.1 s (by omega)).2.1 1).trans hws9)]) ?_
            refine S_callV (mi := mi_X8_takeNewPublic) [vI (↑pn), vI (↑ws)] ok_X0_power ml_X8_338 dX8_takeNewPublic_101 rfl (by decide) rfl (by decide) rfl (Nat.le_of_ble_eq_true rfl) rfl (c_X0_power q pn ws hB hq (by omega) hpn (by omega)) ?_
            rintro v' M30 ⟨rfl, hM30⟩
            rw [hM30]
            clear hM30
            have hmet : 0 ≤ powF (ρ.1 0) ↑pn ws ∧ powF (ρ.1 0) ↑pn ws ≤ 10007 := powv hq3 (by omega) ws
            obtain ⟨met, emet⟩ : ∃ z9 : Int, z9 = powF (ρ.1 0) ↑pn ws := ⟨_, rfl⟩
            rw [← emet] at hmet ⊢
            refine S_istore dX8_takeNewPublic_104 (by decide) ?_
            refine S_aload_n dX8_takeNewPublic_106 rfl ?_
            refine S_getP (o := some (2, 0)) fl_X8_20 dX8_takeNewPublic_107 rfl rfl (by rw [(show M.P (1, 0) 0 = some (2, 0) from congrFun hA.2.2 0)]) ?_
            refine S_aload_n dX8_takeNewPublic_110 rfl ?_
            refine S_getP (o := some (2, 0)) fl_X8_20 dX8_takeNewPublic_111 rfl rfl (by rw [(show M.P (1, 0) 0 = some (2, 0) from congrFun hA.2.2 0)]) ?_
            refine S_aload_n dX8_takeNewPublic_114 rfl ?_
            refine S_getP (o := some (18, r0)) fl_X8_119 dX8_takeNewPublic_115 rfl rfl (by rw [(show M.P (7, e) 5 = some (18, r0) from (congrFun (hE.1 e (by omega)).2.2 5).trans ((if_pos hst).trans (qx_of h16)))]) ?_
            refine S_getI (v := ρ.2 9 r0) fl_X8_131 dX8_takeNewPublic_118 rfl rfl (by rw [(show M.I (18, r0) 1 = ρ.2 9 r0 from (show M.I (18, r0) 1 = ρ.2 9 r0 from congrFun (hD.1 r0 (by omega)).2.1 1))]) ?_
            refine S_iload dX8_takeNewPublic_121 rfl ?_
            refine S_callV (mi := mi_X8_takeNewPublic) [vI (ρ.2 9 r0), vI met] ok_X0_mix ml_X8_158 dX8_takeNewPublic_123 rfl (by decide) rfl (by decide) rfl (Nat.le_of_ble_eq_true rfl) rfl (c_X0_mix hB (ρ.2 9 r0) met (by omega) (by omega) (by omega)) ?_
            rintro v' M31 ⟨rfl, hM31⟩
            rw [hM31]
            clear hM31
            have hc1 : 0 ≤ mixF (ρ.1 0) (ρ.2 9 r0) met ∧ mixF (ρ.1 0) (ρ.2 9 r0) met ≤ 10007 := mixv hq3 (by omega) (by omega)
            obtain ⟨c1, ec1⟩ : ∃ z9 : Int, z9 = mixF (ρ.1 0) (ρ.2 9 r0) met := ⟨_, rfl⟩
            rw [← ec1] at hc1 ⊢
            refine S_iconst dX8_takeNewPublic_126 ?_
            refine S_callV (mi := mi_X8_takeNewPublic) [vI c1, vI 3] ok_X0_mix ml_X8_158 dX8_takeNewPublic_127 rfl (by decide) rfl (by decide) rfl (Nat.le_of_ble_eq_true rfl) rfl (c_X0_mix hB c1 3 (by omega) (by omega) (by omega)) ?_
            rintro v' M32 ⟨rfl, hM32⟩
            rw [hM32]
            clear hM32
            have hc2 : 0 ≤ mixF (ρ.1 0) c1 3 ∧ mixF (ρ.1 0) c1 3 ≤ 10007 := mixv hq3 (by omega) (by omega)
            obtain ⟨c2, ec2⟩ : ∃ z9 : Int, z9 = mixF (ρ.1 0) c1 3 := ⟨_, rfl⟩
            rw [← ec2] at hc2 ⊢
            refine S_istore dX8_takeNewPublic_130 (by decide) ?_
            refine S_aload_n dX8_takeNewPublic_132 rfl ?_
            refine S_aload_n dX8_takeNewPublic_133 rfl ?_
            refine S_aload_n dX8_takeNewPublic_134 rfl ?_
            refine S_iload dX8_takeNewPublic_135 rfl ?_
            refine S_aload_n dX8_takeNewPublic_137 rfl ?_
            refine S_callV (mi := mi_X8_takeNewPublic) [] ok_X2_place ml_X8_242 dX8_takeNewPublic_138 rfl (by decide) rfl (by decide) rfl (Nat.le_of_ble_eq_true rfl) rfl ((by have h := c_place (G := G) hCl l (by omega); rw [h34] at h; exact h)) ?_
            rintro v' M33 ⟨rfl, hM33⟩
            rw [hM33]
            clear hM33
            refine S_callV (mi := mi_X8_takeNewPublic) [vI c2, vI (↑pl)] ok_X8_keyAhead ml_X8_320 dX8_takeNewPublic_141 rfl (by decide) rfl (by decide) rfl (Nat.le_of_ble_eq_true rfl) rfl (c_keyAhead hCl c2 pl hc2 (by omega) hq3) ?_
            rintro v' M34 ⟨rfl, hM34⟩
            rw [hM34]
            clear hM34
            have hkey : 0 ≤ kbV (ρ.1 0) c2 pl ∧ kbV (ρ.1 0) c2 pl ≤ 10007 := mixv hq3 (kbF_bd (by omega) hc2 pl).1 (by decide)
            obtain ⟨key, ekey⟩ : ∃ z9 : Int, z9 = kbV (ρ.1 0) c2 pl := ⟨_, rfl⟩
            rw [← ekey] at hkey ⊢
            have hkv : akF ρ e l = key := by
              unfold akF
              rw [h16, h38, h15, h34, Int.toNat_natCast, Int.toNat_natCast, Int.toNat_natCast, Int.toNat_natCast, ← hpub, h32, hws9, Int.toNat_natCast, ← emet, ← ec1, ← ec2, ← ekey]
            refine S_callV (mi := mi_X8_takeNewPublic) [vR ((12, l)), vI key] ok_X8_opened ml_X8_313 dX8_takeNewPublic_144 rfl (by decide) rfl (by decide) rfl (Nat.le_of_ble_eq_true rfl) rfl (c_opened hCl l key (by omega) hkey hq3 h36) ?_
            rintro v' M35 ⟨rfl, hM35⟩
            rw [hM35]
            clear hM35
            have hoc := opV_cs ρ l key
            obtain ⟨ob, hob⟩ : ∃ z9 : Int, z9 = opV ρ l key := ⟨_, rfl⟩
            rw [← hob] at hoc ⊢
            refine S_istore dX8_takeNewPublic_147 (by decide) ?_
            refine S_iload dX8_takeNewPublic_149 rfl ?_
            refine S_iconst dX8_takeNewPublic_151 ?_
            refine S_icmp_ne 162 dX8_takeNewPublic_152 (by decide) (by rcases hoc with q | q <;> omega) (fun c_152 => ?_) (fun c_152 => ?_)
            · refine S_iload_n dX8_takeNewPublic_162 rfl ?_
              refine S_if_le 175 dX8_takeNewPublic_163 (by decide) (by omega) (fun c_163 => ?_) (fun c_163 => ?_)
              · refine S_aload_n dX8_takeNewPublic_175 rfl ?_
                refine S_aload_n dX8_takeNewPublic_176 rfl ?_
                refine S_aload_n dX8_takeNewPublic_177 rfl ?_
                refine S_callV (mi := mi_X8_takeNewPublic) [vR ((7, e)), vR ((12, l))] ok_X8_turn ml_X8_341 dX8_takeNewPublic_178 rfl (by decide) rfl (by decide) rfl (Nat.le_of_ble_eq_true rfl) rfl ((show Ct G mi_X8_turn [vR (1, 0), vR (7, e), vR (12, l)] M (CP Y (anD2 ρ e r0 s z pl n t ↑pn) 76 400 none M) from c_turn (G := G) (show Cs Y ρ M from ⟨sc, kn, hS, hCl⟩) (N) hTI (by omega) e l r0 s pl n t z lf ↑pn (by omega) (by omega) (by omega) hl30 hst hKo (by rw [h16]) (by omega) (by rw [h15]) (by omega) hks (by rw [h38]) (by omega) hkz (by rw [h32]) (by omega) (by rw [h34]) (by omega) (by rw [h12]) (by omega) (by rw [htt]) (by omega) hkt hb12 (fun i hi => by obtain ⟨t1, u1, _⟩ := h13 i hi; exact ⟨t1, u1⟩) (by rw [h23]) hlf hb23 h19 hps hpz hpt (hRm.sub hB0 (by omega) (by omega)))) ?_
                rintro v' M37 ⟨rfl, hCs37, hF37', hB37'⟩
                obtain ⟨ρ38, e38⟩ : ∃ z9 : RS, z9 = (anD2 ρ e r0 s z pl n t (↑pn)) := ⟨_, rfl⟩
                rw [← e38] at hCs37
                obtain ⟨sc, kn, hS38, hCl38⟩ := hCs37
                have hF38 : Fr CLs M M37 := hF0.trans hF37'
                have hB38 : Bg 76 400 M M37 := (hB0.trans hB37').le (by omega) (by omega)
                clear hA hB hC hD hE hN hG hH hI hJ hK hL
                obtain ⟨hA, hB, hC, hD, hE, hN, hG, hH, hI, hJ, hK, hL⟩ := id hCl38
                refine S_aload_n dX8_takeNewPublic_181 rfl ?_
                refine S_iload dX8_takeNewPublic_182 rfl ?_
                refine S_callV (mi := mi_X8_takeNewPublic) [vI ob] ok_X8_done ml_X8_69 dX8_takeNewPublic_184 rfl (by decide) rfl (by decide) rfl (Nat.le_of_ble_eq_true rfl) rfl (c_done (show Cs Y ρ38 M37 from ⟨sc, kn, hS38, hCl38⟩) ob) ?_
                rintro v' M39 ⟨rfl, hCs39, hF39', hB39'⟩
                obtain ⟨ρ40, e40⟩ : ∃ z9 : RS, z9 = (ρ38.setS 42 0) := ⟨_, rfl⟩
                rw [← e40] at hCs39
                obtain ⟨sc, kn, hS40, hCl40⟩ := hCs39
                have hF40 : Fr CLs M M39 := hF38.trans hF39'
                have hB40 : Bg 76 400 M M39 := (hB38.trans hB39').le (by omega) (by omega)
                have t_40 : thN ρ40 = thN ρ38 := by rw [e40]; rfl
                clear hA hB hC hD hE hN hG hH hI hJ hK hL hCl38 hS38 hF38 hB38
                obtain ⟨hA, hB, hC, hD, hE, hN, hG, hH, hI, hJ, hK, hL⟩ := id hCl40
                exact S_iret dX8_takeNewPublic_187 rfl (Or.inl rfl) (by
      have e9 : anF ρ e l (if ρ.2 32 l = ρ.2 19 e then (1 : Int) else 0) = ((ob : Int), ρ40) := by
        obtain rfl : old = 0 := by omega
        unfold anF
        rw [if_neg hnk, hof]
        unfold anF2
        rw [if_neg (by rw [h34]; omega), if_neg (by omega), hkv, if_neg (by rcases hoc with q | q; omega; exact fun z => z q.2.2.2), show byF ρ l key = ob from by rcases hoc with q | q <;> omega]
        unfold anD
        rw [h16, h15, h38, h34, h12, htt, h32, Int.toNat_natCast, Int.toNat_natCast, Int.toNat_natCast, Int.toNat_natCast, Int.toNat_natCast, Int.toNat_natCast, show n + 1 - 1 = n from rfl]
        show (ob, (anD2 ρ e r0 s z pl n t ↑pn).setS 42 0) = _
        rw [e40, e38]
      rw [e9]
      exact ⟨rfl, ⟨sc, kn, hS40, hCl40⟩, hF40, hB40.le (by omega) (by omega)⟩)
              · have hbo : bf = pa + old := by omega
                refine S_aload_n dX8_takeNewPublic_166 rfl ?_
                refine S_aload_n dX8_takeNewPublic_167 rfl ?_
                refine S_aload_n dX8_takeNewPublic_168 rfl ?_
                refine S_callV (mi := mi_X8_takeNewPublic) [] ok_X2_before ml_X8_240 dX8_takeNewPublic_169 rfl (by decide) rfl (by decide) rfl (Nat.le_of_ble_eq_true rfl) rfl ((by have h := c_before (G := G) hCl l (by omega); rw [h33] at h; exact h)) ?_
                rintro v' M41 ⟨rfl, hM41⟩
                rw [hM41]
                clear hM41
                have hO42 : SkOK ρ e (N) pa := ⟨hTI.1, hKo, ⟨c, h18a, hcl⟩, h19, hl30, h22⟩
                have hc42 : ∃ c : Nat, ρ.2 18 e = ↑c ∧ c < thN ρ ∧ ρ.2 6 c = 1 := ⟨c, h18a, hcl, hck⟩
                refine S_callV (mi := mi_X8_takeNewPublic) [vR ((7, e)), vI (↑bf)] ok_X8_skipTo ml_X8_323 dX8_takeNewPublic_172 rfl (by decide) rfl (by decide) rfl (Nat.le_of_ble_eq_true rfl) rfl (c_skipTo (G := G) (show Cs Y ρ M from ⟨sc, kn, hS, hCl⟩) e bf old pa (N) (by omega) (by omega) (by omega) hst (by omega) (by omega) hO42 hTI hc42 (hRm.sub hB0 (by omega) (by omega))) ?_
                rintro v' M43 ⟨rfl, hCs43, hF43', hB43'⟩
                obtain ⟨ρ44, e44⟩ : ∃ z9 : RS, z9 = (skF ρ e old) := ⟨_, rfl⟩
                rw [← e44] at hCs43
                have q44 := SkT.many (par := Y.2) (e := e) (by omega) old (by omega) (by omega) ⟨hO42, hTI, hc42⟩
                rw [← e44] at q44
                obtain ⟨⟨O44, hTI44, c44, h1844, hcl44, hck44⟩, G44⟩ := q44
                have g44 := G44.1
                obtain ⟨sc, kn, hS44, hCl44⟩ := hCs43
                have hF44 : Fr CLs M M43 := hF0.trans hF43'
                have hB44 : Bg (5 * old) (28 * old) M M43 := (hB0.trans hB43').le (by omega) (by omega)
                have s4_44 : ρ44.1 4 = ρ.1 4 := (by rw [e44, skF_s (by decide)])
                have s30_44 : ρ44.1 30 = ρ.1 30 := (by rw [e44, skF_s (by decide)])
                clear hA hB hC hD hE hN hG hH hI hJ hK hL
                obtain ⟨hA, hB, hC, hD, hE, hN, hG, hH, hI, hJ, hK, hL⟩ := id hCl44
                refine S_aload_n dX8_takeNewPublic_175 rfl ?_
                refine S_aload_n dX8_takeNewPublic_176 rfl ?_
                refine S_aload_n dX8_takeNewPublic_177 rfl ?_
                refine S_callV (mi := mi_X8_takeNewPublic) [vR ((7, e)), vR ((12, l))] ok_X8_turn ml_X8_341 dX8_takeNewPublic_178 rfl (by decide) rfl (by decide) rfl (Nat.le_of_ble_eq_true rfl) rfl ((show Ct G mi_X8_turn [vR (1, 0), vR (7, e), vR (12, l)] M43 (CP Y (anD2 ρ44 e r0 s z pl n t ↑pn) 76 400 none M43) from c_turn (G := G) (show Cs Y ρ44 M43 from ⟨sc, kn, hS44, hCl44⟩) (N + 2 * old) hTI44 (by omega) e l r0 s pl n t z lf ↑pn (by omega) (by omega) (by omega) (by omega) hst O44.2.1 (by rw [e44, skF_at (by omega), h16]) (by omega) (by rw [e44, skF_at (by omega), h15]) (by omega) (by rw [G44.2 _ _ (by decide) (by decide) (by omega)]; exact hks) (by rw [e44, skF_at (by omega), h38]) (by omega) (by rw [G44.2 _ _ (by decide) (by decide) (by omega)]; exact hkz) (by rw [e44, skF_at (by omega), h32]) (by omega) (by rw [e44, skF_at (by omega), h34]) (by omega) (by rw [e44, skF_at (by omega), h12]) (by omega) (by rw [e44, skF_at (by omega), htt]) (by omega) (by rw [G44.2 _ _ (by decide) (by decide) (by omega)]; exact hkt) (fun e1 h1 => by rw [e44, skF_at (by omega)]; exact hb12 e1 (by omega)) (fun i hi => by obtain ⟨t1, u1, _⟩ := h13 i hi; exact ⟨t1, by rw [e44, skF_at (by omega)]; exact u1⟩) (by rw [e44, skF_at (by omega), h23]) hlf (fun e1 h1 => by rw [e44, skF_at (by omega)]; exact hb23 e1 (by omega)) (by rw [e44, skF_at (by omega)]; exact h19) hps hpz hpt (hRm.sub hB44 (by omega) (by omega)))) ?_
                rintro v' M46 ⟨rfl, hCs46, hF46', hB46'⟩
                obtain ⟨ρ47, e47⟩ : ∃ z9 : RS, z9 = (anD2 ρ44 e r0 s z pl n t (↑pn)) := ⟨_, rfl⟩
                rw [← e47] at hCs46
                obtain ⟨sc, kn, hS47, hCl47⟩ := hCs46
                have hF47 : Fr CLs M M46 := hF44.trans hF46'
                have hB47 : Bg (5 * old + 76) (28 * old + 400) M M46 := (hB44.trans hB46').le (by omega) (by omega)
                clear hA hB hC hD hE hN hG hH hI hJ hK hL hCl44 hS44 hF44 hB44
                obtain ⟨hA, hB, hC, hD, hE, hN, hG, hH, hI, hJ, hK, hL⟩ := id hCl47
                refine S_aload_n dX8_takeNewPublic_181 rfl ?_
                refine S_iload dX8_takeNewPublic_182 rfl ?_
                refine S_callV (mi := mi_X8_takeNewPublic) [vI ob] ok_X8_done ml_X8_69 dX8_takeNewPublic_184 rfl (by decide) rfl (by decide) rfl (Nat.le_of_ble_eq_true rfl) rfl (c_done (show Cs Y ρ47 M46 from ⟨sc, kn, hS47, hCl47⟩) ob) ?_
                rintro v' M48 ⟨rfl, hCs48, hF48', hB48'⟩
                obtain ⟨ρ49, e49⟩ : ∃ z9 : RS, z9 = (ρ47.setS 42 0) := ⟨_, rfl⟩
                rw [← e49] at hCs48
                obtain ⟨sc, kn, hS49, hCl49⟩ := hCs48
                have hF49 : Fr CLs M M48 := hF47.trans hF48'
                have hB49 : Bg (5 * old + 76) (28 * old + 400) M M48 := (hB47.trans hB48').le (by omega) (by omega)
                have t_49 : thN ρ49 = thN ρ47 := by rw [e49]; rfl
                clear hA hB hC hD hE hN hG hH hI hJ hK hL hCl47 hS47 hF47 hB47
                obtain ⟨hA, hB, hC, hD, hE, hN, hG, hH, hI, hJ, hK, hL⟩ := id hCl49
                exact S_iret dX8_takeNewPublic_187 rfl (Or.inl rfl) (by
      have e9 : anF ρ e l (if ρ.2 32 l = ρ.2 19 e then (1 : Int) else 0) = ((ob : Int), ρ49) := by
        unfold anF
        rw [if_neg hnk, hof]
        unfold anF2
        rw [if_neg (by rw [h34]; omega), if_neg (by omega), hkv, if_neg (by rcases hoc with q | q; omega; exact fun z => z q.2.2.2), show byF ρ l key = ob from by rcases hoc with q | q <;> omega]
        unfold anD
        rw [h16, h15, h38, h34, h12, htt, h32, Int.toNat_natCast, Int.toNat_natCast, Int.toNat_natCast, Int.toNat_natCast, Int.toNat_natCast, Int.toNat_natCast, show n + 1 - 1 = n from rfl, ← e44]
        rw [e49, e47]
      rw [e9]
      exact ⟨rfl, ⟨sc, kn, hS49, hCl49⟩, hF49, hB49.le (by omega) (by omega)⟩)
            · refine S_aload_n dX8_takeNewPublic_155 rfl ?_
              refine S_bipush dX8_takeNewPublic_156 (by decide) ?_
              refine S_callV (mi := mi_X8_takeNewPublic) [vI 7] ok_X8_refuse ml_X8_54 dX8_takeNewPublic_158 rfl (by decide) rfl (by decide) rfl (Nat.le_of_ble_eq_true rfl) rfl (c_refuse (show Cs Y ρ M from ⟨sc, kn, hS, hCl⟩) 7) ?_
              rintro v' M50 ⟨rfl, hCs50, hF50', hB50'⟩
              obtain ⟨ρ51, e51⟩ : ∃ z9 : RS, z9 = (ρ.setS 42 7) := ⟨_, rfl⟩
              rw [← e51] at hCs50
              obtain ⟨sc, kn, hS51, hCl51⟩ := hCs50
              have hF51 : Fr CLs M M50 := hF0.trans hF50'
              have hB51 : Bg 0 0 M M50 := (hB0.trans hB50').le (by omega) (by omega)
              have s4_51 : ρ51.1 4 = ρ.1 4 := (by rw [e51, RS.setS_ne (by decide)])
              have s30_51 : ρ51.1 30 = ρ.1 30 := (by rw [e51, RS.setS_ne (by decide)])
              have t_51 : thN ρ51 = thN ρ := by rw [e51]; rfl
              clear hA hB hC hD hE hN hG hH hI hJ hK hL
              obtain ⟨hA, hB, hC, hD, hE, hN, hG, hH, hI, hJ, hK, hL⟩ := id hCl51
              exact S_iret dX8_takeNewPublic_161 rfl (Or.inl rfl) (by
      have e9 : anF ρ e l (if ρ.2 32 l = ρ.2 19 e then (1 : Int) else 0) = (((-1) : Int), ρ51) := by
        unfold anF
        rw [if_neg hnk, hof]
        unfold anF2
        rw [if_neg (by rw [h34]; omega), if_neg (by omega), hkv, if_pos (by rcases hoc with q | q; exact q.2; omega), e51]
      rw [e9]
      exact ⟨rfl, ⟨sc, kn, hS51, hCl51⟩, hF51, hB51.le (by omega) (by omega)⟩)
          · refine S_aload_n dX8_takeNewPublic_79 rfl ?_
            refine S_bipush dX8_takeNewPublic_80 (by decide) ?_
            refine S_callV (mi := mi_X8_takeNewPublic) [vI 6] ok_X8_refuse ml_X8_54 dX8_takeNewPublic_82 rfl (by decide) rfl (by decide) rfl (Nat.le_of_ble_eq_true rfl) rfl (c_refuse (show Cs Y ρ M from ⟨sc, kn, hS, hCl⟩) 6) ?_
            rintro v' M52 ⟨rfl, hCs52, hF52', hB52'⟩
            obtain ⟨ρ53, e53⟩ : ∃ z9 : RS, z9 = (ρ.setS 42 6) := ⟨_, rfl⟩
            rw [← e53] at hCs52
            obtain ⟨sc, kn, hS53, hCl53⟩ := hCs52
            have hF53 : Fr CLs M M52 := hF0.trans hF52'
            have hB53 : Bg 0 0 M M52 := (hB0.trans hB52').le (by omega) (by omega)
            have s4_53 : ρ53.1 4 = ρ.1 4 := (by rw [e53, RS.setS_ne (by decide)])
            have s30_53 : ρ53.1 30 = ρ.1 30 := (by rw [e53, RS.setS_ne (by decide)])
            have t_53 : thN ρ53 = thN ρ := by rw [e53]; rfl
            clear hA hB hC hD hE hN hG hH hI hJ hK hL
            obtain ⟨hA, hB, hC, hD, hE, hN, hG, hH, hI, hJ, hK, hL⟩ := id hCl53
            exact S_iret dX8_takeNewPublic_85 rfl (Or.inl rfl) (by
      have e9 : anF ρ e l (if ρ.2 32 l = ρ.2 19 e then (1 : Int) else 0) = (((-1) : Int), ρ53) := by
        unfold anF
        rw [if_neg hnk, hof]
        unfold anF2
        rw [if_neg (by rw [h34]; omega), if_pos (by omega), e53]
      rw [e9]
      exact ⟨rfl, ⟨sc, kn, hS53, hCl53⟩, hF53, hB53.le (by omega) (by omega)⟩)
        · refine S_aload_n dX8_takeNewPublic_66 rfl ?_
          refine S_iconst dX8_takeNewPublic_67 ?_
          refine S_callV (mi := mi_X8_takeNewPublic) [vI 5] ok_X8_refuse ml_X8_54 dX8_takeNewPublic_68 rfl (by decide) rfl (by decide) rfl (Nat.le_of_ble_eq_true rfl) rfl (c_refuse (show Cs Y ρ M from ⟨sc, kn, hS, hCl⟩) 5) ?_
          rintro v' M54 ⟨rfl, hCs54, hF54', hB54'⟩
          obtain ⟨ρ55, e55⟩ : ∃ z9 : RS, z9 = (ρ.setS 42 5) := ⟨_, rfl⟩
          rw [← e55] at hCs54
          obtain ⟨sc, kn, hS55, hCl55⟩ := hCs54
          have hF55 : Fr CLs M M54 := hF0.trans hF54'
          have hB55 : Bg 0 0 M M54 := (hB0.trans hB54').le (by omega) (by omega)
          have s4_55 : ρ55.1 4 = ρ.1 4 := (by rw [e55, RS.setS_ne (by decide)])
          have s30_55 : ρ55.1 30 = ρ.1 30 := (by rw [e55, RS.setS_ne (by decide)])
          have t_55 : thN ρ55 = thN ρ := by rw [e55]; rfl
          clear hA hB hC hD hE hN hG hH hI hJ hK hL
          obtain ⟨hA, hB, hC, hD, hE, hN, hG, hH, hI, hJ, hK, hL⟩ := id hCl55
          exact S_iret dX8_takeNewPublic_71 rfl (Or.inl rfl) (by
      have e9 : anF ρ e l (if ρ.2 32 l = ρ.2 19 e then (1 : Int) else 0) = (((-1) : Int), ρ55) := by
        unfold anF
        rw [if_neg hnk, hof]
        unfold anF2
        rw [if_pos (by rw [h34]; omega), e55]
      rw [e9]
      exact ⟨rfl, ⟨sc, kn, hS55, hCl55⟩, hF55, hB55.le (by omega) (by omega)⟩)
