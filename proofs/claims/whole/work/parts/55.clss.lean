/-! THE CLASS: secret; a key is kept -/
theorem dropR_s {ρ : RS} {e i n k : Nat} : (dropR ρ e i n).1 k = ρ.1 k := rfl
theorem dropR_2511 {ρ : RS} {e : Nat} : (dropR ρ e 0 11).2 25 e = 11 := dropR_25
theorem th_kind {ρ : RS} {k f w v : Int} (hk : k ≠ 3) : (thR ρ k f w v).2 6 (thI ρ k f w) = k := by
  rcases thR_cases ρ k f w v with ⟨q1, q2⟩ | ⟨q1, q2⟩
  · rw [q2]
    unfold thI at q1 ⊢
    rw [if_neg hk] at q1 ⊢
    rcases fnd_cs ρ k f w (thN ρ) 0 with ⟨h1, _⟩ | ⟨s, _, _, h3, h4, _⟩
    · omega
    · rw [h3]; exact h4
  · rw [q2, q1, new_6]
theorem Cl.kadd {X : Gh} {ρ : RS} {M : Mem} (h : Cl X ρ M) (e : Nat) (he : (e : Int) < 2 * ρ.1 4) (m i kk : Nat) (pl : Int) (hi : ρ.2 25 e = ↑i) (hi12 : i < 12) (hP : M.P (9, e) i = some (19, m)) (hm : Sk M m (ρ.2 19 e) pl ↑kk (ρ.1 30) (ρ.2 9 kk)) (hkk : kk < thN ρ) (hb : ∀ e1 : Nat, (e1 : Int) < 2 * ρ.1 4 → ρ.2 25 e1 ≤ 12) : Cl X (kp1 ρ e i pl ↑kk) (M.putI (7, e) 13 (↑i + 1)) := by
  have h1 : Cl X ((((ρ.setA 26 (12 * e + i) (ρ.2 19 e)).setA 27 (12 * e + i) pl).setA 28 (12 * e + i) ↑kk).setA 29 (12 * e + i) (ρ.1 30)) M := by
    refine h.kcg (fun _ => rfl) (fun k j hk => ?_) (fun e1 i1 he1 hi1 k k1 k2 => ?_)
    · rw [RS.setA_ne (by omega), RS.setA_ne (by omega), RS.setA_ne (by omega), RS.setA_ne (by omega)]
    · have h12 := hb e1 he1
      have hne : 12 * e1 + i1 ≠ 12 * e + i := by
        by_cases hee : e1 = e
        · subst hee; omega
        · omega
      rw [RS.setA_ne (Or.inr hne), RS.setA_ne (Or.inr hne), RS.setA_ne (Or.inr hne), RS.setA_ne (Or.inr hne)]
  refine h1.e25 e he (↑i + 1) (fun i1 hi1 => ?_)
  by_cases hii : i1 = i
  · subst hii
    refine ⟨m, kk, hP, ?_, hkk, ?_⟩
    · rw [RS.setA_ne (Or.inl (by decide)), RS.setA_eq]
    · rw [RS.setA_eq, RS.setA_ne (Or.inl (by decide)), RS.setA_ne (Or.inl (by decide)), RS.setA_ne (Or.inl (by decide)), RS.setA_eq, RS.setA_ne (Or.inl (by decide)), RS.setA_ne (Or.inl (by decide)), RS.setA_eq]
      exact hm
  · obtain ⟨_, _, _, _, _, _, _, hH, _⟩ := h1
    exact (hH.1 e he).2 i1 (by
      show (i1 : Int) < ρ.2 25 e
      omega)
set_option maxRecDepth 100000 in
theorem c_secret {G : Ge} {M : Mem} {Y : (Nat → Bool) × (Nat → Bool)} {ρ : RS} (hCs : Cs Y ρ M) (e s : Int) (e32 : -2147483648 ≤ e ∧ e < 2147483648) (s32 : -2147483648 ≤ s ∧ s < 2147483648) (hp : 0 ≤ ρ.1 4 ∧ ρ.1 4 ≤ 6) (N : Nat) (hT : ThOK ρ N) (hNb : N < 7990) (h12 : ∀ i, i < 12 → ∃ n : Nat, n ≤ 12 ∧ ρ.2 12 i = ↑n) (hRm : Rm 2 8 M) : Ct G mi_X8_secret [vR ((1, 0)), vI e, vI s] M (CP (Y.1, spF Y.2 ρ e.toNat) ((secretF ρ e s).2) 2 8 (some (vI (secretF ρ e s).1)) M) := by
  refine Ct.of pl_X8_secret [some (vR ((1, 0))), some (vI e), some (vI s), none] rfl (Nat.le_of_ble_eq_true rfl) ?_
  obtain ⟨sc, kn, hS, hCl⟩ := hCs
  have hF0 : Fr CLs M M := Fr.rf CLs M
  have hB0 : Bg 0 0 M M := Bg.rf M
  obtain ⟨hA, hB, hC, hD, hE, hN, hG, hH, hI, hJ, hK, hL⟩ := id hCl
  have hl8 := hT.2.1
  have hb : ∀ e1 : Nat, (e1 : Int) < 2 * ρ.1 4 → ρ.2 12 e1 ≤ 12 := fun e1 h1 => by
    obtain ⟨n1, q1, q2⟩ := h12 e1 (by omega)
    omega
  refine S_aload_n dX8_secret_0 rfl ?_
  refine S_iload_n dX8_secret_1 rfl ?_
  by_cases hv : 0 ≤ e ∧ e < 2 * ρ.1 4
  · obtain ⟨x, rfl⟩ : ∃ x : Nat, e = ↑x := ⟨e.toNat, by omega⟩
    obtain ⟨n, hn12, hn⟩ := h12 x (by omega)
    refine S_callV (mi := mi_X8_secret) [vI (↑x)] ok_X8_endAt ml_X8_78 dX8_secret_2 rfl (by decide) rfl (by decide) rfl (Nat.le_of_ble_eq_true rfl) rfl (c_endAt hCl hp x (by omega)) ?_
    rintro v' M1 ⟨rfl, hM1⟩
    rw [hM1]
    clear hM1
    refine S_astore_n dX8_secret_5 (by decide) ?_
    refine S_aload_n dX8_secret_6 rfl ?_
    refine S_ifnull 22 dX8_secret_7 (by decide) (fun c_7 => absurd c_7 (by simp)) (fun c_7 => ?_)
    refine S_iload_n dX8_secret_10 rfl ?_
    refine S_iconst dX8_secret_11 ?_
    refine S_icmp_lt 22 dX8_secret_12 (by decide) (by omega) (fun c_12 => ?_) (fun c_12 => ?_)
    · refine S_aload_n dX8_secret_22 rfl ?_
      refine S_iconst dX8_secret_23 ?_
      refine S_callV (mi := mi_X8_secret) [vI 1] ok_X8_refuse ml_X8_54 dX8_secret_24 rfl (by decide) rfl (by decide) rfl (Nat.le_of_ble_eq_true rfl) rfl (c_refuse (show Cs Y ρ M from ⟨sc, kn, hS, hCl⟩) 1) ?_
      rintro v' M2 ⟨rfl, hCs2, hF2', hB2'⟩
      obtain ⟨ρ3, e3⟩ : ∃ z9 : RS, z9 = (ρ.setS 42 1) := ⟨_, rfl⟩
      rw [← e3] at hCs2
      obtain ⟨sc, kn, hS3, hCl3⟩ := hCs2
      have hF3 : Fr CLs M M2 := hF0.trans hF2'
      have hB3 : Bg 0 0 M M2 := (hB0.trans hB2').le (by omega) (by omega)
      have s4_3 : ρ3.1 4 = ρ.1 4 := (by rw [e3, RS.setS_ne (by decide)])
      have s30_3 : ρ3.1 30 = ρ.1 30 := (by rw [e3, RS.setS_ne (by decide)])
      have t_3 : thN ρ3 = thN ρ := by rw [e3]; rfl
      obtain ⟨hA, hB, hC, hD, hE, hN, hG, hH, hI, hJ, hK, hL⟩ := id hCl3
      exact S_iret dX8_secret_27 rfl (Or.inl rfl) (by
      have hT9 : ThOK ρ3 N := by subst_vars; exact hT
      have e9 : secretF ρ (↑x) s = (((-1) : Int), ρ3) := (by unfold secretF; simp only [Int.toNat_natCast]; (repeat (first | rw [if_pos (by omega)] | rw [if_neg (by omega)])); subst_vars; all_goals rfl)
      rw [Int.toNat_natCast]
      rw [e9]
      exact ⟨rfl, Cs.par (Y := Y) ⟨sc, kn, hS3, hCl3⟩ hT9 rfl (fun t ht => if_neg (by have ht2 : t < thN ρ3 := ht; omega)), hF3, hB3.le (by omega) (by omega)⟩)
    · refine S_iload_n dX8_secret_15 rfl ?_
      refine S_sipush dX8_secret_16 (by decide) ?_
      refine S_icmp_le 28 dX8_secret_19 (by decide) (by omega) (fun c_19 => ?_) (fun c_19 => ?_)
      · refine S_aload_n dX8_secret_28 rfl ?_
        refine S_getI (v := ↑n) fl_X8_82 dX8_secret_29 rfl rfl (by rw [(show M.I (7, x) 2 = ↑n from (show M.I (7, x) 2 = ρ.2 12 x from congrFun (hE.1 x (by omega)).2.1 2).trans hn)]) ?_
        refine S_bipush dX8_secret_32 (by decide) ?_
        refine S_icmp_lt 43 dX8_secret_34 (by decide) (by omega) (fun c_34 => ?_) (fun c_34 => ?_)
        · refine S_aload_n dX8_secret_43 rfl ?_
          refine S_getP (o := some (8, x)) fl_X8_85 dX8_secret_44 rfl rfl (by rw [(show M.P (7, x) 1 = some (8, x) from congrFun (hE.1 x (by omega)).2.2 1)]) ?_
          refine S_aload_n dX8_secret_47 rfl ?_
          refine S_getI (v := ↑n) fl_X8_82 dX8_secret_48 rfl rfl (by rw [(show M.I (7, x) 2 = ↑n from (show M.I (7, x) 2 = ρ.2 12 x from congrFun (hE.1 x (by omega)).2.1 2).trans hn)]) ?_
          refine S_aload_n dX8_secret_51 rfl ?_
          refine S_getP (o := some (3, 0)) fl_X8_10 dX8_secret_52 rfl rfl (by rw [(show M.P (1, 0) 1 = some (3, 0) from congrFun hA.2.2 1)]) ?_
          refine S_iload_n dX8_secret_55 rfl ?_
          refine S_callV (mi := mi_X8_secret) [vI s] ok_X5_newSecret ml_X8_89 dX8_secret_56 rfl (by decide) rfl (by decide) rfl (Nat.le_of_ble_eq_true rfl) rfl ((by have h := c_newSecret (G := G) (show Cs Y ρ M from ⟨sc, kn, hS, hCl⟩) N hT hNb x s (hRm.sub hB0 (by omega) (by omega)); rw [thR_new (show thI ρ 3 (-1) (-1) = thN ρ from if_pos rfl)] at h; exact h)) ?_
          rintro v' M4 ⟨rfl, hCs4, hF4', hB4'⟩
          obtain ⟨ρ5, e5⟩ : ∃ z9 : RS, z9 = (newT ρ 3 ((-1)) ((-1)) s) := ⟨_, rfl⟩
          rw [← e5] at hCs4
          obtain ⟨sc, kn, hS5, hCl5⟩ := hCs4
          have hF5 : Fr CLs M M4 := hF0.trans hF4'
          have hB5 : Bg 2 8 M M4 := (hB0.trans hB4').le (by omega) (by omega)
          have s4_5 : ρ5.1 4 = ρ.1 4 := (by rw [e5, new_s _ _ _ _ _ 4 (by decide)])
          have s30_5 : ρ5.1 30 = ρ.1 30 := (by rw [e5, new_s _ _ _ _ _ 30 (by decide)])
          have t_5 : thN ρ5 = thN ρ + 1 := by rw [e5]; exact thN_new hT _ _ _ _
          obtain ⟨hA, hB, hC, hD, hE, hN, hG, hH, hI, hJ, hK, hL⟩ := id hCl5
          refine S_aast n dX8_secret_59 rfl (by decide) rfl rfl (by decide) rfl (by rw [(show M4.len (8, x) = some 12 from (hG x (by omega)).1)]) (by omega) (by omega) ?_
          have hb1 : ∀ e1 : Nat, (e1 : Int) < 2 * ρ5.1 4 → ρ5.2 12 e1 ≤ 12 := by rw [e5]; exact hb
          refine Sf.nm (fun M6 hM6 => ?_)
          obtain ⟨ρ7, e7⟩ : ∃ z9 : RS, z9 = (ρ5.setA 13 ((12 * x + n)) (↑(thN ρ))) := ⟨_, rfl⟩
          have hCl7 : Cl (Y.1, spF Y.2 ρ x, sc, kn) ρ7 M6 := (by rw [e7, hM6, ← qx_nat (thN ρ)]; exact hCl5.row x n (by omega) ↑(thN ρ) hb1)
          have hS7 : StpOK sc kn ρ7 := (by rw [e7]; exact hS5)
          have hF7 : Fr CLs M M6 := (by rw [hM6]; exact hF5.trans (Fr.pP 8 x (by decide)))
          have hB7 : Bg 2 8 M M6 := (by rw [hM6]; exact (hB5.trans (Bg.pP _ 8 x _ _ (by decide))).le (by omega) (by omega))
          have s4_7 : ρ7.1 4 = ρ.1 4 := (by rw [e7, RS.setA_s, e5, new_s _ _ _ _ _ 4 (by decide)])
          have s30_7 : ρ7.1 30 = ρ.1 30 := (by rw [e7, RS.setA_s, e5, new_s _ _ _ _ _ 30 (by decide)])
          have t_7 : thN ρ7 = thN ρ5 := by rw [e7]; rfl
          obtain ⟨hA, hB, hC, hD, hE, hN, hG, hH, hI, hJ, hK, hL⟩ := id hCl7
          refine S_aload_n dX8_secret_60 rfl ?_
          refine S_dup dX8_secret_61 ?_
          refine S_getI (v := ↑n) fl_X8_82 dX8_secret_62 rfl rfl (by rw [(show M6.I (7, x) 2 = ↑n from (show M6.I (7, x) 2 = ρ7.2 12 x from congrFun (hE.1 x (by omega)).2.1 2).trans (by rw [e7, RS.setA_ne (Or.inl (by decide)), e5, new_old _ _ _ _ _ 12 _ (Or.inr (by decide)), hn]))]) ?_
          refine S_iconst dX8_secret_65 ?_
          refine S_iadd dX8_secret_66 ?_
          rw [show ((↑n : Int) + 1) = ↑(n + 1) from rfl]
          refine S_putI fl_X8_82 dX8_secret_67 rfl rfl rfl  (Or.inl rfl) ?_
          refine Sf.nm (fun M8 hM8 => ?_)
          obtain ⟨ρ9, e9⟩ : ∃ z9 : RS, z9 = (ρ7.setA 12 x (↑(n + 1))) := ⟨_, rfl⟩
          have hCl9 : Cl (Y.1, spF Y.2 ρ x, sc, kn) ρ9 M8 := (by rw [e9, hM8]; exact hCl7.e12 x (by omega) ↑(n + 1) (fun i hi => by
          by_cases hin : i = n
          · rw [hin, e7, RS.setA_eq, hM6, Mem.putP_eq, qx_nat]
          · exact (hG x (by omega)).2 i (by rw [e7, RS.setA_ne (Or.inl (by decide)), e5, new_old _ _ _ _ _ 12 _ (Or.inr (by decide)), hn]; omega)))
          have hS9 : StpOK sc kn ρ9 := (by rw [e9]; exact hS7)
          have hF9 : Fr CLs M M8 := (by rw [hM8]; exact hF7.trans (Fr.pI 7 x (by decide)))
          have hB9 : Bg 2 8 M M8 := (by rw [hM8]; exact (hB7.trans (Bg.pI _ _ _ _)).le (by omega) (by omega))
          have s4_9 : ρ9.1 4 = ρ.1 4 := (by rw [e9, RS.setA_s, e7, RS.setA_s, e5, new_s _ _ _ _ _ 4 (by decide)])
          have s30_9 : ρ9.1 30 = ρ.1 30 := (by rw [e9, RS.setA_s, e7, RS.setA_s, e5, new_s _ _ _ _ _ 30 (by decide)])
          have t_9 : thN ρ9 = thN ρ7 := by rw [e9]; rfl
          obtain ⟨hA, hB, hC, hD, hE, hN, hG, hH, hI, hJ, hK, hL⟩ := id hCl9
          refine S_aload_n dX8_secret_70 rfl ?_
          refine S_aload_n dX8_secret_71 rfl ?_
          refine S_getI (v := ↑(n + 1)) fl_X8_82 dX8_secret_72 rfl rfl (by rw [(show M8.I (7, x) 2 = ↑(n + 1) from (show M8.I (7, x) 2 = ρ9.2 12 x from congrFun (hE.1 x (by omega)).2.1 2).trans (by rw [e9, RS.setA_eq]))]) ?_
          refine S_callV (mi := mi_X8_secret) [vI (↑(n + 1))] ok_X8_done ml_X8_69 dX8_secret_75 rfl (by decide) rfl (by decide) rfl (Nat.le_of_ble_eq_true rfl) rfl (c_done (show Cs (Y.1, spF Y.2 ρ x) ρ9 M8 from ⟨sc, kn, hS9, hCl9⟩) (↑(n + 1))) ?_
          rintro v' M10 ⟨rfl, hCs10, hF10', hB10'⟩
          obtain ⟨ρ11, e11⟩ : ∃ z9 : RS, z9 = (ρ9.setS 42 0) := ⟨_, rfl⟩
          rw [← e11] at hCs10
          obtain ⟨sc, kn, hS11, hCl11⟩ := hCs10
          have hF11 : Fr CLs M M10 := hF9.trans hF10'
          have hB11 : Bg 2 8 M M10 := (hB9.trans hB10').le (by omega) (by omega)
          have s4_11 : ρ11.1 4 = ρ.1 4 := (by rw [e11, RS.setS_ne (by decide), e9, RS.setA_s, e7, RS.setA_s, e5, new_s _ _ _ _ _ 4 (by decide)])
          have s30_11 : ρ11.1 30 = ρ.1 30 := (by rw [e11, RS.setS_ne (by decide), e9, RS.setA_s, e7, RS.setA_s, e5, new_s _ _ _ _ _ 30 (by decide)])
          have t_11 : thN ρ11 = thN ρ9 := by rw [e11]; rfl
          obtain ⟨hA, hB, hC, hD, hE, hN, hG, hH, hI, hJ, hK, hL⟩ := id hCl11
          exact S_iret dX8_secret_78 rfl (Or.inl rfl) (by
      have e9 : secretF ρ (↑x) s = ((↑(n + 1) : Int), ρ11) := (by unfold secretF; rw [if_neg (by omega), Int.toNat_natCast, hn, if_neg (by omega), Int.toNat_natCast]; subst_vars; rfl)
      rw [Int.toNat_natCast]
      rw [e9]
      exact ⟨rfl, ⟨sc, kn, hS11, hCl11⟩, hF11, hB11.le (by omega) (by omega)⟩)
        · refine S_aload_n dX8_secret_37 rfl ?_
          refine S_iconst dX8_secret_38 ?_
          refine S_callV (mi := mi_X8_secret) [vI 2] ok_X8_refuse ml_X8_54 dX8_secret_39 rfl (by decide) rfl (by decide) rfl (Nat.le_of_ble_eq_true rfl) rfl (c_refuse (show Cs Y ρ M from ⟨sc, kn, hS, hCl⟩) 2) ?_
          rintro v' M12 ⟨rfl, hCs12, hF12', hB12'⟩
          obtain ⟨ρ13, e13⟩ : ∃ z9 : RS, z9 = (ρ.setS 42 2) := ⟨_, rfl⟩
          rw [← e13] at hCs12
          obtain ⟨sc, kn, hS13, hCl13⟩ := hCs12
          have hF13 : Fr CLs M M12 := hF0.trans hF12'
          have hB13 : Bg 0 0 M M12 := (hB0.trans hB12').le (by omega) (by omega)
          have s4_13 : ρ13.1 4 = ρ.1 4 := (by rw [e13, RS.setS_ne (by decide)])
          have s30_13 : ρ13.1 30 = ρ.1 30 := (by rw [e13, RS.setS_ne (by decide)])
          have t_13 : thN ρ13 = thN ρ := by rw [e13]; rfl
          obtain ⟨hA, hB, hC, hD, hE, hN, hG, hH, hI, hJ, hK, hL⟩ := id hCl13
          exact S_iret dX8_secret_42 rfl (Or.inl rfl) (by
      have hT9 : ThOK ρ13 N := by subst_vars; exact hT
      have e9 : secretF ρ (↑x) s = (((-1) : Int), ρ13) := (by unfold secretF; simp only [Int.toNat_natCast]; (repeat (first | rw [if_pos (by omega)] | rw [if_neg (by omega)])); subst_vars; all_goals rfl)
      rw [Int.toNat_natCast]
      rw [e9]
      exact ⟨rfl, Cs.par (Y := Y) ⟨sc, kn, hS13, hCl13⟩ hT9 rfl (fun t ht => if_neg (by have ht2 : t < thN ρ13 := ht; omega)), hF13, hB13.le (by omega) (by omega)⟩)
      · refine S_aload_n dX8_secret_22 rfl ?_
        refine S_iconst dX8_secret_23 ?_
        refine S_callV (mi := mi_X8_secret) [vI 1] ok_X8_refuse ml_X8_54 dX8_secret_24 rfl (by decide) rfl (by decide) rfl (Nat.le_of_ble_eq_true rfl) rfl (c_refuse (show Cs Y ρ M from ⟨sc, kn, hS, hCl⟩) 1) ?_
        rintro v' M14 ⟨rfl, hCs14, hF14', hB14'⟩
        obtain ⟨ρ15, e15⟩ : ∃ z9 : RS, z9 = (ρ.setS 42 1) := ⟨_, rfl⟩
        rw [← e15] at hCs14
        obtain ⟨sc, kn, hS15, hCl15⟩ := hCs14
        have hF15 : Fr CLs M M14 := hF0.trans hF14'
        have hB15 : Bg 0 0 M M14 := (hB0.trans hB14').le (by omega) (by omega)
        have s4_15 : ρ15.1 4 = ρ.1 4 := (by rw [e15, RS.setS_ne (by decide)])
        have s30_15 : ρ15.1 30 = ρ.1 30 := (by rw [e15, RS.setS_ne (by decide)])
        have t_15 : thN ρ15 = thN ρ := by rw [e15]; rfl
        obtain ⟨hA, hB, hC, hD, hE, hN, hG, hH, hI, hJ, hK, hL⟩ := id hCl15
        exact S_iret dX8_secret_27 rfl (Or.inl rfl) (by
      have hT9 : ThOK ρ15 N := by subst_vars; exact hT
      have e9 : secretF ρ (↑x) s = (((-1) : Int), ρ15) := (by unfold secretF; simp only [Int.toNat_natCast]; (repeat (first | rw [if_pos (by omega)] | rw [if_neg (by omega)])); subst_vars; all_goals rfl)
      rw [Int.toNat_natCast]
      rw [e9]
      exact ⟨rfl, Cs.par (Y := Y) ⟨sc, kn, hS15, hCl15⟩ hT9 rfl (fun t ht => if_neg (by have ht2 : t < thN ρ15 := ht; omega)), hF15, hB15.le (by omega) (by omega)⟩)
  · refine S_callV (mi := mi_X8_secret) [vI e] ok_X8_endAt ml_X8_78 dX8_secret_2 rfl (by decide) rfl (by decide) rfl (Nat.le_of_ble_eq_true rfl) rfl (c_endAtN hCl hp e e32 hv) ?_
    rintro v' M16 ⟨rfl, hM16⟩
    rw [hM16]
    clear hM16
    refine S_astore_n dX8_secret_5 (by decide) ?_
    refine S_aload_n dX8_secret_6 rfl ?_
    refine S_ifnull 22 dX8_secret_7 (by decide) (fun c_7 => ?_) (fun c_7 => absurd c_7 (by simp))
    refine S_aload_n dX8_secret_22 rfl ?_
    refine S_iconst dX8_secret_23 ?_
    refine S_callV (mi := mi_X8_secret) [vI 1] ok_X8_refuse ml_X8_54 dX8_secret_24 rfl (by decide) rfl (by decide) rfl (Nat.le_of_ble_eq_true rfl) rfl (c_refuse (show Cs Y ρ M from ⟨sc, kn, hS, hCl⟩) 1) ?_
    rintro v' M17 ⟨rfl, hCs17, hF17', hB17'⟩
    obtain ⟨ρ18, e18⟩ : ∃ z9 : RS, z9 = (ρ.setS 42 1) := ⟨_, rfl⟩
    rw [← e18] at hCs17
    obtain ⟨sc, kn, hS18, hCl18⟩ := hCs17
    have hF18 : Fr CLs M M17 := hF0.trans hF17'
    have hB18 : Bg 0 0 M M17 := (hB0.trans hB17').le (by omega) (by omega)
    have s4_18 : ρ18.1 4 = ρ.1 4 := (by rw [e18, RS.setS_ne (by decide)])
    have s30_18 : ρ18.1 30 = ρ.1 30 := (by rw [e18, RS.setS_ne (by decide)])
    have t_18 : thN ρ18 = thN ρ := by rw [e18]; rfl
    obtain ⟨hA, hB, hC, hD, hE, hN, hG, hH, hI, hJ, hK, hL⟩ := id hCl18
    exact S_iret dX8_secret_27 rfl (Or.inl rfl) (by
      have hT9 : ThOK ρ18 N := by subst_vars; exact hT
      have e9 : secretF ρ e s = (((-1) : Int), ρ18) := (by unfold secretF; (repeat (first | rw [if_pos (by omega)] | rw [if_neg (by omega)])); subst_vars; all_goals rfl)
      rw [e9]
      exact ⟨rfl, Cs.par (Y := Y) ⟨sc, kn, hS18, hCl18⟩ hT9 rfl (fun t ht => if_neg (by have ht2 : t < thN ρ18 := ht; omega)), hF18, hB18.le (by omega) (by omega)⟩)
set_option maxRecDepth 100000 in
theorem c_keep {G : Ge} {M : Mem} {Y : (Nat → Bool) × (Nat → Bool)} {ρ : RS} (hCs : Cs Y ρ M) (e n m kk : Nat) (pl : Int) (he : (e : Int) < 2 * ρ.1 4) (hn : ρ.2 25 e = ↑n) (hn12 : n ≤ 12) (hkk : kk < thN ρ) (hm : Sk M m (ρ.2 19 e) pl ↑kk (ρ.1 30) (ρ.2 9 kk)) (hb : ∀ e1 : Nat, (e1 : Int) < 2 * ρ.1 4 → ρ.2 25 e1 ≤ 12) : Ct G mi_X1_keep [vR ((7, e)), vR ((19, m))] M (CP Y (keepR ρ e n pl ↑kk) 0 0 none M) := by
  refine Ct.of pl_X1_keep [some (vR ((7, e))), some (vR ((19, m)))] rfl (Nat.le_of_ble_eq_true rfl) ?_
  obtain ⟨sc, kn, hS, hCl⟩ := hCs
  have hF0 : Fr CLs M M := Fr.rf CLs M
  have hB0 : Bg 0 0 M M := Bg.rf M
  obtain ⟨hA, hB, hC, hD, hE, hN, hG, hH, hI, hJ, hK, hL⟩ := id hCl
  refine S_aload_n dX1_keep_0 rfl ?_
  refine S_getI (v := ↑n) fl_X1_40 dX1_keep_1 rfl rfl (by rw [(show M.I (7, e) 13 = ↑n from (show M.I (7, e) 13 = ρ.2 25 e from congrFun (hE.1 e (by omega)).2.1 13).trans hn)]) ?_
  refine S_bipush dX1_keep_4 (by decide) ?_
  refine S_icmp_lt 14 dX1_keep_6 (by decide) (by omega) (fun c_6 => ?_) (fun c_6 => ?_)
  · refine S_aload_n dX1_keep_14 rfl ?_
    refine S_getP (o := some (9, e)) fl_X1_23 dX1_keep_15 rfl rfl (by rw [(show M.P (7, e) 12 = some (9, e) from congrFun (hE.1 e (by omega)).2.2 12)]) ?_
    refine S_aload_n dX1_keep_18 rfl ?_
    refine S_getI (v := ↑n) fl_X1_40 dX1_keep_19 rfl rfl (by rw [(show M.I (7, e) 13 = ↑n from (show M.I (7, e) 13 = ρ.2 25 e from congrFun (hE.1 e (by omega)).2.1 13).trans hn)]) ?_
    refine S_aload_n dX1_keep_22 rfl ?_
    refine S_aast n dX1_keep_23 rfl (by decide) rfl rfl (by decide) rfl (by rw [(show M.len (9, e) = some 12 from (hH.1 e (by omega)).1)]) (by omega) (by omega) ?_
    refine Sf.nm (fun M1 hM1 => ?_)
    have hCl2 : Cl (Y.1, Y.2, sc, kn) ρ M1 := (by rw [hM1]; exact hCl.kepJ e n (some (19, m)) (by rw [hn]; exact Int.le_refl _))
    have hS2 : StpOK sc kn ρ := hS
    have hF2 : Fr CLs M M1 := (by rw [hM1]; exact hF0.trans (Fr.pP 9 e (by decide)))
    have hB2 : Bg 0 0 M M1 := (by rw [hM1]; exact (hB0.trans (Bg.pP _ 9 e _ _ (by decide))).le (by omega) (by omega))
    obtain ⟨hA, hB, hC, hD, hE, hN, hG, hH, hI, hJ, hK, hL⟩ := id hCl2
    have hmk : Sk M1 m (ρ.2 19 e) pl ↑kk (ρ.1 30) (ρ.2 9 kk) := by rw [hM1]; exact Obj.at hm (Fx.pP (19, m) (rne (by decide)))
    have hPk : M1.P (9, e) n = some (19, m) := by rw [hM1]; exact Mem.putP_eq
    refine S_aload_n dX1_keep_24 rfl ?_
    refine S_dup dX1_keep_25 ?_
    refine S_getI (v := ↑n) fl_X1_40 dX1_keep_26 rfl rfl (by rw [(show M1.I (7, e) 13 = ↑n from (show M1.I (7, e) 13 = ρ.2 25 e from congrFun (hE.1 e (by omega)).2.1 13).trans hn)]) ?_
    refine S_iconst dX1_keep_29 ?_
    refine S_iadd dX1_keep_30 ?_
    refine S_putI fl_X1_40 dX1_keep_31 rfl rfl rfl  (Or.inl rfl) ?_
    refine Sf.nm (fun M3 hM3 => ?_)
    obtain ⟨ρ4, e4⟩ : ∃ z9 : RS, z9 = (kp1 ρ e n pl (↑kk)) := ⟨_, rfl⟩
    have hCl4 : Cl (Y.1, Y.2, sc, kn) ρ4 M3 := (by rw [e4, hM3]; exact hCl2.kadd e (by omega) m n kk pl (by rw [hn]) (by omega) hPk hmk hkk hb)
    have hS4 : StpOK sc kn ρ4 := (by rw [e4]; exact hS2)
    have hF4 : Fr CLs M M3 := (by rw [hM3]; exact hF2.trans (Fr.pI 7 e (by decide)))
    have hB4 : Bg 0 0 M M3 := (by rw [hM3]; exact (hB2.trans (Bg.pI _ _ _ _)).le (by omega) (by omega))
    obtain ⟨hA, hB, hC, hD, hE, hN, hG, hH, hI, hJ, hK, hL⟩ := id hCl4
    exact S_vret dX1_keep_34 rfl (by
      have e9 : ρ4 = keepR ρ e n pl ↑kk := by
        unfold keepR
        rw [if_neg (by omega)]
        subst_vars
        rfl
      rw [e9] at hCl4 hS4
      exact ⟨rfl, ⟨sc, kn, hS4, hCl4⟩, hF4, hB4⟩)
  · refine S_aload_n dX1_keep_9 rfl ?_
    refine S_iconst dX1_keep_10 ?_
    obtain rfl : n = 12 := by omega
    refine S_callV (mi := mi_X1_keep) [vI 0] ok_X1_drop ml_X1_43 dX1_keep_11 rfl (by decide) rfl (by decide) rfl (Nat.le_of_ble_eq_true rfl) rfl (c_drop (show Cs Y ρ M from ⟨sc, kn, hS, hCl⟩) e 0 11 (by omega) (by omega) (by omega) hn hb) ?_
    rintro v' M5 ⟨⟨rfl, hCs5, hF5', hB5'⟩, hQ5⟩
    obtain ⟨ρ6, e6⟩ : ∃ z9 : RS, z9 = (dropR ρ e 0 11) := ⟨_, rfl⟩
    rw [← e6] at hCs5
    obtain ⟨sc, kn, hS6, hCl6⟩ := hCs5
    have hF6 : Fr CLs M M5 := hF0.trans hF5'
    have hB6 : Bg 0 0 M M5 := (hB0.trans hB5').le (by omega) (by omega)
    have s4_6 : ρ6.1 4 = ρ.1 4 := (by rw [e6, dropR_s])
    have s30_6 : ρ6.1 30 = ρ.1 30 := (by rw [e6, dropR_s])
    have t_6 : thN ρ6 = thN ρ := by rw [e6]; rfl
    obtain ⟨hA, hB, hC, hD, hE, hN, hG, hH, hI, hJ, hK, hL⟩ := id hCl6
    have hm1 : Sk M5 m (ρ.2 19 e) pl ↑kk (ρ.1 30) (ρ.2 9 kk) := Obj.fr hm hQ5 (show 19 ∉ [7, 9] by decide)
    have hb1 : ∀ e1 : Nat, (e1 : Int) < 2 * ρ6.1 4 → ρ6.2 25 e1 ≤ 12 := fun e1 h1 => by
      by_cases hee : e1 = e
      · rw [hee, e6, dropR_25]; decide
      · rw [e6, dropR_25n hee]; exact hb e1 (by omega)
    refine S_aload_n dX1_keep_14 rfl ?_
    refine S_getP (o := some (9, e)) fl_X1_23 dX1_keep_15 rfl rfl (by rw [(show M5.P (7, e) 12 = some (9, e) from congrFun (hE.1 e (by omega)).2.2 12)]) ?_
    refine S_aload_n dX1_keep_18 rfl ?_
    refine S_getI (v := 11) fl_X1_40 dX1_keep_19 rfl rfl (by rw [(show M5.I (7, e) 13 = 11 from (show M5.I (7, e) 13 = ρ6.2 25 e from congrFun (hE.1 e (by omega)).2.1 13).trans (by rw [e6, dropR_2511]))]) ?_
    refine S_aload_n dX1_keep_22 rfl ?_
    refine S_aast 11 dX1_keep_23 rfl (by decide) rfl rfl (by decide) rfl (by rw [(show M5.len (9, e) = some 12 from (hH.1 e (by omega)).1)]) (by omega) (by omega) ?_
    refine Sf.nm (fun M7 hM7 => ?_)
    have hCl8 : Cl (Y.1, Y.2, sc, kn) ρ6 M7 := (by rw [hM7]; exact hCl6.kepJ e 11 (some (19, m)) (by rw [e6, dropR_2511]; exact Int.le_refl _))
    have hS8 : StpOK sc kn ρ6 := hS6
    have hF8 : Fr CLs M M7 := (by rw [hM7]; exact hF6.trans (Fr.pP 9 e (by decide)))
    have hB8 : Bg 0 0 M M7 := (by rw [hM7]; exact (hB6.trans (Bg.pP _ 9 e _ _ (by decide))).le (by omega) (by omega))
    obtain ⟨hA, hB, hC, hD, hE, hN, hG, hH, hI, hJ, hK, hL⟩ := id hCl8
    have hmk : Sk M7 m (ρ.2 19 e) pl ↑kk (ρ.1 30) (ρ.2 9 kk) := by rw [hM7]; exact Obj.at hm1 (Fx.pP (19, m) (rne (by decide)))
    have hPk : M7.P (9, e) 11 = some (19, m) := by rw [hM7]; exact Mem.putP_eq
    refine S_aload_n dX1_keep_24 rfl ?_
    refine S_dup dX1_keep_25 ?_
    refine S_getI (v := 11) fl_X1_40 dX1_keep_26 rfl rfl (by rw [(show M7.I (7, e) 13 = 11 from (show M7.I (7, e) 13 = ρ6.2 25 e from congrFun (hE.1 e (by omega)).2.1 13).trans (by rw [e6, dropR_2511]))]) ?_
    refine S_iconst dX1_keep_29 ?_
    refine S_iadd dX1_keep_30 ?_
    refine S_putI fl_X1_40 dX1_keep_31 rfl rfl rfl  (Or.inl rfl) ?_
    refine Sf.nm (fun M9 hM9 => ?_)
    obtain ⟨ρ10, e10⟩ : ∃ z9 : RS, z9 = (kp1 ρ6 e 11 pl (↑kk)) := ⟨_, rfl⟩
    have hCl10 : Cl (Y.1, Y.2, sc, kn) ρ10 M9 := (by rw [e10, hM9]; exact hCl8.kadd e (by omega) m 11 kk pl (by rw [e6]; exact dropR_25) (by omega) hPk (by have q19 : ρ6.2 19 e = ρ.2 19 e := (by rw [e6, dropR_at _ _ _ _ _ _ (by omega)]); have q30 : ρ6.1 30 = ρ.1 30 := (by rw [e6, dropR_s]); have q9 : ρ6.2 9 kk = ρ.2 9 kk := (by rw [e6, dropR_at _ _ _ _ _ _ (by omega)]); rw [q19, q30, q9]; exact hmk) (by omega) hb1)
    have hS10 : StpOK sc kn ρ10 := (by rw [e10]; exact hS8)
    have hF10 : Fr CLs M M9 := (by rw [hM9]; exact hF8.trans (Fr.pI 7 e (by decide)))
    have hB10 : Bg 0 0 M M9 := (by rw [hM9]; exact (hB8.trans (Bg.pI _ _ _ _)).le (by omega) (by omega))
    obtain ⟨hA, hB, hC, hD, hE, hN, hG, hH, hI, hJ, hK, hL⟩ := id hCl10
    exact S_vret dX1_keep_34 rfl (by
      have e9 : ρ10 = keepR ρ e 12 pl ↑kk := by
        unfold keepR
        rw [if_pos rfl]
        subst_vars
        rfl
      rw [e9] at hCl10 hS10
      exact ⟨rfl, ⟨sc, kn, hS10, hCl10⟩, hF10, hB10⟩)
