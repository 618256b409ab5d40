/-! THE CLASS: an end takes a letter -/
theorem opV_cs (ρ : RS) (l : Nat) (key : Int) : (opV ρ l key = -1 ∧ mixF (ρ.1 0) key (byF ρ l key) ≠ ρ.2 36 l) ∨ (opV ρ l key = byF ρ l key ∧ 0 ≤ byF ρ l key ∧ byF ρ l key ≤ 255 ∧ mixF (ρ.1 0) key (byF ρ l key) = ρ.2 36 l) := by
  have hb := byF_bd ρ l key
  unfold opV
  by_cases h : mixF (ρ.1 0) key (byF ρ l key) = ρ.2 36 l
  · rw [if_pos h]; exact Or.inr ⟨rfl, hb.1, hb.2, h⟩
  · rw [if_neg h]; exact Or.inl ⟨rfl, h⟩
set_option maxRecDepth 100000 in
theorem c_takeByKept {G : Ge} {M : Mem} {Y : (Nat → Bool) × (Nat → Bool)} {ρ : RS} (hCs : Cs Y ρ M) (e : Nat) (l : Nat) (hl : (l : Int) < ρ.1 30) (h36 : 0 ≤ ρ.2 36 l ∧ ρ.2 36 l ≤ 10007) (i n1 : Nat) (he : (e : Int) < 2 * ρ.1 4) (hp : 0 ≤ ρ.1 4 ∧ ρ.1 4 ≤ 6) (h25 : ρ.2 25 e = ↑(n1 + 1)) (hn1 : n1 < 12) (hi : i ≤ n1) (hb : ∀ e1 : Nat, (e1 : Int) < 2 * ρ.1 4 → ρ.2 25 e1 ≤ 12) (hq : 3 ≤ ρ.1 0 ∧ ρ.1 0 ≤ 10007) (hwk : ∀ t, t < thN ρ → 0 ≤ ρ.2 9 t ∧ ρ.2 9 t ≤ 10007) : Ct G mi_X8_takeByKept [vR ((1, 0)), vR ((7, e)), vR ((12, l)), vI (↑i)] M (CP Y ((tkF ρ e l i).2) 0 0 (some (vI (tkF ρ e l i).1)) M) := by
  refine Ct.of pl_X8_takeByKept [some (vR ((1, 0))), some (vR ((7, e))), some (vR ((12, l))), some (vI (↑i)), none] rfl (Nat.le_of_ble_eq_true rfl) ?_
  obtain ⟨sc, kn, hS, hCl⟩ := hCs
  have hF0 : Fr CLs M M := Fr.rf CLs M
  have hB0 : Bg 0 0 M M := Bg.rf M
  obtain ⟨hA, hB, hC, hD, hE, hN, hG, hH, hI, hJ, hK, hL⟩ := id hCl
  obtain ⟨m, kk, q1, q2, q3, q4⟩ := (hH.1 e he).2 i (by omega)
  have hkw := hwk kk q3
  refine S_aload_n dX8_takeByKept_0 rfl ?_
  refine S_aload_n dX8_takeByKept_1 rfl ?_
  refine S_aload_n dX8_takeByKept_2 rfl ?_
  refine S_getP (o := some (9, e)) fl_X8_209 dX8_takeByKept_3 rfl rfl (by rw [(show M.P (7, e) 12 = some (9, e) from congrFun (hE.1 e (by omega)).2.2 12)]) ?_
  refine S_iload_n dX8_takeByKept_6 rfl ?_
  refine S_aald (o := some (19, m)) i dX8_takeByKept_7 rfl (by decide) rfl (by rw [(show M.len (9, e) = some 12 from (hH.1 e (by omega)).1)]) (by omega) (by omega) (by rw [q1]) ?_
  refine S_getI (v := ρ.2 9 kk) fl_X8_238 dX8_takeByKept_8 rfl rfl (by rw [(show M.I (19, m) 1 = ρ.2 9 kk from congrFun q4.2.1 1)]) ?_
  refine S_callV (mi := mi_X8_takeByKept) [vR ((12, l)), vI (ρ.2 9 kk)] ok_X8_opened ml_X8_313 dX8_takeByKept_11 rfl (by decide) rfl (by decide) rfl (Nat.le_of_ble_eq_true rfl) rfl (c_opened hCl l (ρ.2 9 kk) (by omega) hkw hq h36) ?_
  rintro v' M1 ⟨rfl, hM1⟩
  rw [hM1]
  clear hM1
  have hoc := opV_cs ρ l (ρ.2 9 kk)
  obtain ⟨ob, hob⟩ : ∃ z9 : Int, z9 = opV ρ l (ρ.2 9 kk) := ⟨_, rfl⟩
  rw [← hob] at hoc ⊢
  refine S_istore dX8_takeByKept_14 (by decide) ?_
  refine S_iload dX8_takeByKept_16 rfl ?_
  refine S_iconst dX8_takeByKept_18 ?_
  refine S_icmp_ne 29 dX8_takeByKept_19 (by decide) (by rcases hoc with q | q <;> omega) (fun c_19 => ?_) (fun c_19 => ?_)
  · refine S_aload_n dX8_takeByKept_29 rfl ?_
    refine S_iload_n dX8_takeByKept_30 rfl ?_
    refine S_callV (mi := mi_X8_takeByKept) [vI (↑i)] ok_X1_drop ml_X8_317 dX8_takeByKept_31 rfl (by decide) rfl (by decide) rfl (Nat.le_of_ble_eq_true rfl) rfl (c_drop (show Cs Y ρ M from ⟨sc, kn, hS, hCl⟩) e i n1 (by omega) (by omega) (by omega) h25 hb) ?_
    rintro v' M2 ⟨⟨rfl, hCs2, hF2', hB2'⟩, -⟩
    obtain ⟨ρ3, e3⟩ : ∃ z9 : RS, z9 = (dropR ρ e i n1) := ⟨_, rfl⟩
    rw [← e3] at hCs2
    obtain ⟨sc, kn, hS3, hCl3⟩ := hCs2
    have hF3 : Fr CLs M M2 := hF0.trans hF2'
    have hB3 : Bg 0 0 M M2 := (hB0.trans hB2').le (by omega) (by omega)
    have s4_3 : ρ3.1 4 = ρ.1 4 := (by rw [e3, dropR_s])
    have s30_3 : ρ3.1 30 = ρ.1 30 := (by rw [e3, dropR_s])
    have t_3 : thN ρ3 = thN ρ := by rw [e3]; rfl
    clear hA hB hC hD hE hN hG hH hI hJ hK hL
    obtain ⟨hA, hB, hC, hD, hE, hN, hG, hH, hI, hJ, hK, hL⟩ := id hCl3
    refine S_aload_n dX8_takeByKept_34 rfl ?_
    refine S_iload dX8_takeByKept_35 rfl ?_
    refine S_callV (mi := mi_X8_takeByKept) [vI ob] ok_X8_done ml_X8_69 dX8_takeByKept_37 rfl (by decide) rfl (by decide) rfl (Nat.le_of_ble_eq_true rfl) rfl (c_done (show Cs Y ρ3 M2 from ⟨sc, kn, hS3, hCl3⟩) ob) ?_
    rintro v' M4 ⟨rfl, hCs4, hF4', hB4'⟩
    obtain ⟨ρ5, e5⟩ : ∃ z9 : RS, z9 = (ρ3.setS 42 0) := ⟨_, rfl⟩
    rw [← e5] at hCs4
    obtain ⟨sc, kn, hS5, hCl5⟩ := hCs4
    have hF5 : Fr CLs M M4 := hF3.trans hF4'
    have hB5 : Bg 0 0 M M4 := (hB3.trans hB4').le (by omega) (by omega)
    have s4_5 : ρ5.1 4 = ρ.1 4 := (by rw [e5, RS.setS_ne (by decide), s4_3])
    have s30_5 : ρ5.1 30 = ρ.1 30 := (by rw [e5, RS.setS_ne (by decide), s30_3])
    have t_5 : thN ρ5 = thN ρ3 := by rw [e5]; rfl
    clear hA hB hC hD hE hN hG hH hI hJ hK hL hCl3 hS3 hF3 hB3
    obtain ⟨hA, hB, hC, hD, hE, hN, hG, hH, hI, hJ, hK, hL⟩ := id hCl5
    exact S_iret dX8_takeByKept_40 rfl (Or.inl rfl) (by
      have e9 : tkF ρ e l i = ((ob : Int), ρ5) := by
        unfold tkF
        rw [q2, Int.toNat_natCast]
        rw [if_neg (by rcases hoc with q | q; omega; exact fun z => z q.2.2.2), h25, Int.toNat_natCast]; rw [show (byF ρ l (ρ.2 9 kk)) = ob from by rcases hoc with q | q <;> omega]; clear hob; subst_vars; rfl
      rw [e9]
      exact ⟨rfl, ⟨sc, kn, hS5, hCl5⟩, hF5, hB5⟩)
  · refine S_aload_n dX8_takeByKept_22 rfl ?_
    refine S_bipush dX8_takeByKept_23 (by decide) ?_
    refine S_callV (mi := mi_X8_takeByKept) [vI 7] ok_X8_refuse ml_X8_54 dX8_takeByKept_25 rfl (by decide) rfl (by decide) rfl (Nat.le_of_ble_eq_true rfl) rfl (c_refuse (show Cs Y ρ M from ⟨sc, kn, hS, hCl⟩) 7) ?_
    rintro v' M6 ⟨rfl, hCs6, hF6', hB6'⟩
    obtain ⟨ρ7, e7⟩ : ∃ z9 : RS, z9 = (ρ.setS 42 7) := ⟨_, rfl⟩
    rw [← e7] at hCs6
    obtain ⟨sc, kn, hS7, hCl7⟩ := hCs6
    have hF7 : Fr CLs M M6 := hF0.trans hF6'
    have hB7 : Bg 0 0 M M6 := (hB0.trans hB6').le (by omega) (by omega)
    have s4_7 : ρ7.1 4 = ρ.1 4 := (by rw [e7, RS.setS_ne (by decide)])
    have s30_7 : ρ7.1 30 = ρ.1 30 := (by rw [e7, RS.setS_ne (by decide)])
    have t_7 : thN ρ7 = thN ρ := by rw [e7]; rfl
    clear hA hB hC hD hE hN hG hH hI hJ hK hL
    obtain ⟨hA, hB, hC, hD, hE, hN, hG, hH, hI, hJ, hK, hL⟩ := id hCl7
    exact S_iret dX8_takeByKept_28 rfl (Or.inl rfl) (by
      have e9 : tkF ρ e l i = (((-1) : Int), ρ7) := by
        unfold tkF
        rw [q2, Int.toNat_natCast]
        rw [if_pos (by rcases hoc with q | q; exact q.2; omega)]; subst_vars; rfl
      rw [e9]
      exact ⟨rfl, ⟨sc, kn, hS7, hCl7⟩, hF7, hB7⟩)
set_option maxRecDepth 100000 in
theorem c_takeByChain {G : Ge} {M : Mem} {Y : (Nat → Bool) × (Nat → Bool)} {ρ : RS} (hCs : Cs Y ρ M) (N : Nat) (hTI : TI Y.2 ρ N) (hNb : N < 7900) (e : Nat) (l : Nat) (hl : (l : Int) < ρ.1 30) (h36 : 0 ≤ ρ.2 36 l ∧ ρ.2 36 l ≤ 10007) (pl pa c : Nat) (he : (e : Int) < 2 * ρ.1 4) (hp : 0 ≤ ρ.1 4 ∧ ρ.1 4 ≤ 6) (hm : 0 ≤ ρ.1 2 ∧ ρ.1 2 ≤ 12) (hst : Y.1 e = true) (h34 : ρ.2 34 l = ↑pl) (hpl : pl ≤ 300) (h22 : ρ.2 22 e = ↑pa) (hpa : pa ≤ 301) (h18 : ρ.2 18 e = ↑c) (hcl : c < thN ρ) (hck : ρ.2 6 c = 1) (hKo : KOK ρ) (h19 : -1 ≤ ρ.2 19 e ∧ ρ.2 19 e ≤ 10007) (hl30 : 0 ≤ ρ.1 30 ∧ ρ.1 30 ≤ 300) (hRm : Rm 64 352 M) : Ct G mi_X8_takeByChain [vR ((1, 0)), vR ((7, e)), vR ((12, l))] M (CP Y ((furF ρ e l).2) 64 352 (some (vI (furF ρ e l).1)) M) := by
  refine Ct.of pl_X8_takeByChain [some (vR ((1, 0))), some (vR ((7, e))), some (vR ((12, l))), none, none] rfl (Nat.le_of_ble_eq_true rfl) ?_
  obtain ⟨sc, kn, hS, hCl⟩ := hCs
  have hF0 : Fr CLs M M := Fr.rf CLs M
  have hB0 : Bg 0 0 M M := Bg.rf M
  obtain ⟨hA, hB, hC, hD, hE, hN, hG, hH, hI, hJ, hK, hL⟩ := id hCl
  have hq := hTI.1.2.2.1
  have hl8 := hTI.1.2.1
  have hcw := (hTI.1.2.2.2.2 c hcl).2.2.2
  refine S_aload_n dX8_takeByChain_0 rfl ?_
  refine S_callV (mi := mi_X8_takeByChain) [] ok_X2_place ml_X8_242 dX8_takeByChain_1 rfl (by decide) rfl (by decide) rfl (Nat.le_of_ble_eq_true rfl) rfl ((by have h := c_place (G := G) hCl l (by omega); rw [h34] at h; exact h)) ?_
  rintro v' M1 ⟨rfl, hM1⟩
  rw [hM1]
  clear hM1
  refine S_aload_n dX8_takeByChain_4 rfl ?_
  refine S_getI (v := ↑pa) fl_X8_231 dX8_takeByChain_5 rfl rfl (by rw [(show M.I (7, e) 11 = ↑pa from (show M.I (7, e) 11 = ρ.2 22 e from congrFun (hE.1 e (by omega)).2.1 11).trans h22)]) ?_
  refine S_icmp_ge 17 dX8_takeByChain_8 (by decide) (by omega) (fun c_8 => ?_) (fun c_8 => ?_)
  · refine S_aload_n dX8_takeByChain_17 rfl ?_
    refine S_callV (mi := mi_X8_takeByChain) [] ok_X2_place ml_X8_242 dX8_takeByChain_18 rfl (by decide) rfl (by decide) rfl (Nat.le_of_ble_eq_true rfl) rfl ((by have h := c_place (G := G) hCl l (by omega); rw [h34] at h; exact h)) ?_
    rintro v' M2 ⟨rfl, hM2⟩
    rw [hM2]
    clear hM2
    refine S_aload_n dX8_takeByChain_21 rfl ?_
    refine S_getI (v := ↑pa) fl_X8_231 dX8_takeByChain_22 rfl rfl (by rw [(show M.I (7, e) 11 = ↑pa from (show M.I (7, e) 11 = ρ.2 22 e from congrFun (hE.1 e (by omega)).2.1 11).trans h22)]) ?_
    refine S_isub dX8_takeByChain_25 ?_
    refine S_istore_n dX8_takeByChain_26 (by decide) ?_
    refine S_iload_n dX8_takeByChain_27 rfl ?_
    refine S_aload_n dX8_takeByChain_28 rfl ?_
    refine S_getI (v := ρ.1 2) fl_X8_47 dX8_takeByChain_29 rfl rfl (by rw [(show M.I (1, 0) 8 = ρ.1 2 from (show M.I (1, 0) 8 = ρ.1 2 from congrFun hA.2.1 8))]) ?_
    refine S_icmp_le 41 dX8_takeByChain_32 (by decide) (by omega) (fun c_32 => ?_) (fun c_32 => ?_)
    · obtain ⟨d, hd⟩ : ∃ d : Nat, pl = pa + d := ⟨pl - pa, by omega⟩
      rw [show ((↑pl : Int) - ↑pa) = ↑d from by omega]
      refine S_aload_n dX8_takeByChain_41 rfl ?_
      refine S_aload_n dX8_takeByChain_42 rfl ?_
      refine S_aload_n dX8_takeByChain_43 rfl ?_
      refine S_aload_n dX8_takeByChain_44 rfl ?_
      refine S_getP (o := some (18, c)) fl_X8_192 dX8_takeByChain_45 rfl rfl (by rw [(show M.P (7, e) 7 = some (18, c) from (congrFun (hE.1 e (by omega)).2.2 7).trans ((if_pos hst).trans (qx_of h18)))]) ?_
      refine S_getI (v := ρ.2 9 c) fl_X8_131 dX8_takeByChain_48 rfl rfl (by rw [(show M.I (18, c) 1 = ρ.2 9 c from (show M.I (18, c) 1 = ρ.2 9 c from congrFun (hD.1 c (by omega)).2.1 1))]) ?_
      refine S_iload_n dX8_takeByChain_51 rfl ?_
      refine S_callV (mi := mi_X8_takeByChain) [vI (ρ.2 9 c), vI (↑d)] ok_X8_keyAhead ml_X8_320 dX8_takeByChain_52 rfl (by decide) rfl (by decide) rfl (Nat.le_of_ble_eq_true rfl) rfl (c_keyAhead hCl (ρ.2 9 c) d hcw (by omega) hq) ?_
      rintro v' M3 ⟨rfl, hM3⟩
      rw [hM3]
      clear hM3
      have hkey : 0 ≤ kbV (ρ.1 0) (ρ.2 9 c) d ∧ kbV (ρ.1 0) (ρ.2 9 c) d ≤ 10007 := mixv hq (kbF_bd (by omega) hcw d).1 (by decide)
      obtain ⟨key, ek⟩ : ∃ z9 : Int, z9 = kbV (ρ.1 0) (ρ.2 9 c) d := ⟨_, rfl⟩
      rw [← ek] at hkey ⊢
      have hkv : kvF ρ e l = key := by unfold kvF; rw [h18, h34, h22, Int.toNat_natCast, show ((↑pl : Int) - ↑pa).toNat = d from by omega, ek]
      have hdn : (ρ.2 34 l - ρ.2 22 e).toNat = d := by omega
      refine S_callV (mi := mi_X8_takeByChain) [vR ((12, l)), vI key] ok_X8_opened ml_X8_313 dX8_takeByChain_55 rfl (by decide) rfl (by decide) rfl (Nat.le_of_ble_eq_true rfl) rfl (c_opened hCl l key (by omega) hkey hq h36) ?_
      rintro v' M4 ⟨rfl, hM4⟩
      rw [hM4]
      clear hM4
      have hoc := opV_cs ρ l key
      obtain ⟨ob, hob⟩ : ∃ z9 : Int, z9 = opV ρ l key := ⟨_, rfl⟩
      rw [← hob] at hoc ⊢
      refine S_istore dX8_takeByChain_58 (by decide) ?_
      refine S_iload dX8_takeByChain_60 rfl ?_
      refine S_iconst dX8_takeByChain_62 ?_
      refine S_icmp_ne 73 dX8_takeByChain_63 (by decide) (by rcases hoc with q | q <;> omega) (fun c_63 => ?_) (fun c_63 => ?_)
      · refine S_aload_n dX8_takeByChain_73 rfl ?_
        refine S_aload_n dX8_takeByChain_74 rfl ?_
        refine S_aload_n dX8_takeByChain_75 rfl ?_
        refine S_callV (mi := mi_X8_takeByChain) [] ok_X2_place ml_X8_242 dX8_takeByChain_76 rfl (by decide) rfl (by decide) rfl (Nat.le_of_ble_eq_true rfl) rfl ((by have h := c_place (G := G) hCl l (by omega); rw [h34] at h; exact h)) ?_
        rintro v' M5 ⟨rfl, hM5⟩
        rw [hM5]
        clear hM5
        have hO6 : SkOK ρ e (N) pa := ⟨hTI.1, hKo, ⟨c, h18, hcl⟩, h19, hl30, h22⟩
        have hc6 : ∃ c : Nat, ρ.2 18 e = ↑c ∧ c < thN ρ ∧ ρ.2 6 c = 1 := ⟨c, h18, hcl, hck⟩
        refine S_callV (mi := mi_X8_takeByChain) [vR ((7, e)), vI (↑pl)] ok_X8_skipTo ml_X8_323 dX8_takeByChain_79 rfl (by decide) rfl (by decide) rfl (Nat.le_of_ble_eq_true rfl) rfl (c_skipTo (G := G) (show Cs Y ρ M from ⟨sc, kn, hS, hCl⟩) e pl d pa (N) (by omega) (by omega) (by omega) hst (by omega) (by omega) hO6 hTI hc6 (hRm.sub hB0 (by omega) (by omega))) ?_
        rintro v' M7 ⟨rfl, hCs7, hF7', hB7'⟩
        obtain ⟨ρ8, e8⟩ : ∃ z9 : RS, z9 = (skF ρ e d) := ⟨_, rfl⟩
        rw [← e8] at hCs7
        have q8 := SkT.many (par := Y.2) (e := e) (by omega) d (by omega) (by omega) ⟨hO6, hTI, hc6⟩
        rw [← e8] at q8
        obtain ⟨⟨O8, hTI8, c8, h188, hcl8, hck8⟩, G8⟩ := q8
        have g8 := G8.1
        obtain ⟨sc, kn, hS8, hCl8⟩ := hCs7
        have hF8 : Fr CLs M M7 := hF0.trans hF7'
        have hB8 : Bg (5 * d) (28 * d) M M7 := (hB0.trans hB7').le (by omega) (by omega)
        have s4_8 : ρ8.1 4 = ρ.1 4 := (by rw [e8, skF_s (by decide)])
        have s30_8 : ρ8.1 30 = ρ.1 30 := (by rw [e8, skF_s (by decide)])
        clear hA hB hC hD hE hN hG hH hI hJ hK hL
        obtain ⟨hA, hB, hC, hD, hE, hN, hG, hH, hI, hJ, hK, hL⟩ := id hCl8
        refine S_aload_n dX8_takeByChain_82 rfl ?_
        refine S_aload_n dX8_takeByChain_83 rfl ?_
        refine S_callV (mi := mi_X8_takeByChain) [vR ((7, e))] ok_X8_passOne ml_X8_327 dX8_takeByChain_84 rfl (by decide) rfl (by decide) rfl (Nat.le_of_ble_eq_true rfl) rfl (c_passOne (G := G) (show Cs Y ρ8 M7 from ⟨sc, kn, hS8, hCl8⟩) (by omega) (N + 2 * d) hTI8 (by omega) e c8 (by omega) hst h188 hcl8 hck8 (hRm.sub hB8 (by omega) (by omega))) ?_
        rintro v' M9 ⟨rfl, hCs9, hF9', hB9'⟩
        obtain ⟨ρ10, e10⟩ : ∃ z9 : RS, z9 = (opR ρ8 e c8) := ⟨_, rfl⟩
        rw [← e10] at hCs9
        have q10 := hTI8.op (e := e) hcl8
        rw [← e10] at q10
        obtain ⟨hTI10, G10⟩ := q10
        have g10 := G10.1
        obtain ⟨sc, kn, hS10, hCl10⟩ := hCs9
        have hF10 : Fr CLs M M9 := hF8.trans hF9'
        have hB10 : Bg (5 * d + 4) (28 * d + 16) M M9 := (hB8.trans hB9').le (by omega) (by omega)
        have s4_10 : ρ10.1 4 = ρ.1 4 := (by rw [e10, opR_s (by decide), s4_8])
        have s30_10 : ρ10.1 30 = ρ.1 30 := (by rw [e10, opR_s (by decide), s30_8])
        clear hA hB hC hD hE hN hG hH hI hJ hK hL hCl8 hS8 hF8 hB8
        obtain ⟨hA, hB, hC, hD, hE, hN, hG, hH, hI, hJ, hK, hL⟩ := id hCl10
        refine S_aload_n dX8_takeByChain_87 rfl ?_
        refine S_iload dX8_takeByChain_88 rfl ?_
        refine S_callV (mi := mi_X8_takeByChain) [vI ob] ok_X8_done ml_X8_69 dX8_takeByChain_90 rfl (by decide) rfl (by decide) rfl (Nat.le_of_ble_eq_true rfl) rfl (c_done (show Cs Y ρ10 M9 from ⟨sc, kn, hS10, hCl10⟩) ob) ?_
        rintro v' M11 ⟨rfl, hCs11, hF11', hB11'⟩
        obtain ⟨ρ12, e12⟩ : ∃ z9 : RS, z9 = (ρ10.setS 42 0) := ⟨_, rfl⟩
        rw [← e12] at hCs11
        obtain ⟨sc, kn, hS12, hCl12⟩ := hCs11
        have hF12 : Fr CLs M M11 := hF10.trans hF11'
        have hB12 : Bg (5 * d + 4) (28 * d + 16) M M11 := (hB10.trans hB11').le (by omega) (by omega)
        have s4_12 : ρ12.1 4 = ρ.1 4 := (by rw [e12, RS.setS_ne (by decide), s4_10])
        have s30_12 : ρ12.1 30 = ρ.1 30 := (by rw [e12, RS.setS_ne (by decide), s30_10])
        have t_12 : thN ρ12 = thN ρ10 := by rw [e12]; rfl
        clear hA hB hC hD hE hN hG hH hI hJ hK hL hCl10 hS10 hF10 hB10
        obtain ⟨hA, hB, hC, hD, hE, hN, hG, hH, hI, hJ, hK, hL⟩ := id hCl12
        exact S_iret dX8_takeByChain_93 rfl (Or.inl rfl) (by
      have e9 : furF ρ e l = ((ob : Int), ρ12) := by
        unfold furF
        rw [if_neg (by omega), if_neg (by omega), hkv, if_neg (by rcases hoc with q | q; omega; exact fun z => z q.2.2.2)]
        unfold fuG
        rw [hdn, ← e8, h188, Int.toNat_natCast, ← e10, e12, show byF ρ l key = ob from by rcases hoc with q | q <;> omega]
      rw [e9]
      exact ⟨rfl, ⟨sc, kn, hS12, hCl12⟩, hF12, hB12.le (by omega) (by omega)⟩)
      · refine S_aload_n dX8_takeByChain_66 rfl ?_
        refine S_bipush dX8_takeByChain_67 (by decide) ?_
        refine S_callV (mi := mi_X8_takeByChain) [vI 7] ok_X8_refuse ml_X8_54 dX8_takeByChain_69 rfl (by decide) rfl (by decide) rfl (Nat.le_of_ble_eq_true rfl) rfl (c_refuse (show Cs Y ρ M from ⟨sc, kn, hS, hCl⟩) 7) ?_
        rintro v' M13 ⟨rfl, hCs13, hF13', hB13'⟩
        obtain ⟨ρ14, e14⟩ : ∃ z9 : RS, z9 = (ρ.setS 42 7) := ⟨_, rfl⟩
        rw [← e14] at hCs13
        obtain ⟨sc, kn, hS14, hCl14⟩ := hCs13
        have hF14 : Fr CLs M M13 := hF0.trans hF13'
        have hB14 : Bg 0 0 M M13 := (hB0.trans hB13').le (by omega) (by omega)
        have s4_14 : ρ14.1 4 = ρ.1 4 := (by rw [e14, RS.setS_ne (by decide)])
        have s30_14 : ρ14.1 30 = ρ.1 30 := (by rw [e14, RS.setS_ne (by decide)])
        have t_14 : thN ρ14 = thN ρ := by rw [e14]; rfl
        clear hA hB hC hD hE hN hG hH hI hJ hK hL
        obtain ⟨hA, hB, hC, hD, hE, hN, hG, hH, hI, hJ, hK, hL⟩ := id hCl14
        exact S_iret dX8_takeByChain_72 rfl (Or.inl rfl) (by
      have e9 : furF ρ e l = (((-1) : Int), ρ14) := by
        unfold furF
        rw [if_neg (by omega), if_neg (by omega), hkv, if_pos (by rcases hoc with q | q; exact q.2; omega), e14]
      rw [e9]
      exact ⟨rfl, ⟨sc, kn, hS14, hCl14⟩, hF14, hB14.le (by omega) (by omega)⟩)
    · refine S_aload_n dX8_takeByChain_35 rfl ?_
      refine S_iconst dX8_takeByChain_36 ?_
      refine S_callV (mi := mi_X8_takeByChain) [vI 5] ok_X8_refuse ml_X8_54 dX8_takeByChain_37 rfl (by decide) rfl (by decide) rfl (Nat.le_of_ble_eq_true rfl) rfl (c_refuse (show Cs Y ρ M from ⟨sc, kn, hS, hCl⟩) 5) ?_
      rintro v' M15 ⟨rfl, hCs15, hF15', hB15'⟩
      obtain ⟨ρ16, e16⟩ : ∃ z9 : RS, z9 = (ρ.setS 42 5) := ⟨_, rfl⟩
      rw [← e16] at hCs15
      obtain ⟨sc, kn, hS16, hCl16⟩ := hCs15
      have hF16 : Fr CLs M M15 := hF0.trans hF15'
      have hB16 : Bg 0 0 M M15 := (hB0.trans hB15').le (by omega) (by omega)
      have s4_16 : ρ16.1 4 = ρ.1 4 := (by rw [e16, RS.setS_ne (by decide)])
      have s30_16 : ρ16.1 30 = ρ.1 30 := (by rw [e16, RS.setS_ne (by decide)])
      have t_16 : thN ρ16 = thN ρ := by rw [e16]; rfl
      clear hA hB hC hD hE hN hG hH hI hJ hK hL
      obtain ⟨hA, hB, hC, hD, hE, hN, hG, hH, hI, hJ, hK, hL⟩ := id hCl16
      exact S_iret dX8_takeByChain_40 rfl (Or.inl rfl) (by
      have e9 : furF ρ e l = (((-1) : Int), ρ16) := by
        unfold furF
        rw [if_neg (by omega), if_pos (by omega), e16]
      rw [e9]
      exact ⟨rfl, ⟨sc, kn, hS16, hCl16⟩, hF16, hB16.le (by omega) (by omega)⟩)
  · refine S_aload_n dX8_takeByChain_11 rfl ?_
    refine S_iconst dX8_takeByChain_12 ?_
    refine S_callV (mi := mi_X8_takeByChain) [vI 4] ok_X8_refuse ml_X8_54 dX8_takeByChain_13 rfl (by decide) rfl (by decide) rfl (Nat.le_of_ble_eq_true rfl) rfl (c_refuse (show Cs Y ρ M from ⟨sc, kn, hS, hCl⟩) 4) ?_
    rintro v' M17 ⟨rfl, hCs17, hF17', hB17'⟩
    obtain ⟨ρ18, e18⟩ : ∃ z9 : RS, z9 = (ρ.setS 42 4) := ⟨_, rfl⟩
    rw [← e18] at hCs17
    obtain ⟨sc, kn, hS18, hCl18⟩ := hCs17
    have hF18 : Fr CLs M M17 := hF0.trans hF17'
    have hB18 : Bg 0 0 M M17 := (hB0.trans hB17').le (by omega) (by omega)
    have s4_18 : ρ18.1 4 = ρ.1 4 := (by rw [e18, RS.setS_ne (by decide)])
    have s30_18 : ρ18.1 30 = ρ.1 30 := (by rw [e18, RS.setS_ne (by decide)])
    have t_18 : thN ρ18 = thN ρ := by rw [e18]; rfl
    clear hA hB hC hD hE hN hG hH hI hJ hK hL
    obtain ⟨hA, hB, hC, hD, hE, hN, hG, hH, hI, hJ, hK, hL⟩ := id hCl18
    exact S_iret dX8_takeByChain_16 rfl (Or.inl rfl) (by
      have e9 : furF ρ e l = (((-1) : Int), ρ18) := by
        unfold furF
        rw [if_pos (by omega), e18]
      rw [e9]
      exact ⟨rfl, ⟨sc, kn, hS18, hCl18⟩, hF18, hB18.le (by omega) (by omega)⟩)
