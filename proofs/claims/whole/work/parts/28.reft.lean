/-! THE REFERENCE: anew, the last stage -/
def leR (ρ : RS) (e : Nat) : RS := if ρ.2 19 e = -1 then ρ else (ρ.setA 24 (600 * e + (ρ.2 23 e).toNat) (ρ.2 19 e)).setA 23 e (ρ.2 23 e + 1)
def anB1 (ρ : RS) (e r : Nat) (P : Int) : RS := ((chR (ρ.setA 19 e P) r).setA 18 e ↑(chI (ρ.setA 19 e P) r)).setA 22 e 0
def anB3 (ρ : RS) (e n t : Nat) : RS := (nextR ρ e n).setA 15 e t
def anB4 (ρ : RS) (e r t z : Nat) : RS := (rmR ρ r t z).setA 16 e ↑(rmI ρ r t z)
def anB5 (ρ : RS) (e s : Nat) (v : Int) : RS := (((chR ρ s).setA 17 e ↑(chI ρ s)).setA 21 e v).setA 20 e 0
def anB6 (ρ : RS) (e r n t z : Nat) (v : Int) : RS := anB5 (anB4 (anB3 ρ e n t) e r t z) e (rmI (anB3 ρ e n t) r t z) v
def anC (ρ : RS) (e r pl n t z : Nat) (P : Int) : RS := anB6 (fuG (anB1 ρ e r P) e pl) e r n t z (ρ.2 20 e)
set_option maxRecDepth 100000 in
theorem an_c {G : Ge} {ρ : RS} {M0 : Mem} (e l r pl n t z N : Nat) (P key : Int) (x3 x4 x5 : Option AVal) (he : e < 12) (hl : l < 300) (h : ThOK ρ N) (hN : N < 7900) (hK : KOK ρ) (hl30 : 0 ≤ ρ.1 30 ∧ ρ.1 30 ≤ 300) (hr : r < thN ρ) (h32 : ρ.2 32 l = P) (hP : -1 ≤ P ∧ P ≤ 10007) (h34 : ρ.2 34 l = ↑pl) (hpl : pl ≤ 12) (h38 : ρ.2 38 l = ↑z) (hz : z < thN ρ) (hwz : ρ.2 9 z ≤ 10000) (h12 : ρ.2 12 e = ↑(n + 1)) (hn : n < 12) (h13 : ρ.2 13 (12 * e) = ↑t) (htl : t < thN ρ) (hwt : ρ.2 9 t ≤ 10000) (ht : 0 ≤ ρ.2 35 l ∧ ρ.2 35 l ≤ 255) (hkey : 0 ≤ key ∧ key ≤ 10007) (M : Mem) (hR : Rf ρ M) (hS : SameR M0 M) : Sf G mi_X9_anew (fun v' M' => v' = some (vI (byF ρ l key)) ∧ Rf ((anC ρ e r pl n t z P).setS 42 0) M' ∧ SameR M0 M') 271 [some (vR ((30, 0))), some (vI (↑e)), some (vI (↑l)), x3, x4, x5, some (vI key), some (vI (↑r))] [] M := by
  have hl8 := h.2.1
  refine S_aload_n dX9_anew_271 rfl ?_
  refine S_getP fl_X9_63 dX9_anew_272 rfl rfl (hR.p 19 rfl) ?_
  refine S_iload_n dX9_anew_275 rfl ?_
  refine S_aload_n dX9_anew_276 rfl ?_
  refine S_getP fl_X9_99 dX9_anew_277 rfl rfl (hR.p 32 rfl) ?_
  refine S_iload_n dX9_anew_280 rfl ?_
  refine R_ald (v := P) l hR dX9_anew_281 rfl rfl (by omega) (show _ < 300 from by omega) (by rw [h32]) ?_
  refine R_ast e dX9_anew_282 rfl rfl (by omega) (show _ < 12 from by omega) hR hS (fun M1 hR1 hS1 => ?_)
  refine S_aload_n dX9_anew_283 rfl ?_
  refine S_getP fl_X9_60 dX9_anew_284 rfl rfl (hR1.p 18 rfl) ?_
  refine S_iload_n dX9_anew_287 rfl ?_
  refine S_aload_n dX9_anew_288 rfl ?_
  refine S_iload dX9_anew_289 rfl ?_
  obtain ⟨ρ2, e2⟩ : ∃ x : RS, x = (ρ.setA 19 e P) := ⟨_, rfl⟩
  rw [← e2] at hR1
  have hT3 : ThOK ρ2 N := h.congr ⟨(by rw [e2, RS.setA_s]), (by rw [e2, RS.setA_s]), (by rw [e2, RS.setA_s])⟩ (fun k j a1 a2 => (by rw [e2, RS.setA_ne (Or.inl (by omega))]))
  have g3 : thN ρ2 = thN ρ := thN_congr (by rw [e2, RS.setA_s])
  refine S_callV (mi := mi_X9_anew) [vI (↑r)] ok_X9_chainOf ml_X9_185 dX9_anew_291 rfl (by decide) rfl (by decide) rfl (Nat.le_of_ble_eq_true rfl) rfl (r_X9_chainOf (ρ := ρ2) r (N) hT3 (by omega) (by omega) M1 hR1) ?_
  rintro v' M5 ⟨rfl, hR5, hS5'⟩
  have hS5 := hS1.trans hS5'
  obtain ⟨ρ6, e6⟩ : ∃ x : RS, x = (chR ρ2 r) := ⟨_, rfl⟩
  rw [← e6] at hR5
  obtain ⟨c4, ec4⟩ : ∃ x : Nat, x = chI ρ2 r := ⟨_, rfl⟩
  rw [← ec4]
  have q7 : ThOK (chR ρ2 r) (N + 1) ∧ chI ρ2 r < thN (chR ρ2 r) ∧ thN ρ2 ≤ thN (chR ρ2 r) := hT3.ch (by omega)
  rw [← e6, ← ec4] at q7
  obtain ⟨hT7, hi7, g7⟩ := q7
  refine R_ast e dX9_anew_294 rfl rfl (by omega) (show _ < 12 from by omega) hR5 hS5 (fun M8 hR8 hS8 => ?_)
  refine S_aload_n dX9_anew_295 rfl ?_
  refine S_getP fl_X9_72 dX9_anew_296 rfl rfl (hR8.p 22 rfl) ?_
  refine S_iload_n dX9_anew_299 rfl ?_
  refine S_iconst dX9_anew_300 ?_
  refine R_ast e dX9_anew_301 rfl rfl (by omega) (show _ < 12 from by omega) hR8 hS8 (fun M9 hR9 hS9 => ?_)
  refine S_aload_n dX9_anew_302 rfl ?_
  refine S_iload_n dX9_anew_303 rfl ?_
  refine S_aload_n dX9_anew_304 rfl ?_
  refine S_getP fl_X9_105 dX9_anew_305 rfl rfl (hR9.p 34 rfl) ?_
  refine S_iload_n dX9_anew_308 rfl ?_
  refine R_ald (v := ↑pl) l hR9 dX9_anew_309 rfl rfl (by omega) (show _ < 300 from by omega) (by rw [RS.setA_ne (Or.inl (by decide)), RS.setA_ne (Or.inl (by decide)), e6, thR_old_at _ _ _ _ _ _ _ (Or.inr (by decide)), e2, RS.setA_ne (Or.inl (by decide)), h34]) ?_
  obtain ⟨ρ10, e10⟩ : ∃ x : RS, x = ((ρ6.setA 18 e (↑c4)).setA 22 e 0) := ⟨_, rfl⟩
  rw [← e10] at hR9
  have hT12 : ThOK ρ10 (N + 1) := hT7.congr ⟨(by rw [e10, RS.setA_s, RS.setA_s]), (by rw [e10, RS.setA_s, RS.setA_s]), (by rw [e10, RS.setA_s, RS.setA_s])⟩ (fun k j a1 a2 => (by rw [e10, RS.setA_ne (Or.inl (by omega)), RS.setA_ne (Or.inl (by omega))]))
  have g12 : thN ρ10 = thN ρ6 := thN_congr (by rw [e10, RS.setA_s, RS.setA_s])
  have hO11 : SkOK ρ10 e (N + 1) 0 := ⟨hT12, hK.congr (fun k j a1 a2 => (by rw [e10, RS.setA_ne (Or.inl (by omega)), RS.setA_ne (Or.inl (by omega)), e6, thR_old_at _ _ _ _ _ _ _ (Or.inr (by omega)), e2, RS.setA_ne (Or.inl (by omega))])), ⟨c4, (by rw [e10, RS.setA_ne (Or.inl (by decide)), RS.setA_eq]), by omega⟩, by rw [e10, RS.setA_ne (Or.inl (by decide)), RS.setA_ne (Or.inl (by decide)), e6, thR_old_at _ _ _ _ _ _ _ (Or.inr (by decide)), e2, RS.setA_eq]; exact hP, by rw [e10, RS.setA_s, RS.setA_s, e6, thR_s _ _ _ _ _ _ (by decide), e2, RS.setA_s]; exact hl30, ((by rw [e10, RS.setA_eq]) : ρ10.2 22 e = 0).trans rfl⟩
  refine S_callV (mi := mi_X9_anew) [vI (↑e), vI (↑pl)] ok_X9_skip ml_X9_222 dX9_anew_310 rfl (by decide) rfl (by decide) rfl (Nat.le_of_ble_eq_true rfl) rfl (r_X9_skip (ρ := ρ10) e pl pl (N + 1) 0 (by omega) (by omega) (by omega) (by omega) hO11 M9 hR9) ?_
  rintro v' M13 ⟨rfl, hR13, hS13'⟩
  have hS13 := hS9.trans hS13'
  obtain ⟨ρ14, e14⟩ : ∃ x : RS, x = (skF ρ10 e pl) := ⟨_, rfl⟩
  rw [← e14] at hR13
  have q15 := skF_ok (by omega) pl (by omega) (by omega) hO11
  rw [← e14] at q15
  obtain ⟨O15, G15⟩ := q15
  have hT15 : ThOK ρ14 (N + 1 + 2 * pl) := O15.1
  have g15 := G15.1
  refine S_aload_n dX9_anew_313 rfl ?_
  refine S_iload_n dX9_anew_314 rfl ?_
  obtain ⟨c15, h1815, hcl15⟩ := O15.2.2.1
  refine S_callV (mi := mi_X9_anew) [vI (↑e)] ok_X9_opened ml_X9_225 dX9_anew_315 rfl (by decide) rfl (by decide) rfl (Nat.le_of_ble_eq_true rfl) rfl (r_X9_opened (ρ := ρ14) e c15 (N + 1 + 2 * pl) hT15 (by omega) (by omega) h1815 hcl15 M13 hR13) ?_
  rintro v' M16 ⟨rfl, hR16, hS16'⟩
  have hS16 := hS13.trans hS16'
  obtain ⟨ρ17, e17⟩ : ∃ x : RS, x = (opR ρ14 e c15) := ⟨_, rfl⟩
  rw [← e17] at hR16
  have q18 : ThOK (opR ρ14 e c15) (N + 1 + 2 * pl + 2) ∧ Gx ρ14 (opR ρ14 e c15) ∧ ∃ c' : Nat, (opR ρ14 e c15).2 18 e = ↑c' ∧ c' < thN (opR ρ14 e c15) := opR_ok (e := e) hT15 hcl15
  rw [← e17] at q18
  obtain ⟨hT18, G18, -⟩ := q18
  have g18 := G18.1
  refine S_aload_n dX9_anew_318 rfl ?_
  refine S_getP fl_X9_51 dX9_anew_319 rfl rfl (hR16.p 15 rfl) ?_
  refine S_iload_n dX9_anew_322 rfl ?_
  refine S_aload_n dX9_anew_323 rfl ?_
  refine S_iload_n dX9_anew_324 rfl ?_
  refine S_callV (mi := mi_X9_anew) [vI (↑e)] ok_X9_next ml_X9_176 dX9_anew_325 rfl (by decide) rfl (by decide) rfl (Nat.le_of_ble_eq_true rfl) rfl (r_X9_next (ρ := ρ17) e n (by omega) (by omega) (by rw [e17, opR_at (by omega), e14, skF_at (by omega), e10, RS.setA_ne (Or.inl (by decide)), RS.setA_ne (Or.inl (by decide)), e6, thR_old_at _ _ _ _ _ _ _ (Or.inr (by decide)), e2, RS.setA_ne (Or.inl (by decide)), h12]) M16 hR16) ?_
  rintro v' M19 ⟨rfl, hR19, hS19'⟩
  have hS19 := hS16.trans hS19'
  obtain ⟨ρ20, e20⟩ : ∃ x : RS, x = (nextR ρ17 e n) := ⟨_, rfl⟩
  rw [← e20] at hR19
  rw [show ρ17.2 13 (12 * e) = (↑t : Int) from (by rw [e17, opR_at (by omega), e14, skF_at (by omega), e10, RS.setA_ne (Or.inl (by decide)), RS.setA_ne (Or.inl (by decide)), e6, thR_old_at _ _ _ _ _ _ _ (Or.inr (by decide)), e2, RS.setA_ne (Or.inl (by decide)), h13])]
  refine R_ast e dX9_anew_328 rfl rfl (by omega) (show _ < 12 from by omega) hR19 hS19 (fun M21 hR21 hS21 => ?_)
  refine S_aload_n dX9_anew_329 rfl ?_
  refine S_getP fl_X9_54 dX9_anew_330 rfl rfl (hR21.p 16 rfl) ?_
  refine S_iload_n dX9_anew_333 rfl ?_
  refine S_aload_n dX9_anew_334 rfl ?_
  refine S_iload dX9_anew_335 rfl ?_
  refine S_aload_n dX9_anew_337 rfl ?_
  refine S_aload_n dX9_anew_338 rfl ?_
  refine S_getP fl_X9_51 dX9_anew_339 rfl rfl (hR21.p 15 rfl) ?_
  refine S_iload_n dX9_anew_342 rfl ?_
  refine R_ald (v := ↑t) e hR21 dX9_anew_343 rfl rfl (by omega) (show _ < 12 from by omega) (by rw [RS.setA_eq]) ?_
  refine S_aload_n dX9_anew_344 rfl ?_
  refine S_getP fl_X9_117 dX9_anew_345 rfl rfl (hR21.p 38 rfl) ?_
  refine S_iload_n dX9_anew_348 rfl ?_
  refine R_ald (v := ↑z) l hR21 dX9_anew_349 rfl rfl (by omega) (show _ < 300 from by omega) (by rw [RS.setA_ne (Or.inl (by decide)), e20, nextR_at (by decide), e17, opR_at (by omega), e14, skF_at (by omega), e10, RS.setA_ne (Or.inl (by decide)), RS.setA_ne (Or.inl (by decide)), e6, thR_old_at _ _ _ _ _ _ _ (Or.inr (by decide)), e2, RS.setA_ne (Or.inl (by decide)), h38]) ?_
  obtain ⟨ρ22, e22⟩ : ∃ x : RS, x = (ρ20.setA 15 e (↑t)) := ⟨_, rfl⟩
  rw [← e22] at hR21
  have hT23 : ThOK ρ22 (N + 1 + 2 * pl + 2) := hT18.congr ⟨(by rw [e22, RS.setA_s, e20, nextR_s]), (by rw [e22, RS.setA_s, e20, nextR_s]), (by rw [e22, RS.setA_s, e20, nextR_s])⟩ (fun k j a1 a2 => (by rw [e22, RS.setA_ne (Or.inl (by omega)), e20, nextR_at (by omega)]))
  have g23 : thN ρ22 = thN ρ17 := thN_congr (by rw [e22, RS.setA_s, e20, nextR_s])
  refine S_callV (mi := mi_X9_anew) [vI (↑t), vI (↑z)] ok_X9_meeting ml_X9_179 dX9_anew_350 rfl (by decide) rfl (by decide) rfl (Nat.le_of_ble_eq_true rfl) rfl (r_X9_meeting (ρ := ρ22) t z (N + 1 + 2 * pl + 2) hT23 (by omega) (by omega) (by omega) (by rw [e22, RS.setA_ne (Or.inl (by decide)), e20, nextR_at (by decide), G18.2 _ _ (by decide) (by decide) (by omega), G15.2 _ _ (by decide) (by decide) (by omega), e10, RS.setA_ne (Or.inl (by decide)), RS.setA_ne (Or.inl (by decide)), e6, thR_old_at _ _ _ _ _ _ _ (Or.inl (by omega)), e2, RS.setA_ne (Or.inl (by decide))]; exact hwt) (by rw [e22, RS.setA_ne (Or.inl (by decide)), e20, nextR_at (by decide), G18.2 _ _ (by decide) (by decide) (by omega), G15.2 _ _ (by decide) (by decide) (by omega), e10, RS.setA_ne (Or.inl (by decide)), RS.setA_ne (Or.inl (by decide)), e6, thR_old_at _ _ _ _ _ _ _ (Or.inl (by omega)), e2, RS.setA_ne (Or.inl (by decide))]; exact hwz) M21 hR21) ?_
  rintro v' M25 ⟨rfl, hR25, hS25'⟩
  have hS25 := hS21.trans hS25'
  obtain ⟨ρ26, e26⟩ : ∃ x : RS, x = (meR ρ22 t z) := ⟨_, rfl⟩
  rw [← e26] at hR25
  obtain ⟨m24, em24⟩ : ∃ x : Nat, x = meI ρ22 t z := ⟨_, rfl⟩
  rw [← em24]
  have q27 : ThOK (meR ρ22 t z) (N + 1 + 2 * pl + 3) ∧ meI ρ22 t z < thN (meR ρ22 t z) ∧ thN ρ22 ≤ thN (meR ρ22 t z) := hT23.me (by omega) (by omega)
  rw [← e26, ← em24] at q27
  obtain ⟨hT27, hi27, g27⟩ := q27
  refine S_callV (mi := mi_X9_anew) [vI (↑r), vI (↑m24)] ok_X9_rootOf ml_X9_182 dX9_anew_353 rfl (by decide) rfl (by decide) rfl (Nat.le_of_ble_eq_true rfl) rfl (r_X9_rootOf (ρ := ρ26) (↑r) m24 (N + 1 + 2 * pl + 3) hT27 (by omega) (by omega) (by omega) M25 hR25) ?_
  rintro v' M29 ⟨rfl, hR29, hS29'⟩
  have hS29 := hS25.trans hS29'
  obtain ⟨ρ30, e30⟩ : ∃ x : RS, x = (rtR ρ26 (↑r) m24) := ⟨_, rfl⟩
  rw [← e30] at hR29
  obtain ⟨r28, er28⟩ : ∃ x : Nat, x = rtI ρ26 (↑r) m24 := ⟨_, rfl⟩
  rw [← er28]
  have q31 : ThOK (rtR ρ26 (↑r) m24) (N + 1 + 2 * pl + 4) ∧ rtI ρ26 (↑r) m24 < thN (rtR ρ26 (↑r) m24) ∧ thN ρ26 ≤ thN (rtR ρ26 (↑r) m24) := hT27.rt (by omega) (by omega)
  rw [← e30, ← er28] at q31
  obtain ⟨hT31, hi31, g31⟩ := q31
  refine R_ast e dX9_anew_356 rfl rfl (by omega) (show _ < 12 from by omega) hR29 hS29 (fun M32 hR32 hS32 => ?_)
  refine S_aload_n dX9_anew_357 rfl ?_
  refine S_getP fl_X9_57 dX9_anew_358 rfl rfl (hR32.p 17 rfl) ?_
  refine S_iload_n dX9_anew_361 rfl ?_
  refine S_aload_n dX9_anew_362 rfl ?_
  refine S_aload_n dX9_anew_363 rfl ?_
  refine S_getP fl_X9_54 dX9_anew_364 rfl rfl (hR32.p 16 rfl) ?_
  refine S_iload_n dX9_anew_367 rfl ?_
  refine R_ald (v := ↑r28) e hR32 dX9_anew_368 rfl rfl (by omega) (show _ < 12 from by omega) (by rw [RS.setA_eq]) ?_
  obtain ⟨ρ33, e33⟩ : ∃ x : RS, x = (ρ30.setA 16 e (↑r28)) := ⟨_, rfl⟩
  rw [← e33] at hR32
  have hT34 : ThOK ρ33 (N + 1 + 2 * pl + 4) := hT31.congr ⟨(by rw [e33, RS.setA_s]), (by rw [e33, RS.setA_s]), (by rw [e33, RS.setA_s])⟩ (fun k j a1 a2 => (by rw [e33, RS.setA_ne (Or.inl (by omega))]))
  have g34 : thN ρ33 = thN ρ30 := thN_congr (by rw [e33, RS.setA_s])
  refine S_callV (mi := mi_X9_anew) [vI (↑r28)] ok_X9_chainOf ml_X9_185 dX9_anew_369 rfl (by decide) rfl (by decide) rfl (Nat.le_of_ble_eq_true rfl) rfl (r_X9_chainOf (ρ := ρ33) r28 (N + 1 + 2 * pl + 4) hT34 (by omega) (by omega) M32 hR32) ?_
  rintro v' M36 ⟨rfl, hR36, hS36'⟩
  have hS36 := hS32.trans hS36'
  obtain ⟨ρ37, e37⟩ : ∃ x : RS, x = (chR ρ33 r28) := ⟨_, rfl⟩
  rw [← e37] at hR36
  obtain ⟨c35, ec35⟩ : ∃ x : Nat, x = chI ρ33 r28 := ⟨_, rfl⟩
  rw [← ec35]
  have q38 : ThOK (chR ρ33 r28) (N + 1 + 2 * pl + 5) ∧ chI ρ33 r28 < thN (chR ρ33 r28) ∧ thN ρ33 ≤ thN (chR ρ33 r28) := hT34.ch (by omega)
  rw [← e37, ← ec35] at q38
  obtain ⟨hT38, hi38, g38⟩ := q38
  refine R_ast e dX9_anew_372 rfl rfl (by omega) (show _ < 12 from by omega) hR36 hS36 (fun M39 hR39 hS39 => ?_)
  refine S_aload_n dX9_anew_373 rfl ?_
  refine S_getP fl_X9_69 dX9_anew_374 rfl rfl (hR39.p 21 rfl) ?_
  refine S_iload_n dX9_anew_377 rfl ?_
  refine S_aload_n dX9_anew_378 rfl ?_
  refine S_getP fl_X9_66 dX9_anew_379 rfl rfl (hR39.p 20 rfl) ?_
  refine S_iload_n dX9_anew_382 rfl ?_
  refine R_ald (v := ρ.2 20 e) e hR39 dX9_anew_383 rfl rfl (by omega) (show _ < 12 from by omega) (by rw [RS.setA_ne (Or.inl (by decide)), e37, thR_old_at _ _ _ _ _ _ _ (Or.inr (by decide)), e33, RS.setA_ne (Or.inl (by decide)), e30, thR_old_at _ _ _ _ _ _ _ (Or.inr (by decide)), e26, thR_old_at _ _ _ _ _ _ _ (Or.inr (by decide)), e22, RS.setA_ne (Or.inl (by decide)), e20, nextR_at (by decide), e17, opR_at (by omega), e14, skF_at (by omega), e10, RS.setA_ne (Or.inl (by decide)), RS.setA_ne (Or.inl (by decide)), e6, thR_old_at _ _ _ _ _ _ _ (Or.inr (by decide)), e2, RS.setA_ne (Or.inl (by decide))]) ?_
  refine R_ast e dX9_anew_384 rfl rfl (by omega) (show _ < 12 from by omega) hR39 hS39 (fun M40 hR40 hS40 => ?_)
  refine S_aload_n dX9_anew_385 rfl ?_
  refine S_getP fl_X9_66 dX9_anew_386 rfl rfl (hR40.p 20 rfl) ?_
  refine S_iload_n dX9_anew_389 rfl ?_
  refine S_iconst dX9_anew_390 ?_
  refine R_ast e dX9_anew_391 rfl rfl (by omega) (show _ < 12 from by omega) hR40 hS40 (fun M41 hR41 hS41 => ?_)
  refine S_aload_n dX9_anew_392 rfl ?_
  refine S_aload_n dX9_anew_393 rfl ?_
  refine S_iload_n dX9_anew_394 rfl ?_
  refine S_iload dX9_anew_395 rfl ?_
  obtain ⟨ρ42, e42⟩ : ∃ x : RS, x = (((ρ37.setA 17 e (↑c35)).setA 21 e (ρ.2 20 e)).setA 20 e 0) := ⟨_, rfl⟩
  rw [← e42] at hR41
  have hb43 : ρ42.2 35 l = ρ.2 35 l := (by rw [e42, RS.setA_ne (Or.inl (by decide)), RS.setA_ne (Or.inl (by decide)), RS.setA_ne (Or.inl (by decide)), e37, thR_old_at _ _ _ _ _ _ _ (Or.inr (by decide)), e33, RS.setA_ne (Or.inl (by decide)), e30, thR_old_at _ _ _ _ _ _ _ (Or.inr (by decide)), e26, thR_old_at _ _ _ _ _ _ _ (Or.inr (by decide)), e22, RS.setA_ne (Or.inl (by decide)), e20, nextR_at (by decide), e17, opR_at (by omega), e14, skF_at (by omega), e10, RS.setA_ne (Or.inl (by decide)), RS.setA_ne (Or.inl (by decide)), e6, thR_old_at _ _ _ _ _ _ _ (Or.inr (by decide)), e2, RS.setA_ne (Or.inl (by decide))])
  have ht43 : 0 ≤ ρ42.2 35 l ∧ ρ42.2 35 l ≤ 255 := by rw [hb43]; exact ht
  refine S_callV (mi := mi_X9_anew) [vI (↑l), vI key] ok_X9_byteOf ml_X9_202 dX9_anew_397 rfl (by decide) rfl (by decide) rfl (Nat.le_of_ble_eq_true rfl) rfl (r_X9_byteOf (ρ := ρ42) l key (by omega) ht43 (by omega) M41 hR41) ?_
  rintro v' M44 ⟨rfl, hR44, hS44'⟩
  have hS44 := hS41.trans hS44'
  rw [byF_congr hb43]
  refine S_callV (mi := mi_X9_anew) [vI (byF ρ l key)] ok_X9_done ml_X9_166 dX9_anew_400 rfl (by decide) rfl (by decide) rfl (Nat.le_of_ble_eq_true rfl) rfl (r_X9_done (ρ := ρ42) (byF ρ l key) M44 hR44) ?_
  rintro v' M45 ⟨rfl, hR45, hS45'⟩
  have hS45 := hS44.trans hS45'
  exact S_iret dX9_anew_403 rfl (Or.inl rfl) (by
    have hA : anB1 ρ e r P = ρ10 := by
      subst_vars
      rfl
    have hF : fuG ρ10 e pl = ρ17 := by
      unfold fuG
      rw [← e14, h1815, Int.toNat_natCast, ← e17]
    have hB : (anB6 ρ17 e r n t z (ρ.2 20 e)).setS 42 0 = (ρ42.setS 42 0) := by
      subst_vars
      rfl
    have hC : (anC ρ e r pl n t z P).setS 42 0 = (ρ42.setS 42 0) := by
      unfold anC
      rw [hA, hF]
      exact hB
    rw [hC]
    exact ⟨rfl, hR45, hS45⟩)
