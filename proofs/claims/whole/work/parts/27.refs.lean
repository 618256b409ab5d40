/-! THE REFERENCE: frames of what is skipped and opened; further -/
def Gx (ρ σ : RS) : Prop := thN ρ ≤ thN σ ∧ ∀ k t, 6 ≤ k → k ≤ 10 → t < thN ρ → σ.2 k t = ρ.2 k t
theorem Gx.rf (ρ : RS) : Gx ρ ρ := ⟨Nat.le_refl _, fun _ _ _ _ _ => rfl⟩
theorem Gx.trans {ρ σ τ : RS} (h : Gx ρ σ) (g : Gx σ τ) : Gx ρ τ := ⟨Nat.le_trans h.1 g.1, fun k t a b c => (g.2 k t a b (Nat.lt_of_lt_of_le c h.1)).trans (h.2 k t a b c)⟩
theorem Gx.thR {ρ : RS} {N : Nat} (h : ThOK ρ N) {k a b v : Int} (hk : 0 ≤ k ∧ k ≤ 5) (ha : -1 ≤ a ∧ a < thN ρ) (hb : -1 ≤ b ∧ b < thN ρ) (hv : 0 ≤ v ∧ v ≤ 10007) : Gx ρ (thR ρ k a b v) := ⟨(h.thR hk ha hb hv).2.2, fun i t _ _ c => thR_old_at _ _ _ _ _ _ _ (Or.inl c)⟩
theorem Gx.ky {ρ : RS} {N t : Nat} (h : ThOK ρ N) (ht : t < thN ρ) : Gx ρ (kyR ρ t) := ⟨(h.ky ht).2.2, fun i t _ _ c => thR_old_at _ _ _ _ _ _ _ (Or.inl c)⟩
theorem Gx.ch {ρ : RS} {N t : Nat} (h : ThOK ρ N) (ht : t < thN ρ) : Gx ρ (chR ρ t) := ⟨(h.ch ht).2.2, fun i t _ _ c => thR_old_at _ _ _ _ _ _ _ (Or.inl c)⟩
theorem Gx.rt {ρ : RS} {N m : Nat} {r : Int} (h : ThOK ρ N) (hr : r = -1 ∨ (0 ≤ r ∧ r < thN ρ)) (hm : m < thN ρ) : Gx ρ (rtR ρ r m) := ⟨(h.rt hr hm).2.2, fun i t _ _ c => thR_old_at _ _ _ _ _ _ _ (Or.inl c)⟩
theorem Gx.me {ρ : RS} {N a b : Nat} (h : ThOK ρ N) (ha : a < thN ρ) (hb : b < thN ρ) : Gx ρ (meR ρ a b) := ⟨(h.me ha hb).2.2, fun i t _ _ c => thR_old_at _ _ _ _ _ _ _ (Or.inl c)⟩
theorem Gx.fr {ρ σ τ : RS} (h : Gx ρ σ) (h1 : τ.1 5 = σ.1 5) (h2 : ∀ k j, 6 ≤ k → k ≤ 10 → τ.2 k j = σ.2 k j) : Gx ρ τ := ⟨by rw [thN_congr h1]; exact h.1, fun k t a b c => (h2 k t a b).trans (h.2 k t a b c)⟩
theorem skS_s {ρ : RS} {e c n k : Nat} (h : k ≠ 5) : (skS ρ e c n).1 k = ρ.1 k := by
  show (chR _ c).1 k = _
  rw [thR_s _ _ _ _ _ _ h, keepR_s, thR_s _ _ _ _ _ _ h]
theorem skS_at {ρ : RS} {e c n k j : Nat} (h : (k < 6 ∨ 10 < k) ∧ (k < 25 ∨ 29 < k) ∧ (k ≠ 18 ∧ k ≠ 22 ∨ j ≠ e)) : (skS ρ e c n).2 k j = ρ.2 k j := by
  unfold skS
  rw [RS.setA_ne (by omega), RS.setA_ne (by omega), thR_old_at _ _ _ _ _ _ _ (by omega), keepR_at _ _ _ _ _ _ _ (by omega), thR_old_at _ _ _ _ _ _ _ (by omega)]
theorem skS_gx {ρ : RS} {e N p c n : Nat} (he : e < 12) (hN : N < 7990) (hp : p < 600) (h : SkOK ρ e N p) (hc : ρ.2 18 e = ↑c) (hcl : c < thN ρ) (hn : ρ.2 25 e = ↑n) (hn2 : n ≤ 12) : Gx ρ (skS ρ e c n) := by
  obtain ⟨s1, s2, s3, s4, s5, s6, s7⟩ := skS_ok he hN hp h hc hcl hn hn2
  have g1 := Gx.ky h.1 hcl
  have g2 := g1.fr (τ := keepR (kyR ρ c) e n (ρ.2 22 e) ↑(kyI ρ c)) (keepR_s _ _ _ _ _ _) (fun k j a b => keepR_at _ _ _ _ _ _ _ (by omega))
  have g3 := g2.trans (Gx.ch s5 s6)
  exact g3.fr (by rfl) (fun k j a b => by unfold skS; rw [RS.setA_ne (by omega), RS.setA_ne (by omega)])
theorem skF_s {ρ : RS} {e d k : Nat} (h : k ≠ 5) : (skF ρ e d).1 k = ρ.1 k := by
  induction d generalizing ρ with
  | zero => rfl
  | succ d ih => exact (ih (ρ := skS ρ e (ρ.2 18 e).toNat (ρ.2 25 e).toNat)).trans (skS_s h)
theorem skF_at {ρ : RS} {e d k j : Nat} (h : (k < 6 ∨ 10 < k) ∧ (k < 25 ∨ 29 < k) ∧ (k ≠ 18 ∧ k ≠ 22 ∨ j ≠ e)) : (skF ρ e d).2 k j = ρ.2 k j := by
  induction d generalizing ρ with
  | zero => rfl
  | succ d ih => exact (ih (ρ := skS ρ e (ρ.2 18 e).toNat (ρ.2 25 e).toNat)).trans (skS_at h)
theorem skF_ok {e : Nat} (he : e < 12) : ∀ (d : Nat) {ρ : RS} {N p : Nat}, N + 2 * d < 7990 → p + d ≤ 600 → SkOK ρ e N p → SkOK (skF ρ e d) e (N + 2 * d) (p + d) ∧ Gx ρ (skF ρ e d) := by
  intro d
  induction d with
  | zero => intro ρ N p _ _ h; exact ⟨h, Gx.rf ρ⟩
  | succ d ih =>
    intro ρ N p hN hp h
    obtain ⟨c, hc, hcl⟩ := h.2.2.1
    obtain ⟨n, hn2, hn⟩ := h.2.1.1 e he
    have hs := (skS_ok he (by omega) (by omega) h hc hcl hn hn2).1
    have hg := skS_gx he (by omega) (by omega) h hc hcl hn hn2
    have h2 := ih (by omega) (by omega) hs
    have e1 : skF ρ e (d + 1) = skF (skS ρ e c n) e d := by show skF (skS ρ e (ρ.2 18 e).toNat (ρ.2 25 e).toNat) e d = _; rw [hc, hn]; rfl
    rw [e1, show N + 2 * (d + 1) = N + 2 + 2 * d from by omega, show p + (d + 1) = p + 1 + d from by omega]
    exact ⟨h2.1, hg.trans h2.2⟩
theorem opR_s {ρ : RS} {e c k : Nat} (h : k ≠ 5) : (opR ρ e c).1 k = ρ.1 k := by
  show (chR _ c).1 k = _
  rw [thR_s _ _ _ _ _ _ h, thR_s _ _ _ _ _ _ h]
theorem opR_at {ρ : RS} {e c k j : Nat} (h : (k < 6 ∨ 10 < k) ∧ (k ≠ 18 ∧ k ≠ 22 ∨ j ≠ e)) : (opR ρ e c).2 k j = ρ.2 k j := by
  unfold opR
  rw [RS.setA_ne (by omega), RS.setA_ne (by omega), thR_old_at _ _ _ _ _ _ _ (by omega), thR_old_at _ _ _ _ _ _ _ (by omega)]
theorem opR_ok {ρ : RS} {N e c : Nat} (h : ThOK ρ N) (hc : c < thN ρ) : ThOK (opR ρ e c) (N + 2) ∧ Gx ρ (opR ρ e c) ∧ ∃ c' : Nat, (opR ρ e c).2 18 e = ↑c' ∧ c' < thN (opR ρ e c) := by
  have k1 := h.ky hc
  have k2 := k1.1.ch (t := c) (by omega)
  have g1 := (Gx.ky h hc).trans (Gx.ch k1.1 (t := c) (by omega))
  refine ⟨k2.1.congr ⟨rfl, rfl, rfl⟩ (fun k j a b => by unfold opR; rw [RS.setA_ne (by omega), RS.setA_ne (by omega)]), g1.fr (by rfl) (fun k j a b => by unfold opR; rw [RS.setA_ne (by omega), RS.setA_ne (by omega)]), _, ?_, k2.2.1⟩
  unfold opR
  rw [RS.setA_ne (by omega), RS.setA_eq]
theorem byF_congr {ρ σ : RS} {l : Nat} {key : Int} (h : σ.2 35 l = ρ.2 35 l) : byF σ l key = byF ρ l key := by unfold byF; rw [h]
def fuG (ρ : RS) (e d : Nat) : RS := opR (skF ρ e d) e ((skF ρ e d).2 18 e).toNat
def kvF (ρ : RS) (e l : Nat) : Int := kbV (ρ.1 0) (ρ.2 9 (ρ.2 18 e).toNat) (ρ.2 34 l - ρ.2 22 e).toNat
def furF (ρ : RS) (e l : Nat) : Int × RS := if ρ.2 34 l - ρ.2 22 e < 0 then (-1, ρ.setS 42 4) else if ρ.1 2 < ρ.2 34 l - ρ.2 22 e then (-1, ρ.setS 42 5) else
  if mixF (ρ.1 0) (kvF ρ e l) (byF ρ l (kvF ρ e l)) ≠ ρ.2 36 l then (-1, ρ.setS 42 7) else
  (byF ρ l (kvF ρ e l), (fuG ρ e (ρ.2 34 l - ρ.2 22 e).toNat).setS 42 0)
set_option maxRecDepth 100000 in
theorem r_X9_further {G : Ge} {ρ : RS} (e l pl pa c N : Nat) (he : e < 12) (hl : l < 300) (h : ThOK ρ N) (hN : N < 7900) (hm : 0 ≤ ρ.1 2 ∧ ρ.1 2 ≤ 12) (h34 : ρ.2 34 l = ↑pl) (hpl : pl ≤ 300) (h22 : ρ.2 22 e = ↑pa) (hpa : pa ≤ 400) (h18 : ρ.2 18 e = ↑c) (hcl : c < thN ρ) (hK : KOK ρ) (h19 : -1 ≤ ρ.2 19 e ∧ ρ.2 19 e ≤ 10007) (hl30 : 0 ≤ ρ.1 30 ∧ ρ.1 30 ≤ 300) (ht : 0 ≤ ρ.2 35 l ∧ ρ.2 35 l ≤ 255) (hc : -2147483648 ≤ ρ.2 36 l ∧ ρ.2 36 l < 2147483648) : RC G mi_X9_further [vR ((30, 0)), vI (↑e), vI (↑l)] ρ (some (vI (furF ρ e l).1)) ((furF ρ e l).2) := by
  intro M hR
  have hS := SameR.rf M
  refine Ct.of pl_X9_further [some (vR ((30, 0))), some (vI (↑e)), some (vI (↑l)), none, none] rfl (Nat.le_of_ble_eq_true rfl) ?_
  have hq : 0 < ρ.1 0 ∧ ρ.1 0 ≤ 10007 := by have := h.2.2.1; omega
  have hl8 := h.2.1
  refine S_aload_n dX9_further_0 rfl ?_
  refine S_getP fl_X9_105 dX9_further_1 rfl rfl (hR.p 34 rfl) ?_
  refine S_iload_n dX9_further_4 rfl ?_
  refine R_ald (v := ↑pl) l hR dX9_further_5 rfl rfl (by omega) (show _ < 300 from by omega) (by rw [h34]) ?_
  refine S_aload_n dX9_further_6 rfl ?_
  refine S_getP fl_X9_72 dX9_further_7 rfl rfl (hR.p 22 rfl) ?_
  refine S_iload_n dX9_further_10 rfl ?_
  refine R_ald (v := ↑pa) e hR dX9_further_11 rfl rfl (by omega) (show _ < 12 from by omega) (by rw [h22]) ?_
  refine S_isub dX9_further_12 ?_
  refine S_istore_n dX9_further_13 (by decide) ?_
  refine S_iload_n dX9_further_14 rfl ?_
  refine S_if_ge 24 dX9_further_15 (by decide) (by omega) (fun c_15 => ?_) (fun c_15 => ?_)
  · refine S_iload_n dX9_further_24 rfl ?_
    refine S_aload_n dX9_further_25 rfl ?_
    refine S_getI (v := ρ.1 2) fl_X9_16 dX9_further_26 rfl rfl ((hR.s 2).trans rfl) ?_
    refine S_icmp_le 38 dX9_further_29 (by decide) (by omega) (fun c_29 => ?_) (fun c_29 => ?_)
    · obtain ⟨d, hd⟩ : ∃ d : Nat, pl = pa + d := ⟨pl - pa, by omega⟩
      rw [show ((↑pl : Int) - ↑pa) = ↑d from by omega]
      refine S_aload_n dX9_further_38 rfl ?_
      refine S_aload_n dX9_further_39 rfl ?_
      refine S_getP fl_X9_32 dX9_further_40 rfl rfl (hR.p 9 rfl) ?_
      refine S_aload_n dX9_further_43 rfl ?_
      refine S_getP fl_X9_60 dX9_further_44 rfl rfl (hR.p 18 rfl) ?_
      refine S_iload_n dX9_further_47 rfl ?_
      refine R_ald (v := ↑c) e hR dX9_further_48 rfl rfl (by omega) (show _ < 12 from by omega) (by rw [h18]) ?_
      refine R_ald (v := ρ.2 9 c) c hR dX9_further_49 rfl rfl (by omega) (show _ < 8000 from by omega) rfl ?_
      refine S_iload_n dX9_further_50 rfl ?_
      refine S_callV (mi := mi_X9_further) [vI (ρ.2 9 c), vI (↑d)] ok_X9_keyBehind ml_X9_219 dX9_further_51 rfl (by decide) rfl (by decide) rfl (Nat.le_of_ble_eq_true rfl) rfl (r_X9_keyBehind (ρ := ρ) (ρ.2 9 c) d (by have := (h.2.2.2.2 c hcl).2.2.2; omega) (by omega) hq M hR) ?_
      rintro v' M1 ⟨rfl, hR1, hS1'⟩
      have hS1 := hS.trans hS1'
      have hkey : 0 ≤ kbV (ρ.1 0) (ρ.2 9 c) d ∧ kbV (ρ.1 0) (ρ.2 9 c) d ≤ 10007 := mixv h.2.2.1 (kbF_bd hq (h.2.2.2.2 c hcl).2.2.2 d).1 (by decide)
      obtain ⟨key, ek⟩ : ∃ x : Int, x = kbV (ρ.1 0) (ρ.2 9 c) d := ⟨_, rfl⟩
      rw [← ek] at hkey
      rw [← ek]
      refine S_istore dX9_further_54 (by decide) ?_
      refine S_aload_n dX9_further_56 rfl ?_
      refine S_iload_n dX9_further_57 rfl ?_
      refine S_iload dX9_further_58 rfl ?_
      refine S_callV (mi := mi_X9_further) [vI (↑l), vI key] ok_X9_isGood ml_X9_208 dX9_further_60 rfl (by decide) rfl (by decide) rfl (Nat.le_of_ble_eq_true rfl) rfl (r_X9_isGood (ρ := ρ) l key (by omega) ht (by omega) hc hq M1 hR1) ?_
      rintro v' M2 ⟨⟨rfl, b_60⟩ | ⟨rfl, b_60⟩, hR2, hS2'⟩
      · have hS2 := hS1.trans hS2'
        have hkv : kvF ρ e l = key := by unfold kvF; rw [h18, h34, h22, Int.toNat_natCast, show ((↑pl : Int) - ↑pa).toNat = d from by omega, ek]
        have hdn : (ρ.2 34 l - ρ.2 22 e).toNat = d := by omega
        refine S_if_ne 73 dX9_further_63 (by decide) (by omega) (fun c_63 => ?_) (fun c_63 => absurd c_63 (by omega))
        refine S_aload_n dX9_further_73 rfl ?_
        refine S_iload_n dX9_further_74 rfl ?_
        refine S_aload_n dX9_further_75 rfl ?_
        refine S_getP fl_X9_105 dX9_further_76 rfl rfl (hR2.p 34 rfl) ?_
        refine S_iload_n dX9_further_79 rfl ?_
        refine R_ald (v := ↑pl) l hR2 dX9_further_80 rfl rfl (by omega) (show _ < 300 from by omega) (by rw [h34]) ?_
        have hO3 : SkOK ρ e (N) pa := ⟨h, hK, ⟨c, h18, hcl⟩, h19, hl30, h22⟩
        refine S_callV (mi := mi_X9_further) [vI (↑e), vI (↑pl)] ok_X9_skip ml_X9_222 dX9_further_81 rfl (by decide) rfl (by decide) rfl (Nat.le_of_ble_eq_true rfl) rfl (r_X9_skip (ρ := ρ) e pl d (N) pa (by omega) (by omega) (by omega) (by omega) hO3 M2 hR2) ?_
        rintro v' M4 ⟨rfl, hR4, hS4'⟩
        have hS4 := hS2.trans hS4'
        obtain ⟨ρ5, e5⟩ : ∃ x : RS, x = (skF ρ e d) := ⟨_, rfl⟩
        rw [← e5] at hR4
        have q6 := skF_ok (by omega) d (by omega) (by omega) hO3
        rw [← e5] at q6
        obtain ⟨O6, G6⟩ := q6
        have hT6 : ThOK ρ5 (N + 2 * d) := O6.1
        have g6 := G6.1
        refine S_aload_n dX9_further_84 rfl ?_
        refine S_iload_n dX9_further_85 rfl ?_
        obtain ⟨c6, h186, hcl6⟩ := O6.2.2.1
        refine S_callV (mi := mi_X9_further) [vI (↑e)] ok_X9_opened ml_X9_225 dX9_further_86 rfl (by decide) rfl (by decide) rfl (Nat.le_of_ble_eq_true rfl) rfl (r_X9_opened (ρ := ρ5) e c6 (N + 2 * d) hT6 (by omega) (by omega) h186 hcl6 M4 hR4) ?_
        rintro v' M7 ⟨rfl, hR7, hS7'⟩
        have hS7 := hS4.trans hS7'
        obtain ⟨ρ8, e8⟩ : ∃ x : RS, x = (opR ρ5 e c6) := ⟨_, rfl⟩
        rw [← e8] at hR7
        have q9 : ThOK (opR ρ5 e c6) (N + 2 * d + 2) ∧ Gx ρ5 (opR ρ5 e c6) ∧ ∃ c' : Nat, (opR ρ5 e c6).2 18 e = ↑c' ∧ c' < thN (opR ρ5 e c6) := opR_ok (e := e) hT6 hcl6
        rw [← e8] at q9
        obtain ⟨hT9, G9, -⟩ := q9
        have g9 := G9.1
        refine S_aload_n dX9_further_89 rfl ?_
        refine S_aload_n dX9_further_90 rfl ?_
        refine S_iload_n dX9_further_91 rfl ?_
        refine S_iload dX9_further_92 rfl ?_
        have hb10 : ρ8.2 35 l = ρ.2 35 l := (by rw [e8, opR_at (by omega), e5, skF_at (by omega)])
        have ht10 : 0 ≤ ρ8.2 35 l ∧ ρ8.2 35 l ≤ 255 := by rw [hb10]; exact ht
        refine S_callV (mi := mi_X9_further) [vI (↑l), vI key] ok_X9_byteOf ml_X9_202 dX9_further_94 rfl (by decide) rfl (by decide) rfl (Nat.le_of_ble_eq_true rfl) rfl (r_X9_byteOf (ρ := ρ8) l key (by omega) ht10 (by omega) M7 hR7) ?_
        rintro v' M11 ⟨rfl, hR11, hS11'⟩
        have hS11 := hS7.trans hS11'
        rw [byF_congr hb10]
        refine S_callV (mi := mi_X9_further) [vI (byF ρ l key)] ok_X9_done ml_X9_166 dX9_further_97 rfl (by decide) rfl (by decide) rfl (Nat.le_of_ble_eq_true rfl) rfl (r_X9_done (ρ := ρ8) (byF ρ l key) M11 hR11) ?_
        rintro v' M12 ⟨rfl, hR12, hS12'⟩
        have hS12 := hS11.trans hS12'
        exact S_iret dX9_further_100 rfl (Or.inl rfl) (by have e9 : furF ρ e l = ((byF ρ l key : Int), (ρ8.setS 42 0)) := (by unfold furF; rw [if_neg (by omega), if_neg (by omega), hkv, if_neg (fun q => q b_60)]; unfold fuG; rw [hdn, ← e5, h186, Int.toNat_natCast, ← e8]); rw [e9]; exact ⟨rfl, hR12, hS12⟩)
      · have hS2 := hS1.trans hS2'
        have hkv : kvF ρ e l = key := by unfold kvF; rw [h18, h34, h22, Int.toNat_natCast, show ((↑pl : Int) - ↑pa).toNat = d from by omega, ek]
        refine S_if_ne 73 dX9_further_63 (by decide) (by omega) (fun c_63 => absurd c_63 (by omega)) (fun c_63 => ?_)
        refine S_aload_n dX9_further_66 rfl ?_
        refine S_bipush dX9_further_67 (by decide) ?_
        refine S_callV (mi := mi_X9_further) [vI 7] ok_X9_refused ml_X9_163 dX9_further_69 rfl (by decide) rfl (by decide) rfl (Nat.le_of_ble_eq_true rfl) rfl (r_X9_refused (ρ := ρ) 7 M2 hR2) ?_
        rintro v' M13 ⟨rfl, hR13, hS13'⟩
        have hS13 := hS2.trans hS13'
        exact S_iret dX9_further_72 rfl (Or.inl rfl) (by have e9 : furF ρ e l = (((-1) : Int), (ρ.setS 42 7)) := (by unfold furF; rw [if_neg (by omega), if_neg (by omega), hkv, if_pos b_60]); rw [e9]; exact ⟨rfl, hR13, hS13⟩)
    · refine S_aload_n dX9_further_32 rfl ?_
      refine S_iconst dX9_further_33 ?_
      refine S_callV (mi := mi_X9_further) [vI 5] ok_X9_refused ml_X9_163 dX9_further_34 rfl (by decide) rfl (by decide) rfl (Nat.le_of_ble_eq_true rfl) rfl (r_X9_refused (ρ := ρ) 5 M hR) ?_
      rintro v' M14 ⟨rfl, hR14, hS14'⟩
      have hS14 := hS.trans hS14'
      exact S_iret dX9_further_37 rfl (Or.inl rfl) (by have e9 : furF ρ e l = (((-1) : Int), (ρ.setS 42 5)) := (by unfold furF; rw [if_neg (by omega), if_pos (by omega)]); rw [e9]; exact ⟨rfl, hR14, hS14⟩)
  · refine S_aload_n dX9_further_18 rfl ?_
    refine S_iconst dX9_further_19 ?_
    refine S_callV (mi := mi_X9_further) [vI 4] ok_X9_refused ml_X9_163 dX9_further_20 rfl (by decide) rfl (by decide) rfl (Nat.le_of_ble_eq_true rfl) rfl (r_X9_refused (ρ := ρ) 4 M hR) ?_
    rintro v' M15 ⟨rfl, hR15, hS15'⟩
    have hS15 := hS.trans hS15'
    exact S_iret dX9_further_23 rfl (Or.inl rfl) (by have e9 : furF ρ e l = (((-1) : Int), (ρ.setS 42 4)) := (by unfold furF; rw [if_pos (by omega)]); rw [e9]; exact ⟨rfl, hR15, hS15⟩)
