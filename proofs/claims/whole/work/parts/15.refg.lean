/-! THE REFERENCE: a meeting; keys are skipped -/
theorem r_X9_meeting {G : Ge} {ρ : RS} (a b : Nat) (N : Nat) (h : ThOK ρ N) (hN : N < 8000) (ha : a < thN ρ) (hb : b < thN ρ) (hwa : ρ.2 9 a ≤ 10000) (hwb : ρ.2 9 b ≤ 10000) : RC G mi_X9_meeting [vR ((30, 0)), vI (↑a), vI (↑b)] ρ (some (vI ↑(meI ρ a b))) (meR ρ a b) := by
  intro M hR
  have hS := SameR.rf M
  refine Ct.of pl_X9_meeting [some (vR ((30, 0))), some (vI (↑a)), some (vI (↑b)), none, none] rfl (Nat.le_of_ble_eq_true rfl) ?_
  obtain ⟨e5, l8, hT⟩ := h.th hN
  have hq : 0 < ρ.1 0 ∧ ρ.1 0 ≤ 10007 := by have := h.2.2.1; omega
  have hg := h.2.2.2.1
  have ha1 := h.2.2.2.2 a ha
  have hb1 := h.2.2.2.2 b hb
  by_cases hab : a < b
  · rw [show meI ρ a b = thI ρ 5 ↑a ↑b from (by unfold meI meLo meHi; rw [if_pos hab, if_pos hab]), show meR ρ a b = thR ρ 5 ↑a ↑b (powF (ρ.1 0) (powF (ρ.1 0) (ρ.1 1) (ρ.2 9 b).toNat) (ρ.2 9 a).toNat) from (by unfold meR meV meLo meHi; rw [if_pos hab, if_pos hab])]
    refine S_iload_n dX9_meeting_0 rfl ?_
    refine S_iload_n dX9_meeting_1 rfl ?_
    refine S_icmp_ge 9 dX9_meeting_2 (by decide) (by omega) (fun c_2 => absurd c_2 (by omega)) (fun c_2 => ?_)
    refine S_iload_n dX9_meeting_5 rfl ?_
    refine S_goto 10 dX9_meeting_6 (by decide) ?_
    refine S_istore_n dX9_meeting_10 (by decide) ?_
    refine S_iload_n dX9_meeting_11 rfl ?_
    refine S_iload_n dX9_meeting_12 rfl ?_
    refine S_icmp_ge 20 dX9_meeting_13 (by decide) (by omega) (fun c_13 => absurd c_13 (by omega)) (fun c_13 => ?_)
    refine S_iload_n dX9_meeting_16 rfl ?_
    refine S_goto 21 dX9_meeting_17 (by decide) ?_
    refine S_istore dX9_meeting_21 (by decide) ?_
    refine S_aload_n dX9_meeting_23 rfl ?_
    refine S_iconst dX9_meeting_24 ?_
    refine S_iload_n dX9_meeting_25 rfl ?_
    refine S_iload dX9_meeting_26 rfl ?_
    refine S_aload_n dX9_meeting_28 rfl ?_
    refine S_aload_n dX9_meeting_29 rfl ?_
    refine S_iload dX9_meeting_30 rfl ?_
    refine S_callV (mi := mi_X9_meeting) [vI (↑b)] ok_X9_publicOf ml_X9_152 dX9_meeting_32 rfl (by decide) rfl (by decide) rfl (Nat.le_of_ble_eq_true rfl) rfl (r_X9_publicOf (ρ := ρ) b (ρ.2 9 b).toNat (by omega) (by omega) (by omega) hg hq M hR) ?_
    rintro v' M1 ⟨rfl, hR1, hS1'⟩
    have hS1 := hS.trans hS1'
    have hpb := powv h.2.2.1 hg.1 (ρ.2 9 b).toNat
    refine S_aload_n dX9_meeting_35 rfl ?_
    refine S_getP fl_X9_32 dX9_meeting_36 rfl rfl (hR1.p 9 rfl) ?_
    refine S_iload_n dX9_meeting_39 rfl ?_
    refine R_ald (v := ↑(ρ.2 9 a).toNat) a hR1 dX9_meeting_40 rfl rfl (by omega) (show _ < 8000 from by omega) (by omega) ?_
    refine S_callV (mi := mi_X9_meeting) [vI (powF (ρ.1 0) (ρ.1 1) ((ρ.2 9 b).toNat)), vI (↑(ρ.2 9 a).toNat)] ok_X9_power ml_X9_145 dX9_meeting_41 rfl (by decide) rfl (by decide) rfl (Nat.le_of_ble_eq_true rfl) rfl (r_X9_power (ρ := ρ) (powF (ρ.1 0) (ρ.1 1) ((ρ.2 9 b).toNat)) (ρ.2 9 a).toNat (by omega) (by omega) hq M1 hR1) ?_
    rintro v' M2 ⟨rfl, hR2, hS2'⟩
    have hS2 := hS1.trans hS2'
    refine S_callV (mi := mi_X9_meeting) [vI 5, vI (↑a), vI (↑b), vI (powF (ρ.1 0) (powF (ρ.1 0) (ρ.1 1) ((ρ.2 9 b).toNat)) (ρ.2 9 a).toNat)] ok_X9_thing ml_X9_156 dX9_meeting_44 rfl (by decide) rfl (by decide) rfl (Nat.le_of_ble_eq_true rfl) rfl (r_X9_thing (ρ := ρ) 5 (↑a) (↑b) (powF (ρ.1 0) (powF (ρ.1 0) (ρ.1 1) ((ρ.2 9 b).toNat)) (ρ.2 9 a).toNat) e5 l8 (by omega) (by omega) (by omega) hT M2 hR2) ?_
    rintro v' M3 ⟨rfl, hR3, hS3'⟩
    have hS3 := hS2.trans hS3'
    exact S_iret dX9_meeting_47 rfl (Or.inl rfl) ⟨rfl, hR3, hS3⟩
  · rw [show meI ρ a b = thI ρ 5 ↑b ↑a from (by unfold meI meLo meHi; rw [if_neg hab, if_neg hab]), show meR ρ a b = thR ρ 5 ↑b ↑a (powF (ρ.1 0) (powF (ρ.1 0) (ρ.1 1) (ρ.2 9 a).toNat) (ρ.2 9 b).toNat) from (by unfold meR meV meLo meHi; rw [if_neg hab, if_neg hab])]
    refine S_iload_n dX9_meeting_0 rfl ?_
    refine S_iload_n dX9_meeting_1 rfl ?_
    refine S_icmp_ge 9 dX9_meeting_2 (by decide) (by omega) (fun c_2 => ?_) (fun c_2 => absurd c_2 (by omega))
    refine S_iload_n dX9_meeting_9 rfl ?_
    refine S_istore_n dX9_meeting_10 (by decide) ?_
    refine S_iload_n dX9_meeting_11 rfl ?_
    refine S_iload_n dX9_meeting_12 rfl ?_
    refine S_icmp_ge 20 dX9_meeting_13 (by decide) (by omega) (fun c_13 => ?_) (fun c_13 => absurd c_13 (by omega))
    refine S_iload_n dX9_meeting_20 rfl ?_
    refine S_istore dX9_meeting_21 (by decide) ?_
    refine S_aload_n dX9_meeting_23 rfl ?_
    refine S_iconst dX9_meeting_24 ?_
    refine S_iload_n dX9_meeting_25 rfl ?_
    refine S_iload dX9_meeting_26 rfl ?_
    refine S_aload_n dX9_meeting_28 rfl ?_
    refine S_aload_n dX9_meeting_29 rfl ?_
    refine S_iload dX9_meeting_30 rfl ?_
    refine S_callV (mi := mi_X9_meeting) [vI (↑a)] ok_X9_publicOf ml_X9_152 dX9_meeting_32 rfl (by decide) rfl (by decide) rfl (Nat.le_of_ble_eq_true rfl) rfl (r_X9_publicOf (ρ := ρ) a (ρ.2 9 a).toNat (by omega) (by omega) (by omega) hg hq M hR) ?_
    rintro v' M1 ⟨rfl, hR1, hS1'⟩
    have hS1 := hS.trans hS1'
    have hpb := powv h.2.2.1 hg.1 (ρ.2 9 a).toNat
    refine S_aload_n dX9_meeting_35 rfl ?_
    refine S_getP fl_X9_32 dX9_meeting_36 rfl rfl (hR1.p 9 rfl) ?_
    refine S_iload_n dX9_meeting_39 rfl ?_
    refine R_ald (v := ↑(ρ.2 9 b).toNat) b hR1 dX9_meeting_40 rfl rfl (by omega) (show _ < 8000 from by omega) (by omega) ?_
    refine S_callV (mi := mi_X9_meeting) [vI (powF (ρ.1 0) (ρ.1 1) ((ρ.2 9 a).toNat)), vI (↑(ρ.2 9 b).toNat)] ok_X9_power ml_X9_145 dX9_meeting_41 rfl (by decide) rfl (by decide) rfl (Nat.le_of_ble_eq_true rfl) rfl (r_X9_power (ρ := ρ) (powF (ρ.1 0) (ρ.1 1) ((ρ.2 9 a).toNat)) (ρ.2 9 b).toNat (by omega) (by omega) hq M1 hR1) ?_
    rintro v' M2 ⟨rfl, hR2, hS2'⟩
    have hS2 := hS1.trans hS2'
    refine S_callV (mi := mi_X9_meeting) [vI 5, vI (↑b), vI (↑a), vI (powF (ρ.1 0) (powF (ρ.1 0) (ρ.1 1) ((ρ.2 9 a).toNat)) (ρ.2 9 b).toNat)] ok_X9_thing ml_X9_156 dX9_meeting_44 rfl (by decide) rfl (by decide) rfl (Nat.le_of_ble_eq_true rfl) rfl (r_X9_thing (ρ := ρ) 5 (↑b) (↑a) (powF (ρ.1 0) (powF (ρ.1 0) (ρ.1 1) ((ρ.2 9 a).toNat)) (ρ.2 9 b).toNat) e5 l8 (by omega) (by omega) (by omega) hT M2 hR2) ?_
    rintro v' M3 ⟨rfl, hR3, hS3'⟩
    have hS3 := hS2.trans hS3'
    exact S_iret dX9_meeting_47 rfl (Or.inl rfl) ⟨rfl, hR3, hS3⟩
theorem RS.setA_eq (ρ : RS) (k j : Nat) (v : Int) : (ρ.setA k j v).2 k j = v := if_pos ⟨rfl, rfl⟩
theorem RS.setA_ne {ρ : RS} {k j k' j' : Nat} {v : Int} (h : k' ≠ k ∨ j' ≠ j) : (ρ.setA k j v).2 k' j' = ρ.2 k' j' := if_neg (by omega)
def skS (ρ : RS) (e c n : Nat) : RS := ((chR (keepR (kyR ρ c) e n (ρ.2 22 e) ↑(kyI ρ c)) c).setA 18 e ↑(chI (keepR (kyR ρ c) e n (ρ.2 22 e) ↑(kyI ρ c)) c)).setA 22 e (ρ.2 22 e + 1)
def skF (ρ : RS) (e : Nat) : Nat → RS
  | 0 => ρ
  | d + 1 => skF (skS ρ e (ρ.2 18 e).toNat (ρ.2 25 e).toNat) e d
def SkOK (ρ : RS) (e N p : Nat) : Prop := ThOK ρ N ∧ KOK ρ ∧ (∃ c : Nat, ρ.2 18 e = ↑c ∧ c < thN ρ) ∧ (-1 ≤ ρ.2 19 e ∧ ρ.2 19 e ≤ 10007) ∧ (0 ≤ ρ.1 30 ∧ ρ.1 30 ≤ 300) ∧ ρ.2 22 e = ↑p
theorem skS_ok {ρ : RS} {e N p c n : Nat} (he : e < 12) (hN : N < 7990) (hp : p < 600) (h : SkOK ρ e N p) (hc : ρ.2 18 e = ↑c) (hcl : c < thN ρ) (hn : ρ.2 25 e = ↑n) (hn2 : n ≤ 12) :
    SkOK (skS ρ e c n) e (N + 2) (p + 1) ∧ ThOK (kyR ρ c) (N + 1) ∧ c < thN (kyR ρ c) ∧ kyI ρ c < thN (kyR ρ c) ∧ ThOK (keepR (kyR ρ c) e n (ρ.2 22 e) ↑(kyI ρ c)) (N + 1) ∧ c < thN (keepR (kyR ρ c) e n (ρ.2 22 e) ↑(kyI ρ c)) ∧ (kyR ρ c).2 25 e = ↑n := by
  obtain ⟨h1, h2, -, h4, h5, h6⟩ := h
  have k1 := h1.ky hcl
  have e25 : ∀ k j, k < 6 ∨ 10 < k → (kyR ρ c).2 k j = ρ.2 k j := fun k j hk => thR_old_at _ _ _ _ _ _ _ (by omega)
  have hK1 : KOK (kyR ρ c) := h2.congr (fun k j a b => e25 k j (by omega))
  have e30 : (kyR ρ c).1 30 = ρ.1 30 := thR_s _ _ _ _ _ _ (by omega)
  have hK2 : KOK (keepR (kyR ρ c) e n (ρ.2 22 e) ↑(kyI ρ c)) := hK1.keep he hn2 (by rw [e25 19 e (by omega)]; exact h4) (by omega) (by have := k1.1.2.1; omega) (by rw [e30]; exact h5)
  have hT2 : ThOK (keepR (kyR ρ c) e n (ρ.2 22 e) ↑(kyI ρ c)) (N + 1) := k1.1.congr ⟨keepR_s _ _ _ _ _ _, keepR_s _ _ _ _ _ _, keepR_s _ _ _ _ _ _⟩ (fun k j a b => keepR_at _ _ _ _ _ _ _ (by omega))
  have hn2' : thN (keepR (kyR ρ c) e n (ρ.2 22 e) ↑(kyI ρ c)) = thN (kyR ρ c) := thN_congr (keepR_s _ _ _ _ _ _)
  have k3 := hT2.ch (t := c) (by omega)
  have a3 : ∀ k j, k < 6 ∨ (10 < k ∧ k < 25) ∨ 29 < k → (chR (keepR (kyR ρ c) e n (ρ.2 22 e) ↑(kyI ρ c)) c).2 k j = ρ.2 k j := fun k j hk => ((thR_old_at _ _ _ _ _ _ _ (by omega)).trans (keepR_at _ _ _ _ _ _ _ (by omega))).trans (e25 k j (by omega))
  have hs3 : thN (skS ρ e c n) = thN (chR (keepR (kyR ρ c) e n (ρ.2 22 e) ↑(kyI ρ c)) c) := rfl
  refine ⟨⟨k3.1.congr ⟨rfl, rfl, rfl⟩ (fun k j a b => ?_), hK2.congr (fun k j a b => ?_), ⟨_, ?_, by rw [hs3]; exact k3.2.1⟩, ?_, ?_, ?_⟩, k1.1, by omega, k1.2.1, hT2, by omega, by rw [e25 25 e (by omega)]; exact hn⟩
  · show (if k = 22 ∧ j = e then _ else if k = 18 ∧ j = e then _ else _) = _
    rw [if_neg (by omega), if_neg (by omega)]
  · show (if k = 22 ∧ j = e then _ else if k = 18 ∧ j = e then _ else _) = _
    rw [if_neg (by omega), if_neg (by omega)]
    exact thR_old_at _ _ _ _ _ _ _ (by omega)
  · unfold skS
    rw [RS.setA_ne (by omega), RS.setA_eq]
  · show -1 ≤ (chR (keepR (kyR ρ c) e n (ρ.2 22 e) ↑(kyI ρ c)) c).2 19 e ∧ (chR (keepR (kyR ρ c) e n (ρ.2 22 e) ↑(kyI ρ c)) c).2 19 e ≤ 10007
    rw [a3 19 e (by omega)]; exact h4
  · show 0 ≤ (chR (keepR (kyR ρ c) e n (ρ.2 22 e) ↑(kyI ρ c)) c).1 30 ∧ (chR (keepR (kyR ρ c) e n (ρ.2 22 e) ↑(kyI ρ c)) c).1 30 ≤ 300
    rw [thR_s _ _ _ _ _ _ (by omega), keepR_s, e30]; exact h5
  · show (if 22 = 22 ∧ e = e then ρ.2 22 e + 1 else _) = _
    rw [if_pos ⟨rfl, rfl⟩, h6]; omega
theorem lp_X9_skip {G : Ge} {M0 : Mem} (e till : Nat) (he : e < 12) (ht : till ≤ 600) : ∀ (d : Nat) (ρ : RS) (N p : Nat) (M : Mem), p + d = till → N + 2 * d < 7990 → SkOK ρ e N p → Rf ρ M → SameR M0 M → Sf G mi_X9_skip (fun v' M' => v' = none ∧ Rf (skF ρ e d) M' ∧ SameR M0 M') 0 [some (vR ((30, 0))), some (vI (↑e)), some (vI (↑till))] [] M := by
  intro d
  induction d with
  | zero =>
    intro ρ N p M hp hN hO hR hS
    obtain rfl : p = till := by omega
    have h22 := hO.2.2.2.2.2
    refine S_aload_n dX9_skip_0 rfl ?_
    refine S_getP fl_X9_72 dX9_skip_1 rfl rfl (hR.p 22 rfl) ?_
    refine S_iload_n dX9_skip_4 rfl ?_
    refine R_ald (v := ↑p) e hR dX9_skip_5 rfl rfl (by omega) (show _ < 12 from by omega) h22 ?_
    refine S_iload_n dX9_skip_6 rfl ?_
    refine S_icmp_ge 60 dX9_skip_7 (by decide) (by omega) (fun c_7 => ?_) (fun c_7 => absurd c_7 (by omega))
    exact S_vret dX9_skip_60 rfl ⟨rfl, hR, hS⟩
  | succ d ih =>
    intro ρ N p M hp hN hO hR hS
    have h22 := hO.2.2.2.2.2
    obtain ⟨c, hc, hcl⟩ := hO.2.2.1
    obtain ⟨n, hn2, hn⟩ := hO.2.1.1 e he
    obtain ⟨s1, s2, s3, s4, s5, s6, s7⟩ := skS_ok he (by omega) (by omega) hO hc hcl hn hn2
    rw [show skF ρ e (d + 1) = skF (skS ρ e c n) e d from by show skF (skS ρ e (ρ.2 18 e).toNat (ρ.2 25 e).toNat) e d = _; rw [hc, hn]; rfl]
    refine S_aload_n dX9_skip_0 rfl ?_
    refine S_getP fl_X9_72 dX9_skip_1 rfl rfl (hR.p 22 rfl) ?_
    refine S_iload_n dX9_skip_4 rfl ?_
    refine R_ald (v := ↑p) e hR dX9_skip_5 rfl rfl (by omega) (show _ < 12 from by omega) h22 ?_
    refine S_iload_n dX9_skip_6 rfl ?_
    refine S_icmp_ge 60 dX9_skip_7 (by decide) (by omega) (fun c_7 => absurd c_7 (by omega)) (fun c_7 => ?_)
    refine S_aload_n dX9_skip_10 rfl ?_
    refine S_iload_n dX9_skip_11 rfl ?_
    refine S_aload_n dX9_skip_12 rfl ?_
    refine S_getP fl_X9_72 dX9_skip_13 rfl rfl (hR.p 22 rfl) ?_
    refine S_iload_n dX9_skip_16 rfl ?_
    refine R_ald (v := ρ.2 22 e) e hR dX9_skip_17 rfl rfl (by omega) (show _ < 12 from by omega) rfl ?_
    refine S_aload_n dX9_skip_18 rfl ?_
    refine S_aload_n dX9_skip_19 rfl ?_
    refine S_getP fl_X9_60 dX9_skip_20 rfl rfl (hR.p 18 rfl) ?_
    refine S_iload_n dX9_skip_23 rfl ?_
    refine R_ald (v := ↑c) e hR dX9_skip_24 rfl rfl (by omega) (show _ < 12 from by omega) hc ?_
    refine S_callV (mi := mi_X9_skip) [vI (↑c)] ok_X9_keyOf ml_X9_188 dX9_skip_25 rfl (by decide) rfl (by decide) rfl (Nat.le_of_ble_eq_true rfl) rfl (r_X9_keyOf (ρ := ρ) c N hO.1 (by omega) (by omega) M hR) ?_
    rintro v' M1 ⟨rfl, hR1, hS1'⟩
    have hS1 := hS.trans hS1'
    refine S_callV (mi := mi_X9_skip) [vI (↑e), vI (ρ.2 22 e), vI (↑(kyI ρ c))] ok_X9_keep ml_X9_198 dX9_skip_28 rfl (by decide) rfl (by decide) rfl (Nat.le_of_ble_eq_true rfl) rfl (r_X9_keep (ρ := (kyR ρ c)) e n (ρ.2 22 e) (↑(kyI ρ c)) (by omega) hn2 s7 M1 hR1) ?_
    rintro v' M2 ⟨rfl, hR2, hS2'⟩
    have hS2 := hS1.trans hS2'
    refine S_aload_n dX9_skip_31 rfl ?_
    refine S_getP fl_X9_60 dX9_skip_32 rfl rfl (hR2.p 18 rfl) ?_
    refine S_iload_n dX9_skip_35 rfl ?_
    refine S_aload_n dX9_skip_36 rfl ?_
    refine S_aload_n dX9_skip_37 rfl ?_
    refine S_getP fl_X9_60 dX9_skip_38 rfl rfl (hR2.p 18 rfl) ?_
    refine S_iload_n dX9_skip_41 rfl ?_
    refine R_ald (v := ↑c) e hR2 dX9_skip_42 rfl rfl (by omega) (show _ < 12 from by omega) ((keepR_at _ _ _ _ _ _ _ (by omega)).trans ((thR_old_at _ _ _ _ _ _ _ (by omega)).trans hc)) ?_
    refine S_callV (mi := mi_X9_skip) [vI (↑c)] ok_X9_chainOf ml_X9_185 dX9_skip_43 rfl (by decide) rfl (by decide) rfl (Nat.le_of_ble_eq_true rfl) rfl (r_X9_chainOf (ρ := (keepR (kyR ρ c) e n (ρ.2 22 e) (↑(kyI ρ c)))) c (N + 1) s5 (by omega) (by omega) M2 hR2) ?_
    rintro v' M3 ⟨rfl, hR3, hS3'⟩
    have hS3 := hS2.trans hS3'
    refine R_ast e dX9_skip_46 rfl rfl (by omega) (show _ < 12 from by omega) hR3 hS3 (fun M4 hR4 hS4 => ?_)
    refine S_aload_n dX9_skip_47 rfl ?_
    refine S_getP fl_X9_72 dX9_skip_48 rfl rfl (hR4.p 22 rfl) ?_
    refine S_iload_n dX9_skip_51 rfl ?_
    refine S_dup2 dX9_skip_52 ?_
    refine R_ald (v := ρ.2 22 e) e hR4 dX9_skip_53 rfl rfl (by omega) (show _ < 12 from by omega) ((thR_old_at _ _ _ _ _ _ _ (by omega)).trans ((keepR_at _ _ _ _ _ _ _ (by omega)).trans (thR_old_at _ _ _ _ _ _ _ (by omega)))) ?_
    refine S_iconst dX9_skip_54 ?_
    refine S_iadd dX9_skip_55 ?_
    refine R_ast e dX9_skip_56 rfl rfl (by omega) (show _ < 12 from by omega) hR4 hS4 (fun M5 hR5 hS5 => ?_)
    refine S_goto 0 dX9_skip_57 (by decide) ?_
    exact ih (skS ρ e c n) (N + 2) (p + 1) _ (by omega) (by omega) s1 hR5 hS5
theorem r_X9_skip {G : Ge} {ρ : RS} (e till d N p : Nat) (he : e < 12) (ht : till ≤ 600) (hp : p + d = till) (hN : N + 2 * d < 7990) (hO : SkOK ρ e N p) : RC G mi_X9_skip [vR (30, 0), vI ↑e, vI ↑till] ρ none (skF ρ e d) := by
  intro M hR
  have hS := SameR.rf M
  refine Ct.of pl_X9_skip [some (vR ((30, 0))), some (vI (↑e)), some (vI (↑till))] rfl (Nat.le_of_ble_eq_true rfl) ?_
  exact lp_X9_skip e till he ht d ρ N p M hp hN hO hR hS
