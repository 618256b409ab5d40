/-! THE LAW: its loop, and all of it -/
theorem and31 (x : Int32) : 0 ≤ (x &&& jI 31).toInt ∧ (x &&& jI 31).toInt ≤ 31 := by
  have e2 : (x &&& jI 31).toBitVec.toNat = x.toBitVec.toNat &&& 31 := by
    show (x.toBitVec &&& (jI 31).toBitVec).toNat = _
    rw [BitVec.toNat_and]
    rfl
  have hle : x.toBitVec.toNat &&& 31 ≤ 31 := Nat.and_le_right
  have e3 : (x &&& jI 31).toInt = ((x &&& jI 31).toBitVec.toNat : Int) := by
    show (x &&& jI 31).toBitVec.toInt = _
    exact BitVec.toInt_eq_toNat_of_lt (by rw [e2]; omega)
  rw [e3, e2]
  omega
theorem law_step {nm : String} {G : Ge} {Q : Option AVal → Mem → Prop} {M : Mem} {Y : (Nat → Bool) × (Nat → Bool)} {ρ : RS} {k : Nat} (hk : k < 512) (h : LI k M Y ρ) (hRm : Rm 136 736 M) (hi : 4 * k + 3 < gN G ∧ gN G ≤ 2048) (kk : ∀ (Y' : (Nat → Bool) × (Nat → Bool)) (ρ' : RS) (M' : Mem), LI (k + 1) M' Y' ρ' → Bg 136 736 M M' → Sf G (miL nm) Q 809 [some (vR (40, 0)), some (vR (1, 0)), some (vR (30, 0)), some (vI ↑(4 * k))] [] M') : Sf G (miL nm) Q 26 [some (vR (40, 0)), some (vR (1, 0)), some (vR (30, 0)), some (vI ↑(4 * k))] [] M := by
  refine S_aload_n dL_law_26 rfl ?_
  refine S_iload_n dL_law_27 rfl ?_
  refine S_sld (4 * k) dL_law_28 rfl (by omega) rfl ?_
  refine S_bipush dL_law_29 (by decide) ?_
  refine S_iand dL_law_31 ?_
  have hb := and31 (jI (gX G (4 * k)).toInt)
  obtain ⟨v, hv⟩ : ∃ v : Int, v = (jI (gX G (4 * k)).toInt &&& jI 31).toInt := ⟨_, rfl⟩
  rw [← hv] at hb ⊢
  clear hv
  rcases (show v = 0 ∨ v = 1 ∨ v = 2 ∨ v = 3 ∨ v = 4 ∨ v = 5 ∨ v = 6 ∨ v = 7 ∨ v = 8 ∨ v = 9 ∨ v = 10 ∨ v = 11 ∨ v = 12 ∨ v = 13 ∨ v = 14 ∨ v = 15 ∨ v = 16 ∨ v = 17 ∨ v = 18 ∨ v = 19 ∨ v = 20 ∨ v = 21 ∨ v = 22 ∨ 22 < v by omega) with t0 | t1 | t2 | t3 | t4 | t5 | t6 | t7 | t8 | t9 | t10 | t11 | t12 | t13 | t14 | t15 | t16 | t17 | t18 | t19 | t20 | t21 | t22 | t23
  · refine S_tableIn 140 dL_law_32 (by omega) (by omega) (by rw [t0]; rfl) (by decide) ?_
    exact law_prime hk h hRm hi kk
  · refine S_tableIn 173 dL_law_32 (by omega) (by omega) (by rw [t1]; rfl) (by decide) ?_
    exact law_limits hk h hRm hi kk
  · refine S_tableIn 206 dL_law_32 (by omega) (by omega) (by rw [t2]; rfl) (by decide) ?_
    exact law_pair hk h hRm hi kk
  · refine S_tableIn 219 dL_law_32 (by omega) (by omega) (by rw [t3]; rfl) (by decide) ?_
    exact law_secret hk h hRm hi kk
  · refine S_tableIn 252 dL_law_32 (by omega) (by omega) (by rw [t4]; rfl) (by decide) ?_
    exact law_start hk h hRm hi kk
  · refine S_tableIn 275 dL_law_32 (by omega) (by omega) (by rw [t5]; rfl) (by decide) ?_
    exact law_send hk h hRm hi kk
  · refine S_tableIn 308 dL_law_32 (by omega) (by omega) (by rw [t6]; rfl) (by decide) ?_
    exact law_alter hk h hRm hi kk
  · refine S_tableIn 341 dL_law_32 (by omega) (by omega) (by rw [t7]; rfl) (by decide) ?_
    exact law_take hk h hRm hi kk
  · refine S_tableIn 374 dL_law_32 (by omega) (by omega) (by rw [t8]; rfl) (by decide) ?_
    exact law_see hk h hRm hi kk
  · refine S_tableIn 397 dL_law_32 (by omega) (by omega) (by rw [t9]; rfl) (by decide) ?_
    exact law_known hk h hRm hi kk
  · refine S_tableIn 420 dL_law_32 (by omega) (by omega) (by rw [t10]; rfl) (by decide) ?_
    exact law_steps hk h hRm hi kk
  · refine S_tableIn 443 dL_law_32 (by omega) (by omega) (by rw [t11]; rfl) (by decide) ?_
    exact law_heals hk h hRm hi kk
  · refine S_tableIn 466 dL_law_32 (by omega) (by omega) (by rw [t12]; rfl) (by decide) ?_
    exact law_same hk h hRm hi kk
  · refine S_tableIn 489 dL_law_32 (by omega) (by omega) (by rw [t13]; rfl) (by decide) ?_
    exact law_told hk h hRm hi kk
  · refine S_tableIn 522 dL_law_32 (by omega) (by omega) (by rw [t14]; rfl) (by decide) ?_
    exact law_skipped hk h hRm hi kk
  · refine S_tableIn 565 dL_law_32 (by omega) (by omega) (by rw [t15]; rfl) (by decide) ?_
    exact law_letter hk h hRm hi kk
  · refine S_tableIn 598 dL_law_32 (by omega) (by omega) (by rw [t16]; rfl) (by decide) ?_
    exact law_count hk h hRm hi kk
  · refine S_tableIn 621 dL_law_32 (by omega) (by omega) (by rw [t17]; rfl) (by decide) ?_
    exact law_hold hk h hRm hi kk
  · refine S_tableIn 664 dL_law_32 (by omega) (by omega) (by rw [t18]; rfl) (by decide) ?_
    exact law_tray hk h hRm hi kk
  · refine S_tableIn 687 dL_law_32 (by omega) (by omega) (by rw [t19]; rfl) (by decide) ?_
    exact law_act hk h hRm hi kk
  · refine S_tableIn 730 dL_law_32 (by omega) (by omega) (by rw [t20]; rfl) (by decide) ?_
    exact law_trace hk h hRm hi kk
  · refine S_tableIn 753 dL_law_32 (by omega) (by omega) (by rw [t21]; rfl) (by decide) ?_
    exact law_forge hk h hRm hi kk
  · refine S_tableIn 796 dL_law_32 (by omega) (by omega) (by rw [t22]; rfl) (by decide) ?_
    exact law_status hk h hRm hi kk
  · refine S_tableOut 809 dL_law_32 (by omega) (Or.inr t23) (by decide) ?_
    exact kk Y ρ M ⟨h.1, h.2.1, h.2.2.1, h.2.2.2.none h.2.2.1⟩ ((Bg.rf M).le (by decide) (by decide))
theorem lp_law {nm : String} {G : Ge} {Q : Option AVal → Mem → Prop} (hn : gN G ≤ 2048) (hQ : ∀ M', Q (some (vI 1)) M') : ∀ (d k : Nat) (M : Mem) (Y : (Nat → Bool) × (Nat → Bool)) (ρ : RS), k + d = gN G / 4 → LI k M Y ρ → Rm (136 * d) (736 * d) M → Sf G (miL nm) Q 18 [some (vR (40, 0)), some (vR (1, 0)), some (vR (30, 0)), some (vI ↑(4 * k))] [] M := by
  intro d
  induction d with
  | zero =>
    intro k M Y ρ hd _ _
    refine S_iload_n dL_law_18 rfl ?_
    refine S_aload_n dL_law_19 rfl ?_
    refine S_slen dL_law_20 ?_
    refine S_iconst dL_law_21 ?_
    refine S_isub dL_law_22 ?_
    refine S_icmp_gt 815 dL_law_23 (by decide) (by omega) (fun _ => ?_) (fun c => absurd (show (↑(gN G) : Int) - 4 < ↑(4 * k) by omega) c)
    refine S_iconst dL_law_815 ?_
    exact S_iret dL_law_816 rfl (Or.inr ⟨rfl, Or.inr rfl⟩) (hQ M)
  | succ d ih =>
    intro k M Y ρ hd h hRm
    refine S_iload_n dL_law_18 rfl ?_
    refine S_aload_n dL_law_19 rfl ?_
    refine S_slen dL_law_20 ?_
    refine S_iconst dL_law_21 ?_
    refine S_isub dL_law_22 ?_
    refine S_icmp_gt 815 dL_law_23 (by decide) (by omega) (fun c => absurd c (show ¬ ((↑(gN G) : Int) - 4 < ↑(4 * k)) by omega)) (fun _ => ?_)
    refine law_step (by omega) h (hRm.sub (Bg.rf M) (by omega) (by omega)) (by omega) (fun Y' ρ' M' h' hB => ?_)
    refine S_iinc dL_law_809 rfl (Nat.le_of_ble_eq_true rfl) ?_
    refine S_goto 18 dL_law_812 (by decide) ?_
    show Sf G (miL nm) Q 18 [some (vR (40, 0)), some (vR (1, 0)), some (vR (30, 0)), some (vI (↑(4 * k) + 4))] [] M'
    rw [show (↑(4 * k) : Int) + 4 = ↑(4 * (k + 1)) by omega]
    exact ih (k + 1) M' Y' ρ' (by omega) h' (hRm.sub hB (by omega) (by omega))
theorem law_all {nm : String} {G : Ge} {Q : Option AVal → Mem → Prop} (hn : gN G ≤ 2048) (hQ : ∀ M', Q (some (vI 1)) M') {M : Mem} (hfr : ∀ r : Role, r.1 < 20 ∨ (29 < r.1 ∧ r.1 < 40) → M.len r = none) (h20 : M.len (20, 0) = some 0) (hI : ∀ r k, M.I r k = 0) (hrc : M.rc = 600000) (hrs : M.rs = 7302250) : Sf G (miL nm) Q 0 [some (vR (40, 0)), none, none, none] [] M := by
  refine S_new (1, 0) nl_L_7 dL_law_0 rfl (hfr _ (Or.inl (by decide))) (by omega) (by show 11 ≤ M.rs; omega) ?_
  have hF1 : Fr CLs M (M.new (1, 0) 0 11) := Fr.nw 1 0 (by decide)
  have hO : Obj (M.new (1, 0) 0 11) (1, 0) (List.replicate 11 0) (List.replicate 6 none) := Obj.nw M (1, 0) 11 11 6
  have hl1 : ∀ r : Role, 2 ≤ r.1 → r.1 ≤ 19 → r.1 ≠ 1 → (M.new (1, 0) 0 11).len r = none := fun r a b c => (Mem.new_len_ne (fun z => c (by rw [z]))).trans (hfr r (Or.inl (by omega)))
  have hr1 : (M.new (1, 0) 0 11).rc = M.rc - 1 ∧ (M.new (1, 0) 0 11).rs = M.rs - 11 := ⟨rfl, rfl⟩
  have h201 : (M.new (1, 0) 0 11).len (20, 0) = some 0 := (hF1.len (20, 0) (by decide)).trans h20
  refine Sf.nm (X := M.new (1, 0) 0 11) (fun M1 hM1 => ?_)
  rw [← hM1] at hF1 hO hl1 hr1 h201
  clear hM1
  refine S_dup dL_law_3 ?_
  refine S_callI (mi := (miL nm)) [] ok_X8_init ml_L_9 dL_law_4 rfl rfl (Nat.le_of_ble_eq_true rfl) rfl (Nat.le_of_ble_eq_true rfl) rfl (c_init hO hl1 h201 (by omega) (by omega)) ?_
  rintro v' M2 ⟨rfl, hCs, hF2, c2, s2⟩
  refine S_astore_n dL_law_7 (Nat.le_of_ble_eq_true rfl) ?_
  have hF : Fr CLs M M2 := hF1.trans hF2
  have hq : ∀ r : Role, 29 < r.1 → r.1 < 40 → r.1 ∉ CLs := fun r a b z => by
    have : r.1 ≤ 19 := by
      have q : ∀ c ∈ CLs, c ≤ 19 := by decide
      exact q _ z
    omega
  have hl2 : ∀ r : Role, 29 < r.1 → r.1 < 40 → M2.len r = none := fun r a b => (hF.len r (hq r a b)).trans (hfr r (Or.inr ⟨a, b⟩))
  have hI2 : ∀ (r : Role) (k : Nat), 29 < r.1 → r.1 < 40 → M2.I r k = 0 := fun r k a b => (hF.I r (hq r a b)).trans (hI r k)
  refine S_new (30, 0) nl_L_10 dL_law_8 rfl (hl2 _ (by decide) (by decide)) (by omega) (by show 46 ≤ M2.rs; omega) ?_
  have arb : ∀ k, 30 < arC k ∧ arC k < 40 := fun k => by
    unfold arC
    split <;> decide
  have hF3 : Fr [30, 31, 32] M2 (M2.new (30, 0) 0 46) := Fr.nw 30 0 (by decide)
  have b1 : (M2.new (30, 0) 0 46).len (30, 0) = some 0 := Mem.new_len_eq
  have b2 : ∀ k, (M2.new (30, 0) 0 46).I (30, 0) k = 0 := fun k => Mem.new_I_eq
  have ne : ∀ k, ((arC k, k) : Role) ≠ (30, 0) := fun k z => by
    have := congrArg Prod.fst z
    have := arb k
    omega
  have b3 : ∀ k j, (M2.new (30, 0) 0 46).I (arC k, k) j = 0 := fun k j => (Mem.new_I_ne (ne k)).trans (hI2 _ _ (by have := arb k; omega) (by have := arb k; omega))
  have b4 : ∀ k, (M2.new (30, 0) 0 46).len (arC k, k) = none := fun k => (Mem.new_len_ne (ne k)).trans (hl2 _ (by have := arb k; omega) (by have := arb k; omega))
  have b5 : (M2.new (30, 0) 0 46).rc = M2.rc - 1 ∧ (M2.new (30, 0) 0 46).rs = M2.rs - 46 := ⟨rfl, rfl⟩
  refine Sf.nm (X := M2.new (30, 0) 0 46) (fun M3 hM3 => ?_)
  rw [← hM3] at hF3 b1 b2 b3 b4 b5
  clear hM3
  refine S_dup dL_law_11 ?_
  refine S_callI (mi := (miL nm)) [] ok_X9_init ml_L_12 dL_law_12 rfl rfl (Nat.le_of_ble_eq_true rfl) rfl (Nat.le_of_ble_eq_true rfl) rfl (r_X9_init b1 b2 b3 b4 (by omega) (by omega)) ?_
  rintro v' M4 ⟨rfl, hR, hX, c4, s4⟩
  refine S_astore_n dL_law_15 (Nat.le_of_ble_eq_true rfl) ?_
  refine S_iconst dL_law_16 ?_
  refine S_istore_n dL_law_17 (Nat.le_of_ble_eq_true rfl) ?_
  have hF4 : Fr [30, 31, 32] M3 M4 := fun r hr => hX r (fun z => hr (by rw [z]; decide)) (fun z => hr (by rw [z]; decide)) (fun z => hr (by rw [z]; decide))
  have hC4 := (hCs.frR hF3).frR hF4
  refine lp_law hn hQ (gN G / 4) 0 M4 _ ini (by omega) ⟨hC4, hR, Iv.zero, Qn.zero⟩ ⟨by omega, by omega⟩
