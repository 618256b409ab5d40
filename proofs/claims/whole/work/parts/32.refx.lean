/-! THE REFERENCE: how it begins -/
def ini : RS := (fun k => if k = 0 then 101 else if k = 1 then 2 else if k = 2 then 6 else if k = 3 then 50 else 0, fun _ _ => 0)
def bs : Nat → Nat
  | 0 => 0
  | k + 1 => bs k + rl k
def Rp (D : Nat) (M0 M : Mem) : Prop := M.len (30, 0) = some 0 ∧ (∀ k, M.I (30, 0) k = ini.1 k) ∧ (∀ k, isArr k = true → k < D → M.P (30, 0) k = some (arC k, k) ∧ M.len (arC k, k) = some (rl k)) ∧ (∀ k j, M.I (arC k, k) j = 0) ∧ (∀ k, isArr k = true → D ≤ k → M.len (arC k, k) = none) ∧ (∀ r : Role, r.1 ≠ 30 → r.1 ≠ 31 → r.1 ≠ 32 → M.len r = M0.len r ∧ M.I r = M0.I r ∧ M.P r = M0.P r) ∧ M0.rc ≤ M.rc + D ∧ M0.rs ≤ M.rs + bs D
theorem arC_inj {k k' : Nat} (h : (arC k, k) = ((arC k', k') : Role)) : k = k' := congrArg Prod.snd h
theorem arC_ne (k : Nat) : ((arC k, k) : Role) ≠ (30, 0) := fun e => by
  have := congrArg Prod.fst e
  rcases arC_or k with h | h <;> rw [h] at this <;> cases this
theorem Rp.step {D : Nat} {M0 M : Mem} (h : Rp D M0 M) (hk : isArr D = true) (hrc : 1 ≤ M.rc) (hrs : rl D ≤ M.rs) : Rp (D + 1) M0 ((M.new (arC D, D) (rl D) (rl D)).putP (30, 0) D (some (arC D, D))) := by
  obtain ⟨h1, h2, h3, h4, h5, h6, h7, h8⟩ := h
  refine ⟨(if_neg (arC_ne D).symm).trans h1, fun k => (show (if ((30, 0) : Role) = (arC D, D) then 0 else M.2.1 (30, 0) k) = _ from (if_neg (arC_ne D).symm).trans (h2 k)), fun k ha hkD => ?_, fun k j => ?_, fun k ha hkD => ?_, fun r a b c => ?_, ?_, ?_⟩
  · by_cases hkk : k = D
    · subst hkk
      exact ⟨if_pos ⟨rfl, rfl⟩, if_pos rfl⟩
    · obtain ⟨q1, q2⟩ := h3 k ha (by omega)
      refine ⟨?_, (if_neg (fun e => hkk (arC_inj e))).trans q2⟩
      show (if ((30, 0) : Role) = (30, 0) ∧ k = D then some (arC D, D) else if ((30, 0) : Role) = (arC D, D) then none else M.2.2.1 (30, 0) k) = _
      rw [if_neg (fun q => hkk q.2), if_neg (arC_ne D).symm]
      exact q1
  · show (if (arC k, k) = ((arC D, D) : Role) then 0 else M.2.1 (arC k, k) j) = 0
    split
    · rfl
    · exact h4 k j
  · exact (if_neg (fun e => by have := arC_inj e; omega)).trans (h5 k ha (by omega))
  · have hne : r ≠ (arC D, D) := fun e => by
      rw [e] at b c
      rcases arC_or D with h | h
      · exact b h
      · exact c h
    have hn0 : r ≠ (30, 0) := fun e => by rw [e] at a; exact a rfl
    obtain ⟨q1, q2, q3⟩ := h6 r a b c
    refine ⟨(if_neg hne).trans q1, ?_, ?_⟩
    · rw [← q2]; funext k; exact if_neg hne
    · rw [← q3]; funext k
      show (if r = (30, 0) ∧ k = D then some (arC D, D) else if r = (arC D, D) then none else M.2.2.1 r k) = _
      rw [if_neg (fun q => hn0 q.1), if_neg hne]; rfl
  · show M0.rc ≤ M.2.2.2.1 - 1 + (D + 1)
    have : M0.rc ≤ M.2.2.2.1 + D := h7
    have : 1 ≤ M.2.2.2.1 := hrc
    omega
  · show M0.rs ≤ M.2.2.2.2 - rl D + (bs D + rl D)
    have : M0.rs ≤ M.2.2.2.2 + bs D := h8
    have : rl D ≤ M.2.2.2.2 := hrs
    omega
theorem Rp.skip {D : Nat} {M0 M : Mem} (h : Rp D M0 M) (hk : isArr D = false) : Rp (D + 1) M0 M := by
  obtain ⟨h1, h2, h3, h4, h5, h6, h7, h8⟩ := h
  refine ⟨h1, h2, fun k ha hkD => h3 k ha ?_, h4, fun k ha hkD => h5 k ha (by omega), h6, by omega, by show M0.rs ≤ M.rs + (bs D + rl D); omega⟩
  by_cases hkk : k = D
  · rw [hkk, hk] at ha; cases ha
  · omega
theorem Rp.rf {M0 M : Mem} (h : Rp 46 M0 M) : Rf ini M := by
  obtain ⟨h1, h2, h3, h4, h5, h6, h7, h8⟩ := h
  refine ⟨h1, h2, h4, fun k ha => h3 k ha ?_⟩
  have h9 : 0 < rl k := of_decide_eq_true ha
  by_cases hk : k < 46
  · exact hk
  · exfalso
    have : rl k = 0 := by
      unfold rl
      split <;> first | rfl | omega
    omega
set_option maxRecDepth 100000 in
theorem r_X9_init {G : Ge} {M : Mem} (h30 : M.len (30, 0) = some 0) (hI : ∀ k, M.I (30, 0) k = 0) (hA : ∀ k j, M.I (arC k, k) j = 0) (hN : ∀ k, M.len (arC k, k) = none) (hrc : 100 ≤ M.rc) (hrs : 70000 ≤ M.rs) : Ct G mi_X9_init [vR (30, 0)] M (fun v' M' => v' = none ∧ Rf ini M' ∧ (∀ r : Role, r.1 ≠ 30 → r.1 ≠ 31 → r.1 ≠ 32 → M'.len r = M.len r ∧ M'.I r = M.I r ∧ M'.P r = M.P r) ∧ M.rc ≤ M'.rc + 46 ∧ M.rs ≤ M'.rs + 65000) := by
  refine Ct.of pl_X9_init [some (vR (30, 0))] rfl (Nat.le_of_ble_eq_true rfl) ?_
  refine S_aload_n dX9_init_0 rfl ?_
  refine S_objInit oi_X9_1 dX9_init_1 (by decide) (Nat.le_of_ble_eq_true rfl) ?_
  refine S_aload_n dX9_init_4 rfl ?_
  refine S_bipush dX9_init_5 (by decide) ?_
  refine S_putI fl_X9_7 dX9_init_7 rfl rfl rfl (Or.inl rfl) ?_
  refine S_aload_n dX9_init_10 rfl ?_
  refine S_iconst dX9_init_11 ?_
  refine S_putI fl_X9_13 dX9_init_12 rfl rfl rfl (Or.inl rfl) ?_
  refine S_aload_n dX9_init_15 rfl ?_
  refine S_bipush dX9_init_16 (by decide) ?_
  refine S_putI fl_X9_16 dX9_init_18 rfl rfl rfl (Or.inl rfl) ?_
  refine S_aload_n dX9_init_21 rfl ?_
  refine S_bipush dX9_init_22 (by decide) ?_
  refine S_putI fl_X9_19 dX9_init_24 rfl rfl rfl (Or.inl rfl) ?_
  refine S_aload_n dX9_init_27 rfl ?_
  refine S_sipush dX9_init_28 (by decide) ?_
  have hP : Rp 0 M ((((M.putI (30, 0) 0 101).putI (30, 0) 1 2).putI (30, 0) 2 6).putI (30, 0) 3 50) := by
    refine ⟨h30, fun k => ?_, fun k _ h => absurd h (by omega), fun k j => ?_, fun k _ _ => hN k, fun r a b c => ⟨rfl, ?_, rfl⟩, Nat.le_refl _, Nat.le_refl _⟩
    · show (if _ ∧ k = 3 then 50 else if _ ∧ k = 2 then 6 else if _ ∧ k = 1 then 2 else if _ ∧ k = 0 then 101 else M.2.1 (30, 0) k) = (if k = 0 then (101 : Int) else if k = 1 then 2 else if k = 2 then 6 else if k = 3 then 50 else 0)
      have := hI k
      simp only [true_and]
      by_cases k0 : k = 0
      · subst k0; rfl
      by_cases k1 : k = 1
      · subst k1; rfl
      by_cases k2 : k = 2
      · subst k2; rfl
      by_cases k3 : k = 3
      · subst k3; rfl
      rw [if_neg k3, if_neg k2, if_neg k1, if_neg k0, if_neg k0, if_neg k1, if_neg k2, if_neg k3]
      exact hI k
    · show (if (arC k, k) = ((30, 0) : Role) ∧ _ then _ else if (arC k, k) = ((30, 0) : Role) ∧ _ then _ else if (arC k, k) = ((30, 0) : Role) ∧ _ then _ else if (arC k, k) = ((30, 0) : Role) ∧ _ then _ else M.2.1 (arC k, k) j) = 0
      rw [if_neg (fun q => arC_ne k q.1), if_neg (fun q => arC_ne k q.1), if_neg (fun q => arC_ne k q.1), if_neg (fun q => arC_ne k q.1)]
      exact hA k j
    · funext j
      have hn0 : r ≠ (30, 0) := fun e => by rw [e] at a; exact a rfl
      show (if r = ((30, 0) : Role) ∧ _ then _ else if r = ((30, 0) : Role) ∧ _ then _ else if r = ((30, 0) : Role) ∧ _ then _ else if r = ((30, 0) : Role) ∧ _ then _ else M.2.1 r j) = _
      rw [if_neg (fun q => hn0 q.1), if_neg (fun q => hn0 q.1), if_neg (fun q => hn0 q.1), if_neg (fun q => hn0 q.1)]
      rfl
  obtain ⟨M0, hM0⟩ : ∃ x : Mem, x = ((((M.putI (30, 0) 0 101).putI (30, 0) 1 2).putI (30, 0) 2 6).putI (30, 0) 3 50) := ⟨_, rfl⟩
  rw [← hM0] at hP ⊢
  clear hM0
  have hP0 := hP
  have hP0 := hP0.skip (D := 0) rfl
  have hP0 := hP0.skip (D := 1) rfl
  have hP0 := hP0.skip (D := 2) rfl
  have hP0 := hP0.skip (D := 3) rfl
  have hP0 := hP0.skip (D := 4) rfl
  have hP0 := hP0.skip (D := 5) rfl
  have hb0 : 1 ≤ M0.rc ∧ 8000 ≤ M0.rs := by
    have q1 := hP0.2.2.2.2.2.2.1
    have q2 := hP0.2.2.2.2.2.2.2
    rw [show bs 6 = 0 from by decide] at q2
    omega
  refine S_newarrI (arC 6, 6) 8000 ac_I dX9_init_31 rfl (by decide) rfl rfl (hP0.2.2.2.2.1 6 rfl (Nat.le_refl _)) hb0.1 hb0.2 ?_
  refine S_putPF fl_X9_22 dX9_init_33 rfl rfl rfl rfl rfl ?_
  have hP1 := hP0.step rfl hb0.1 hb0.2
  rw [show rl 6 = 8000 from rfl] at hP1
  obtain ⟨M1, hM1⟩ : ∃ x : Mem, x = (M0.new (arC 6, 6) 8000 8000).putP (30, 0) 6 (some (arC 6, 6)) := ⟨_, rfl⟩
  rw [← hM1] at hP1 ⊢
  clear hM1 hP0 hb0
  refine S_aload_n dX9_init_36 rfl ?_
  refine S_sipush dX9_init_37 (by decide) ?_
  have hb1 : 1 ≤ M1.rc ∧ 8000 ≤ M1.rs := by
    have q1 := hP1.2.2.2.2.2.2.1
    have q2 := hP1.2.2.2.2.2.2.2
    rw [show bs 7 = 8000 from by decide] at q2
    omega
  refine S_newarrI (arC 7, 7) 8000 ac_I dX9_init_40 rfl (by decide) rfl rfl (hP1.2.2.2.2.1 7 rfl (Nat.le_refl _)) hb1.1 hb1.2 ?_
  refine S_putPF fl_X9_26 dX9_init_42 rfl rfl rfl rfl rfl ?_
  have hP2 := hP1.step rfl hb1.1 hb1.2
  rw [show rl 7 = 8000 from rfl] at hP2
  obtain ⟨M2, hM2⟩ : ∃ x : Mem, x = (M1.new (arC 7, 7) 8000 8000).putP (30, 0) 7 (some (arC 7, 7)) := ⟨_, rfl⟩
  rw [← hM2] at hP2 ⊢
  clear hM2 hP1 hb1
  refine S_aload_n dX9_init_45 rfl ?_
  refine S_sipush dX9_init_46 (by decide) ?_
  have hb2 : 1 ≤ M2.rc ∧ 8000 ≤ M2.rs := by
    have q1 := hP2.2.2.2.2.2.2.1
    have q2 := hP2.2.2.2.2.2.2.2
    rw [show bs 8 = 16000 from by decide] at q2
    omega
  refine S_newarrI (arC 8, 8) 8000 ac_I dX9_init_49 rfl (by decide) rfl rfl (hP2.2.2.2.2.1 8 rfl (Nat.le_refl _)) hb2.1 hb2.2 ?_
  refine S_putPF fl_X9_29 dX9_init_51 rfl rfl rfl rfl rfl ?_
  have hP3 := hP2.step rfl hb2.1 hb2.2
  rw [show rl 8 = 8000 from rfl] at hP3
  obtain ⟨M3, hM3⟩ : ∃ x : Mem, x = (M2.new (arC 8, 8) 8000 8000).putP (30, 0) 8 (some (arC 8, 8)) := ⟨_, rfl⟩
  rw [← hM3] at hP3 ⊢
  clear hM3 hP2 hb2
  refine S_aload_n dX9_init_54 rfl ?_
  refine S_sipush dX9_init_55 (by decide) ?_
  have hb3 : 1 ≤ M3.rc ∧ 8000 ≤ M3.rs := by
    have q1 := hP3.2.2.2.2.2.2.1
    have q2 := hP3.2.2.2.2.2.2.2
    rw [show bs 9 = 24000 from by decide] at q2
    omega
  refine S_newarrI (arC 9, 9) 8000 ac_I dX9_init_58 rfl (by decide) rfl rfl (hP3.2.2.2.2.1 9 rfl (Nat.le_refl _)) hb3.1 hb3.2 ?_
  refine S_putPF fl_X9_32 dX9_init_60 rfl rfl rfl rfl rfl ?_
  have hP4 := hP3.step rfl hb3.1 hb3.2
  rw [show rl 9 = 8000 from rfl] at hP4
  obtain ⟨M4, hM4⟩ : ∃ x : Mem, x = (M3.new (arC 9, 9) 8000 8000).putP (30, 0) 9 (some (arC 9, 9)) := ⟨_, rfl⟩
  rw [← hM4] at hP4 ⊢
  clear hM4 hP3 hb3
  refine S_aload_n dX9_init_63 rfl ?_
  refine S_sipush dX9_init_64 (by decide) ?_
  have hb4 : 1 ≤ M4.rc ∧ 8000 ≤ M4.rs := by
    have q1 := hP4.2.2.2.2.2.2.1
    have q2 := hP4.2.2.2.2.2.2.2
    rw [show bs 10 = 32000 from by decide] at q2
    omega
  refine S_newarrZ (arC 10, 10) 8000 ac_Z dX9_init_67 rfl (by decide) rfl rfl (hP4.2.2.2.2.1 10 rfl (Nat.le_refl _)) hb4.1 hb4.2 ?_
  refine S_putPF fl_X9_35 dX9_init_69 rfl rfl rfl rfl rfl ?_
  have hP5 := hP4.step rfl hb4.1 hb4.2
  rw [show rl 10 = 8000 from rfl] at hP5
  obtain ⟨M5, hM5⟩ : ∃ x : Mem, x = (M4.new (arC 10, 10) 8000 8000).putP (30, 0) 10 (some (arC 10, 10)) := ⟨_, rfl⟩
  rw [← hM5] at hP5 ⊢
  clear hM5 hP4 hb4
  refine S_aload_n dX9_init_72 rfl ?_
  refine S_sipush dX9_init_73 (by decide) ?_
  have hb5 : 1 ≤ M5.rc ∧ 8000 ≤ M5.rs := by
    have q1 := hP5.2.2.2.2.2.2.1
    have q2 := hP5.2.2.2.2.2.2.2
    rw [show bs 11 = 40000 from by decide] at q2
    omega
  refine S_newarrI (arC 11, 11) 8000 ac_I dX9_init_76 rfl (by decide) rfl rfl (hP5.2.2.2.2.1 11 rfl (Nat.le_refl _)) hb5.1 hb5.2 ?_
  refine S_putPF fl_X9_39 dX9_init_78 rfl rfl rfl rfl rfl ?_
  have hP6 := hP5.step rfl hb5.1 hb5.2
  rw [show rl 11 = 8000 from rfl] at hP6
  obtain ⟨M6, hM6⟩ : ∃ x : Mem, x = (M5.new (arC 11, 11) 8000 8000).putP (30, 0) 11 (some (arC 11, 11)) := ⟨_, rfl⟩
  rw [← hM6] at hP6 ⊢
  clear hM6 hP5 hb5
  refine S_aload_n dX9_init_81 rfl ?_
  refine S_bipush dX9_init_82 (by decide) ?_
  have hb6 : 1 ≤ M6.rc ∧ 12 ≤ M6.rs := by
    have q1 := hP6.2.2.2.2.2.2.1
    have q2 := hP6.2.2.2.2.2.2.2
    rw [show bs 12 = 48000 from by decide] at q2
    omega
  refine S_newarrI (arC 12, 12) 12 ac_I dX9_init_84 rfl (by decide) rfl rfl (hP6.2.2.2.2.1 12 rfl (Nat.le_refl _)) hb6.1 hb6.2 ?_
  refine S_putPF fl_X9_42 dX9_init_86 rfl rfl rfl rfl rfl ?_
  have hP7 := hP6.step rfl hb6.1 hb6.2
  rw [show rl 12 = 12 from rfl] at hP7
  obtain ⟨M7, hM7⟩ : ∃ x : Mem, x = (M6.new (arC 12, 12) 12 12).putP (30, 0) 12 (some (arC 12, 12)) := ⟨_, rfl⟩
  rw [← hM7] at hP7 ⊢
  clear hM7 hP6 hb6
  refine S_aload_n dX9_init_89 rfl ?_
  refine S_sipush dX9_init_90 (by decide) ?_
  have hb7 : 1 ≤ M7.rc ∧ 144 ≤ M7.rs := by
    have q1 := hP7.2.2.2.2.2.2.1
    have q2 := hP7.2.2.2.2.2.2.2
    rw [show bs 13 = 48012 from by decide] at q2
    omega
  refine S_newarrI (arC 13, 13) 144 ac_I dX9_init_93 rfl (by decide) rfl rfl (hP7.2.2.2.2.1 13 rfl (Nat.le_refl _)) hb7.1 hb7.2 ?_
  refine S_putPF fl_X9_45 dX9_init_95 rfl rfl rfl rfl rfl ?_
  have hP8 := hP7.step rfl hb7.1 hb7.2
  rw [show rl 13 = 144 from rfl] at hP8
  obtain ⟨M8, hM8⟩ : ∃ x : Mem, x = (M7.new (arC 13, 13) 144 144).putP (30, 0) 13 (some (arC 13, 13)) := ⟨_, rfl⟩
  rw [← hM8] at hP8 ⊢
  clear hM8 hP7 hb7
  refine S_aload_n dX9_init_98 rfl ?_
  refine S_bipush dX9_init_99 (by decide) ?_
  have hb8 : 1 ≤ M8.rc ∧ 6 ≤ M8.rs := by
    have q1 := hP8.2.2.2.2.2.2.1
    have q2 := hP8.2.2.2.2.2.2.2
    rw [show bs 14 = 48156 from by decide] at q2
    omega
  refine S_newarrZ (arC 14, 14) 6 ac_Z dX9_init_101 rfl (by decide) rfl rfl (hP8.2.2.2.2.1 14 rfl (Nat.le_refl _)) hb8.1 hb8.2 ?_
  refine S_putPF fl_X9_48 dX9_init_103 rfl rfl rfl rfl rfl ?_
  have hP9 := hP8.step rfl hb8.1 hb8.2
  rw [show rl 14 = 6 from rfl] at hP9
  obtain ⟨M9, hM9⟩ : ∃ x : Mem, x = (M8.new (arC 14, 14) 6 6).putP (30, 0) 14 (some (arC 14, 14)) := ⟨_, rfl⟩
  rw [← hM9] at hP9 ⊢
  clear hM9 hP8 hb8
  refine S_aload_n dX9_init_106 rfl ?_
  refine S_bipush dX9_init_107 (by decide) ?_
  have hb9 : 1 ≤ M9.rc ∧ 12 ≤ M9.rs := by
    have q1 := hP9.2.2.2.2.2.2.1
    have q2 := hP9.2.2.2.2.2.2.2
    rw [show bs 15 = 48162 from by decide] at q2
    omega
  refine S_newarrI (arC 15, 15) 12 ac_I dX9_init_109 rfl (by decide) rfl rfl (hP9.2.2.2.2.1 15 rfl (Nat.le_refl _)) hb9.1 hb9.2 ?_
  refine S_putPF fl_X9_51 dX9_init_111 rfl rfl rfl rfl rfl ?_
  have hP10 := hP9.step rfl hb9.1 hb9.2
  rw [show rl 15 = 12 from rfl] at hP10
  obtain ⟨M10, hM10⟩ : ∃ x : Mem, x = (M9.new (arC 15, 15) 12 12).putP (30, 0) 15 (some (arC 15, 15)) := ⟨_, rfl⟩
  rw [← hM10] at hP10 ⊢
  clear hM10 hP9 hb9
  refine S_aload_n dX9_init_114 rfl ?_
  refine S_bipush dX9_init_115 (by decide) ?_
  have hb10 : 1 ≤ M10.rc ∧ 12 ≤ M10.rs := by
    have q1 := hP10.2.2.2.2.2.2.1
    have q2 := hP10.2.2.2.2.2.2.2
    rw [show bs 16 = 48174 from by decide] at q2
    omega
  refine S_newarrI (arC 16, 16) 12 ac_I dX9_init_117 rfl (by decide) rfl rfl (hP10.2.2.2.2.1 16 rfl (Nat.le_refl _)) hb10.1 hb10.2 ?_
  refine S_putPF fl_X9_54 dX9_init_119 rfl rfl rfl rfl rfl ?_
  have hP11 := hP10.step rfl hb10.1 hb10.2
  rw [show rl 16 = 12 from rfl] at hP11
  obtain ⟨M11, hM11⟩ : ∃ x : Mem, x = (M10.new (arC 16, 16) 12 12).putP (30, 0) 16 (some (arC 16, 16)) := ⟨_, rfl⟩
  rw [← hM11] at hP11 ⊢
  clear hM11 hP10 hb10
  refine S_aload_n dX9_init_122 rfl ?_
  refine S_bipush dX9_init_123 (by decide) ?_
  have hb11 : 1 ≤ M11.rc ∧ 12 ≤ M11.rs := by
    have q1 := hP11.2.2.2.2.2.2.1
    have q2 := hP11.2.2.2.2.2.2.2
    rw [show bs 17 = 48186 from by decide] at q2
    omega
  refine S_newarrI (arC 17, 17) 12 ac_I dX9_init_125 rfl (by decide) rfl rfl (hP11.2.2.2.2.1 17 rfl (Nat.le_refl _)) hb11.1 hb11.2 ?_
  refine S_putPF fl_X9_57 dX9_init_127 rfl rfl rfl rfl rfl ?_
  have hP12 := hP11.step rfl hb11.1 hb11.2
  rw [show rl 17 = 12 from rfl] at hP12
  obtain ⟨M12, hM12⟩ : ∃ x : Mem, x = (M11.new (arC 17, 17) 12 12).putP (30, 0) 17 (some (arC 17, 17)) := ⟨_, rfl⟩
  rw [← hM12] at hP12 ⊢
  clear hM12 hP11 hb11
  refine S_aload_n dX9_init_130 rfl ?_
  refine S_bipush dX9_init_131 (by decide) ?_
  have hb12 : 1 ≤ M12.rc ∧ 12 ≤ M12.rs := by
    have q1 := hP12.2.2.2.2.2.2.1
    have q2 := hP12.2.2.2.2.2.2.2
    rw [show bs 18 = 48198 from by decide] at q2
    omega
  refine S_newarrI (arC 18, 18) 12 ac_I dX9_init_133 rfl (by decide) rfl rfl (hP12.2.2.2.2.1 18 rfl (Nat.le_refl _)) hb12.1 hb12.2 ?_
  refine S_putPF fl_X9_60 dX9_init_135 rfl rfl rfl rfl rfl ?_
  have hP13 := hP12.step rfl hb12.1 hb12.2
  rw [show rl 18 = 12 from rfl] at hP13
  obtain ⟨M13, hM13⟩ : ∃ x : Mem, x = (M12.new (arC 18, 18) 12 12).putP (30, 0) 18 (some (arC 18, 18)) := ⟨_, rfl⟩
  rw [← hM13] at hP13 ⊢
  clear hM13 hP12 hb12
  refine S_aload_n dX9_init_138 rfl ?_
  refine S_bipush dX9_init_139 (by decide) ?_
  have hb13 : 1 ≤ M13.rc ∧ 12 ≤ M13.rs := by
    have q1 := hP13.2.2.2.2.2.2.1
    have q2 := hP13.2.2.2.2.2.2.2
    rw [show bs 19 = 48210 from by decide] at q2
    omega
  refine S_newarrI (arC 19, 19) 12 ac_I dX9_init_141 rfl (by decide) rfl rfl (hP13.2.2.2.2.1 19 rfl (Nat.le_refl _)) hb13.1 hb13.2 ?_
  refine S_putPF fl_X9_63 dX9_init_143 rfl rfl rfl rfl rfl ?_
  have hP14 := hP13.step rfl hb13.1 hb13.2
  rw [show rl 19 = 12 from rfl] at hP14
  obtain ⟨M14, hM14⟩ : ∃ x : Mem, x = (M13.new (arC 19, 19) 12 12).putP (30, 0) 19 (some (arC 19, 19)) := ⟨_, rfl⟩
  rw [← hM14] at hP14 ⊢
  clear hM14 hP13 hb13
  refine S_aload_n dX9_init_146 rfl ?_
  refine S_bipush dX9_init_147 (by decide) ?_
  have hb14 : 1 ≤ M14.rc ∧ 12 ≤ M14.rs := by
    have q1 := hP14.2.2.2.2.2.2.1
    have q2 := hP14.2.2.2.2.2.2.2
    rw [show bs 20 = 48222 from by decide] at q2
    omega
  refine S_newarrI (arC 20, 20) 12 ac_I dX9_init_149 rfl (by decide) rfl rfl (hP14.2.2.2.2.1 20 rfl (Nat.le_refl _)) hb14.1 hb14.2 ?_
  refine S_putPF fl_X9_66 dX9_init_151 rfl rfl rfl rfl rfl ?_
  have hP15 := hP14.step rfl hb14.1 hb14.2
  rw [show rl 20 = 12 from rfl] at hP15
  obtain ⟨M15, hM15⟩ : ∃ x : Mem, x = (M14.new (arC 20, 20) 12 12).putP (30, 0) 20 (some (arC 20, 20)) := ⟨_, rfl⟩
  rw [← hM15] at hP15 ⊢
  clear hM15 hP14 hb14
  refine S_aload_n dX9_init_154 rfl ?_
  refine S_bipush dX9_init_155 (by decide) ?_
  have hb15 : 1 ≤ M15.rc ∧ 12 ≤ M15.rs := by
    have q1 := hP15.2.2.2.2.2.2.1
    have q2 := hP15.2.2.2.2.2.2.2
    rw [show bs 21 = 48234 from by decide] at q2
    omega
  refine S_newarrI (arC 21, 21) 12 ac_I dX9_init_157 rfl (by decide) rfl rfl (hP15.2.2.2.2.1 21 rfl (Nat.le_refl _)) hb15.1 hb15.2 ?_
  refine S_putPF fl_X9_69 dX9_init_159 rfl rfl rfl rfl rfl ?_
  have hP16 := hP15.step rfl hb15.1 hb15.2
  rw [show rl 21 = 12 from rfl] at hP16
  obtain ⟨M16, hM16⟩ : ∃ x : Mem, x = (M15.new (arC 21, 21) 12 12).putP (30, 0) 21 (some (arC 21, 21)) := ⟨_, rfl⟩
  rw [← hM16] at hP16 ⊢
  clear hM16 hP15 hb15
  refine S_aload_n dX9_init_162 rfl ?_
  refine S_bipush dX9_init_163 (by decide) ?_
  have hb16 : 1 ≤ M16.rc ∧ 12 ≤ M16.rs := by
    have q1 := hP16.2.2.2.2.2.2.1
    have q2 := hP16.2.2.2.2.2.2.2
    rw [show bs 22 = 48246 from by decide] at q2
    omega
  refine S_newarrI (arC 22, 22) 12 ac_I dX9_init_165 rfl (by decide) rfl rfl (hP16.2.2.2.2.1 22 rfl (Nat.le_refl _)) hb16.1 hb16.2 ?_
  refine S_putPF fl_X9_72 dX9_init_167 rfl rfl rfl rfl rfl ?_
  have hP17 := hP16.step rfl hb16.1 hb16.2
  rw [show rl 22 = 12 from rfl] at hP17
  obtain ⟨M17, hM17⟩ : ∃ x : Mem, x = (M16.new (arC 22, 22) 12 12).putP (30, 0) 22 (some (arC 22, 22)) := ⟨_, rfl⟩
  rw [← hM17] at hP17 ⊢
  clear hM17 hP16 hb16
  refine S_aload_n dX9_init_170 rfl ?_
  refine S_bipush dX9_init_171 (by decide) ?_
  have hb17 : 1 ≤ M17.rc ∧ 12 ≤ M17.rs := by
    have q1 := hP17.2.2.2.2.2.2.1
    have q2 := hP17.2.2.2.2.2.2.2
    rw [show bs 23 = 48258 from by decide] at q2
    omega
  refine S_newarrI (arC 23, 23) 12 ac_I dX9_init_173 rfl (by decide) rfl rfl (hP17.2.2.2.2.1 23 rfl (Nat.le_refl _)) hb17.1 hb17.2 ?_
  refine S_putPF fl_X9_75 dX9_init_175 rfl rfl rfl rfl rfl ?_
  have hP18 := hP17.step rfl hb17.1 hb17.2
  rw [show rl 23 = 12 from rfl] at hP18
  obtain ⟨M18, hM18⟩ : ∃ x : Mem, x = (M17.new (arC 23, 23) 12 12).putP (30, 0) 23 (some (arC 23, 23)) := ⟨_, rfl⟩
  rw [← hM18] at hP18 ⊢
  clear hM18 hP17 hb17
  refine S_aload_n dX9_init_178 rfl ?_
  refine S_sipush dX9_init_179 (by decide) ?_
  have hb18 : 1 ≤ M18.rc ∧ 7200 ≤ M18.rs := by
    have q1 := hP18.2.2.2.2.2.2.1
    have q2 := hP18.2.2.2.2.2.2.2
    rw [show bs 24 = 48270 from by decide] at q2
    omega
  refine S_newarrI (arC 24, 24) 7200 ac_I dX9_init_182 rfl (by decide) rfl rfl (hP18.2.2.2.2.1 24 rfl (Nat.le_refl _)) hb18.1 hb18.2 ?_
  refine S_putPF fl_X9_78 dX9_init_184 rfl rfl rfl rfl rfl ?_
  have hP19 := hP18.step rfl hb18.1 hb18.2
  rw [show rl 24 = 7200 from rfl] at hP19
  obtain ⟨M19, hM19⟩ : ∃ x : Mem, x = (M18.new (arC 24, 24) 7200 7200).putP (30, 0) 24 (some (arC 24, 24)) := ⟨_, rfl⟩
  rw [← hM19] at hP19 ⊢
  clear hM19 hP18 hb18
  refine S_aload_n dX9_init_187 rfl ?_
  refine S_bipush dX9_init_188 (by decide) ?_
  have hb19 : 1 ≤ M19.rc ∧ 12 ≤ M19.rs := by
    have q1 := hP19.2.2.2.2.2.2.1
    have q2 := hP19.2.2.2.2.2.2.2
    rw [show bs 25 = 55470 from by decide] at q2
    omega
  refine S_newarrI (arC 25, 25) 12 ac_I dX9_init_190 rfl (by decide) rfl rfl (hP19.2.2.2.2.1 25 rfl (Nat.le_refl _)) hb19.1 hb19.2 ?_
  refine S_putPF fl_X9_81 dX9_init_192 rfl rfl rfl rfl rfl ?_
  have hP20 := hP19.step rfl hb19.1 hb19.2
  rw [show rl 25 = 12 from rfl] at hP20
  obtain ⟨M20, hM20⟩ : ∃ x : Mem, x = (M19.new (arC 25, 25) 12 12).putP (30, 0) 25 (some (arC 25, 25)) := ⟨_, rfl⟩
  rw [← hM20] at hP20 ⊢
  clear hM20 hP19 hb19
  refine S_aload_n dX9_init_195 rfl ?_
  refine S_sipush dX9_init_196 (by decide) ?_
  have hb20 : 1 ≤ M20.rc ∧ 144 ≤ M20.rs := by
    have q1 := hP20.2.2.2.2.2.2.1
    have q2 := hP20.2.2.2.2.2.2.2
    rw [show bs 26 = 55482 from by decide] at q2
    omega
  refine S_newarrI (arC 26, 26) 144 ac_I dX9_init_199 rfl (by decide) rfl rfl (hP20.2.2.2.2.1 26 rfl (Nat.le_refl _)) hb20.1 hb20.2 ?_
  refine S_putPF fl_X9_84 dX9_init_201 rfl rfl rfl rfl rfl ?_
  have hP21 := hP20.step rfl hb20.1 hb20.2
  rw [show rl 26 = 144 from rfl] at hP21
  obtain ⟨M21, hM21⟩ : ∃ x : Mem, x = (M20.new (arC 26, 26) 144 144).putP (30, 0) 26 (some (arC 26, 26)) := ⟨_, rfl⟩
  rw [← hM21] at hP21 ⊢
  clear hM21 hP20 hb20
  refine S_aload_n dX9_init_204 rfl ?_
  refine S_sipush dX9_init_205 (by decide) ?_
  have hb21 : 1 ≤ M21.rc ∧ 144 ≤ M21.rs := by
    have q1 := hP21.2.2.2.2.2.2.1
    have q2 := hP21.2.2.2.2.2.2.2
    rw [show bs 27 = 55626 from by decide] at q2
    omega
  refine S_newarrI (arC 27, 27) 144 ac_I dX9_init_208 rfl (by decide) rfl rfl (hP21.2.2.2.2.1 27 rfl (Nat.le_refl _)) hb21.1 hb21.2 ?_
  refine S_putPF fl_X9_87 dX9_init_210 rfl rfl rfl rfl rfl ?_
  have hP22 := hP21.step rfl hb21.1 hb21.2
  rw [show rl 27 = 144 from rfl] at hP22
  obtain ⟨M22, hM22⟩ : ∃ x : Mem, x = (M21.new (arC 27, 27) 144 144).putP (30, 0) 27 (some (arC 27, 27)) := ⟨_, rfl⟩
  rw [← hM22] at hP22 ⊢
  clear hM22 hP21 hb21
  refine S_aload_n dX9_init_213 rfl ?_
  refine S_sipush dX9_init_214 (by decide) ?_
  have hb22 : 1 ≤ M22.rc ∧ 144 ≤ M22.rs := by
    have q1 := hP22.2.2.2.2.2.2.1
    have q2 := hP22.2.2.2.2.2.2.2
    rw [show bs 28 = 55770 from by decide] at q2
    omega
  refine S_newarrI (arC 28, 28) 144 ac_I dX9_init_217 rfl (by decide) rfl rfl (hP22.2.2.2.2.1 28 rfl (Nat.le_refl _)) hb22.1 hb22.2 ?_
  refine S_putPF fl_X9_90 dX9_init_219 rfl rfl rfl rfl rfl ?_
  have hP23 := hP22.step rfl hb22.1 hb22.2
  rw [show rl 28 = 144 from rfl] at hP23
  obtain ⟨M23, hM23⟩ : ∃ x : Mem, x = (M22.new (arC 28, 28) 144 144).putP (30, 0) 28 (some (arC 28, 28)) := ⟨_, rfl⟩
  rw [← hM23] at hP23 ⊢
  clear hM23 hP22 hb22
  refine S_aload_n dX9_init_222 rfl ?_
  refine S_sipush dX9_init_223 (by decide) ?_
  have hb23 : 1 ≤ M23.rc ∧ 144 ≤ M23.rs := by
    have q1 := hP23.2.2.2.2.2.2.1
    have q2 := hP23.2.2.2.2.2.2.2
    rw [show bs 29 = 55914 from by decide] at q2
    omega
  refine S_newarrI (arC 29, 29) 144 ac_I dX9_init_226 rfl (by decide) rfl rfl (hP23.2.2.2.2.1 29 rfl (Nat.le_refl _)) hb23.1 hb23.2 ?_
  refine S_putPF fl_X9_93 dX9_init_228 rfl rfl rfl rfl rfl ?_
  have hP24 := hP23.step rfl hb23.1 hb23.2
  rw [show rl 29 = 144 from rfl] at hP24
  obtain ⟨M24, hM24⟩ : ∃ x : Mem, x = (M23.new (arC 29, 29) 144 144).putP (30, 0) 29 (some (arC 29, 29)) := ⟨_, rfl⟩
  rw [← hM24] at hP24 ⊢
  clear hM24 hP23 hb23
  refine S_aload_n dX9_init_231 rfl ?_
  refine S_sipush dX9_init_232 (by decide) ?_
  have hP24 := hP24.skip (D := 30) rfl
  have hb24 : 1 ≤ M24.rc ∧ 300 ≤ M24.rs := by
    have q1 := hP24.2.2.2.2.2.2.1
    have q2 := hP24.2.2.2.2.2.2.2
    rw [show bs 31 = 56058 from by decide] at q2
    omega
  refine S_newarrI (arC 31, 31) 300 ac_I dX9_init_235 rfl (by decide) rfl rfl (hP24.2.2.2.2.1 31 rfl (Nat.le_refl _)) hb24.1 hb24.2 ?_
  refine S_putPF fl_X9_96 dX9_init_237 rfl rfl rfl rfl rfl ?_
  have hP25 := hP24.step rfl hb24.1 hb24.2
  rw [show rl 31 = 300 from rfl] at hP25
  obtain ⟨M25, hM25⟩ : ∃ x : Mem, x = (M24.new (arC 31, 31) 300 300).putP (30, 0) 31 (some (arC 31, 31)) := ⟨_, rfl⟩
  rw [← hM25] at hP25 ⊢
  clear hM25 hP24 hb24
  refine S_aload_n dX9_init_240 rfl ?_
  refine S_sipush dX9_init_241 (by decide) ?_
  have hb25 : 1 ≤ M25.rc ∧ 300 ≤ M25.rs := by
    have q1 := hP25.2.2.2.2.2.2.1
    have q2 := hP25.2.2.2.2.2.2.2
    rw [show bs 32 = 56358 from by decide] at q2
    omega
  refine S_newarrI (arC 32, 32) 300 ac_I dX9_init_244 rfl (by decide) rfl rfl (hP25.2.2.2.2.1 32 rfl (Nat.le_refl _)) hb25.1 hb25.2 ?_
  refine S_putPF fl_X9_99 dX9_init_246 rfl rfl rfl rfl rfl ?_
  have hP26 := hP25.step rfl hb25.1 hb25.2
  rw [show rl 32 = 300 from rfl] at hP26
  obtain ⟨M26, hM26⟩ : ∃ x : Mem, x = (M25.new (arC 32, 32) 300 300).putP (30, 0) 32 (some (arC 32, 32)) := ⟨_, rfl⟩
  rw [← hM26] at hP26 ⊢
  clear hM26 hP25 hb25
  refine S_aload_n dX9_init_249 rfl ?_
  refine S_sipush dX9_init_250 (by decide) ?_
  have hb26 : 1 ≤ M26.rc ∧ 300 ≤ M26.rs := by
    have q1 := hP26.2.2.2.2.2.2.1
    have q2 := hP26.2.2.2.2.2.2.2
    rw [show bs 33 = 56658 from by decide] at q2
    omega
  refine S_newarrI (arC 33, 33) 300 ac_I dX9_init_253 rfl (by decide) rfl rfl (hP26.2.2.2.2.1 33 rfl (Nat.le_refl _)) hb26.1 hb26.2 ?_
  refine S_putPF fl_X9_102 dX9_init_255 rfl rfl rfl rfl rfl ?_
  have hP27 := hP26.step rfl hb26.1 hb26.2
  rw [show rl 33 = 300 from rfl] at hP27
  obtain ⟨M27, hM27⟩ : ∃ x : Mem, x = (M26.new (arC 33, 33) 300 300).putP (30, 0) 33 (some (arC 33, 33)) := ⟨_, rfl⟩
  rw [← hM27] at hP27 ⊢
  clear hM27 hP26 hb26
  refine S_aload_n dX9_init_258 rfl ?_
  refine S_sipush dX9_init_259 (by decide) ?_
  have hb27 : 1 ≤ M27.rc ∧ 300 ≤ M27.rs := by
    have q1 := hP27.2.2.2.2.2.2.1
    have q2 := hP27.2.2.2.2.2.2.2
    rw [show bs 34 = 56958 from by decide] at q2
    omega
  refine S_newarrI (arC 34, 34) 300 ac_I dX9_init_262 rfl (by decide) rfl rfl (hP27.2.2.2.2.1 34 rfl (Nat.le_refl _)) hb27.1 hb27.2 ?_
  refine S_putPF fl_X9_105 dX9_init_264 rfl rfl rfl rfl rfl ?_
  have hP28 := hP27.step rfl hb27.1 hb27.2
  rw [show rl 34 = 300 from rfl] at hP28
  obtain ⟨M28, hM28⟩ : ∃ x : Mem, x = (M27.new (arC 34, 34) 300 300).putP (30, 0) 34 (some (arC 34, 34)) := ⟨_, rfl⟩
  rw [← hM28] at hP28 ⊢
  clear hM28 hP27 hb27
  refine S_aload_n dX9_init_267 rfl ?_
  refine S_sipush dX9_init_268 (by decide) ?_
  have hb28 : 1 ≤ M28.rc ∧ 300 ≤ M28.rs := by
    have q1 := hP28.2.2.2.2.2.2.1
    have q2 := hP28.2.2.2.2.2.2.2
    rw [show bs 35 = 57258 from by decide] at q2
    omega
  refine S_newarrI (arC 35, 35) 300 ac_I dX9_init_271 rfl (by decide) rfl rfl (hP28.2.2.2.2.1 35 rfl (Nat.le_refl _)) hb28.1 hb28.2 ?_
  refine S_putPF fl_X9_108 dX9_init_273 rfl rfl rfl rfl rfl ?_
  have hP29 := hP28.step rfl hb28.1 hb28.2
  rw [show rl 35 = 300 from rfl] at hP29
  obtain ⟨M29, hM29⟩ : ∃ x : Mem, x = (M28.new (arC 35, 35) 300 300).putP (30, 0) 35 (some (arC 35, 35)) := ⟨_, rfl⟩
  rw [← hM29] at hP29 ⊢
  clear hM29 hP28 hb28
  refine S_aload_n dX9_init_276 rfl ?_
  refine S_sipush dX9_init_277 (by decide) ?_
  have hb29 : 1 ≤ M29.rc ∧ 300 ≤ M29.rs := by
    have q1 := hP29.2.2.2.2.2.2.1
    have q2 := hP29.2.2.2.2.2.2.2
    rw [show bs 36 = 57558 from by decide] at q2
    omega
  refine S_newarrI (arC 36, 36) 300 ac_I dX9_init_280 rfl (by decide) rfl rfl (hP29.2.2.2.2.1 36 rfl (Nat.le_refl _)) hb29.1 hb29.2 ?_
  refine S_putPF fl_X9_111 dX9_init_282 rfl rfl rfl rfl rfl ?_
  have hP30 := hP29.step rfl hb29.1 hb29.2
  rw [show rl 36 = 300 from rfl] at hP30
  obtain ⟨M30, hM30⟩ : ∃ x : Mem, x = (M29.new (arC 36, 36) 300 300).putP (30, 0) 36 (some (arC 36, 36)) := ⟨_, rfl⟩
  rw [← hM30] at hP30 ⊢
  clear hM30 hP29 hb29
  refine S_aload_n dX9_init_285 rfl ?_
  refine S_sipush dX9_init_286 (by decide) ?_
  have hb30 : 1 ≤ M30.rc ∧ 300 ≤ M30.rs := by
    have q1 := hP30.2.2.2.2.2.2.1
    have q2 := hP30.2.2.2.2.2.2.2
    rw [show bs 37 = 57858 from by decide] at q2
    omega
  refine S_newarrI (arC 37, 37) 300 ac_I dX9_init_289 rfl (by decide) rfl rfl (hP30.2.2.2.2.1 37 rfl (Nat.le_refl _)) hb30.1 hb30.2 ?_
  refine S_putPF fl_X9_114 dX9_init_291 rfl rfl rfl rfl rfl ?_
  have hP31 := hP30.step rfl hb30.1 hb30.2
  rw [show rl 37 = 300 from rfl] at hP31
  obtain ⟨M31, hM31⟩ : ∃ x : Mem, x = (M30.new (arC 37, 37) 300 300).putP (30, 0) 37 (some (arC 37, 37)) := ⟨_, rfl⟩
  rw [← hM31] at hP31 ⊢
  clear hM31 hP30 hb30
  refine S_aload_n dX9_init_294 rfl ?_
  refine S_sipush dX9_init_295 (by decide) ?_
  have hb31 : 1 ≤ M31.rc ∧ 300 ≤ M31.rs := by
    have q1 := hP31.2.2.2.2.2.2.1
    have q2 := hP31.2.2.2.2.2.2.2
    rw [show bs 38 = 58158 from by decide] at q2
    omega
  refine S_newarrI (arC 38, 38) 300 ac_I dX9_init_298 rfl (by decide) rfl rfl (hP31.2.2.2.2.1 38 rfl (Nat.le_refl _)) hb31.1 hb31.2 ?_
  refine S_putPF fl_X9_117 dX9_init_300 rfl rfl rfl rfl rfl ?_
  have hP32 := hP31.step rfl hb31.1 hb31.2
  rw [show rl 38 = 300 from rfl] at hP32
  obtain ⟨M32, hM32⟩ : ∃ x : Mem, x = (M31.new (arC 38, 38) 300 300).putP (30, 0) 38 (some (arC 38, 38)) := ⟨_, rfl⟩
  rw [← hM32] at hP32 ⊢
  clear hM32 hP31 hb31
  refine S_aload_n dX9_init_303 rfl ?_
  refine S_bipush dX9_init_304 (by decide) ?_
  have hb32 : 1 ≤ M32.rc ∧ 8 ≤ M32.rs := by
    have q1 := hP32.2.2.2.2.2.2.1
    have q2 := hP32.2.2.2.2.2.2.2
    rw [show bs 39 = 58458 from by decide] at q2
    omega
  refine S_newarrI (arC 39, 39) 8 ac_I dX9_init_306 rfl (by decide) rfl rfl (hP32.2.2.2.2.1 39 rfl (Nat.le_refl _)) hb32.1 hb32.2 ?_
  refine S_putPF fl_X9_120 dX9_init_308 rfl rfl rfl rfl rfl ?_
  have hP33 := hP32.step rfl hb32.1 hb32.2
  rw [show rl 39 = 8 from rfl] at hP33
  obtain ⟨M33, hM33⟩ : ∃ x : Mem, x = (M32.new (arC 39, 39) 8 8).putP (30, 0) 39 (some (arC 39, 39)) := ⟨_, rfl⟩
  rw [← hM33] at hP33 ⊢
  clear hM33 hP32 hb32
  refine S_aload_n dX9_init_311 rfl ?_
  refine S_bipush dX9_init_312 (by decide) ?_
  have hb33 : 1 ≤ M33.rc ∧ 8 ≤ M33.rs := by
    have q1 := hP33.2.2.2.2.2.2.1
    have q2 := hP33.2.2.2.2.2.2.2
    rw [show bs 40 = 58466 from by decide] at q2
    omega
  refine S_newarrI (arC 40, 40) 8 ac_I dX9_init_314 rfl (by decide) rfl rfl (hP33.2.2.2.2.1 40 rfl (Nat.le_refl _)) hb33.1 hb33.2 ?_
  refine S_putPF fl_X9_123 dX9_init_316 rfl rfl rfl rfl rfl ?_
  have hP34 := hP33.step rfl hb33.1 hb33.2
  rw [show rl 40 = 8 from rfl] at hP34
  obtain ⟨M34, hM34⟩ : ∃ x : Mem, x = (M33.new (arC 40, 40) 8 8).putP (30, 0) 40 (some (arC 40, 40)) := ⟨_, rfl⟩
  rw [← hM34] at hP34 ⊢
  clear hM34 hP33 hb33
  refine S_aload_n dX9_init_319 rfl ?_
  refine S_bipush dX9_init_320 (by decide) ?_
  have hb34 : 1 ≤ M34.rc ∧ 8 ≤ M34.rs := by
    have q1 := hP34.2.2.2.2.2.2.1
    have q2 := hP34.2.2.2.2.2.2.2
    rw [show bs 41 = 58474 from by decide] at q2
    omega
  refine S_newarrI (arC 41, 41) 8 ac_I dX9_init_322 rfl (by decide) rfl rfl (hP34.2.2.2.2.1 41 rfl (Nat.le_refl _)) hb34.1 hb34.2 ?_
  refine S_putPF fl_X9_126 dX9_init_324 rfl rfl rfl rfl rfl ?_
  have hP35 := hP34.step rfl hb34.1 hb34.2
  rw [show rl 41 = 8 from rfl] at hP35
  obtain ⟨M35, hM35⟩ : ∃ x : Mem, x = (M34.new (arC 41, 41) 8 8).putP (30, 0) 41 (some (arC 41, 41)) := ⟨_, rfl⟩
  rw [← hM35] at hP35 ⊢
  clear hM35 hP34 hb34
  refine S_aload_n dX9_init_327 rfl ?_
  refine S_bipush dX9_init_328 (by decide) ?_
  have hP35 := hP35.skip (D := 42) rfl
  have hb35 : 1 ≤ M35.rc ∧ 40 ≤ M35.rs := by
    have q1 := hP35.2.2.2.2.2.2.1
    have q2 := hP35.2.2.2.2.2.2.2
    rw [show bs 43 = 58482 from by decide] at q2
    omega
  refine S_newarrI (arC 43, 43) 40 ac_I dX9_init_330 rfl (by decide) rfl rfl (hP35.2.2.2.2.1 43 rfl (Nat.le_refl _)) hb35.1 hb35.2 ?_
  refine S_putPF fl_X9_129 dX9_init_332 rfl rfl rfl rfl rfl ?_
  have hP36 := hP35.step rfl hb35.1 hb35.2
  rw [show rl 43 = 40 from rfl] at hP36
  obtain ⟨M36, hM36⟩ : ∃ x : Mem, x = (M35.new (arC 43, 43) 40 40).putP (30, 0) 43 (some (arC 43, 43)) := ⟨_, rfl⟩
  rw [← hM36] at hP36 ⊢
  clear hM36 hP35 hb35
  have hZ := hP36
  have hZ := hZ.skip (D := 44) rfl
  have hZ := hZ.skip (D := 45) rfl
  have q1 := hZ.2.2.2.2.2.2.1
  have q2 := hZ.2.2.2.2.2.2.2
  rw [show bs 46 = 58522 from by decide] at q2
  exact S_vret dX9_init_335 rfl ⟨rfl, hZ.rf, hZ.2.2.2.2.2.1, q1, by omega⟩
