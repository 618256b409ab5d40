/-! THE CLASS: a pair more -/
def Fe (e : Nat) (M M' : Mem) : Prop := ∀ r : Role, (r.1 = 7 ∨ r.1 = 8 ∨ r.1 = 9 ∨ r.1 = 10 → r.2 ≠ e) → SameAt r M M'
def Fp (a : Nat) (M M' : Mem) : Prop := ∀ r : Role, r ≠ (1, 0) → r ≠ (6, 0) → (r.1 = 7 ∨ r.1 = 8 ∨ r.1 = 9 ∨ r.1 = 10 → r.2 ≠ a ∧ r.2 ≠ a + 1) → SameAt r M M'
section
variable {e a : Nat} {M M1 M2 : Mem}
theorem Fe.rf (e : Nat) (M : Mem) : Fe e M M := fun r _ => SameAt.rf r M
theorem Fe.trans (h : Fe e M M1) (g : Fe e M1 M2) : Fe e M M2 := fun r c => (h r c).trans (g r c)
theorem Fe.x {c : Nat} (hc : c = 7 ∨ c = 8 ∨ c = 9 ∨ c = 10) (h : Fx (c, e) M M1) : Fe e M M1 := fun r q => h r (fun z => q (by rw [z]; exact hc) (by rw [z]))
theorem Fe.fr (h : Fe e M M1) : Fr [7, 8, 9, 10] M M1 := fun r hr => h r (fun q => absurd (by rcases q with q | q | q | q <;> rw [q] <;> decide) hr)
theorem Fp.rf (a : Nat) (M : Mem) : Fp a M M := fun r _ _ _ => SameAt.rf r M
theorem Fp.trans (h : Fp a M M1) (g : Fp a M1 M2) : Fp a M M2 := fun r x y c => (h r x y c).trans (g r x y c)
theorem Fp.x1 (h : Fx (1, 0) M M1) : Fp a M M1 := fun r x _ _ => h r x
theorem Fp.x6 (h : Fx (6, 0) M M1) : Fp a M M1 := fun r _ x _ => h r x
theorem Fp.x7 (h : Fx (7, a) M M1) : Fp a M M1 := fun r _ _ q => h r (fun z => (q (by rw [z]; exact Or.inl rfl)).1 (by rw [z]))
theorem Fp.x7b (h : Fx (7, a + 1) M M1) : Fp a M M1 := fun r _ _ q => h r (fun z => (q (by rw [z]; exact Or.inl rfl)).2 (by rw [z]))
theorem Fp.en (h : Fe a M M1) : Fp a M M1 := fun r _ _ q => h r (fun z => (q z).1)
theorem Fp.en2 (h : Fe (a + 1) M M1) : Fp a M M1 := fun r _ _ q => h r (fun z => (q z).2)
theorem Fp.fr (h : Fp a M M1) : Fr [1, 6, 7, 8, 9, 10] M M1 := fun r hr => h r (fun z => hr (by rw [z]; decide)) (fun z => hr (by rw [z]; show 6 ∈ _; decide)) (fun q => absurd (by rcases q with q | q | q | q <;> rw [q] <;> decide) hr)
theorem Fp.cl (h : Fp a M M1) : Fr CLs M M1 := h.fr.mono (fun c hc => by revert c; decide)
end
def EnO (M : Mem) (e : Nat) : Prop := Obj M (7, e) [↑e, 0, 0, 0, 0, 0, 0, 0, -1, 0, 0, 0, 0, 0, 0, 0] [none, some (8, e), none, none, none, none, none, none, none, none, none, none, some (9, e), none, some (10, e), none] ∧ M.len (8, e) = some 12 ∧ M.len (9, e) = some 12 ∧ M.len (10, e) = some 300
theorem EnO.at {M M' : Mem} {e : Nat} (h : EnO M e) (h7 : SameAt (7, e) M M') (h8 : SameAt (8, e) M M') (h9 : SameAt (9, e) M M') (h10 : SameAt (10, e) M M') : EnO M' e := ⟨h.1.at h7, h8.1.trans h.2.1, h9.1.trans h.2.2.1, h10.1.trans h.2.2.2⟩
theorem EnO.fr {M M' : Mem} {e : Nat} {cs : List Nat} (h : EnO M e) (hF : Fr cs M M') (c7 : 7 ∉ cs) (c8 : 8 ∉ cs) (c9 : 9 ∉ cs) (c10 : 10 ∉ cs) : EnO M' e := h.at (hF _ c7) (hF _ c8) (hF _ c9) (hF _ c10)
theorem EnO.fe {M M' : Mem} {e d : Nat} (h : EnO M e) (hF : Fe d M M') (hd : e ≠ d) : EnO M' e := h.at (hF _ (fun _ => hd)) (hF _ (fun _ => hd)) (hF _ (fun _ => hd)) (hF _ (fun _ => hd))
def ZeE (ρ : RS) (e : Nat) : Prop := ρ.2 12 e = 0 ∧ ρ.2 20 e = 0 ∧ ρ.2 21 e = 0 ∧ ρ.2 22 e = 0 ∧ ρ.2 23 e = 0 ∧ ρ.2 25 e = 0
theorem eL_z {e : Nat} {f : Nat → Int} (h12 : f 12 = 0) (h20 : f 20 = 0) (h21 : f 21 = 0) (h22 : f 22 = 0) (h23 : f 23 = 0) (h25 : f 25 = 0) : eL false e f = [↑e, 0, 0, 0, 0, 0, 0, 0, -1, 0, 0, 0, 0, 0, 0, 0] := by
  unfold eL
  rw [h12, h20, h21, h22, h23, h25]
  rfl
theorem Cl.pair {X : Gh} {ρ : RS} {M M' : Mem} (h : Cl X ρ M) (a : Nat) (ha : 2 * ρ.1 4 = ↑a) (hF : Fp a M M') (hA' : Obj M' (1, 0) [0, 0, 0, 0, 0, 0, ↑a + 2, ρ.1 30, ρ.1 2, ρ.1 3, ρ.1 42] pQ)
    (h6 : M'.len (6, 0) = some 12 ∧ M'.P (6, 0) a = some (7, a) ∧ M'.P (6, 0) (a + 1) = some (7, a + 1) ∧ ∀ j, j < a → M'.P (6, 0) j = M.P (6, 0) j) (hOa : EnO M' a) (hOb : EnO M' (a + 1)) (hza : ZeE ρ a) (hzb : ZeE ρ (a + 1)) (hxa : X.1 a = false) (hxb : X.1 (a + 1) = false) : Cl X (ρ.setS 4 (ρ.1 4 + 1)) M' := by
  obtain ⟨hA, hB, hC, hD, hE, hN, hG, hH, hI, hJ, hK, hL⟩ := h
  obtain ⟨σ, hσ⟩ : ∃ x : RS, x = ρ.setS 4 (ρ.1 4 + 1) := ⟨_, rfl⟩
  have s1 : ∀ j, j ≠ 4 → σ.1 j = ρ.1 j := fun j hj => by rw [hσ, RS.setS_ne hj]
  have s4 : σ.1 4 = ρ.1 4 + 1 := by rw [hσ, RS.setS_eq]
  have sa : σ.2 = ρ.2 := by rw [hσ]; rfl
  rw [← hσ]
  clear hσ
  have hR := hF.fr
  have e5 : thN σ = thN ρ := congrArg Int.toNat (s1 5 (by decide))
  have old : ∀ {e : Nat}, (e : Int) < 2 * ρ.1 4 → ∀ c, SameAt (c, e) M M' ∨ (c, e) = ((1, 0) : Role) ∨ (c, e) = ((6, 0) : Role) := fun {e} he c => by
    by_cases h1 : (c, e) = ((1, 0) : Role)
    · exact Or.inr (Or.inl h1)
    · by_cases h2 : (c, e) = ((6, 0) : Role)
      · exact Or.inr (Or.inr h2)
      · exact Or.inl (hF (c, e) h1 h2 (fun _ => ⟨by show e ≠ a; omega, by show e ≠ a + 1; omega⟩))
  have o7 : ∀ {e : Nat}, (e : Int) < 2 * ρ.1 4 → ∀ c, c ≠ 1 → c ≠ 6 → SameAt (c, e) M M' := fun {e} he c h1 h6 => hF (c, e) (rne h1) (rne h6) (fun _ => ⟨by show e ≠ a; omega, by show e ≠ a + 1; omega⟩)
  have cs : ∀ {e : Nat}, (e : Int) < 2 * σ.1 4 → (e : Int) < 2 * ρ.1 4 ∨ (e = a ∨ e = a + 1) ∧ EnO M' e ∧ ZeE ρ e ∧ X.1 e = false := fun {e} he => by
    by_cases h1 : (e : Int) < 2 * ρ.1 4
    · exact Or.inl h1
    · refine Or.inr ?_
      by_cases h2 : e = a
      · subst h2; exact ⟨Or.inl rfl, hOa, hza, hxa⟩
      · obtain rfl : e = a + 1 := by omega
        exact ⟨Or.inr rfl, hOb, hzb, hxb⟩
  refine ⟨?_, ?_, ?_, ?_, ?_, ?_, ?_, ?_, ?_, ?_, ?_, ?_⟩
  · show Obj M' (1, 0) [0, 0, 0, 0, 0, 0, 2 * σ.1 4, σ.1 30, σ.1 2, σ.1 3, σ.1 42] pQ
    rw [s4, s1 30 (by decide), s1 2 (by decide), s1 3 (by decide), s1 42 (by decide), show 2 * (ρ.1 4 + 1) = (↑a : Int) + 2 from by omega]
    exact hA'
  · show Obj M' (2, 0) [σ.1 0, σ.1 1] []
    rw [s1 0 (by decide), s1 1 (by decide)]
    exact hB.fr hR (by decide)
  · have q := hC.fr hR (by decide) (by decide) (by decide) (by decide)
    refine ⟨q.1, ?_, q.2.2⟩
    rw [e5]
    exact q.2.1
  · exact hD.fr2 hR (by decide) (s1 5 (by decide)) (fun t => by rw [sa]; exact ⟨rfl, rfl, rfl, rfl, rfl⟩)
  · refine ⟨fun e he => ?_, fun e he => ?_⟩
    · rw [sa]
      rcases cs he with h1 | ⟨-, h2, h3, h4⟩
      · exact (hE.1 e h1).at (o7 h1 7 (by decide) (by decide))
      · refine h2.1.cg ?_ ?_
        · rw [h4]
          exact (eL_z (f := fun k => ρ.2 k e) h3.1 h3.2.1 h3.2.2.1 h3.2.2.2.1 h3.2.2.2.2.1 h3.2.2.2.2.2).symm
        · rw [h4]
          rfl
    · have h1 : a ≤ e ∧ e ≠ a ∧ e ≠ a + 1 := by omega
      have q := hE.2 e (by omega)
      have z := fun c hc1 hc6 => (hF (c, e) (rne hc1) (rne hc6) (fun _ => h1.2)).1
      exact ⟨(z 7 (by decide) (by decide)).trans q.1, (z 8 (by decide) (by decide)).trans q.2.1, (z 9 (by decide) (by decide)).trans q.2.2.1, (z 10 (by decide) (by decide)).trans q.2.2.2⟩
  · refine ⟨h6.1, fun e he => ?_⟩
    rcases cs he with h1 | ⟨h2 | h2, -⟩
    · exact (h6.2.2.2 e (by omega)).trans (hN.2 e h1)
    · rw [h2]; exact h6.2.1
    · rw [h2]; exact h6.2.2.1
  · intro e he
    rw [sa]
    rcases cs he with h1 | ⟨-, h2, h3, h4⟩
    · have z := o7 h1 8 (by decide) (by decide)
      have q := hG e h1
      exact ⟨z.1.trans q.1, fun i hi => (congrFun z.2.2 i).trans (q.2 i hi)⟩
    · exact ⟨h2.2.1, fun i hi => by rw [h3.1] at hi; omega⟩
  · refine ⟨fun e he => ?_, ?_⟩
    · rw [sa]
      rcases cs he with h1 | ⟨-, h2, h3, h4⟩
      · have z := o7 h1 9 (by decide) (by decide)
        have q := hH.1 e h1
        refine ⟨z.1.trans q.1, fun i hi => ?_⟩
        obtain ⟨n, k, q1, q2, q3, q4⟩ := q.2 i hi
        exact ⟨n, k, (congrFun z.2.2 i).trans q1, q2, by omega, q4.fr hR (show 19 ∉ [1, 6, 7, 8, 9, 10] by decide)⟩
      · exact ⟨h2.2.2.1, fun i hi => by rw [h3.2.2.2.2.2] at hi; omega⟩
    · obtain ⟨ns, q⟩ := hH.2
      exact ⟨ns, fun n hn => (hR (19, n) (show 19 ∉ [1, 6, 7, 8, 9, 10] by decide)).1.trans (q n hn)⟩
  · intro e he
    rw [sa]
    rcases cs he with h1 | ⟨-, h2, h3, h4⟩
    · have z := o7 h1 10 (by decide) (by decide)
      have q := hI e h1
      exact ⟨z.1.trans q.1, fun i hi => (congrFun z.2.1 i).trans (q.2 i hi)⟩
    · exact ⟨h2.2.2.2, fun i hi => by rw [h3.2.2.2.2.1] at hi; omega⟩
  · have q := hJ.fr hR (by decide) (by decide) (by decide)
    refine ⟨q.1, fun l hl => ?_, fun l hl => q.2.2 l (by rw [← s1 30 (by decide)]; exact hl)⟩
    rw [sa]
    exact q.2.1 l (by rw [← s1 30 (by decide)]; exact hl)
  · have q := hK.fr hR (by decide) (by decide) (by decide)
    refine ⟨q.1, fun i hi => ?_⟩
    obtain ⟨q1, o1, o2, q2, q3⟩ := q.2 i hi
    refine ⟨q1, o1, o2, q2, ?_⟩
    unfold Tr
    rw [sa, s1 30 (by decide), e5]
    exact q3
  · have q := hL.fr hR (by decide) (by decide)
    unfold KL
    rw [sa, s1 44 (by decide)]
    exact q
set_option maxRecDepth 100000 in
theorem c_endInit {G : Ge} {M : Mem} (e : Nat) (h : Obj M (7, e) (List.replicate 16 0) (List.replicate 16 none)) (hf8 : M.len (8, e) = none) (hf9 : M.len (9, e) = none) (hf10 : M.len (10, e) = none) (hrc : 3 ≤ M.rc) (hrs : 324 ≤ M.rs) : Ct G mi_X1_init [vR ((7, e)), vI (↑e)] M (fun v' M' => v' = none ∧ EnO M' e ∧ Fe e M M' ∧ Bg 3 324 M M') := by
  refine Ct.of pl_X1_init [some (vR ((7, e))), some (vI (↑e))] rfl (Nat.le_of_ble_eq_true rfl) ?_
  refine S_aload_n dX1_init_0 rfl ?_
  refine S_objInit oi_X1_3 dX1_init_1 (by decide) (Nat.le_of_ble_eq_true rfl) ?_
  refine S_aload_n dX1_init_4 rfl ?_
  refine S_bipush dX1_init_5 (by decide) ?_
  refine S_newarrA (8, e) 12 cl_X1_9 (by decide) dX1_init_7 rfl (by omega) rfl (by decide) rfl rfl hf8 (by omega) (by omega) ?_
  refine Sf.nm (fun M1 hM1 => ?_)
  refine S_putPF fl_X1_11 dX1_init_10 rfl rfl rfl rfl rfl ?_
  refine Sf.nm (fun M2 hM2 => ?_)
  refine S_aload_n dX1_init_13 rfl ?_
  refine S_iconst dX1_init_14 ?_
  refine S_putI fl_X1_17 dX1_init_15 rfl rfl rfl  (Or.inl rfl) ?_
  refine Sf.nm (fun M3 hM3 => ?_)
  refine S_aload_n dX1_init_18 rfl ?_
  refine S_bipush dX1_init_19 (by decide) ?_
  refine S_newarrA (9, e) 12 cl_X1_21 (by decide) dX1_init_21 rfl (by omega) rfl (by decide) rfl rfl (by rw [hM3, Mem.putI_len, hM2, Mem.putP_len, hM1, Mem.new_len_ne (rne (by decide)), hf9]) (by rw [hM3, hM2, hM1]; show 1 ≤ M.rc - 1; omega) (by rw [hM3, hM2, hM1]; show 12 ≤ M.rs - 12; omega) ?_
  refine Sf.nm (fun M4 hM4 => ?_)
  refine S_putPF fl_X1_23 dX1_init_24 rfl rfl rfl rfl rfl ?_
  refine Sf.nm (fun M5 hM5 => ?_)
  refine S_aload_n dX1_init_27 rfl ?_
  refine S_sipush dX1_init_28 (by decide) ?_
  refine S_newarrI (10, e) 300 ac_I dX1_init_31 rfl (by omega) rfl rfl (by rw [hM5, Mem.putP_len, hM4, Mem.new_len_ne (rne (by decide)), hM3, Mem.putI_len, hM2, Mem.putP_len, hM1, Mem.new_len_ne (rne (by decide)), hf10]) (by rw [hM5, hM4, hM3, hM2, hM1]; show 1 ≤ M.rc - 1 - 1; omega) (by rw [hM5, hM4, hM3, hM2, hM1]; show 300 ≤ M.rs - 12 - 12; omega) ?_
  refine Sf.nm (fun M6 hM6 => ?_)
  refine S_putPF fl_X1_27 dX1_init_33 rfl rfl rfl rfl rfl ?_
  refine Sf.nm (fun M7 hM7 => ?_)
  refine S_aload_n dX1_init_36 rfl ?_
  refine S_iload_n dX1_init_37 rfl ?_
  refine S_putIF fl_X1_31 dX1_init_38 rfl rfl rfl rfl rfl (Or.inl rfl) ?_
  refine Sf.nm (fun M8 hM8 => ?_)
  exact S_vret dX1_init_41 rfl (by
    have ok_0 : Obj M1 (7, e) (List.replicate 16 0) (List.replicate 16 none) := by rw [hM1]; exact h.at ⟨Mem.new_len_ne (rne (by decide)), funext fun _ => Mem.new_I_ne (rne (by decide)), funext fun _ => Mem.new_P_ne (rne (by decide))⟩
    have ok_1 : Obj M2 (7, e) (List.replicate 16 0) ((List.replicate 16 none).set 1 (some (8, e))) := by rw [hM2]; exact ok_0.putP (k := 1) (show 1 < 16 by decide)
    have ok_2 : Obj M3 (7, e) ((List.replicate 16 0).set 8 ((-1))) ((List.replicate 16 none).set 1 (some (8, e))) := by rw [hM3]; exact ok_1.putI (k := 8) (show 8 < 16 by decide)
    have ok_3 : Obj M4 (7, e) ((List.replicate 16 0).set 8 ((-1))) ((List.replicate 16 none).set 1 (some (8, e))) := by rw [hM4]; exact ok_2.at ⟨Mem.new_len_ne (rne (by decide)), funext fun _ => Mem.new_I_ne (rne (by decide)), funext fun _ => Mem.new_P_ne (rne (by decide))⟩
    have ok_4 : Obj M5 (7, e) ((List.replicate 16 0).set 8 ((-1))) (((List.replicate 16 none).set 1 (some (8, e))).set 12 (some (9, e))) := by rw [hM5]; exact ok_3.putP (k := 12) (show 12 < 16 by decide)
    have ok_5 : Obj M6 (7, e) ((List.replicate 16 0).set 8 ((-1))) (((List.replicate 16 none).set 1 (some (8, e))).set 12 (some (9, e))) := by rw [hM6]; exact ok_4.at ⟨Mem.new_len_ne (rne (by decide)), funext fun _ => Mem.new_I_ne (rne (by decide)), funext fun _ => Mem.new_P_ne (rne (by decide))⟩
    have ok_6 : Obj M7 (7, e) ((List.replicate 16 0).set 8 ((-1))) ((((List.replicate 16 none).set 1 (some (8, e))).set 12 (some (9, e))).set 14 (some (10, e))) := by rw [hM7]; exact ok_5.putP (k := 14) (show 14 < 16 by decide)
    have ok_7 : Obj M8 (7, e) (((List.replicate 16 0).set 8 ((-1))).set 0 (↑e)) ((((List.replicate 16 none).set 1 (some (8, e))).set 12 (some (9, e))).set 14 (some (10, e))) := by rw [hM8]; exact ok_6.putI (k := 0) (show 0 < 16 by decide)
    have feM1 : Fe e M M1 := by rw [hM1]; exact (Fe.rf e M).trans (Fe.x (c := 8) (by decide) Fx.nw)
    have bgM1 : Bg 1 12 M M1 := by rw [hM1]; exact ((Bg.rf M).trans (Bg.nw _ 8 e _ _ (by decide) (by rw [hf8]))).le (by decide) (by decide)
    have feM2 : Fe e M M2 := by rw [hM2]; exact feM1.trans (Fe.x (c := 7) (by decide) Fx.pP)
    have bgM2 : Bg 1 12 M M2 := by rw [hM2]; exact (bgM1.trans (Bg.pP _ 7 e _ _ (by decide))).le (by decide) (by decide)
    have feM3 : Fe e M M3 := by rw [hM3]; exact feM2.trans (Fe.x (c := 7) (by decide) Fx.pI)
    have bgM3 : Bg 1 12 M M3 := by rw [hM3]; exact (bgM2.trans (Bg.pI _ _ _ _)).le (by decide) (by decide)
    have feM4 : Fe e M M4 := by rw [hM4]; exact feM3.trans (Fe.x (c := 9) (by decide) Fx.nw)
    have bgM4 : Bg 2 24 M M4 := by rw [hM4]; exact (bgM3.trans (Bg.nw _ 9 e _ _ (by decide) (by rw [hM3, Mem.putI_len, hM2, Mem.putP_len, hM1, Mem.new_len_ne (rne (by decide)), hf9]))).le (by decide) (by decide)
    have feM5 : Fe e M M5 := by rw [hM5]; exact feM4.trans (Fe.x (c := 7) (by decide) Fx.pP)
    have bgM5 : Bg 2 24 M M5 := by rw [hM5]; exact (bgM4.trans (Bg.pP _ 7 e _ _ (by decide))).le (by decide) (by decide)
    have feM6 : Fe e M M6 := by rw [hM6]; exact feM5.trans (Fe.x (c := 10) (by decide) Fx.nw)
    have bgM6 : Bg 3 324 M M6 := by rw [hM6]; exact (bgM5.trans (Bg.nw _ 10 e _ _ (by decide) (by rw [hM5, Mem.putP_len, hM4, Mem.new_len_ne (rne (by decide)), hM3, Mem.putI_len, hM2, Mem.putP_len, hM1, Mem.new_len_ne (rne (by decide)), hf10]))).le (by decide) (by decide)
    have feM7 : Fe e M M7 := by rw [hM7]; exact feM6.trans (Fe.x (c := 7) (by decide) Fx.pP)
    have bgM7 : Bg 3 324 M M7 := by rw [hM7]; exact (bgM6.trans (Bg.pP _ 7 e _ _ (by decide))).le (by decide) (by decide)
    have feM8 : Fe e M M8 := by rw [hM8]; exact feM7.trans (Fe.x (c := 7) (by decide) Fx.pI)
    have bgM8 : Bg 3 324 M M8 := by rw [hM8]; exact (bgM7.trans (Bg.pI _ _ _ _)).le (by decide) (by decide)
    exact ⟨rfl, ⟨ok_7, (by rw [hM8, Mem.putI_len, hM7, Mem.putP_len, hM6, Mem.new_len_ne (rne (by decide)), hM5, Mem.putP_len, hM4, Mem.new_len_ne (rne (by decide)), hM3, Mem.putI_len, hM2, Mem.putP_len, hM1, Mem.new_len_eq]), (by rw [hM8, Mem.putI_len, hM7, Mem.putP_len, hM6, Mem.new_len_ne (rne (by decide)), hM5, Mem.putP_len, hM4, Mem.new_len_eq]), (by rw [hM8, Mem.putI_len, hM7, Mem.putP_len, hM6, Mem.new_len_eq])⟩, feM8, bgM8⟩)
set_option maxHeartbeats 20000000 in
set_option maxRecDepth 100000 in
theorem c_pair {G : Ge} {M : Mem} {Y : (Nat → Bool) × (Nat → Bool)} {ρ : RS} (hCs : Cs Y ρ M) (hIv : Iv Y ρ) (hRm : Rm 8 680 M) : Ct G mi_X8_pair [vR ((1, 0))] M (CP Y ((pairF ρ).2) 8 680 (some (vI (pairF ρ).1)) M) := by
  refine Ct.of pl_X8_pair [some (vR ((1, 0)))] rfl (Nat.le_of_ble_eq_true rfl) ?_
  obtain ⟨sc, kn, hS, hCl⟩ := hCs
  have hF0 : Fr CLs M M := Fr.rf CLs M
  have hB0 : Bg 0 0 M M := Bg.rf M
  obtain ⟨hA, hB, hC, hD, hE, hN, hG, hH, hI, hJ, hK, hL⟩ := id hCl
  obtain ⟨⟨hp, hl, hm, hli, h44⟩, ⟨hTI, hSh⟩, ⟨hRo, hRp⟩, ⟨hEd, hOw, hYs, hSt⟩, hEn, hLf, ⟨hKo, hKy, hTs, hTl⟩, ⟨hLt, hLp⟩, hTr, hFe⟩ := hIv
  obtain ⟨a, ha⟩ : ∃ a : Nat, 2 * ρ.1 4 = ↑a := ⟨(2 * ρ.1 4).toNat, by omega⟩
  refine S_aload_n dX8_pair_0 rfl ?_
  refine S_getI (v := ↑a) fl_X8_58 dX8_pair_1 rfl rfl (by rw [(show M.I (1, 0) 6 = ↑a from (congrFun hA.2.1 6).trans ha)]) ?_
  refine S_bipush dX8_pair_4 (by decide) ?_
  refine S_icmp_lt 15 dX8_pair_6 (by decide) (by omega) (fun c_6 => ?_) (fun c_6 => ?_)
  · have hza : ZeE ρ a := hFe a (by omega) (by omega)
    have hzb : ZeE ρ (a + 1) := hFe (a + 1) (by omega) (by omega)
    have hnx : ∀ e : Nat, e < 12 → 2 * ρ.1 4 ≤ (e : Int) → Y.1 e = false := fun e h1 h2 => by
      cases hy : Y.1 e with
      | false => rfl
      | true =>
        have q := (hSt (e / 2) (by omega)).2 ((hYs e h1).mp hy)
        omega
    have hxa := hnx a (by omega) (by omega)
    have hxb := hnx (a + 1) (by omega) (by omega)
    have hfa := hE.2 a (by omega)
    have hfb := hE.2 (a + 1) (by omega)
    have hcap := capM_le hC.2.1
    refine S_aload_n dX8_pair_15 rfl ?_
    refine S_getP (o := some (6, 0)) fl_X8_23 dX8_pair_16 rfl rfl (by rw [(show M.P (1, 0) 2 = some (6, 0) from congrFun hA.2.2 2)]) ?_
    refine S_aload_n dX8_pair_19 rfl ?_
    refine S_getI (v := ↑a) fl_X8_58 dX8_pair_20 rfl rfl (by rw [(show M.I (1, 0) 6 = ↑a from (congrFun hA.2.1 6).trans ha)]) ?_
    refine S_new (7, a) nl_X8_21 dX8_pair_23 rfl hfa.1 (by have := hRm.1; omega) (by have := hRm.2; show 16 ≤ M.rs; omega) ?_
    refine Sf.nm (fun M1 hM1 => ?_)
    have bgM1 : Bg 1 16 M M1 := by rw [hM1]; exact ((Bg.rf M).trans (Bg.nw _ 7 a _ _ (by decide) hfa.1)).le (by decide) (by decide)
    have fpM1 : Fp a M M1 := by rw [hM1]; exact (Fp.rf a M).trans (Fp.x7 Fx.nw)
    have hOM1 : Obj M1 (7, a) (List.replicate 16 0) (List.replicate 16 none) := by rw [hM1]; exact Obj.nw M (7, a) 16 16 16
    have f7M1 : M1.len (7, a + 1) = none := by rw [hM1, Mem.new_len_ne (rni (by omega))]; exact hfb.1
    have f8M1 : M1.len (8, a + 1) = none := by rw [hM1, Mem.new_len_ne (rne (by decide))]; exact hfb.2.1
    have f9M1 : M1.len (9, a + 1) = none := by rw [hM1, Mem.new_len_ne (rne (by decide))]; exact hfb.2.2.1
    have f10M1 : M1.len (10, a + 1) = none := by rw [hM1, Mem.new_len_ne (rne (by decide))]; exact hfb.2.2.2
    have hcpM1 : capM M1 ≤ 12000 := capM_le (n := thN ρ) (hC.2.1.fr fpM1.fr (by decide) (by decide) (by decide))
    refine S_dup dX8_pair_26 ?_
    refine S_aload_n dX8_pair_27 rfl ?_
    refine S_getI (v := ↑a) fl_X8_58 dX8_pair_28 rfl rfl (by rw [hM1, Mem.new_I_ne (rne (by decide)), (show M.I (1, 0) 6 = ↑a from (congrFun hA.2.1 6).trans ha)]) ?_
    refine S_callI (mi := mi_X8_pair) [vI (↑a)] ok_X1_init ml_X8_75 dX8_pair_31 rfl rfl (by decide) rfl (Nat.le_of_ble_eq_true rfl) rfl (c_endInit a hOM1 (by rw [hM1, Mem.new_len_ne (rne (by decide))]; exact hfa.2.1) (by rw [hM1, Mem.new_len_ne (rne (by decide))]; exact hfa.2.2.1) (by rw [hM1, Mem.new_len_ne (rne (by decide))]; exact hfa.2.2.2) (by have := hRm.1; have := bgM1.1; omega) (by have := hRm.2; have := bgM1.2; have := hcpM1; omega)) ?_
    rintro v' M2 ⟨rfl, hE2, hQ2, hB2⟩
    have hR2 := hQ2.fr
    have bgM2 : Bg 4 340 M M2 := (bgM1.trans hB2).le (by decide) (by decide)
    have fpM2 : Fp a M M2 := fpM1.trans (Fp.en hQ2)
    have f7M2 : M2.len (7, a + 1) = none := (hQ2 (7, a + 1) (fun _ => by show a + 1 ≠ a; omega)).1.trans f7M1
    have f8M2 : M2.len (8, a + 1) = none := (hQ2 (8, a + 1) (fun _ => by show a + 1 ≠ a; omega)).1.trans f8M1
    have f9M2 : M2.len (9, a + 1) = none := (hQ2 (9, a + 1) (fun _ => by show a + 1 ≠ a; omega)).1.trans f9M1
    have f10M2 : M2.len (10, a + 1) = none := (hQ2 (10, a + 1) (fun _ => by show a + 1 ≠ a; omega)).1.trans f10M1
    refine S_aast a dX8_pair_34 rfl (by decide) rfl rfl (by decide) rfl (by rw [hR2.len (6, 0) (by decide), hM1, Mem.new_len_ne (rne (by decide)), (show M.len (6, 0) = some 12 from hN.1)]) (by omega) (by omega) ?_
    refine Sf.nm (fun M3 hM3 => ?_)
    have bgM3 : Bg 4 340 M M3 := by rw [hM3]; exact (bgM2.trans (Bg.pP _ 6 0 _ _ (by decide))).le (by decide) (by decide)
    have fpM3 : Fp a M M3 := by rw [hM3]; exact fpM2.trans (Fp.x6 Fx.pP)
    have enaM3 : EnO M3 a := by rw [hM3]; exact hE2.fr (Fr.pP (cs := [6]) 6 0 (by decide)) (by decide) (by decide) (by decide) (by decide)
    have f7M3 : M3.len (7, a + 1) = none := by rw [hM3, Mem.putP_len]; exact f7M2
    have f8M3 : M3.len (8, a + 1) = none := by rw [hM3, Mem.putP_len]; exact f8M2
    have f9M3 : M3.len (9, a + 1) = none := by rw [hM3, Mem.putP_len]; exact f9M2
    have f10M3 : M3.len (10, a + 1) = none := by rw [hM3, Mem.putP_len]; exact f10M2
    refine S_aload_n dX8_pair_35 rfl ?_
    refine S_getP (o := some (6, 0)) fl_X8_23 dX8_pair_36 rfl rfl (by rw [hM3, Mem.putP_at (Or.inl (rne (by decide))), hR2.P (1, 0) (show 1 ∉ [7, 8, 9, 10] by decide), hM1, Mem.new_P_ne (rne (by decide)), (show M.P (1, 0) 2 = some (6, 0) from congrFun hA.2.2 2)]) ?_
    refine S_aload_n dX8_pair_39 rfl ?_
    refine S_getI (v := ↑a) fl_X8_58 dX8_pair_40 rfl rfl (by rw [hM3, Mem.putP_I, hR2.I (1, 0) (show 1 ∉ [7, 8, 9, 10] by decide), hM1, Mem.new_I_ne (rne (by decide)), (show M.I (1, 0) 6 = ↑a from (congrFun hA.2.1 6).trans ha)]) ?_
    refine S_iconst dX8_pair_43 ?_
    refine S_iadd dX8_pair_44 ?_
    rw [show ((↑a : Int) + 1) = ↑(a + 1) from rfl]
    refine S_new (7, a + 1) nl_X8_21 dX8_pair_45 rfl f7M3 (by have := hRm.1; have := bgM3.1; omega) (by have := hRm.2; have := bgM3.2; have := (capM_le (n := thN ρ) (hC.2.1.fr fpM3.fr (by decide) (by decide) (by decide)) : capM M3 ≤ 12000); show 16 ≤ _; omega) ?_
    refine Sf.nm (fun M4 hM4 => ?_)
    have bgM4 : Bg 5 356 M M4 := by rw [hM4]; exact (bgM3.trans (Bg.nw _ 7 (a + 1) _ _ (by decide) f7M3)).le (by decide) (by decide)
    have fpM4 : Fp a M M4 := by rw [hM4]; exact fpM3.trans (Fp.x7b Fx.nw)
    have hOM4 : Obj M4 (7, a + 1) (List.replicate 16 0) (List.replicate 16 none) := by rw [hM4]; exact Obj.nw M3 (7, a + 1) 16 16 16
    have eaM4 : EnO M4 a := by rw [hM4]; exact enaM3.fe (Fe.x (by decide) Fx.nw) (by omega)
    have hcpM4 : capM M4 ≤ 12000 := capM_le (n := thN ρ) (hC.2.1.fr fpM4.fr (by decide) (by decide) (by decide))
    refine S_dup dX8_pair_48 ?_
    refine S_aload_n dX8_pair_49 rfl ?_
    refine S_getI (v := ↑a) fl_X8_58 dX8_pair_50 rfl rfl (by rw [hM4, Mem.new_I_ne (rne (by decide)), hM3, Mem.putP_I, hR2.I (1, 0) (show 1 ∉ [7, 8, 9, 10] by decide), hM1, Mem.new_I_ne (rne (by decide)), (show M.I (1, 0) 6 = ↑a from (congrFun hA.2.1 6).trans ha)]) ?_
    refine S_iconst dX8_pair_53 ?_
    refine S_iadd dX8_pair_54 ?_
    rw [show ((↑a : Int) + 1) = ↑(a + 1) from rfl]
    refine S_callI (mi := mi_X8_pair) [vI (↑(a + 1))] ok_X1_init ml_X8_75 dX8_pair_55 rfl rfl (by decide) rfl (Nat.le_of_ble_eq_true rfl) rfl (c_endInit (a + 1) hOM4 (by rw [hM4, Mem.new_len_ne (rne (by decide))]; exact f8M3) (by rw [hM4, Mem.new_len_ne (rne (by decide))]; exact f9M3) (by rw [hM4, Mem.new_len_ne (rne (by decide))]; exact f10M3) (by have := hRm.1; have := bgM4.1; omega) (by have := hRm.2; have := bgM4.2; have := hcpM4; omega)) ?_
    rintro v' M5 ⟨rfl, hE5, hQ5, hB5⟩
    have hR5 := hQ5.fr
    have bgM5 : Bg 8 680 M M5 := (bgM4.trans hB5).le (by decide) (by decide)
    have fpM5 : Fp a M M5 := fpM4.trans (Fp.en2 hQ5)
    have eaM5 : EnO M5 a := eaM4.fe hQ5 (by omega)
    refine S_aast ((a + 1)) dX8_pair_58 rfl (by decide) rfl rfl (by decide) rfl (by rw [hR5.len (6, 0) (by decide), hM4, Mem.new_len_ne (rne (by decide)), hM3, Mem.putP_len, hR2.len (6, 0) (by decide), hM1, Mem.new_len_ne (rne (by decide)), (show M.len (6, 0) = some 12 from hN.1)]) (by omega) (by omega) ?_
    refine Sf.nm (fun M6 hM6 => ?_)
    have bgM6 : Bg 8 680 M M6 := by rw [hM6]; exact (bgM5.trans (Bg.pP _ 6 0 _ _ (by decide))).le (by decide) (by decide)
    have fpM6 : Fp a M M6 := by rw [hM6]; exact fpM5.trans (Fp.x6 Fx.pP)
    have enaM6 : EnO M6 a := by rw [hM6]; exact eaM5.fr (Fr.pP (cs := [6]) 6 0 (by decide)) (by decide) (by decide) (by decide) (by decide)
    have enbM6 : EnO M6 (a + 1) := by rw [hM6]; exact hE5.fr (Fr.pP (cs := [6]) 6 0 (by decide)) (by decide) (by decide) (by decide) (by decide)
    refine S_aload_n dX8_pair_59 rfl ?_
    refine S_dup dX8_pair_60 ?_
    refine S_getI (v := ↑a) fl_X8_58 dX8_pair_61 rfl rfl (by rw [hM6, Mem.putP_I, hR5.I (1, 0) (show 1 ∉ [7, 8, 9, 10] by decide), hM4, Mem.new_I_ne (rne (by decide)), hM3, Mem.putP_I, hR2.I (1, 0) (show 1 ∉ [7, 8, 9, 10] by decide), hM1, Mem.new_I_ne (rne (by decide)), (show M.I (1, 0) 6 = ↑a from (congrFun hA.2.1 6).trans ha)]) ?_
    refine S_iconst dX8_pair_64 ?_
    refine S_iadd dX8_pair_65 ?_
    refine S_putI fl_X8_58 dX8_pair_66 rfl rfl rfl  (Or.inl rfl) ?_
    refine Sf.nm (fun M7 hM7 => ?_)
    have bgM7 : Bg 8 680 M M7 := by rw [hM7]; exact (bgM6.trans (Bg.pI _ _ _ _)).le (by decide) (by decide)
    have fpM7 : Fp a M M7 := by rw [hM7]; exact fpM6.trans (Fp.x1 Fx.pI)
    have enaM7 : EnO M7 a := by rw [hM7]; exact enaM6.fr (Fr.pI (cs := [1]) 1 0 (by decide)) (by decide) (by decide) (by decide) (by decide)
    have enbM7 : EnO M7 (a + 1) := by rw [hM7]; exact enbM6.fr (Fr.pI (cs := [1]) 1 0 (by decide)) (by decide) (by decide) (by decide) (by decide)
    have oa_0 : Obj M1 (1, 0) [0, 0, 0, 0, 0, 0, 2 * ρ.1 4, ρ.1 30, ρ.1 2, ρ.1 3, ρ.1 42] pQ := by rw [hM1]; exact hA.at ⟨Mem.new_len_ne (rne (by decide)), funext fun _ => Mem.new_I_ne (rne (by decide)), funext fun _ => Mem.new_P_ne (rne (by decide))⟩
    have oa_1 : Obj M2 (1, 0) [0, 0, 0, 0, 0, 0, 2 * ρ.1 4, ρ.1 30, ρ.1 2, ρ.1 3, ρ.1 42] pQ := by exact oa_0.fr hR2 (show 1 ∉ [7, 8, 9, 10] by decide)
    have oa_2 : Obj M3 (1, 0) [0, 0, 0, 0, 0, 0, 2 * ρ.1 4, ρ.1 30, ρ.1 2, ρ.1 3, ρ.1 42] pQ := by rw [hM3]; exact oa_1.at (Fx.pP _ (rne (by decide)))
    have oa_3 : Obj M4 (1, 0) [0, 0, 0, 0, 0, 0, 2 * ρ.1 4, ρ.1 30, ρ.1 2, ρ.1 3, ρ.1 42] pQ := by rw [hM4]; exact oa_2.at ⟨Mem.new_len_ne (rne (by decide)), funext fun _ => Mem.new_I_ne (rne (by decide)), funext fun _ => Mem.new_P_ne (rne (by decide))⟩
    have oa_4 : Obj M5 (1, 0) [0, 0, 0, 0, 0, 0, 2 * ρ.1 4, ρ.1 30, ρ.1 2, ρ.1 3, ρ.1 42] pQ := by exact oa_3.fr hR5 (show 1 ∉ [7, 8, 9, 10] by decide)
    have oa_5 : Obj M6 (1, 0) [0, 0, 0, 0, 0, 0, 2 * ρ.1 4, ρ.1 30, ρ.1 2, ρ.1 3, ρ.1 42] pQ := by rw [hM6]; exact oa_4.at (Fx.pP _ (rne (by decide)))
    have oa_6 : Obj M7 (1, 0) ([0, 0, 0, 0, 0, 0, 2 * ρ.1 4, ρ.1 30, ρ.1 2, ρ.1 3, ρ.1 42].set 6 ((↑a) + 2)) pQ := by rw [hM7]; exact oa_5.putI (k := 6) (show 6 < 11 by decide)
    obtain ⟨ρ8, e8⟩ : ∃ z9 : RS, z9 = (ρ.setS 4 ((ρ.1 4 + 1))) := ⟨_, rfl⟩
    have hCl8 : Cl (Y.1, Y.2, sc, kn) ρ8 M7 := (by rw [e8]; exact hCl.pair a ha fpM7 oa_6 ⟨(by rw [hM7, Mem.putI_len, hM6, Mem.putP_len, hR5.len (6, 0) (by decide), hM4, Mem.new_len_ne (rne (by decide)), hM3, Mem.putP_len, hR2.len (6, 0) (by decide), hM1, Mem.new_len_ne (rne (by decide)), (show M.len (6, 0) = some 12 from hN.1)]), (by rw [hM7, Mem.putI_P, hM6, Mem.putP_at (Or.inr (by omega)), hR5.P (6, 0) (show 6 ∉ [7, 8, 9, 10] by decide), hM4, Mem.new_P_ne (rne (by decide)), hM3, Mem.putP_eq]), (by rw [hM7, Mem.putI_P, hM6, Mem.putP_eq]), fun j hj => by rw [hM7, Mem.putI_P, hM6, Mem.putP_at (Or.inr (by omega)), hR5.P (6, 0) (show 6 ∉ [7, 8, 9, 10] by decide), hM4, Mem.new_P_ne (rne (by decide)), hM3, Mem.putP_at (Or.inr (by omega)), hR2.P (6, 0) (show 6 ∉ [7, 8, 9, 10] by decide), hM1, Mem.new_P_ne (rne (by decide))]⟩ enaM7 enbM7 hza hzb hxa hxb)
    have hS8 : StpOK sc kn ρ8 := (by rw [e8]; exact hS)
    have hF8 : Fr CLs M M7 := fpM7.cl
    have hB8 : Bg 8 680 M M7 := bgM7
    have s4_8 : ρ8.1 4 = (ρ.1 4 + 1) := (by rw [e8, RS.setS_eq])
    have s30_8 : ρ8.1 30 = ρ.1 30 := (by rw [e8, RS.setS_ne (by decide)])
    have t_8 : thN ρ8 = thN ρ := by rw [e8]; rfl
    clear hA hB hC hD hE hN hG hH hI hJ hK hL
    obtain ⟨hA, hB, hC, hD, hE, hN, hG, hH, hI, hJ, hK, hL⟩ := id hCl8
    refine S_aload_n dX8_pair_69 rfl ?_
    refine S_aload_n dX8_pair_70 rfl ?_
    refine S_getI (v := 2 * ((ρ.1 4 + 1))) fl_X8_58 dX8_pair_71 rfl rfl (by rw [(show M7.I (1, 0) 6 = 2 * ((ρ.1 4 + 1)) from (show M7.I (1, 0) 6 = 2 * ρ8.1 4 from congrFun hA.2.1 6).trans (congrArg (fun z : Int => 2 * z) (by rw [s4_8])))]) ?_
    refine S_iconst dX8_pair_74 ?_
    refine S_idiv dX8_pair_75 (by omega) (by omega) ?_
    rw [show Int.tdiv (2 * ((ρ.1 4 + 1))) 2 = (ρ.1 4 + 1 : Int) from Int.mul_tdiv_cancel_left _ (by decide)]
    refine S_iconst dX8_pair_76 ?_
    refine S_isub dX8_pair_77 ?_
    refine S_callV (mi := mi_X8_pair) [vI ((ρ.1 4 + 1) - 1)] ok_X8_done ml_X8_69 dX8_pair_78 rfl (by decide) rfl (by decide) rfl (Nat.le_of_ble_eq_true rfl) rfl (c_done (show Cs Y ρ8 M7 from ⟨sc, kn, hS8, hCl8⟩) ((ρ.1 4 + 1) - 1)) ?_
    rintro v' M9 ⟨rfl, hCs9, hF9', hB9'⟩
    obtain ⟨ρ10, e10⟩ : ∃ z9 : RS, z9 = (ρ8.setS 42 0) := ⟨_, rfl⟩
    rw [← e10] at hCs9
    obtain ⟨sc, kn, hS10, hCl10⟩ := hCs9
    have hF10 : Fr CLs M M9 := hF8.trans hF9'
    have hB10 : Bg 8 680 M M9 := (hB8.trans hB9').le (by omega) (by omega)
    have s4_10 : ρ10.1 4 = (ρ.1 4 + 1) := (by rw [e10, RS.setS_ne (by decide), s4_8])
    have s30_10 : ρ10.1 30 = ρ.1 30 := (by rw [e10, RS.setS_ne (by decide), s30_8])
    have t_10 : thN ρ10 = thN ρ8 := by rw [e10]; rfl
    clear hA hB hC hD hE hN hG hH hI hJ hK hL hCl8 hS8 hF8 hB8
    obtain ⟨hA, hB, hC, hD, hE, hN, hG, hH, hI, hJ, hK, hL⟩ := id hCl10
    exact S_iret dX8_pair_81 rfl (Or.inl rfl) (by
      have e9 : pairF ρ = (((ρ.1 4 + 1) - 1 : Int), ρ10) := by
        unfold pairF
        rw [if_neg (by omega), e10, e8]
      rw [e9]
      exact ⟨rfl, ⟨sc, kn, hS10, hCl10⟩, hF10, hB10.le (by omega) (by omega)⟩)
  · refine S_aload_n dX8_pair_9 rfl ?_
    refine S_iconst dX8_pair_10 ?_
    refine S_callV (mi := mi_X8_pair) [vI 2] ok_X8_refuse ml_X8_54 dX8_pair_11 rfl (by decide) rfl (by decide) rfl (Nat.le_of_ble_eq_true rfl) rfl (c_refuse (show Cs Y ρ M from ⟨sc, kn, hS, hCl⟩) 2) ?_
    rintro v' M11 ⟨rfl, hCs11, hF11', hB11'⟩
    obtain ⟨ρ12, e12⟩ : ∃ z9 : RS, z9 = (ρ.setS 42 2) := ⟨_, rfl⟩
    rw [← e12] at hCs11
    obtain ⟨sc, kn, hS12, hCl12⟩ := hCs11
    have hF12 : Fr CLs M M11 := hF0.trans hF11'
    have hB12 : Bg 0 0 M M11 := (hB0.trans hB11').le (by omega) (by omega)
    have s4_12 : ρ12.1 4 = ρ.1 4 := (by rw [e12, RS.setS_ne (by decide)])
    have s30_12 : ρ12.1 30 = ρ.1 30 := (by rw [e12, RS.setS_ne (by decide)])
    have t_12 : thN ρ12 = thN ρ := by rw [e12]; rfl
    clear hA hB hC hD hE hN hG hH hI hJ hK hL
    obtain ⟨hA, hB, hC, hD, hE, hN, hG, hH, hI, hJ, hK, hL⟩ := id hCl12
    exact S_iret dX8_pair_14 rfl (Or.inl rfl) (by
      have e9 : pairF ρ = (((-1) : Int), ρ12) := by
        unfold pairF
        rw [if_pos (by omega), e12]
      rw [e9]
      exact ⟨rfl, ⟨sc, kn, hS12, hCl12⟩, hF12, hB12.le (by omega) (by omega)⟩)
