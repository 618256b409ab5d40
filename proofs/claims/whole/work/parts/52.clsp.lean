/-! THE CLASS: a thing is looked for -/
theorem bs_next {par : Nat → Bool} {ρ : RS} {c a : Nat} (h : cOf par ρ c = ↑a) : bsC par ρ c = qx (prC par ρ c ↑a) := by
  unfold bsC
  rw [h, if_neg (by omega)]
set_option maxRecDepth 100000 in
theorem lp_comeOf {G : Ge} {Y : (Nat → Bool) × (Nat → Bool)} {ρ : RS} {M : Mem} (N : Nat) (hT : ThOK ρ N) (hNb : N < 7990) (hU : UqT ρ) (hTK : ThK Y.2 ρ) (a : Nat) (ha : a < thN ρ) (k f w v wI : Int) (hKf : Kfm Y.2 k f w) (hk3 : k ≠ 3) (hf : f < thN ρ) (hw : w < thN ρ) (hco : cOfV Y.2 k f w = ↑a) (hcw : cWiV Y.2 k f w = wI) (hRm : Rm 2 8 M) (hCs : Cs Y ρ M) : ∀ (d : Nat) (n : Nat), n ≤ d → n ≤ thN ρ → (∀ t, n ≤ t → t < thN ρ → ¬ (cOf Y.2 ρ t = ↑a ∧ ρ.2 6 t = k ∧ cWi Y.2 ρ t = wI)) → Sf G mi_X5_comeOf (fun v' M' => CP Y (thR ρ k f w v) 2 8 (some (vR (18, thI ρ k f w))) M v' M' ∧ Fr [3, 4, 5, 18] M M') 6 [some (vR ((3, 0))), some (vR ((18, a))), some (vI k), some (vQ (qx wI)), some (vI v), some (vQ (qx (prC Y.2 ρ n ↑a)))] [] M := by
  intro d
  induction d with
  | zero =>
    intro n hnd hnt hnm
    obtain ⟨sc, kn, hS, hCl⟩ := id hCs
    obtain ⟨hA, hB, hC, hD, hE, hN, hG, hH, hI, hJ, hK, hL⟩ := id hCl
    have hl8 := hT.2.1
    have hfw : -1 ≤ f ∧ -1 ≤ w := by rcases hKf with q | q | q | q <;> omega
    have hkk : 0 ≤ k ∧ k ≤ 5 := by rcases hKf with q | q | q | q <;> omega
    obtain rfl : n = 0 := by omega
    have hp1 : prC Y.2 ρ 0 ↑a = -1 := rfl
    have hp2 : ∀ t, t < 0 → cOf Y.2 ρ t ≠ ↑a := fun t ht => absurd ht (by omega)
    skip
    · rw [hp1, qx_no]
      refine S_aload dX5_comeOf_6 rfl ?_
      refine S_ifnull 42 dX5_comeOf_8 (by decide) (fun c_8 => ?_) (fun c_8 => absurd c_8 (by simp))
      have hno : ∀ t, t < thN ρ → ¬ (ρ.2 6 t = k ∧ ρ.2 7 t = f ∧ ρ.2 8 t = w) := fun t ht q => by
        have e1 : cOf Y.2 ρ t = ↑a := by rw [cOf_V, q.1, q.2.1, q.2.2]; exact hco
        have e2 : cWi Y.2 ρ t = wI := by rw [cWi_V, q.1, q.2.1, q.2.2]; exact hcw
        by_cases htn : t < 0
        · exact hp2 t htn e1
        · exact hnm t (by omega) ht ⟨e1, q.1, e2⟩
      exact nw_comeOf N hT hNb hU hTK a ha k f w v wI hKf hk3 hf hw hco hcw hRm hCs (thI_no hno) _
  | succ d ih =>
    intro n hnd hnt hnm
    obtain ⟨sc, kn, hS, hCl⟩ := id hCs
    obtain ⟨hA, hB, hC, hD, hE, hN, hG, hH, hI, hJ, hK, hL⟩ := id hCl
    have hl8 := hT.2.1
    have hfw : -1 ≤ f ∧ -1 ≤ w := by rcases hKf with q | q | q | q <;> omega
    have hkk : 0 ≤ k ∧ k ≤ 5 := by rcases hKf with q | q | q | q <;> omega
    rcases prC_cs Y.2 ρ ↑a n with ⟨hp1, hp2⟩ | ⟨c, hc1, hc2, hc3, hc4⟩
    · rw [hp1, qx_no]
      refine S_aload dX5_comeOf_6 rfl ?_
      refine S_ifnull 42 dX5_comeOf_8 (by decide) (fun c_8 => ?_) (fun c_8 => absurd c_8 (by simp))
      have hno : ∀ t, t < thN ρ → ¬ (ρ.2 6 t = k ∧ ρ.2 7 t = f ∧ ρ.2 8 t = w) := fun t ht q => by
        have e1 : cOf Y.2 ρ t = ↑a := by rw [cOf_V, q.1, q.2.1, q.2.2]; exact hco
        have e2 : cWi Y.2 ρ t = wI := by rw [cWi_V, q.1, q.2.1, q.2.2]; exact hcw
        by_cases htn : t < n
        · exact hp2 t htn e1
        · exact hnm t (by omega) ht ⟨e1, q.1, e2⟩
      exact nw_comeOf N hT hNb hU hTK a ha k f w v wI hKf hk3 hf hw hco hcw hRm hCs (thI_no hno) _
    · rw [hc2, qx_nat]
      have hbc := hT.2.2.2.2 c (by omega)
      refine S_aload dX5_comeOf_6 rfl ?_
      refine S_ifnull 42 dX5_comeOf_8 (by decide) (fun c_8 => absurd c_8 (by simp)) (fun c_8 => ?_)
      refine S_aload dX5_comeOf_11 rfl ?_
      refine S_getI (v := ρ.2 6 c) fl_X5_57 dX5_comeOf_13 rfl rfl (by rw [(show M.I (18, c) 0 = ρ.2 6 c from (show M.I (18, c) 0 = ρ.2 6 c from congrFun (hD.1 c (by omega)).2.1 0))]) ?_
      refine S_iload_n dX5_comeOf_16 rfl ?_
      refine S_icmp_ne 32 dX5_comeOf_17 (by decide) (by omega) (fun c_17 => ?_) (fun c_17 => ?_)
      · refine S_aload dX5_comeOf_32 rfl ?_
        refine S_getP (o := bsC Y.2 ρ c) fl_X5_63 dX5_comeOf_34 rfl rfl (by rw [(show M.P (18, c) 5 = bsC Y.2 ρ c from congrFun (hD.1 c (by omega)).2.2 5)]) ?_
        refine S_astore dX5_comeOf_37 (by decide) ?_
        refine S_goto 6 dX5_comeOf_39 (by decide) ?_
        rw [bs_next hc3]
        exact ih c (by omega) (by omega) (fun t h1 h2 q => by
          by_cases htc : t = c
          · subst htc
            exact c_17 q.2.1
          · by_cases htn : t < n
            · exact hc4 t (by omega) htn q.1
            · exact hnm t (by omega) h2 q)
      · refine S_aload dX5_comeOf_20 rfl ?_
        refine S_getP (o := qx (cWi Y.2 ρ c)) fl_X5_60 dX5_comeOf_22 rfl rfl (by rw [(show M.P (18, c) 3 = qx (cWi Y.2 ρ c) from congrFun (hD.1 c (by omega)).2.2 3)]) ?_
        refine S_aload_n dX5_comeOf_25 rfl ?_
        refine S_acmp_ne 32 dX5_comeOf_26 (by decide) ⟨qx_nS, qx_nS⟩ (fun c_26 => ?_) (fun c_26 => ?_)
        · refine S_aload dX5_comeOf_32 rfl ?_
          refine S_getP (o := bsC Y.2 ρ c) fl_X5_63 dX5_comeOf_34 rfl rfl (by rw [(show M.P (18, c) 5 = bsC Y.2 ρ c from congrFun (hD.1 c (by omega)).2.2 5)]) ?_
          refine S_astore dX5_comeOf_37 (by decide) ?_
          refine S_goto 6 dX5_comeOf_39 (by decide) ?_
          rw [bs_next hc3]
          exact ih c (by omega) (by omega) (fun t h1 h2 q => by
            by_cases htc : t = c
            · subst htc
              exact c_26 (by rw [q.2.2])
            · by_cases htn : t < n
              · exact hc4 t (by omega) htn q.1
              · exact hnm t (by omega) h2 q)
        · refine S_aload dX5_comeOf_29 rfl ?_
          exact S_aret dX5_comeOf_31 rfl rfl (by
    have hcw1 : cWi Y.2 ρ c = wI := (qx_inj (by rw [cWi_V]; unfold cWiV; split; split <;> omega; split <;> omega) (by rw [← hcw]; unfold cWiV; split; split <;> omega; split <;> omega)).mp c_26
    have hKc := hTK c (by omega)
    have hk6 : ρ.2 6 c = k := by omega
    rw [hk6] at hKc
    obtain ⟨e1, e2⟩ := key_inj hKc hKf (by rw [hco, ← hc3, cOf_V, hk6]) (by rw [hcw, ← hcw1, cWi_V, hk6])
    have hIx := thI_is (k := k) (a := f) (b := w) hU hk3 (c := c) (by omega) ⟨hk6, e1, e2⟩
    rw [hIx, thR_old (by omega)]
    exact ⟨⟨rfl, ⟨sc, kn, hS, hCl⟩, Fr.rf _ M, (Bg.rf M).le (by omega) (by omega)⟩, Fr.rf _ M⟩)
set_option maxRecDepth 100000 in
theorem c_comeOfF {G : Ge} {M : Mem} {Y : (Nat → Bool) × (Nat → Bool)} {ρ : RS} (N : Nat) (hT : ThOK ρ N) (hNb : N < 7990) (hU : UqT ρ) (hTK : ThK Y.2 ρ) (a : Nat) (ha : a < thN ρ) (k f w v wI : Int) (hKf : Kfm Y.2 k f w) (hk3 : k ≠ 3) (hf : f < thN ρ) (hw : w < thN ρ) (hco : cOfV Y.2 k f w = ↑a) (hcw : cWiV Y.2 k f w = wI) (hRm : Rm 2 8 M) (hCs : Cs Y ρ M) : Ct G mi_X5_comeOf [vR ((3, 0)), vR ((18, a)), vI k, vQ (qx wI), vI v] M (fun v' M' => CP Y (thR ρ k f w v) 2 8 (some (vR (18, thI ρ k f w))) M v' M' ∧ Fr [3, 4, 5, 18] M M') := by
  refine Ct.of pl_X5_comeOf [some (vR ((3, 0))), some (vR ((18, a))), some (vI k), some (vQ (qx wI)), some (vI v), none] rfl (Nat.le_of_ble_eq_true rfl) ?_
  obtain ⟨sc, kn, hS, hCl⟩ := id hCs
  obtain ⟨hA, hB, hC, hD, hE, hN, hG, hH, hI, hJ, hK, hL⟩ := id hCl
  refine S_aload_n dX5_comeOf_0 rfl ?_
  refine S_getP (o := qx (prC Y.2 ρ (thN ρ) ↑a)) fl_X5_53 dX5_comeOf_1 rfl rfl (by rw [(show M.P (18, a) 4 = qx (prC Y.2 ρ (thN ρ) ↑a) from congrFun (hD.1 a (by omega)).2.2 4)]) ?_
  refine S_astore dX5_comeOf_4 (by decide) ?_
  exact lp_comeOf N hT hNb hU hTK a ha k f w v wI hKf hk3 hf hw hco hcw hRm hCs (thN ρ) (thN ρ) (Nat.le_refl _) (Nat.le_refl _) (fun t h1 h2 => absurd h1 (by omega))
theorem c_comeOf {G : Ge} {M : Mem} {Y : (Nat → Bool) × (Nat → Bool)} {ρ : RS} (N : Nat) (hT : ThOK ρ N) (hNb : N < 7990) (hU : UqT ρ) (hTK : ThK Y.2 ρ) (a : Nat) (ha : a < thN ρ) (k f w v wI : Int) (hKf : Kfm Y.2 k f w) (hk3 : k ≠ 3) (hf : f < thN ρ) (hw : w < thN ρ) (hco : cOfV Y.2 k f w = ↑a) (hcw : cWiV Y.2 k f w = wI) (hRm : Rm 2 8 M) (hCs : Cs Y ρ M) : Ct G mi_X5_comeOf [vR (3, 0), vR (18, a), vI k, vQ (qx wI), vI v] M (CP Y (thR ρ k f w v) 2 8 (some (vR (18, thI ρ k f w))) M) := Ct.imp (fun _ _ h => h.1) (c_comeOfF N hT hNb hU hTK a ha k f w v wI hKf hk3 hf hw hco hcw hRm hCs)
