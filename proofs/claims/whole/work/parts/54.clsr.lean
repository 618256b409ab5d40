/-! THE CLASS: a new secret -/
theorem cOf_par {par par' : Nat → Bool} {ρ : RS} {N t : Nat} (hT : ThOK ρ N) (ht : t < thN ρ) (hp : ∀ s, s < thN ρ → par' s = par s) : cOf par' ρ t = cOf par ρ t ∧ cWi par' ρ t = cWi par ρ t := by
  have hb := hT.2.2.2.2 t ht
  have e : par' (ρ.2 7 t).toNat = par (ρ.2 7 t).toNat := hp _ (by omega)
  unfold cOf cWi
  rw [e]
  exact ⟨rfl, rfl⟩
theorem prC_par {par par' : Nat → Bool} {ρ : RS} {N : Nat} (hT : ThOK ρ N) (hp : ∀ s, s < thN ρ → par' s = par s) (x : Int) : ∀ n, n ≤ thN ρ → prC par' ρ n x = prC par ρ n x := by
  intro n
  induction n with
  | zero => intro _; rfl
  | succ n ih =>
    intro hn
    show (if cOf par' ρ n = x then ↑n else prC par' ρ n x) = (if cOf par ρ n = x then ↑n else prC par ρ n x)
    rw [(cOf_par hT (by omega) hp).1, ih (by omega)]
theorem KD.par {st par par' : Nat → Bool} {sc : Nat → Int} {kn kn' : Int} {ρ : RS} {N : Nat} {M : Mem} (h : KD (st, par, sc, kn) ρ M) (hT : ThOK ρ N) (hp : ∀ s, s < thN ρ → par' s = par s) : KD (st, par', sc, kn') ρ M := ⟨fun t ht => by
  have q := h.1 t ht
  have c := cOf_par hT ht hp
  show Obj M (18, t) _ (tQ (qx (cOf par' ρ t)) (qx (cWi par' ρ t)) (qx (prC par' ρ (thN ρ) ↑t)) (bsC par' ρ t))
  have e : bsC par' ρ t = bsC par ρ t := by
    unfold bsC
    rw [c.1, prC_par hT hp _ t (by omega)]
  rw [c.1, c.2, prC_par hT hp _ _ (Nat.le_refl _), e]
  exact q, h.2⟩
theorem Cs.par {Y Y' : (Nat → Bool) × (Nat → Bool)} {ρ : RS} {N : Nat} {M : Mem} (h : Cs Y ρ M) (hT : ThOK ρ N) (h1 : Y'.1 = Y.1) (hp : ∀ s, s < thN ρ → Y'.2 s = Y.2 s) : Cs Y' ρ M := by
  obtain ⟨sc, kn, hS, hA, hB, hC, hD, hE, hR⟩ := h
  refine ⟨sc, kn, hS, hA, hB, hC, hD.par hT hp, ?_, hR⟩
  rw [h1]
  exact hE
section
variable {ρ : RS} {v : Int} {N : Nat}
theorem Cl.nwS {st par par' : Nat → Bool} {sc : Nat → Int} {kn : Int} {M M' : Mem} (h : Cl (st, par, sc, kn) ρ M) (hT : ThOK ρ N) (hp : ∀ s, s < thN ρ → par' s = par s)
    (hF : Fr [4, 5, 18] M M') (hob : ∀ t, t < thN ρ → SameAt (18, t) M M') (hN' : Obj M' (18, thN ρ) [3, v, 0, 0, 0, 0, 0, -1] [none, none, none, none, none, none])
    (hfr : ∀ t, thN ρ < t → M'.len (18, t) = none) (hLs : Ls (thN ρ + 1) M') (h20 : M'.len (20, 0) = some 0) :
    Cl (st, par', updF sc (thN ρ) (-1), kn) (newT ρ 3 (-1) (-1) v) M' := by
  obtain ⟨hA, hB, hC, hD, hE, hN, hG, hH, hI, hJ, hK, hL⟩ := h
  have hn := thN_new hT 3 (-1) (-1) v
  refine ⟨hA.fr hF (by decide), hB.fr hF (by decide), ⟨hC.1.fr hF (by decide), by rw [hn]; exact hLs, h20⟩, ⟨fun t ht => ?_, fun t ht => hfr t (by omega)⟩, hE.fr hF (by decide) (by decide) (by decide) (by decide), hN.fr hF (by decide), hG.fr hF (by decide), (hH.fr hF (by decide) (by decide)).nwT hT, hI.fr hF (by decide), hJ.fr hF (by decide) (by decide) (by decide), (hK.fr hF (by decide) (by decide) (by decide)).nwT hT, hL.fr hF (by decide) (by decide)⟩
  have hc1 : cOfV par' 3 (-1) (-1) = -1 ∧ cWiV par' 3 (-1) (-1) = -1 := by
    unfold cOfV cWiV
    exact ⟨by rw [if_neg (by decide), if_neg (by decide)], by rw [if_neg (by decide), if_neg (by decide)]⟩
  have e1 : ∀ x : Int, 0 ≤ x → prC par' (newT ρ 3 (-1) (-1) v) (thN (newT ρ 3 (-1) (-1) v)) x = prC par ρ (thN ρ) x := fun x hx => by
    rw [hn]
    show (if cOf par' (newT ρ 3 (-1) (-1) v) (thN ρ) = x then _ else _) = _
    rw [new_cOfN, hc1.1, if_neg (by omega), new_prC (Nat.le_refl _), prC_par hT hp x _ (Nat.le_refl _)]
  show Obj M' (18, t) (tL (fun j => (newT ρ 3 (-1) (-1) v).2 j t) (updF sc (thN ρ) (-1) t)) (tQ (qx (cOf par' (newT ρ 3 (-1) (-1) v) t)) (qx (cWi par' (newT ρ 3 (-1) (-1) v) t)) (qx (prC par' (newT ρ 3 (-1) (-1) v) (thN (newT ρ 3 (-1) (-1) v)) ↑t)) (bsC par' (newT ρ 3 (-1) (-1) v) t))
  rw [e1 _ (by omega)]
  by_cases htn : t = thN ρ
  · subst htn
    have e2 : prC par ρ (thN ρ) ↑(thN ρ) = -1 := by
      rcases prC_cs par ρ ↑(thN ρ) (thN ρ) with ⟨q, _⟩ | ⟨c, q1, _, q3, _⟩
      · exact q
      · have hb := hT.2.2.2.2 c q1
        rw [cOf_V] at q3
        unfold cOfV at q3
        split at q3
        · split at q3 <;> omega
        · split at q3 <;> omega
    refine hN'.cg ?_ ?_
    · show _ = [(newT ρ 3 (-1) (-1) v).2 6 (thN ρ), (newT ρ 3 (-1) (-1) v).2 9 (thN ρ), 0, 0, 0, 0, (newT ρ 3 (-1) (-1) v).2 10 (thN ρ), updF sc (thN ρ) (-1) (thN ρ)]
      rw [new_6, new_9, new_10, updF_eq]
    · unfold bsC
      rw [new_cOfN, new_cWiN, hc1.1, hc1.2, if_pos rfl, e2, qx_no]
      rfl
  · have htl : t < thN ρ := by omega
    have c := cOf_par hT htl hp
    have eb : bsC par' ρ t = bsC par ρ t := by
      unfold bsC
      rw [c.1, prC_par hT hp _ t (by omega)]
    rw [updF_ne htn, new_cOf htn, new_cWi htn, new_bsC htl, c.1, c.2, eb]
    have e3 : tL (fun j => (newT ρ 3 (-1) (-1) v).2 j t) (sc t) = tL (fun j => ρ.2 j t) (sc t) := by
      show [(newT ρ 3 (-1) (-1) v).2 6 t, (newT ρ 3 (-1) (-1) v).2 9 t, 0, 0, 0, 0, (newT ρ 3 (-1) (-1) v).2 10 t, sc t] = [ρ.2 6 t, ρ.2 9 t, 0, 0, 0, 0, ρ.2 10 t, sc t]
      rw [new_old _ _ _ _ _ 6 t (Or.inl htn), new_old _ _ _ _ _ 9 t (Or.inl htn), new_old _ _ _ _ _ 10 t (Or.inl htn)]
    rw [e3]
    exact (hD.1 t htl).at (hob t htl)
end
def spF (par : Nat → Bool) (ρ : RS) (e : Nat) : Nat → Bool := fun t => if t = thN ρ then decide (e % 2 = 1) else par t
set_option maxRecDepth 100000 in
theorem c_newSecret {G : Ge} {M : Mem} {Y : (Nat → Bool) × (Nat → Bool)} {ρ : RS} (hCs : Cs Y ρ M) (N : Nat) (hT : ThOK ρ N) (hNb : N < 7990) (e : Nat) (s : Int) (hRm : Rm 2 8 M) : Ct G mi_X5_newSecret [vR ((3, 0)), vI s] M (CP (Y.1, spF Y.2 ρ e) (thR ρ 3 (-1) (-1) s) 2 8 (some (vR (18, thN ρ))) M) := by
  refine Ct.of pl_X5_newSecret [some (vR ((3, 0))), some (vI s), none] rfl (Nat.le_of_ble_eq_true rfl) ?_
  obtain ⟨sc, kn, hS, hCl⟩ := hCs
  obtain ⟨hA, hB, hC, hD, hE, hN, hG, hH, hI, hJ, hK, hL⟩ := id hCl
  obtain ⟨n, hn⟩ : ∃ n : Nat, thN ρ = n := ⟨_, rfl⟩
  have hl8 := hT.2.1
  have hfr : M.len (18, n) = none := hD.2 n (by omega)
  have hcap := capM_le hC.2.1
  rw [hn]
  refine S_new (18, n) nl_X5_25 dX5_newSecret_0 rfl hfr (by have := hRm.1; omega) (by have := hRm.2; show 8 ≤ M.rs; omega) ?_
  refine Sf.nm (fun M1 hM1 => ?_)
  refine S_dup dX5_newSecret_3 ?_
  refine S_iconst dX5_newSecret_4 ?_
  refine S_iload_n dX5_newSecret_5 rfl ?_
  refine S_null dX5_newSecret_6 ?_
  refine S_null dX5_newSecret_7 ?_
  have hO0 : Obj M1 (18, n) [0, 0, 0, 0, 0, 0, 0, 0] [none, none, none, none, none, none] := by rw [hM1]; exact Obj.nw M (18, n) 8 8 6
  refine S_callI (mi := mi_X5_newSecret) [vI 3, vI s, vN, vN] ok_X4_init ml_X5_27 dX5_newSecret_8 rfl rfl (by decide) rfl (Nat.le_of_ble_eq_true rfl) rfl (c_thingInit n 3 s none none hO0) ?_
  rintro v' M2 ⟨rfl, hO2, hX2, hB2⟩
  refine S_astore_n dX5_newSecret_11 (by decide) ?_
  refine S_aload_n dX5_newSecret_12 rfl ?_
  refine S_getP (o := some (4, 0)) fl_X5_21 dX5_newSecret_13 rfl rfl (by rw [(show M2.P (3, 0) 1 = _ from congrFun (hX2 (3, 0) (rne (by decide))).2.2 1), hM1, Mem.new_P_ne (rne (by decide)), (show M.P (3, 0) 1 = some (4, 0) from congrFun hC.1.2.2 1)]) ?_
  refine S_aload_n dX5_newSecret_16 rfl ?_
  have hf1 : Fr [18] M M1 := by rw [hM1]; exact Fr.nw 18 n (by decide)
  have hf2 : Fr [18] M M2 := hf1.trans (hX2.fr (by decide))
  have hg2 : Bg 1 8 M M2 := by
    have q : Bg 1 8 M M1 := by rw [hM1]; exact Bg.nw M 18 n 0 8 (by decide) hfr
    exact (q.trans hB2).le (by decide) (by decide)
  have hLs1 : Ls n M2 := (by have q := hC.2.1; rw [hn] at q; exact q.fr hf2 (by decide) (by decide) (by decide))
  have h20 : M2.len (20, 0) = some 0 := (hf2 (20, 0) (by decide)).1.trans hC.2.2
  refine S_callV (mi := mi_X5_newSecret) [vR ((18, n))] ok_Jx4a65c_add_9ea2d ml_X5_30 dX5_newSecret_17 rfl (by decide) rfl (by decide) rfl (Nat.le_of_ble_eq_true rfl) rfl (c_add n hLs1 h20 (by omega) (by have := hRm.1; have := hg2.1; omega) (by have := hRm.2; have := hg2.2; omega)) ?_
  rintro v' M3 ⟨rfl, hLs3, hF3, hr3, hs3⟩
  refine S_pop dX5_newSecret_20 ?_
  refine S_aload_n dX5_newSecret_21 rfl ?_
  exact S_aret dX5_newSecret_22 rfl rfl (by
    have hFm : Fr [4, 5, 18] M M3 := (hf2.mono (fun c hc => by rw [List.mem_singleton.mp hc]; decide)).trans (hF3.mono (fun c hc => by
      rcases List.mem_cons.mp hc with h | h
      · rw [h]; decide
      · rw [List.mem_singleton.mp h]; decide))
    have same : ∀ t, t ≠ n → SameAt (18, t) M M3 := fun t ht => by
      have hne : ((18, t) : Role) ≠ (18, n) := rni ht
      have z0 : SameAt (18, t) M M1 := (by rw [hM1]; exact ⟨Mem.new_len_ne hne, funext fun _ => Mem.new_I_ne hne, funext fun _ => Mem.new_P_ne hne⟩)
      have z1 := hX2 (18, t) hne
      have z2 := hF3 (18, t) (show 18 ∉ [4, 5] by decide)
      exact ⟨(z2.1.trans z1.1).trans z0.1, (z2.2.1.trans z1.2.1).trans z0.2.1, (z2.2.2.trans z1.2.2).trans z0.2.2⟩
    have hS9 := hS.nwT (v := s) (s := -1) (k := 3) (f := -1) (w := -1) hT ⟨by omega, by omega⟩ ⟨by omega, by omega⟩ (by
      unfold ssT stM
      rw [new_10, new_6]
      rfl)
    rw [show (kn + (if (-1 : Int) ≠ -1 then 1 else 0)) = kn from by rw [if_neg (by omega), Int.add_zero]] at hS9
    have hCl9 : Cl (Y.1, spF Y.2 ρ e, updF sc (thN ρ) (-1), kn) (newT ρ 3 (-1) (-1) s) M3 := hCl.nwS hT (fun t ht => if_neg (by omega)) hFm (fun t ht => same t (by omega)) (by rw [hn]; exact hO2.fr hF3 (show 18 ∉ [4, 5] by decide)) (fun t ht => (same t (by omega)).1.trans (hD.2 t (by omega))) (by rw [hn]; exact hLs3) ((hFm (20, 0) (by decide)).1.trans hC.2.2)
    have hIx : thI ρ 3 (-1) (-1) = thN ρ := if_pos rfl
    rw [thR_new hIx]
    exact ⟨rfl, ⟨_, _, hS9, hCl9⟩, hFm.mono (fun c hc => by revert c; decide), ⟨by have := hg2.1; omega, by have := hg2.2; omega⟩⟩)
