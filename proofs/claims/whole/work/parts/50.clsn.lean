/-! THE CLASS: a thing comes (what it says) -/
def updF (sc : Nat → Int) (n : Nat) (s : Int) : Nat → Int := fun t => if t = n then s else sc t
theorem updF_eq {sc : Nat → Int} {n : Nat} {s : Int} : updF sc n s n = s := if_pos rfl
theorem updF_ne {sc : Nat → Int} {n t : Nat} {s : Int} (h : t ≠ n) : updF sc n s t = sc t := if_neg h
theorem ssV_upd {sc : Nat → Int} {n : Nat} {s x : Int} (h : x < n) (hx : -1 ≤ x) : ssV (updF sc n s) x = ssV sc x := by
  unfold ssV
  by_cases h1 : x = -1
  · rw [if_pos h1, if_pos h1]
  · rw [if_neg h1, if_neg h1, updF_ne (by omega)]
theorem capM_le {n : Nat} {M : Mem} (h : Ls n M) : capM M ≤ 12000 := by
  obtain ⟨_, _, lr, cap, c, h3, h4, _, _, h7, _⟩ := h
  rw [capM_of h3 h4]
  exact h7
section
variable {ρ : RS} {k f w v : Int} {N : Nat}
theorem new_cOf {par : Nat → Bool} {t : Nat} (h : t ≠ thN ρ) : cOf par (newT ρ k f w v) t = cOf par ρ t := cOf_cg (new_old _ _ _ _ _ _ _ (Or.inl h)) (new_old _ _ _ _ _ _ _ (Or.inl h)) (new_old _ _ _ _ _ _ _ (Or.inl h))
theorem new_cWi {par : Nat → Bool} {t : Nat} (h : t ≠ thN ρ) : cWi par (newT ρ k f w v) t = cWi par ρ t := cWi_cg (new_old _ _ _ _ _ _ _ (Or.inl h)) (new_old _ _ _ _ _ _ _ (Or.inl h)) (new_old _ _ _ _ _ _ _ (Or.inl h))
theorem new_6 : (newT ρ k f w v).2 6 (thN ρ) = k := by rw [new_at, if_pos (by omega)]; rfl
theorem new_7 : (newT ρ k f w v).2 7 (thN ρ) = f := by rw [new_at, if_pos (by omega)]; rfl
theorem new_8 : (newT ρ k f w v).2 8 (thN ρ) = w := by rw [new_at, if_pos (by omega)]; rfl
theorem new_9 : (newT ρ k f w v).2 9 (thN ρ) = v := by rw [new_at, if_pos (by omega)]; rfl
theorem new_10 : (newT ρ k f w v).2 10 (thN ρ) = 0 := by rw [new_at, if_pos (by omega)]; rfl
theorem new_cOfN {par : Nat → Bool} : cOf par (newT ρ k f w v) (thN ρ) = cOfV par k f w := by rw [cOf_V, new_6, new_7, new_8]
theorem new_cWiN {par : Nat → Bool} : cWi par (newT ρ k f w v) (thN ρ) = cWiV par k f w := by rw [cWi_V, new_6, new_7, new_8]
theorem new_prC {par : Nat → Bool} {x : Int} {n : Nat} (h : n ≤ thN ρ) : prC par (newT ρ k f w v) n x = prC par ρ n x := prC_cg n x (fun t ht => new_cOf (by omega))
theorem new_bsC {par : Nat → Bool} {t : Nat} (h : t < thN ρ) : bsC par (newT ρ k f w v) t = bsC par ρ t := bsC_cg (fun s hs => new_cOf (by omega))
theorem KH.nwT {M : Mem} (h : KH ρ M) (hT : ThOK ρ N) : KH (newT ρ k f w v) M := ⟨fun e he => ⟨(h.1 e he).1, fun i hi => by
  obtain ⟨n, kk, q1, q2, q3, q4⟩ := (h.1 e he).2 i hi
  refine ⟨n, kk, q1, q2, by rw [thN_new hT]; omega, ?_⟩
  rw [new_old _ _ _ _ _ 9 kk (Or.inl (by omega))]
  exact q4⟩, h.2⟩
theorem KK.nwT {M : Mem} (h : KK ρ M) (hT : ThOK ρ N) : KK (newT ρ k f w v) M := ⟨h.1, fun i hi => by
  obtain ⟨q1, o1, o2, q2, q3⟩ := h.2 i hi
  refine ⟨q1, o1, o2, q2, ?_⟩
  rcases q3 with u | u | ⟨u1, u2, n, kk, u3, u4, u5, a, p, u6⟩ | ⟨u1, t, u2, u3, u4, u5⟩
  · exact Or.inl u
  · exact Or.inr (Or.inl u)
  · refine Or.inr (Or.inr (Or.inl ⟨u1, u2, n, kk, u3, u4, by rw [thN_new hT]; omega, a, p, ?_⟩))
    rw [new_old _ _ _ _ _ 9 kk (Or.inl (by omega))]
    exact u6
  · refine Or.inr (Or.inr (Or.inr ⟨u1, t, u2, u3, by rw [thN_new hT]; omega, ?_⟩))
    rw [new_old _ _ _ _ _ 6 t (Or.inl (by omega))]
    exact u5⟩
theorem StpOK.nwT {sc : Nat → Int} {kn s : Int} (h : StpOK sc kn ρ) (hT : ThOK ρ N) (hf : -1 ≤ f ∧ f < thN ρ) (hw : -1 ≤ w ∧ w < thN ρ) (hs : s = ssT sc (newT ρ k f w v) (thN ρ)) : StpOK (updF sc (thN ρ) s) (kn + (if s ≠ -1 then 1 else 0)) (newT ρ k f w v) := by
  have hk : ∀ n, n ≤ thN ρ → ktS (updF sc (thN ρ) s) n = ktS sc n := by
    intro n
    induction n with
    | zero => intro _; rfl
    | succ n ih =>
      intro hn
      show ktS (updF sc (thN ρ) s) n + (if updF sc (thN ρ) s n ≠ -1 then 1 else 0) = ktS sc n + (if sc n ≠ -1 then 1 else 0)
      rw [ih (by omega), updF_ne (by omega)]
  refine ⟨fun t ht => ?_, ?_⟩
  · rw [thN_new hT] at ht
    by_cases htn : t = thN ρ
    · subst htn
      rw [updF_eq, hs]
      unfold ssT
      rw [new_7, new_8, ssV_upd hf.2 hf.1, ssV_upd hw.2 hw.1]
    · have hb := hT.2.2.2.2 t (by omega)
      rw [updF_ne htn, h.1 t (by omega)]
      unfold ssT
      rw [new_old _ _ _ _ _ 10 t (Or.inl htn), new_old _ _ _ _ _ 6 t (Or.inl htn), new_old _ _ _ _ _ 7 t (Or.inl htn), new_old _ _ _ _ _ 8 t (Or.inl htn), ssV_upd (by omega) hb.2.1.1, ssV_upd (by omega) hb.2.2.1.1]
  · rw [thN_new hT]
    show _ = ktS (updF sc (thN ρ) s) (thN ρ) + (if updF sc (thN ρ) s (thN ρ) ≠ -1 then 1 else 0)
    rw [hk _ (Nat.le_refl _), updF_eq, h.2]
theorem Cl.nwT {st par : Nat → Bool} {sc : Nat → Int} {kn kn' s : Int} {M M' : Mem} (h : Cl (st, par, sc, kn) ρ M) (hT : ThOK ρ N) (a : Nat) (ha : a < thN ρ) {wI : Int} (hco : cOfV par k f w = ↑a) (hcw : cWiV par k f w = wI)
    (hF : Fr [3, 4, 5, 18] M M') (hob : ∀ t, t < thN ρ → t ≠ a → SameAt (18, t) M M')
    (ha' : Obj M' (18, a) (tL (fun j => ρ.2 j a) (sc a)) (tQ (qx (cOf par ρ a)) (qx (cWi par ρ a)) (some (18, thN ρ)) (bsC par ρ a)))
    (hN' : Obj M' (18, thN ρ) [k, v, 0, 0, 0, 0, 0, s] [none, none, some (18, a), qx wI, none, qx (prC par ρ (thN ρ) ↑a)])
    (hfr : ∀ t, thN ρ < t → M'.len (18, t) = none) (hth : Obj M' (3, 0) [0, 0, kn'] [some (2, 0), some (4, 0)]) (hLs : Ls (thN ρ + 1) M') (h20 : M'.len (20, 0) = some 0) :
    Cl (st, par, updF sc (thN ρ) s, kn') (newT ρ k f w v) M' := by
  obtain ⟨hA, hB, hC, hD, hE, hN, hG, hH, hI, hJ, hK, hL⟩ := h
  have hn := thN_new hT k f w v
  refine ⟨hA.fr hF (by decide), hB.fr hF (by decide), ⟨hth, by rw [hn]; exact hLs, h20⟩, ⟨fun t ht => ?_, fun t ht => hfr t (by omega)⟩, hE.fr hF (by decide) (by decide) (by decide) (by decide), hN.fr hF (by decide), hG.fr hF (by decide), (hH.fr hF (by decide) (by decide)).nwT hT, hI.fr hF (by decide), hJ.fr hF (by decide) (by decide) (by decide), (hK.fr hF (by decide) (by decide) (by decide)).nwT hT, hL.fr hF (by decide) (by decide)⟩
  have e1 : ∀ x : Int, prC par (newT ρ k f w v) (thN (newT ρ k f w v)) x = if (a : Int) = x then ↑(thN ρ) else prC par ρ (thN ρ) x := fun x => by
    rw [hn]
    show (if cOf par (newT ρ k f w v) (thN ρ) = x then _ else _) = _
    rw [new_cOfN, hco, new_prC (Nat.le_refl _)]
  show Obj M' (18, t) (tL (fun j => (newT ρ k f w v).2 j t) (updF sc (thN ρ) s t)) (tQ (qx (cOf par (newT ρ k f w v) t)) (qx (cWi par (newT ρ k f w v) t)) (qx (prC par (newT ρ k f w v) (thN (newT ρ k f w v)) ↑t)) (bsC par (newT ρ k f w v) t))
  rw [e1]
  by_cases htn : t = thN ρ
  · subst htn
    have e2 : prC par ρ (thN ρ) ↑(thN ρ) = -1 := by
      rcases prC_cs par ρ ↑(thN ρ) (thN ρ) with ⟨q, _⟩ | ⟨c, q1, _, q3, _⟩
      · exact q
      · have hb := hT.2.2.2.2 c q1
        rw [cOf_V] at q3
        unfold cOfV at q3
        split at q3
        · split at q3 <;> omega
        · split at q3 <;> omega
    refine hN'.cg ?_ ?_
    · show _ = [(newT ρ k f w v).2 6 (thN ρ), (newT ρ k f w v).2 9 (thN ρ), 0, 0, 0, 0, (newT ρ k f w v).2 10 (thN ρ), updF sc (thN ρ) s (thN ρ)]
      rw [new_6, new_9, new_10, updF_eq]
    · rw [new_cOfN, new_cWiN, hco, hcw, if_neg (by omega), e2, qx_no, qx_nat]
      unfold bsC
      rw [new_cOfN, hco, if_neg (by omega), new_prC (Nat.le_refl _)]
      rfl
  · have htl : t < thN ρ := by omega
    rw [updF_ne htn, new_cOf htn, new_cWi htn, new_bsC htl]
    have e3 : tL (fun j => (newT ρ k f w v).2 j t) (sc t) = tL (fun j => ρ.2 j t) (sc t) := by
      show [(newT ρ k f w v).2 6 t, (newT ρ k f w v).2 9 t, 0, 0, 0, 0, (newT ρ k f w v).2 10 t, sc t] = [ρ.2 6 t, ρ.2 9 t, 0, 0, 0, 0, ρ.2 10 t, sc t]
      rw [new_old _ _ _ _ _ 6 t (Or.inl htn), new_old _ _ _ _ _ 9 t (Or.inl htn), new_old _ _ _ _ _ 10 t (Or.inl htn)]
    rw [e3]
    by_cases hta : t = a
    · subst hta
      rw [if_pos rfl, qx_nat]
      exact ha'
    · rw [if_neg (by omega)]
      exact (hD.1 t htl).at (hob t htl hta)
end
