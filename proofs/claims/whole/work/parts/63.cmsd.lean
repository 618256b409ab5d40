/-! THE CLASS: an end sends -/
def ArI (M : Mem) (r : Role) (n : Nat) (I : List Int) : Prop := M.len r = some n ∧ M.I r = lk I
theorem ArI.at {M M' : Mem} {r : Role} {n : Nat} {I : List Int} (h : ArI M r n I) (hs : SameAt r M M') : ArI M' r n I := ⟨hs.1.trans h.1, hs.2.1.trans h.2⟩
theorem ArI.put {M : Mem} {r : Role} {n k : Nat} {v : Int} {I : List Int} (h : ArI M r n I) (hk : k < I.length) : ArI (M.putI r k v) r n (I.set k v) := ⟨h.1, by
  rw [← lk_set I k v hk, ← h.2]; funext k'; show (if r = r ∧ k' = k then v else M.2.1 r k') = _; simp only [true_and]; rfl⟩
theorem ArI.nw (M : Mem) (r : Role) (n cost m : Nat) : ArI (M.new r n cost) r n (List.replicate m 0) := ⟨if_pos rfl, by
  rw [new_I]; funext k; unfold lk; rw [List.getD_eq_getElem?_getD, List.getElem?_replicate]; split <;> rfl⟩
def Fq (l : Nat) (M M' : Mem) : Prop := ∀ r : Role, r ≠ (1, 0) → r ≠ (11, 0) → r ≠ (12, l) → r ≠ (13, l) → SameAt r M M'
theorem SameAt.trans {r : Role} {M M1 M2 : Mem} (h : SameAt r M M1) (g : SameAt r M1 M2) : SameAt r M M2 := ⟨g.1.trans h.1, g.2.1.trans h.2.1, g.2.2.trans h.2.2⟩
theorem SameAt.rf (r : Role) (M : Mem) : SameAt r M M := ⟨rfl, rfl, rfl⟩
section
variable {l : Nat} {M M1 M2 : Mem}
theorem Fq.rf (l : Nat) (M : Mem) : Fq l M M := fun r _ _ _ _ => SameAt.rf r M
theorem Fq.trans (h : Fq l M M1) (g : Fq l M1 M2) : Fq l M M2 := fun r a b c d => (h r a b c d).trans (g r a b c d)
theorem Fq.x1 (h : Fx (1, 0) M M1) : Fq l M M1 := fun r a _ _ _ => h r a
theorem Fq.x11 (h : Fx (11, 0) M M1) : Fq l M M1 := fun r _ a _ _ => h r a
theorem Fq.x12 (h : Fx (12, l) M M1) : Fq l M M1 := fun r _ _ a _ => h r a
theorem Fq.x13 (h : Fx (13, l) M M1) : Fq l M M1 := fun r _ _ _ a => h r a
theorem Fq.fr (h : Fq l M M1) : Fr [1, 11, 12, 13] M M1 := fun r hr => h r (fun e => hr (by rw [e]; decide)) (fun e => hr (by rw [e]; show 11 ∈ _; decide)) (fun e => hr (by rw [e]; show 12 ∈ _; decide)) (fun e => hr (by rw [e]; show 13 ∈ _; decide))
end
def ltR (ρ : RS) (l : Nat) (a b c d t k key s : Int) : RS := (((((((ρ.setA 31 l a).setA 32 l b).setA 33 l c).setA 34 l d).setA 35 l t).setA 36 l k).setA 37 l key).setA 38 l s
theorem ltR_s {ρ : RS} {l j : Nat} {a b c d t k key s : Int} : (ltR ρ l a b c d t k key s).1 j = ρ.1 j := rfl
theorem ltR_at {ρ : RS} {l f j : Nat} {a b c d t k key s : Int} (h : f < 31 ∨ 38 < f ∨ j ≠ l) : (ltR ρ l a b c d t k key s).2 f j = ρ.2 f j := by
  unfold ltR
  repeat rw [RS.setA_ne (by omega)]
theorem eL_cg {b : Bool} {e : Nat} {f g : Nat → Int} (h : ∀ k, k < 31 → g k = f k) : eL b e f = eL b e g := by
  unfold eL
  rw [h 12 (by decide), h 19 (by decide), h 20 (by decide), h 21 (by decide), h 22 (by decide), h 25 (by decide), h 23 (by decide)]
theorem eQ_cg {b : Bool} {e : Nat} {f g : Nat → Int} (h : ∀ k, k < 31 → g k = f k) : eQ b e f = eQ b e g := by
  unfold eQ
  rw [h 15 (by decide), h 16 (by decide), h 17 (by decide), h 18 (by decide)]
theorem Cl.letter {X : Gh} {ρ : RS} {M M' : Mem} (h : Cl X ρ M) (l : Nat) (h30 : ρ.1 30 = ↑l) (hl : l < 300) (a b c d t k key s : Int) (hF : Fq l M M') (hA' : Obj M' (1, 0) [0, 0, 0, 0, 0, 0, 2 * ρ.1 4, ↑l + 1, ρ.1 2, ρ.1 3, ρ.1 42] pQ)
    (h11 : M'.len (11, 0) = some 300 ∧ M'.P (11, 0) l = some (12, l) ∧ ∀ j, j < l → M'.P (11, 0) j = M.P (11, 0) j) (hO : Obj M' (12, l) [a, 0, 0, 0, t, k] [none, qx s, qx key, some (13, l)]) (h13 : ArI M' (13, l) 3 [b, c, d]) : Cl X ((ltR ρ l a b c d t k key s).setS 30 (↑l + 1)) M' := by
  obtain ⟨hA, hB, hC, hD, hE, hN, hG, hH, hI, hJ, hK, hL⟩ := h
  obtain ⟨σ, hσ⟩ : ∃ x : RS, x = (ltR ρ l a b c d t k key s).setS 30 (↑l + 1) := ⟨_, rfl⟩
  have s1 : ∀ j, j ≠ 30 → σ.1 j = ρ.1 j := fun j hj => by rw [hσ, RS.setS_ne hj]; rfl
  have s30 : σ.1 30 = ↑l + 1 := by rw [hσ, RS.setS_eq]
  have sa : ∀ f j, f < 31 ∨ 38 < f ∨ j ≠ l → σ.2 f j = ρ.2 f j := fun f j hf => by rw [hσ, RS.setS_a, ltR_at hf]
  have sl : σ.2 31 l = a ∧ σ.2 32 l = b ∧ σ.2 33 l = c ∧ σ.2 34 l = d ∧ σ.2 35 l = t ∧ σ.2 36 l = k ∧ σ.2 37 l = key ∧ σ.2 38 l = s := by
    rw [hσ]
    unfold ltR
    refine ⟨?_, ?_, ?_, ?_, ?_, ?_, ?_, ?_⟩ <;> (simp only [RS.setS_a]; repeat (first | rw [RS.setA_eq] | rw [RS.setA_ne (by omega)]))
  rw [← hσ]
  clear hσ
  have hR := hF.fr
  have e4 : σ.1 4 = ρ.1 4 := s1 4 (by decide)
  have e5 : thN σ = thN ρ := congrArg Int.toNat (s1 5 (by decide))
  have t6 : ∀ f t, f < 31 → σ.2 f t = ρ.2 f t := fun f t hf => sa f t (Or.inl hf)
  refine ⟨?_, ?_, ?_, ?_, ?_, ?_, ?_, ?_, ?_, ?_, ?_, ?_⟩
  · show Obj M' (1, 0) [0, 0, 0, 0, 0, 0, 2 * σ.1 4, σ.1 30, σ.1 2, σ.1 3, σ.1 42] pQ
    rw [e4, s30, s1 2 (by decide), s1 3 (by decide), s1 42 (by decide)]
    exact hA'
  · show Obj M' (2, 0) [σ.1 0, σ.1 1] []
    rw [s1 0 (by decide), s1 1 (by decide)]
    exact hB.fr hR (by decide)
  · have q := hC.fr hR (by decide) (by decide) (by decide) (by decide)
    refine ⟨q.1, ?_, q.2.2⟩
    rw [e5]
    exact q.2.1
  · exact hD.fr2 hR (by decide) (s1 5 (by decide)) (fun t => ⟨t6 6 t (by decide), t6 7 t (by decide), t6 8 t (by decide), t6 9 t (by decide), t6 10 t (by decide)⟩)
  · have q := hE.fr hR (by decide) (by decide) (by decide) (by decide)
    refine ⟨fun e he => ?_, fun e he => q.2 e (by omega)⟩
    have q1 := q.1 e (by omega)
    exact q1.cg (eL_cg (fun k hk => t6 k e hk)) (eQ_cg (fun k hk => t6 k e hk))
  · exact ⟨(hR (6, 0) (by decide)).1.trans hN.1, fun e he => (hR.P (6, 0) (by decide)).trans (hN.2 e (by omega))⟩
  · intro e he
    have q := hG.fr hR (by decide) e (by omega)
    exact ⟨q.1, fun i hi => by rw [t6 12 e (by decide)] at hi; rw [t6 13 _ (by decide)]; exact q.2 i hi⟩
  · have q := hH.fr hR (by decide) (by decide)
    refine ⟨fun e he => ⟨(q.1 e (by omega)).1, fun i hi => ?_⟩, q.2⟩
    rw [t6 25 e (by decide)] at hi
    obtain ⟨n, kk, q1, q2, q3, q4⟩ := (q.1 e (by omega)).2 i hi
    refine ⟨n, kk, q1, by rw [t6 28 _ (by decide)]; exact q2, by omega, ?_⟩
    rw [t6 26 _ (by decide), t6 27 _ (by decide), t6 29 _ (by decide), t6 9 _ (by decide)]
    exact q4
  · intro e he
    have q := hI.fr hR (by decide) e (by omega)
    exact ⟨q.1, fun i hi => by rw [t6 23 e (by decide)] at hi; rw [t6 24 _ (by decide)]; exact q.2 i hi⟩
  · refine ⟨h11.1, fun j hj => ?_, fun j hj => ?_⟩
    · rw [s30] at hj
      by_cases hjl : j = l
      · subst hjl
        refine ⟨h11.2.1, hO.cg ?_ ?_, h13.1, ?_⟩
        · show _ = [σ.2 31 j, 0, 0, 0, σ.2 35 j, σ.2 36 j]
          rw [sl.1, sl.2.2.2.2.1, sl.2.2.2.2.2.1]
        · show _ = [none, qx (σ.2 38 j), qx (σ.2 37 j), some (13, j)]
          rw [sl.2.2.2.2.2.2.1, sl.2.2.2.2.2.2.2]
        · rw [sl.2.1, sl.2.2.1, sl.2.2.2.1]
          exact h13.2
      · have hjr : (j : Int) < ρ.1 30 := by omega
        obtain ⟨q1, q2, q3, q4⟩ := hJ.2.1 j hjr
        have z12 := hF (12, j) (rne (by decide)) (rne (by decide)) (rni hjl) (rne (by decide))
        have z13 := hF (13, j) (rne (by decide)) (rne (by decide)) (rne (by decide)) (rni hjl)
        refine ⟨(h11.2.2 j (by omega)).trans q1, (q2.at z12).cg ?_ ?_, z13.1.trans q3, ?_⟩
        · show [ρ.2 31 j, 0, 0, 0, ρ.2 35 j, ρ.2 36 j] = [σ.2 31 j, 0, 0, 0, σ.2 35 j, σ.2 36 j]
          rw [sa 31 j (by omega), sa 35 j (by omega), sa 36 j (by omega)]
        · show [none, qx (ρ.2 38 j), qx (ρ.2 37 j), some (13, j)] = [none, qx (σ.2 38 j), qx (σ.2 37 j), some (13, j)]
          rw [sa 38 j (by omega), sa 37 j (by omega)]
        · rw [sa 32 j (by omega), sa 33 j (by omega), sa 34 j (by omega)]
          exact z13.2.1.trans q4
    · rw [s30] at hj
      have q := hJ.2.2 j (by omega)
      have hjl : j ≠ l := by omega
      exact ⟨(hF (12, j) (rne (by decide)) (rne (by decide)) (rni hjl) (rne (by decide))).1.trans q.1, (hF (13, j) (rne (by decide)) (rne (by decide)) (rne (by decide)) (rni hjl)).1.trans q.2⟩
  · have q := hK.fr hR (by decide) (by decide) (by decide)
    refine ⟨q.1, fun i hi => ?_⟩
    obtain ⟨q1, o1, o2, q2, q3⟩ := q.2 i hi
    refine ⟨q1, o1, o2, q2, ?_⟩
    rcases q3 with u | ⟨u1, u2, j, u3, u4, u5⟩ | ⟨u1, u2, n, kk, u3, u4, u5, fr, p, u6⟩ | ⟨u1, t9, u2, u3, u4, u5⟩
    · exact Or.inl (by rw [sa 39 i (by omega)]; exact u)
    · exact Or.inr (Or.inl ⟨by rw [sa 39 i (by omega)]; exact u1, u2, j, u3, by rw [sa 40 i (by omega)]; exact u4, by omega⟩)
    · refine Or.inr (Or.inr (Or.inl ⟨by rw [sa 39 i (by omega)]; exact u1, u2, n, kk, u3, by rw [sa 40 i (by omega)]; exact u4, by omega, fr, p, ?_⟩))
      rw [sa 41 i (by omega), t6 9 kk (by decide)]
      exact u6
    · exact Or.inr (Or.inr (Or.inr ⟨u1, t9, u2, by rw [sa 40 i (by omega)]; exact u3, by omega, by rw [sa 39 i (by omega), t6 6 t9 (by decide)]; exact u5⟩))
  · have q := hL.fr hR (by decide) (by decide)
    refine ⟨?_, q.2.1, fun i hi => ?_⟩
    · rw [s1 44 (by decide)]; exact q.1
    · rw [s1 44 (by decide)] at hi
      rw [sa 43 i (by omega)]
      exact q.2.2 i hi
theorem fndT_cg {σ ρ : RS} (h : ∀ k j, 6 ≤ k → k ≤ 8 → σ.2 k j = ρ.2 k j) (k a b : Int) : ∀ d t, fndT σ k a b d t = fndT ρ k a b d t := by
  intro d
  induction d with
  | zero => intro t; rfl
  | succ d ih =>
    intro t
    show (if σ.2 6 t = k ∧ σ.2 7 t = a ∧ σ.2 8 t = b then t else fndT σ k a b d (t + 1)) = (if ρ.2 6 t = k ∧ ρ.2 7 t = a ∧ ρ.2 8 t = b then t else fndT ρ k a b d (t + 1))
    rw [h 6 t (by decide) (by decide), h 7 t (by decide) (by decide), h 8 t (by decide) (by decide), ih]
theorem thI_cg {σ ρ : RS} (h5 : σ.1 5 = ρ.1 5) (h : ∀ k j, 6 ≤ k → k ≤ 8 → σ.2 k j = ρ.2 k j) (k a b : Int) : thI σ k a b = thI ρ k a b := by
  unfold thI
  rw [thN_congr h5, fndT_cg h]
theorem thR_setS {ρ : RS} {f : Nat} {v k a b w : Int} (hf : f ≠ 5) : thI (ρ.setS f v) k a b = thI ρ k a b ∧ thR (ρ.setS f v) k a b w = (thR ρ k a b w).setS f v := by
  have h5 : (ρ.setS f v).1 5 = ρ.1 5 := RS.setS_ne (by omega)
  have h1 : thI (ρ.setS f v) k a b = thI ρ k a b := thI_cg (σ := ρ.setS f v) (ρ := ρ) h5 (fun _ _ _ _ => rfl) k a b
  have hN : thN (ρ.setS f v) = thN ρ := thN_congr h5
  refine ⟨h1, ?_⟩
  unfold thR
  rw [h1, hN]
  by_cases hc : thI ρ k a b < thN ρ
  · rw [if_pos hc, if_pos hc]
  · rw [if_neg hc, if_neg hc]
    unfold newT
    rw [hN, h5]
    refine Prod.ext (funext fun i => ?_) rfl
    show (if i = 5 then ρ.1 5 + 1 else if i = f then v else ρ.1 i) = (if i = f then v else if i = 5 then ρ.1 5 + 1 else ρ.1 i)
    by_cases h5 : i = 5
    · rw [if_pos h5, if_neg (by omega), if_pos h5]
    · rw [if_neg h5, if_neg h5]
theorem thR_setA {ρ : RS} {f j : Nat} {v k a b w : Int} (hf : 10 < f) : thI (ρ.setA f j v) k a b = thI ρ k a b ∧ thR (ρ.setA f j v) k a b w = (thR ρ k a b w).setA f j v := by
  have hN : thN (ρ.setA f j v) = thN ρ := rfl
  have h1 : thI (ρ.setA f j v) k a b = thI ρ k a b := thI_cg (σ := ρ.setA f j v) (ρ := ρ) rfl (fun k' j' a1 a2 => RS.setA_ne (Or.inl (by omega))) k a b
  refine ⟨h1, ?_⟩
  unfold thR
  rw [h1, hN]
  by_cases hc : thI ρ k a b < thN ρ
  · rw [if_pos hc, if_pos hc]
  · rw [if_neg hc, if_neg hc]
    refine Prod.ext rfl (funext fun k' => funext fun j' => ?_)
    show (if k' = 10 ∧ j' = thN ρ then (0 : Int) else if k' = 9 ∧ j' = thN ρ then w else if k' = 8 ∧ j' = thN ρ then b else if k' = 7 ∧ j' = thN ρ then a else if k' = 6 ∧ j' = thN ρ then k else if k' = f ∧ j' = j then v else ρ.2 k' j') = (if k' = f ∧ j' = j then v else if k' = 10 ∧ j' = thN ρ then 0 else if k' = 9 ∧ j' = thN ρ then w else if k' = 8 ∧ j' = thN ρ then b else if k' = 7 ∧ j' = thN ρ then a else if k' = 6 ∧ j' = thN ρ then k else ρ.2 k' j')
    by_cases hk : k' = f ∧ j' = j
    · rw [if_neg (by omega), if_neg (by omega), if_neg (by omega), if_neg (by omega), if_neg (by omega), if_pos hk, if_pos hk]
    · simp only [if_neg hk]
theorem chR_S30 (τ : RS) (w : Int) (c : Nat) : chI (τ.setS 30 w) c = chI τ c ∧ chR (τ.setS 30 w) c = (chR τ c).setS 30 w := thR_setS (by decide)
def Fq2 (l : Nat) (M M' : Mem) : Prop := ∀ r : Role, r ≠ (12, l) → r ≠ (13, l) → SameAt r M M'
section
variable {l : Nat} {M M1 M2 : Mem}
theorem Fq2.rf (l : Nat) (M : Mem) : Fq2 l M M := fun r _ _ => SameAt.rf r M
theorem Fq2.trans (h : Fq2 l M M1) (g : Fq2 l M1 M2) : Fq2 l M M2 := fun r c d => (h r c d).trans (g r c d)
theorem Fq2.x12 (h : Fx (12, l) M M1) : Fq2 l M M1 := fun r a _ => h r a
theorem Fq2.x13 (h : Fx (13, l) M M1) : Fq2 l M M1 := fun r _ a => h r a
theorem Fq2.q (h : Fq2 l M M1) : Fq l M M1 := fun r _ _ a b => h r a b
theorem Fq2.fr (h : Fq2 l M M1) : Fr [12, 13] M M1 := fun r hr => h r (fun e => hr (by rw [e]; show 12 ∈ _; decide)) (fun e => hr (by rw [e]; show 13 ∈ _; decide))
theorem Fq.cl (h : Fq l M M1) : Fr CLs M M1 := h.fr.mono (fun c hc => by revert c; decide)
end
theorem TsOK.cg {ρ σ : RS} (h : TsOK ρ) (ha : ∀ k j, 25 ≤ k → k ≤ 29 → σ.2 k j = ρ.2 k j) : TsOK σ := fun e n he hn i j hij hj => by
  rw [ha 29 _ (by decide) (by decide), ha 29 _ (by decide) (by decide)]
  exact h e n he (by rw [← ha 25 e (by decide) (by decide)]; exact hn) i j hij hj

set_option maxRecDepth 100000 in
theorem c_letInit {G : Ge} {M : Mem} (l x k : Nat) (own : Option Role) (b sn : Int) (h : Obj M (12, l) [0, 0, 0, 0, 0, 0] [none, none, none, none]) (hfr : M.len (13, l) = none) (hrc : 1 ≤ M.rc) (hrs : 3 ≤ M.rs) (e0 : M.I (7, x) 0 = ↑x) (e4 : M.P (7, x) 4 = own) (e10 : M.I (7, x) 10 = b) (e9 : M.I (7, x) 9 = sn) : Ct G mi_X2_init [vR ((12, l)), vR ((7, x)), vR ((18, k))] M (fun v' M' => v' = none ∧ Obj M' (12, l) [↑x, 0, 0, 0, 0, 0] [none, own, some (18, k), some (13, l)] ∧ ArI M' (13, l) 3 [0, b, sn] ∧ Fq2 l M M' ∧ Bg 1 3 M M') := by
  refine Ct.of pl_X2_init [some (vR ((12, l))), some (vR ((7, x))), some (vR ((18, k)))] rfl (Nat.le_of_ble_eq_true rfl) ?_
  refine S_aload_n dX2_init_0 rfl ?_
  refine S_objInit oi_X2_1 dX2_init_1 (by decide) (Nat.le_of_ble_eq_true rfl) ?_
  refine S_aload_n dX2_init_4 rfl ?_
  refine S_iconst dX2_init_5 ?_
  refine S_newarrI (13, l) 3 ac_I dX2_init_6 rfl (by omega) rfl rfl hfr hrc hrs ?_
  refine Sf.nm (fun M1 hM1 => ?_)
  refine S_putPF fl_X2_7 dX2_init_8 rfl rfl rfl rfl rfl ?_
  refine Sf.nm (fun M2 hM2 => ?_)
  refine S_aload_n dX2_init_11 rfl ?_
  refine S_aload_n dX2_init_12 rfl ?_
  refine S_getI (v := ↑x) fl_X2_13 dX2_init_13 rfl rfl (by rw [hM2, Mem.putP_I, hM1, Mem.new_I_ne (rne (by decide)), e0]) ?_
  refine S_putIF fl_X2_19 dX2_init_16 rfl rfl rfl rfl rfl (Or.inl rfl) ?_
  refine Sf.nm (fun M3 hM3 => ?_)
  refine S_aload_n dX2_init_19 rfl ?_
  refine S_aload_n dX2_init_20 rfl ?_
  refine S_getP (o := own) fl_X2_22 dX2_init_21 rfl rfl (by rw [hM3, Mem.putI_P, hM2, Mem.putP_at (Or.inl (rne (by decide))), hM1, Mem.new_P_ne (rne (by decide)), e4]) ?_
  refine S_putPF fl_X2_26 dX2_init_24 rfl rfl rfl rfl rfl ?_
  refine Sf.nm (fun M4 hM4 => ?_)
  refine S_aload_n dX2_init_27 rfl ?_
  refine S_aload_n dX2_init_28 rfl ?_
  refine S_putPF fl_X2_29 dX2_init_29 rfl rfl rfl rfl rfl ?_
  refine Sf.nm (fun M5 hM5 => ?_)
  refine S_aload_n dX2_init_32 rfl ?_
  refine S_getP (o := some (13, l)) fl_X2_7 dX2_init_33 rfl rfl (by rw [hM5, Mem.putP_at (Or.inr (by decide)), hM4, Mem.putP_at (Or.inr (by decide)), hM3, Mem.putI_P, hM2, Mem.putP_eq]) ?_
  refine S_iconst dX2_init_36 ?_
  refine S_aload_n dX2_init_37 rfl ?_
  refine S_getI (v := b) fl_X2_32 dX2_init_38 rfl rfl (by rw [hM5, Mem.putP_I, hM4, Mem.putP_I, hM3, Mem.putI_at (Or.inl (rne (by decide))), hM2, Mem.putP_I, hM1, Mem.new_I_ne (rne (by decide)), e10]) ?_
  refine S_iast 1 dX2_init_41 rfl rfl (by rw [hM5, Mem.putP_len, hM4, Mem.putP_len, hM3, Mem.putI_len, hM2, Mem.putP_len, hM1, Mem.new_len_eq]) (by omega) (by omega) ?_
  refine Sf.nm (fun M6 hM6 => ?_)
  refine S_aload_n dX2_init_42 rfl ?_
  refine S_getP (o := some (13, l)) fl_X2_7 dX2_init_43 rfl rfl (by rw [hM6, Mem.putI_P, hM5, Mem.putP_at (Or.inr (by decide)), hM4, Mem.putP_at (Or.inr (by decide)), hM3, Mem.putI_P, hM2, Mem.putP_eq]) ?_
  refine S_iconst dX2_init_46 ?_
  refine S_aload_n dX2_init_47 rfl ?_
  refine S_getI (v := sn) fl_X2_35 dX2_init_48 rfl rfl (by rw [hM6, Mem.putI_at (Or.inl (rne (by decide))), hM5, Mem.putP_I, hM4, Mem.putP_I, hM3, Mem.putI_at (Or.inl (rne (by decide))), hM2, Mem.putP_I, hM1, Mem.new_I_ne (rne (by decide)), e9]) ?_
  refine S_iast 2 dX2_init_51 rfl rfl (by rw [hM6, Mem.putI_len, hM5, Mem.putP_len, hM4, Mem.putP_len, hM3, Mem.putI_len, hM2, Mem.putP_len, hM1, Mem.new_len_eq]) (by omega) (by omega) ?_
  refine Sf.nm (fun M7 hM7 => ?_)
  exact S_vret dX2_init_52 rfl (by
    have ok_0 : Obj M1 (12, l) [0, 0, 0, 0, 0, 0] [none, none, none, none] := by rw [hM1]; exact h.at ⟨Mem.new_len_ne (rne (by decide)), funext fun _ => Mem.new_I_ne (rne (by decide)), funext fun _ => Mem.new_P_ne (rne (by decide))⟩
    have ok_1 : Obj M2 (12, l) [0, 0, 0, 0, 0, 0] ([none, none, none, none].set 3 (some (13, l))) := by rw [hM2]; exact ok_0.putP (k := 3) (show 3 < 4 by decide)
    have ok_2 : Obj M3 (12, l) ([0, 0, 0, 0, 0, 0].set 0 (↑x)) ([none, none, none, none].set 3 (some (13, l))) := by rw [hM3]; exact ok_1.putI (k := 0) (show 0 < 6 by decide)
    have ok_3 : Obj M4 (12, l) ([0, 0, 0, 0, 0, 0].set 0 (↑x)) (([none, none, none, none].set 3 (some (13, l))).set 1 own) := by rw [hM4]; exact ok_2.putP (k := 1) (show 1 < 4 by decide)
    have ok_4 : Obj M5 (12, l) ([0, 0, 0, 0, 0, 0].set 0 (↑x)) ((([none, none, none, none].set 3 (some (13, l))).set 1 own).set 2 (some (18, k))) := by rw [hM5]; exact ok_3.putP (k := 2) (show 2 < 4 by decide)
    have ok_5 : Obj M6 (12, l) ([0, 0, 0, 0, 0, 0].set 0 (↑x)) ((([none, none, none, none].set 3 (some (13, l))).set 1 own).set 2 (some (18, k))) := by rw [hM6]; exact ok_4.at (Fx.pI _ (rne (by decide)))
    have ok_6 : Obj M7 (12, l) ([0, 0, 0, 0, 0, 0].set 0 (↑x)) ((([none, none, none, none].set 3 (some (13, l))).set 1 own).set 2 (some (18, k))) := by rw [hM7]; exact ok_5.at (Fx.pI _ (rne (by decide)))
    have arM1 : ArI M1 (13, l) 3 (List.replicate 3 0) := by rw [hM1]; exact ArI.nw _ (13, l) 3 3 3
    have arM2 : ArI M2 (13, l) 3 (List.replicate 3 0) := by rw [hM2]; exact arM1.at (Fx.pP _ (rne (by decide)))
    have arM3 : ArI M3 (13, l) 3 (List.replicate 3 0) := by rw [hM3]; exact arM2.at (Fx.pI _ (rne (by decide)))
    have arM4 : ArI M4 (13, l) 3 (List.replicate 3 0) := by rw [hM4]; exact arM3.at (Fx.pP _ (rne (by decide)))
    have arM5 : ArI M5 (13, l) 3 (List.replicate 3 0) := by rw [hM5]; exact arM4.at (Fx.pP _ (rne (by decide)))
    have arM6 : ArI M6 (13, l) 3 ((List.replicate 3 0).set 1 b) := by rw [hM6]; exact arM5.put (k := 1) (show 1 < 3 by decide)
    have arM7 : ArI M7 (13, l) 3 (((List.replicate 3 0).set 1 b).set 2 sn) := by rw [hM7]; exact arM6.put (k := 2) (show 2 < 3 by decide)
    have fqM1 : Fq2 l M M1 := by rw [hM1]; exact (Fq2.rf l M).trans (Fq2.x13 Fx.nw)
    have fqM2 : Fq2 l M M2 := by rw [hM2]; exact fqM1.trans (Fq2.x12 Fx.pP)
    have fqM3 : Fq2 l M M3 := by rw [hM3]; exact fqM2.trans (Fq2.x12 Fx.pI)
    have fqM4 : Fq2 l M M4 := by rw [hM4]; exact fqM3.trans (Fq2.x12 Fx.pP)
    have fqM5 : Fq2 l M M5 := by rw [hM5]; exact fqM4.trans (Fq2.x12 Fx.pP)
    have fqM6 : Fq2 l M M6 := by rw [hM6]; exact fqM5.trans (Fq2.x13 Fx.pI)
    have fqM7 : Fq2 l M M7 := by rw [hM7]; exact fqM6.trans (Fq2.x13 Fx.pI)
    have bgM1 : Bg 1 3 M M1 := by rw [hM1]; exact ((Bg.rf M).trans (Bg.nw _ 13 l _ _ (by decide) hfr)).le (by decide) (by decide)
    have bgM2 : Bg 1 3 M M2 := by rw [hM2]; exact (bgM1.trans (Bg.pP _ 12 l _ _ (by decide))).le (by decide) (by decide)
    have bgM3 : Bg 1 3 M M3 := by rw [hM3]; exact (bgM2.trans (Bg.pI _ _ _ _)).le (by decide) (by decide)
    have bgM4 : Bg 1 3 M M4 := by rw [hM4]; exact (bgM3.trans (Bg.pP _ 12 l _ _ (by decide))).le (by decide) (by decide)
    have bgM5 : Bg 1 3 M M5 := by rw [hM5]; exact (bgM4.trans (Bg.pP _ 12 l _ _ (by decide))).le (by decide) (by decide)
    have bgM6 : Bg 1 3 M M6 := by rw [hM6]; exact (bgM5.trans (Bg.pI _ _ _ _)).le (by decide) (by decide)
    have bgM7 : Bg 1 3 M M7 := by rw [hM7]; exact (bgM6.trans (Bg.pI _ _ _ _)).le (by decide) (by decide)
    exact ⟨rfl, ok_6, arM7, fqM7, bgM7⟩)
theorem tmod256 {x : Int} (h : 0 ≤ x) : x.tmod 256 = x % 256 := Int.tmod_eq_emod_of_nonneg h
set_option maxHeartbeats 20000000 in
set_option maxRecDepth 100000 in
theorem c_send {G : Ge} {M : Mem} {Y : (Nat → Bool) × (Nat → Bool)} {ρ : RS} (hCs : Cs Y ρ M) (hIv : Iv Y ρ) (hNb : thN ρ < 7900) (e b : Int) (e32 : -2147483648 ≤ e ∧ e < 2147483648) (b32 : -2147483648 ≤ b ∧ b < 2147483648) (hRm : Rm 6 25 M) : Ct G mi_X8_send [vR ((1, 0)), vI e, vI b] M (CP Y ((sendF ρ e b).2) 6 25 (some (vI (sendF ρ e b).1)) M) := by
  refine Ct.of pl_X8_send [some (vR ((1, 0))), some (vI e), some (vI b), none, none, none] rfl (Nat.le_of_ble_eq_true rfl) ?_
  obtain ⟨sc, kn, hS, hCl⟩ := hCs
  have hF0 : Fr CLs M M := Fr.rf CLs M
  have hB0 : Bg 0 0 M M := Bg.rf M
  obtain ⟨hA, hB, hC, hD, hE, hN, hG, hH, hI, hJ, hK, hL⟩ := id hCl
  obtain ⟨⟨hp, hl, hm, hli, h44⟩, ⟨hTI, hSh⟩, ⟨hRo, hRp⟩, ⟨hEd, hOw, hYs, hSt⟩, hEn, hLf, ⟨hKo, hKy, hTs, hTl⟩, ⟨hLt, hLp⟩, hTr, hFe⟩ := hIv
  have hq3 := hTI.1.2.2.1
  have hg3 := hTI.1.2.2.2.1
  obtain ⟨l, h30⟩ : ∃ l : Nat, ρ.1 30 = ↑l := ⟨(ρ.1 30).toNat, by omega⟩
  obtain ⟨m, hm2, hm12⟩ : ∃ m : Nat, 2 * ρ.1 4 = ↑m ∧ m ≤ 12 := ⟨(2 * ρ.1 4).toNat, by omega, by omega⟩
  have hl8 := hTI.1.2.1
  obtain ⟨N, hNe⟩ : ∃ N : Nat, N = thN ρ := ⟨_, rfl⟩
  rw [← hNe] at hTI hNb hl8
  refine S_aload_n dX8_send_0 rfl ?_
  refine S_iload_n dX8_send_1 rfl ?_
  by_cases hve : 0 ≤ e ∧ e < 2 * ρ.1 4
  · obtain ⟨x, rfl⟩ : ∃ x : Nat, e = ↑x := ⟨e.toNat, by omega⟩
    refine S_callV (mi := mi_X8_send) [vI (↑x)] ok_X8_endAt ml_X8_78 dX8_send_2 rfl (by decide) rfl (by decide) rfl (Nat.le_of_ble_eq_true rfl) rfl (c_endAt hCl hp x (by omega)) ?_
    rintro v' M1 ⟨rfl, hM1⟩
    rw [hM1]
    clear hM1
    refine S_astore_n dX8_send_5 (by decide) ?_
    refine S_aload_n dX8_send_6 rfl ?_
    refine S_ifnull 21 dX8_send_7 (by decide) (fun c_7 => absurd c_7 (by simp)) (fun c_7 => ?_)
    refine S_iload_n dX8_send_10 rfl ?_
    refine S_if_lt 21 dX8_send_11 (by decide) (by omega) (fun c_11 => ?_) (fun c_11 => ?_)
    · refine S_aload_n dX8_send_21 rfl ?_
      refine S_iconst dX8_send_22 ?_
      refine S_callV (mi := mi_X8_send) [vI 1] ok_X8_refuse ml_X8_54 dX8_send_23 rfl (by decide) rfl (by decide) rfl (Nat.le_of_ble_eq_true rfl) rfl (c_refuse (show Cs Y ρ M from ⟨sc, kn, hS, hCl⟩) 1) ?_
      rintro v' M2 ⟨rfl, hCs2, hF2', hB2'⟩
      obtain ⟨ρ3, e3⟩ : ∃ z9 : RS, z9 = (ρ.setS 42 1) := ⟨_, rfl⟩
      rw [← e3] at hCs2
      obtain ⟨sc, kn, hS3, hCl3⟩ := hCs2
      have hF3 : Fr CLs M M2 := hF0.trans hF2'
      have hB3 : Bg 0 0 M M2 := (hB0.trans hB2').le (by omega) (by omega)
      have s4_3 : ρ3.1 4 = ρ.1 4 := (by rw [e3, RS.setS_ne (by decide)])
      have s30_3 : ρ3.1 30 = ↑l := (by rw [e3, RS.setS_ne (by decide), h30])
      have t_3 : thN ρ3 = thN ρ := by rw [e3]; rfl
      clear hA hB hC hD hE hN hG hH hI hJ hK hL
      obtain ⟨hA, hB, hC, hD, hE, hN, hG, hH, hI, hJ, hK, hL⟩ := id hCl3
      exact S_iret dX8_send_26 rfl (Or.inl rfl) (by
      have e9 : sendF ρ (↑x) b = (((-1) : Int), ρ3) := by
        unfold sendF
        rw [if_pos (by omega), e3]
      rw [e9]
      exact ⟨rfl, ⟨sc, kn, hS3, hCl3⟩, hF3, hB3.le (by omega) (by omega)⟩)
    · refine S_iload_n dX8_send_14 rfl ?_
      refine S_sipush dX8_send_15 (by decide) ?_
      refine S_icmp_le 27 dX8_send_18 (by decide) (by omega) (fun c_18 => ?_) (fun c_18 => ?_)
      · refine S_aload_n dX8_send_27 rfl ?_
        refine S_getI (v := ↑l) fl_X8_142 dX8_send_28 rfl rfl (by rw [(show M.I (1, 0) 7 = ↑l from (show M.I (1, 0) 7 = ρ.1 30 from congrFun hA.2.1 7).trans (by rw [h30]))]) ?_
        refine S_sipush dX8_send_31 (by decide) ?_
        refine S_icmp_lt 43 dX8_send_34 (by decide) (by omega) (fun c_34 => ?_) (fun c_34 => ?_)
        · by_cases hst : Y.1 x = true
          · have h14 := (hYs x (by omega)).mp hst
            obtain ⟨⟨s, h15, hs, hks⟩, -, hsc, -⟩ := hEd x (by omega) h14
            obtain ⟨h19, ⟨p20, h20, hp20⟩, h21b, -⟩ := hEn x (by omega) h14
            obtain ⟨b21, h21⟩ : ∃ n : Nat, ρ.2 21 x = ↑n := ⟨(ρ.2 21 x).toNat, by omega⟩
            have hws0 := hTI.2.2.2 s hs hks
            obtain ⟨ws, hws⟩ : ∃ n : Nat, ρ.2 9 s = ↑n := ⟨(ρ.2 9 s).toNat, by omega⟩
            refine S_aload_n dX8_send_43 rfl ?_
            refine S_getI (v := 1) fl_X8_99 dX8_send_44 rfl rfl (by rw [(show M.I (7, x) 3 = 1 from (congrFun (hE.1 x (by omega)).2.1 3).trans (if_pos hst))]) ?_
            refine S_if_eq 57 dX8_send_47 (by decide) (by omega) (fun c_47 => absurd c_47 (by omega)) (fun c_47 => ?_)
            rcases hsc with h17 | ⟨c, h17, hcl, hck⟩
            · refine S_aload_n dX8_send_50 rfl ?_
              refine S_getP (o := none) fl_X8_128 dX8_send_51 rfl rfl (by rw [(show M.P (7, x) 6 = none from (congrFun (hE.1 x (by omega)).2.2 6).trans ((if_pos hst).trans ((congrArg qx h17).trans qx_no)))]) ?_
              refine S_ifnonnull 63 dX8_send_54 (by decide) (fun c_54 => absurd c_54 (by simp)) (fun c_54 => ?_)
              refine S_aload_n dX8_send_57 rfl ?_
              refine S_iconst dX8_send_58 ?_
              refine S_callV (mi := mi_X8_send) [vI 3] ok_X8_refuse ml_X8_54 dX8_send_59 rfl (by decide) rfl (by decide) rfl (Nat.le_of_ble_eq_true rfl) rfl (c_refuse (show Cs Y ρ M from ⟨sc, kn, hS, hCl⟩) 3) ?_
              rintro v' M4 ⟨rfl, hCs4, hF4', hB4'⟩
              obtain ⟨ρ5, e5⟩ : ∃ z9 : RS, z9 = (ρ.setS 42 3) := ⟨_, rfl⟩
              rw [← e5] at hCs4
              obtain ⟨sc, kn, hS5, hCl5⟩ := hCs4
              have hF5 : Fr CLs M M4 := hF0.trans hF4'
              have hB5 : Bg 0 0 M M4 := (hB0.trans hB4').le (by omega) (by omega)
              have s4_5 : ρ5.1 4 = ρ.1 4 := (by rw [e5, RS.setS_ne (by decide)])
              have s30_5 : ρ5.1 30 = ↑l := (by rw [e5, RS.setS_ne (by decide), h30])
              have t_5 : thN ρ5 = thN ρ := by rw [e5]; rfl
              clear hA hB hC hD hE hN hG hH hI hJ hK hL
              obtain ⟨hA, hB, hC, hD, hE, hN, hG, hH, hI, hJ, hK, hL⟩ := id hCl5
              exact S_iret dX8_send_62 rfl (Or.inl rfl) (by
      have e9 : sendF ρ (↑x) b = (((-1) : Int), ρ5) := by
        unfold sendF
        rw [if_neg (by omega), if_neg (by omega), Int.toNat_natCast, if_pos (by omega), e5]
      rw [e9]
      exact ⟨rfl, ⟨sc, kn, hS5, hCl5⟩, hF5, hB5.le (by omega) (by omega)⟩)
            · refine S_aload_n dX8_send_50 rfl ?_
              refine S_getP (o := some (18, c)) fl_X8_128 dX8_send_51 rfl rfl (by rw [(show M.P (7, x) 6 = some (18, c) from (congrFun (hE.1 x (by omega)).2.2 6).trans ((if_pos hst).trans (qx_of h17)))]) ?_
              refine S_ifnonnull 63 dX8_send_54 (by decide) (fun c_54 => ?_) (fun c_54 => absurd c_54 (by simp))
              refine S_aload_n dX8_send_63 rfl ?_
              refine S_getP (o := some (3, 0)) fl_X8_10 dX8_send_64 rfl rfl (by rw [(show M.P (1, 0) 1 = some (3, 0) from congrFun hA.2.2 1)]) ?_
              refine S_aload_n dX8_send_67 rfl ?_
              refine S_getP (o := some (18, c)) fl_X8_128 dX8_send_68 rfl rfl (by rw [(show M.P (7, x) 6 = some (18, c) from (congrFun (hE.1 x (by omega)).2.2 6).trans ((if_pos hst).trans (qx_of h17)))]) ?_
              refine S_callV (mi := mi_X8_send) [vR ((18, c))] ok_X5_keyOf ml_X8_145 dX8_send_71 rfl (by decide) rfl (by decide) rfl (Nat.le_of_ble_eq_true rfl) rfl (c_keyOf (G := G) (show Cs Y ρ M from ⟨sc, kn, hS, hCl⟩) (N) hTI (by omega) c (by omega)  (hRm.sub hB0 (by omega) (by omega))) ?_
              rintro v' M7 ⟨rfl, hCs7, hF7', hB7'⟩
              obtain ⟨ρ8, e8⟩ : ∃ z9 : RS, z9 = (kyR ρ c) := ⟨_, rfl⟩
              rw [← e8] at hCs7
              obtain ⟨y6, ey6⟩ : ∃ z9 : Nat, z9 = kyI ρ c := ⟨_, rfl⟩
              rw [← ey6]
              have q8 : TI Y.2 (kyR ρ c) (N + 1) ∧ kyI ρ c < thN (kyR ρ c) ∧ thN ρ ≤ thN (kyR ρ c) := hTI.ky (by omega)
              have k8 : (kyR ρ c).2 6 (kyI ρ c) = 0 := th_kind (by decide)
              rw [← e8, ← ey6] at q8 k8
              obtain ⟨hTI8, hi8, g8⟩ := q8
              obtain ⟨sc, kn, hS8, hCl8⟩ := hCs7
              have hF8 : Fr CLs M M7 := hF0.trans hF7'
              have hB8 : Bg 2 8 M M7 := (hB0.trans hB7').le (by omega) (by omega)
              have s4_8 : ρ8.1 4 = ρ.1 4 := (by rw [e8, thR_s _ _ _ _ _ _ (by decide)])
              have s30_8 : ρ8.1 30 = ↑l := (by rw [e8, thR_s _ _ _ _ _ _ (by decide), h30])
              clear hA hB hC hD hE hN hG hH hI hJ hK hL
              obtain ⟨hA, hB, hC, hD, hE, hN, hG, hH, hI, hJ, hK, hL⟩ := id hCl8
              refine S_astore dX8_send_74 (by decide) ?_
              have hlN : ρ8.1 30 = ↑l := (by rw [s30_8])
              have hwk := (hTI8.1.2.2.2.2 y6 (by omega)).2.2.2
              obtain ⟨wk, hwkE⟩ : ∃ z9 : Int, ρ8.2 9 y6 = z9 := ⟨_, rfl⟩
              rw [hwkE] at hwk
              have h5cap := capM_le hC.2.1
              have hGB := hB8
              refine S_new (12, l) nl_X8_27 dX8_send_76 rfl (hJ.2.2 l (by omega)).1 (by have := hRm.1; have := hGB.1; omega) (by have := hRm.2; have := hGB.2; show 6 ≤ _; omega) ?_
              refine Sf.nm (fun M9 hM9 => ?_)
              refine S_dup dX8_send_79 ?_
              refine S_aload_n dX8_send_80 rfl ?_
              refine S_aload dX8_send_81 rfl ?_
              have hO0 : Obj M9 (12, l) [0, 0, 0, 0, 0, 0] [none, none, none, none] := by rw [hM9]; exact Obj.nw M7 (12, l) 6 6 4
              have hb0 : Bg 1 6 M7 M9 := by rw [hM9]; exact Bg.nw _ 12 l _ _ (by decide) (hJ.2.2 l (by omega)).1
              have hG0 := hB8.trans hb0
              have h13f : M9.len (13, l) = none := by rw [hM9, Mem.new_len_ne (rne (by decide))]; exact (hJ.2.2 l (by omega)).2
              have hcap2 : capM M9 ≤ 12000 := capM_le (n := thN ρ8) (by have q := hC.2.1; exact q.fr (cs := [12]) (by rw [hM9]; exact Fr.nw 12 l (by decide)) (by decide) (by decide) (by decide))
              refine S_callI (mi := mi_X8_send) [vR ((7, x)), vR ((18, y6))] ok_X2_init ml_X8_148 dX8_send_83 rfl rfl (by decide) rfl (Nat.le_of_ble_eq_true rfl) rfl (c_letInit l x y6 (some (18, s)) (↑b21) (↑p20) hO0 h13f (by have := hRm.1; have := hG0.1; omega) (by have := hRm.2; have := hG0.2; have := hcap2; omega) (by rw [hM9, Mem.new_I_ne (rne (by decide)), (show M7.I (7, x) 0 = ↑x from congrFun (hE.1 x (by omega)).2.1 0)]) (by rw [hM9, Mem.new_P_ne (rne (by decide)), (show M7.P (7, x) 4 = some (18, s) from (congrFun (hE.1 x (by omega)).2.2 4).trans ((if_pos hst).trans (qx_of (show ρ8.2 15 x = ↑s from (by rw [e8, thR_old_at _ _ _ _ _ _ _ (Or.inr (by decide)), h15])))))]) (by rw [hM9, Mem.new_I_ne (rne (by decide)), (show M7.I (7, x) 10 = ↑b21 from (show M7.I (7, x) 10 = ρ8.2 21 x from congrFun (hE.1 x (by omega)).2.1 10).trans (show ρ8.2 21 x = ↑b21 from (by rw [e8, thR_old_at _ _ _ _ _ _ _ (Or.inr (by decide)), h21])))]) (by rw [hM9, Mem.new_I_ne (rne (by decide)), (show M7.I (7, x) 9 = ↑p20 from (show M7.I (7, x) 9 = ρ8.2 20 x from congrFun (hE.1 x (by omega)).2.1 9).trans (show ρ8.2 20 x = ↑p20 from (by rw [e8, thR_old_at _ _ _ _ _ _ _ (Or.inr (by decide)), h20])))])) ?_
              rintro v' M10 ⟨rfl, hOi, hAi, hQi, hBi⟩
              have hFi := hQi.fr
              refine S_astore dX8_send_86 (by decide) ?_
              refine S_aload dX8_send_88 rfl ?_
              refine S_getP (o := some (13, l)) fl_X8_151 dX8_send_90 rfl rfl (congrFun hOi.2.2 3) ?_
              refine S_iconst dX8_send_93 ?_
              refine S_aload_n dX8_send_94 rfl ?_
              refine S_getP (o := some (2, 0)) fl_X8_20 dX8_send_95 rfl rfl (by rw [hFi.P (1, 0) (show 1 ∉ [12, 13] by decide), hM9, Mem.new_P_ne (rne (by decide)), (show M7.P (1, 0) 0 = some (2, 0) from congrFun hA.2.2 0)]) ?_
              refine S_aload_n dX8_send_98 rfl ?_
              refine S_getP (o := some (18, s)) fl_X8_115 dX8_send_99 rfl rfl (by rw [hFi.P (7, x) (show 7 ∉ [12, 13] by decide), hM9, Mem.new_P_ne (rne (by decide)), (show M7.P (7, x) 4 = some (18, s) from (congrFun (hE.1 x (by omega)).2.2 4).trans ((if_pos hst).trans (qx_of (show ρ8.2 15 x = ↑s from (by rw [e8, thR_old_at _ _ _ _ _ _ _ (Or.inr (by decide)), h15])))))]) ?_
              refine S_getI (v := ↑ws) fl_X8_131 dX8_send_102 rfl rfl (by rw [hFi.I (18, s) (show 18 ∉ [12, 13] by decide), hM9, Mem.new_I_ne (rne (by decide)), (show M7.I (18, s) 1 = ↑ws from (show M7.I (18, s) 1 = ρ8.2 9 s from congrFun (hD.1 s (by omega)).2.1 1).trans (show ρ8.2 9 s = ↑ws from (by rw [e8, thR_old_at _ _ _ _ _ _ _ (Or.inl (by omega)), hws])))]) ?_
              have hFm : Fr [12, 13] M7 M10 := (show Fr [12, 13] M7 M9 from by rw [hM9]; exact Fr.nw 12 l (by decide)).trans hFi
              have hKBm : KB ρ8 M10 := hB.fr hFm (by decide)
              have q0 : ρ8.1 0 = ρ.1 0 := (by rw [e8, thR_s _ _ _ _ _ _ (by decide)])
              have q1 : ρ8.1 1 = ρ.1 1 := (by rw [e8, thR_s _ _ _ _ _ _ (by decide)])
              obtain ⟨qq, hqq⟩ : ∃ n : Nat, ρ.1 0 = ↑n := ⟨(ρ.1 0).toNat, by omega⟩
              obtain ⟨gg, hgg⟩ : ∃ n : Nat, ρ.1 1 = ↑n := ⟨(ρ.1 1).toNat, by omega⟩
              refine S_callV (mi := mi_X8_send) [vI (↑ws)] ok_X0_publicOf ml_X8_136 dX8_send_105 rfl (by decide) rfl (by decide) rfl (Nat.le_of_ble_eq_true rfl) rfl ((by have h := c_X0_publicOf (G := G) qq gg ws hKBm (q0.trans hqq) (by omega) (q1.trans hgg) (by omega) (by omega); rw [q0, q1] at h; exact h)) ?_
              rintro v' M11 ⟨rfl, hM11⟩
              rw [hM11]
              clear hM11
              refine S_iast 0 dX8_send_108 rfl rfl hAi.1 (by omega) (by omega) ?_
              refine Sf.nm (fun M12 hM12 => ?_)
              refine S_aload dX8_send_109 rfl ?_
              refine S_iload_n dX8_send_111 rfl ?_
              refine S_aload dX8_send_112 rfl ?_
              refine S_getI (v := wk) fl_X8_131 dX8_send_114 rfl rfl (by rw [hM12, Mem.putI_at (Or.inl (rne (by decide))), hFi.I (18, y6) (show 18 ∉ [12, 13] by decide), hM9, Mem.new_I_ne (rne (by decide)), (show M7.I (18, y6) 1 = wk from (show M7.I (18, y6) 1 = ρ8.2 9 y6 from congrFun (hD.1 y6 (by omega)).2.1 1).trans (show ρ8.2 9 y6 = wk from (by rw [hwkE])))]) ?_
              refine S_iadd dX8_send_117 ?_
              refine S_sipush dX8_send_118 (by decide) ?_
              refine S_iand dX8_send_121 ?_
              rw [and255]
              refine S_putI fl_X8_155 dX8_send_122 rfl rfl rfl  (Or.inl rfl) ?_
              refine Sf.nm (fun M13 hM13 => ?_)
              refine S_aload dX8_send_125 rfl ?_
              refine S_aload_n dX8_send_127 rfl ?_
              refine S_getP (o := some (2, 0)) fl_X8_20 dX8_send_128 rfl rfl (by rw [hM13, Mem.putI_P, hM12, Mem.putI_P, hFi.P (1, 0) (show 1 ∉ [12, 13] by decide), hM9, Mem.new_P_ne (rne (by decide)), (show M7.P (1, 0) 0 = some (2, 0) from congrFun hA.2.2 0)]) ?_
              refine S_aload dX8_send_131 rfl ?_
              refine S_getI (v := wk) fl_X8_131 dX8_send_133 rfl rfl (by rw [hM13, Mem.putI_at (Or.inl (rne (by decide))), hM12, Mem.putI_at (Or.inl (rne (by decide))), hFi.I (18, y6) (show 18 ∉ [12, 13] by decide), hM9, Mem.new_I_ne (rne (by decide)), (show M7.I (18, y6) 1 = wk from (show M7.I (18, y6) 1 = ρ8.2 9 y6 from congrFun (hD.1 y6 (by omega)).2.1 1).trans (show ρ8.2 9 y6 = wk from (by rw [hwkE])))]) ?_
              refine S_iload_n dX8_send_136 rfl ?_
              have fmM12 : Fr [12, 13] M7 M12 := by rw [hM12]; exact hFm.trans (Fr.pI 13 l (by decide))
              have fmM13 : Fr [12, 13] M7 M13 := by rw [hM13]; exact fmM12.trans (Fr.pI 12 l (by decide))
              have hKBn : KB ρ8 M13 := hB.fr fmM13 (by decide)
              refine S_callV (mi := mi_X8_send) [vI wk, vI b] ok_X0_mix ml_X8_158 dX8_send_137 rfl (by decide) rfl (by decide) rfl (Nat.le_of_ble_eq_true rfl) rfl ((by have h := c_X0_mix (G := G) hKBn wk b (by omega) (by omega) (by omega); rw [q0] at h; exact h)) ?_
              rintro v' M14 ⟨rfl, hM14⟩
              rw [hM14]
              clear hM14
              refine S_putI fl_X8_162 dX8_send_140 rfl rfl rfl  (Or.inl rfl) ?_
              refine Sf.nm (fun M15 hM15 => ?_)
              refine S_aload_n dX8_send_143 rfl ?_
              refine S_getP (o := some (11, 0)) fl_X8_29 dX8_send_144 rfl rfl (by rw [hM15, Mem.putI_P, hM13, Mem.putI_P, hM12, Mem.putI_P, hFi.P (1, 0) (show 1 ∉ [12, 13] by decide), hM9, Mem.new_P_ne (rne (by decide)), (show M7.P (1, 0) 3 = some (11, 0) from congrFun hA.2.2 3)]) ?_
              refine S_aload_n dX8_send_147 rfl ?_
              refine S_getI (v := ↑l) fl_X8_142 dX8_send_148 rfl rfl (by rw [hM15, Mem.putI_at (Or.inl (rne (by decide))), hM13, Mem.putI_at (Or.inl (rne (by decide))), hM12, Mem.putI_at (Or.inl (rne (by decide))), hFi.I (1, 0) (show 1 ∉ [12, 13] by decide), hM9, Mem.new_I_ne (rne (by decide)), (show M7.I (1, 0) 7 = ↑l from (show M7.I (1, 0) 7 = ρ8.1 30 from congrFun hA.2.1 7).trans (by rw [s30_8]))]) ?_
              refine S_aload dX8_send_151 rfl ?_
              refine S_aast l dX8_send_153 rfl (by decide) rfl rfl (by decide) rfl (by rw [hM15, Mem.putI_len, hM13, Mem.putI_len, hM12, Mem.putI_len, hFi.len (11, 0) (by decide), hM9, Mem.new_len_ne (rne (by decide)), (show M7.len (11, 0) = some 300 from hJ.1)]) (by omega) (by omega) ?_
              refine Sf.nm (fun M16 hM16 => ?_)
              refine S_aload_n dX8_send_154 rfl ?_
              refine S_dup dX8_send_155 ?_
              refine S_getI (v := ↑l) fl_X8_142 dX8_send_156 rfl rfl (by rw [hM16, Mem.putP_I, hM15, Mem.putI_at (Or.inl (rne (by decide))), hM13, Mem.putI_at (Or.inl (rne (by decide))), hM12, Mem.putI_at (Or.inl (rne (by decide))), hFi.I (1, 0) (show 1 ∉ [12, 13] by decide), hM9, Mem.new_I_ne (rne (by decide)), (show M7.I (1, 0) 7 = ↑l from (show M7.I (1, 0) 7 = ρ8.1 30 from congrFun hA.2.1 7).trans (by rw [s30_8]))]) ?_
              refine S_iconst dX8_send_159 ?_
              refine S_iadd dX8_send_160 ?_
              refine S_putI fl_X8_142 dX8_send_161 rfl rfl rfl  (Or.inl rfl) ?_
              refine Sf.nm (fun M17 hM17 => ?_)
              have ok_0 : Obj M12 (12, l) [↑x, 0, 0, 0, 0, 0] [none, some (18, s), some (18, y6), some (13, l)] := by rw [hM12]; exact hOi.at (Fx.pI _ (rne (by decide)))
              have ok_1 : Obj M13 (12, l) ([↑x, 0, 0, 0, 0, 0].set 4 ((b + wk) % 256)) [none, some (18, s), some (18, y6), some (13, l)] := by rw [hM13]; exact ok_0.putI (k := 4) (show 4 < 6 by decide)
              have ok_2 : Obj M15 (12, l) (([↑x, 0, 0, 0, 0, 0].set 4 ((b + wk) % 256)).set 5 (mixF (ρ.1 0) wk b)) [none, some (18, s), some (18, y6), some (13, l)] := by rw [hM15]; exact ok_1.putI (k := 5) (show 5 < 6 by decide)
              have ok_3 : Obj M16 (12, l) (([↑x, 0, 0, 0, 0, 0].set 4 ((b + wk) % 256)).set 5 (mixF (ρ.1 0) wk b)) [none, some (18, s), some (18, y6), some (13, l)] := by rw [hM16]; exact ok_2.at (Fx.pP _ (rne (by decide)))
              have ok_4 : Obj M17 (12, l) (([↑x, 0, 0, 0, 0, 0].set 4 ((b + wk) % 256)).set 5 (mixF (ρ.1 0) wk b)) [none, some (18, s), some (18, y6), some (13, l)] := by rw [hM17]; exact ok_3.at (Fx.pI _ (rne (by decide)))
              have oa_0 : Obj M12 (1, 0) [0, 0, 0, 0, 0, 0, 2 * ρ8.1 4, ρ8.1 30, ρ8.1 2, ρ8.1 3, ρ8.1 42] pQ := by rw [hM12]; exact (hA.fr hFm (show 1 ∉ [12, 13] by decide)).at (Fx.pI _ (rne (by decide)))
              have oa_1 : Obj M13 (1, 0) [0, 0, 0, 0, 0, 0, 2 * ρ8.1 4, ρ8.1 30, ρ8.1 2, ρ8.1 3, ρ8.1 42] pQ := by rw [hM13]; exact oa_0.at (Fx.pI _ (rne (by decide)))
              have oa_2 : Obj M15 (1, 0) [0, 0, 0, 0, 0, 0, 2 * ρ8.1 4, ρ8.1 30, ρ8.1 2, ρ8.1 3, ρ8.1 42] pQ := by rw [hM15]; exact oa_1.at (Fx.pI _ (rne (by decide)))
              have oa_3 : Obj M16 (1, 0) [0, 0, 0, 0, 0, 0, 2 * ρ8.1 4, ρ8.1 30, ρ8.1 2, ρ8.1 3, ρ8.1 42] pQ := by rw [hM16]; exact oa_2.at (Fx.pP _ (rne (by decide)))
              have oa_4 : Obj M17 (1, 0) ([0, 0, 0, 0, 0, 0, 2 * ρ8.1 4, ρ8.1 30, ρ8.1 2, ρ8.1 3, ρ8.1 42].set 7 ((↑l) + 1)) pQ := by rw [hM17]; exact oa_3.putI (k := 7) (show 7 < 11 by decide)
              have arM12 : ArI M12 (13, l) 3 ([0, ↑b21, ↑p20].set 0 (powF (ρ.1 0) (ρ.1 1) ws)) := by rw [hM12]; exact hAi.put (k := 0) (show 0 < 3 by decide)
              have arM13 : ArI M13 (13, l) 3 ([0, ↑b21, ↑p20].set 0 (powF (ρ.1 0) (ρ.1 1) ws)) := by rw [hM13]; exact arM12.at (Fx.pI _ (rne (by decide)))
              have arM15 : ArI M15 (13, l) 3 ([0, ↑b21, ↑p20].set 0 (powF (ρ.1 0) (ρ.1 1) ws)) := by rw [hM15]; exact arM13.at (Fx.pI _ (rne (by decide)))
              have arM16 : ArI M16 (13, l) 3 ([0, ↑b21, ↑p20].set 0 (powF (ρ.1 0) (ρ.1 1) ws)) := by rw [hM16]; exact arM15.at (Fx.pP _ (rne (by decide)))
              have arM17 : ArI M17 (13, l) 3 ([0, ↑b21, ↑p20].set 0 (powF (ρ.1 0) (ρ.1 1) ws)) := by rw [hM17]; exact arM16.at (Fx.pI _ (rne (by decide)))
              have fqM9 : Fq l M7 M9 := by rw [hM9]; exact (Fq.rf l M7).trans (Fq.x12 Fx.nw)
              have fqM10 : Fq l M7 M10 := by exact fqM9.trans (hQi.q)
              have fqM12 : Fq l M7 M12 := by rw [hM12]; exact fqM10.trans (Fq.x13 Fx.pI)
              have fqM13 : Fq l M7 M13 := by rw [hM13]; exact fqM12.trans (Fq.x12 Fx.pI)
              have fqM15 : Fq l M7 M15 := by rw [hM15]; exact fqM13.trans (Fq.x12 Fx.pI)
              have fqM16 : Fq l M7 M16 := by rw [hM16]; exact fqM15.trans (Fq.x11 Fx.pP)
              have fqM17 : Fq l M7 M17 := by rw [hM17]; exact fqM16.trans (Fq.x1 Fx.pI)
              have bgI : Bg 4 17 M M10 := (hG0.trans hBi).le (by omega) (by omega)
              have bgM12 : Bg 4 17 M M12 := by rw [hM12]; exact (bgI.trans (Bg.pI _ _ _ _)).le (by omega) (by omega)
              have bgM13 : Bg 4 17 M M13 := by rw [hM13]; exact (bgM12.trans (Bg.pI _ _ _ _)).le (by omega) (by omega)
              have bgM15 : Bg 4 17 M M15 := by rw [hM15]; exact (bgM13.trans (Bg.pI _ _ _ _)).le (by omega) (by omega)
              have bgM16 : Bg 4 17 M M16 := by rw [hM16]; exact (bgM15.trans (Bg.pP _ 11 0 _ _ (by decide))).le (by omega) (by omega)
              have bgM17 : Bg 4 17 M M17 := by rw [hM17]; exact (bgM16.trans (Bg.pI _ _ _ _)).le (by omega) (by omega)
              obtain ⟨ρ18, e18⟩ : ∃ z9 : RS, z9 = ((ltR ρ8 l (↑x) (powF (ρ.1 0) (ρ.1 1) ws) (↑b21) (↑p20) ((b + wk) % 256) (mixF (ρ.1 0) wk b) (↑y6) (↑s)).setS 30 ((↑l + 1))) := ⟨_, rfl⟩
              have hCl18 : Cl (Y.1, Y.2, sc, kn) ρ18 M17 := (by rw [e18]; exact hCl8.letter l hlN (by omega) ↑x (powF (ρ.1 0) (ρ.1 1) ws) ↑b21 ↑p20 ((b + wk) % 256) (mixF (ρ.1 0) wk b) ↑y6 ↑s fqM17 oa_4 ⟨(by rw [hM17, Mem.putI_len, hM16, Mem.putP_len, hM15, Mem.putI_len, hM13, Mem.putI_len, hM12, Mem.putI_len, hFi.len (11, 0) (by decide), hM9, Mem.new_len_ne (rne (by decide)), (show M7.len (11, 0) = some 300 from hJ.1)]), (by rw [hM17, Mem.putI_P, hM16, Mem.putP_eq]), fun j hj => by rw [hM17, Mem.putI_P, hM16, Mem.putP_at (Or.inr (by omega)), hM15, Mem.putI_P, hM13, Mem.putI_P, hM12, Mem.putI_P, hFi.P (11, 0) (show 11 ∉ [12, 13] by decide), hM9, Mem.new_P_ne (rne (by decide))]⟩ (by rw [qx_nat, qx_nat]; exact ok_4) arM17)
              have hS18 : StpOK sc kn ρ18 := (by rw [e18]; exact hS8.cg rfl (fun k t a b => by rw [RS.setS_a]; exact ltR_at (Or.inl (by omega))))
              have hF18 : Fr CLs M M17 := hF8.trans fqM17.cl
              have hB18 : Bg 4 17 M M17 := bgM17
              have s4_18 : ρ18.1 4 = ρ.1 4 := (by rw [e18, RS.setS_ne (by decide), ltR_s, s4_8])
              have s30_18 : ρ18.1 30 = (↑l + 1) := (by rw [e18, RS.setS_eq])
              have t_18 : thN ρ18 = thN ρ8 := by rw [e18]; rfl
              clear hA hB hC hD hE hN hG hH hI hJ hK hL hCl8 hS8 hF8 hB8
              obtain ⟨hA, hB, hC, hD, hE, hN, hG, hH, hI, hJ, hK, hL⟩ := id hCl18
              refine S_aload_n dX8_send_164 rfl ?_
              refine S_aload_n dX8_send_165 rfl ?_
              refine S_getP (o := some (3, 0)) fl_X8_10 dX8_send_166 rfl rfl (by rw [(show M17.P (1, 0) 1 = some (3, 0) from congrFun hA.2.2 1)]) ?_
              refine S_aload_n dX8_send_169 rfl ?_
              refine S_getP (o := some (18, c)) fl_X8_128 dX8_send_170 rfl rfl (by rw [(show M17.P (7, x) 6 = some (18, c) from (congrFun (hE.1 x (by omega)).2.2 6).trans ((if_pos hst).trans (qx_of (show ρ18.2 17 x = ↑c from (by rw [e18, RS.setS_a, ltR_at (by omega), e8, thR_old_at _ _ _ _ _ _ _ (Or.inr (by decide)), h17])))))]) ?_
              have hTI19 : TI Y.2 ρ18 (N + 1) := hTI8.cg ⟨(by rw [e18, RS.setS_ne (by decide), ltR_s]), (by rw [e18, RS.setS_ne (by decide), ltR_s]), (by rw [e18, RS.setS_ne (by decide), ltR_s])⟩ (fun k j a1 a2 => (by rw [e18, RS.setS_a, ltR_at (Or.inl (by omega))]))
              refine S_callV (mi := mi_X8_send) [vR ((18, c))] ok_X5_nextOf ml_X8_165 dX8_send_173 rfl (by decide) rfl (by decide) rfl (Nat.le_of_ble_eq_true rfl) rfl (c_nextOf (G := G) (show Cs Y ρ18 M17 from ⟨sc, kn, hS18, hCl18⟩) (N + 1) hTI19 (by omega) c (by omega) (by rw [e18, RS.setS_a, ltR_at (by omega), e8, thR_old_at _ _ _ _ _ _ _ (Or.inl (by omega))]; exact hck) (hRm.sub hB18 (by omega) (by omega))) ?_
              rintro v' M21 ⟨rfl, hCs21, hF21', hB21'⟩
              obtain ⟨ρ22, e22⟩ : ∃ z9 : RS, z9 = (chR ρ18 c) := ⟨_, rfl⟩
              rw [← e22] at hCs21
              obtain ⟨c20, ec20⟩ : ∃ z9 : Nat, z9 = chI ρ18 c := ⟨_, rfl⟩
              rw [← ec20]
              have q22 : TI Y.2 (chR ρ18 c) (N + 2) ∧ chI ρ18 c < thN (chR ρ18 c) ∧ thN ρ18 ≤ thN (chR ρ18 c) := hTI19.ch (by omega)
              have k22 : (chR ρ18 c).2 6 (chI ρ18 c) = 1 := th_kind (by decide)
              rw [← e22, ← ec20] at q22 k22
              obtain ⟨hTI22, hi22, g22⟩ := q22
              obtain ⟨sc, kn, hS22, hCl22⟩ := hCs21
              have hF22 : Fr CLs M M21 := hF18.trans hF21'
              have hB22 : Bg 6 25 M M21 := (hB18.trans hB21').le (by omega) (by omega)
              have s4_22 : ρ22.1 4 = ρ.1 4 := (by rw [e22, thR_s _ _ _ _ _ _ (by decide), s4_18])
              have s30_22 : ρ22.1 30 = (↑l + 1) := (by rw [e22, thR_s _ _ _ _ _ _ (by decide), s30_18])
              clear hA hB hC hD hE hN hG hH hI hJ hK hL hCl18 hS18 hF18 hB18
              obtain ⟨hA, hB, hC, hD, hE, hN, hG, hH, hI, hJ, hK, hL⟩ := id hCl22
              refine S_putP fl_X8_128 dX8_send_176 rfl rfl rfl  ?_
              refine Sf.nm (fun M23 hM23 => ?_)
              obtain ⟨ρ24, e24⟩ : ∃ z9 : RS, z9 = (ρ22.setA 17 x (↑c20)) := ⟨_, rfl⟩
              have hCl24 : Cl (Y.1, Y.2, sc, kn) ρ24 M23 := (by rw [e24, hM23, ← (qx_nat c20)]; exact hCl22.e17 x (by omega) hst (↑c20))
              have hS24 : StpOK sc kn ρ24 := (by rw [e24]; exact hS22)
              have hF24 : Fr CLs M M23 := (by rw [hM23]; exact hF22.trans (Fr.pP 7 x (by decide)))
              have hB24 : Bg 6 25 M M23 := (by rw [hM23]; exact (hB22.trans (Bg.pP _ 7 x _ _ (by decide))).le (by omega) (by omega))
              have s4_24 : ρ24.1 4 = ρ.1 4 := (by rw [e24, RS.setA_s, s4_22])
              have s30_24 : ρ24.1 30 = (↑l + 1) := (by rw [e24, RS.setA_s, s30_22])
              have t_24 : thN ρ24 = thN ρ22 := by rw [e24]; rfl
              clear hA hB hC hD hE hN hG hH hI hJ hK hL hCl22 hS22 hF22 hB22
              obtain ⟨hA, hB, hC, hD, hE, hN, hG, hH, hI, hJ, hK, hL⟩ := id hCl24
              refine S_aload_n dX8_send_179 rfl ?_
              refine S_dup dX8_send_180 ?_
              refine S_getI (v := ↑p20) fl_X8_168 dX8_send_181 rfl rfl (by rw [(show M23.I (7, x) 9 = ↑p20 from (show M23.I (7, x) 9 = ρ24.2 20 x from congrFun (hE.1 x (by omega)).2.1 9).trans (show ρ24.2 20 x = ↑p20 from (by rw [e24, RS.setA_ne (Or.inl (by decide)), e22, thR_old_at _ _ _ _ _ _ _ (Or.inr (by decide)), e18, RS.setS_a, ltR_at (by omega), e8, thR_old_at _ _ _ _ _ _ _ (Or.inr (by decide)), h20])))]) ?_
              refine S_iconst dX8_send_184 ?_
              refine S_iadd dX8_send_185 ?_
              refine S_putI fl_X8_168 dX8_send_186 rfl rfl rfl  (Or.inl rfl) ?_
              refine Sf.nm (fun M25 hM25 => ?_)
              obtain ⟨ρ26, e26⟩ : ∃ z9 : RS, z9 = (ρ24.setA 20 x ((↑p20) + 1)) := ⟨_, rfl⟩
              have hCl26 : Cl (Y.1, Y.2, sc, kn) ρ26 M25 := (by rw [e26, hM25]; exact hCl24.e20 x (by omega) ((↑p20) + 1))
              have hS26 : StpOK sc kn ρ26 := (by rw [e26]; exact hS24)
              have hF26 : Fr CLs M M25 := (by rw [hM25]; exact hF24.trans (Fr.pI 7 x (by decide)))
              have hB26 : Bg 6 25 M M25 := (by rw [hM25]; exact (hB24.trans (Bg.pI _ _ _ _)).le (by omega) (by omega))
              have s4_26 : ρ26.1 4 = ρ.1 4 := (by rw [e26, RS.setA_s, s4_24])
              have s30_26 : ρ26.1 30 = (↑l + 1) := (by rw [e26, RS.setA_s, s30_24])
              have t_26 : thN ρ26 = thN ρ24 := by rw [e26]; rfl
              clear hA hB hC hD hE hN hG hH hI hJ hK hL hCl24 hS24 hF24 hB24
              obtain ⟨hA, hB, hC, hD, hE, hN, hG, hH, hI, hJ, hK, hL⟩ := id hCl26
              refine S_aload_n dX8_send_189 rfl ?_
              have hKx : KOK ρ26 := hKo.congr (fun k j a1 a2 => (by rw [e26, RS.setA_ne (Or.inl (by omega)), e24, RS.setA_ne (Or.inl (by omega)), e22, thR_old_at _ _ _ _ _ _ _ (Or.inr (by omega)), e18, RS.setS_a, ltR_at (Or.inl (by omega)), e8, thR_old_at _ _ _ _ _ _ _ (Or.inr (by omega))]))
              have hTx : TsOK ρ26 := hTs.cg (fun k j a1 a2 => (by rw [e26, RS.setA_ne (Or.inl (by omega)), e24, RS.setA_ne (Or.inl (by omega)), e22, thR_old_at _ _ _ _ _ _ _ (Or.inr (by omega)), e18, RS.setS_a, ltR_at (Or.inl (by omega)), e8, thR_old_at _ _ _ _ _ _ _ (Or.inr (by omega))]))
              have hzx : ∀ e : Nat, 2 * ρ26.1 4 ≤ e → e < 12 → ρ26.2 25 e = 0 := fun e h1 h2 => by
                rw [e26, RS.setA_ne (Or.inl (by decide)), e24, RS.setA_ne (Or.inl (by decide)), e22, thR_old_at _ _ _ _ _ _ _ (Or.inr (by decide)), e18, RS.setS_a, ltR_at (by omega), e8, thR_old_at _ _ _ _ _ _ _ (Or.inr (by decide))]
                exact (hFe e h2 (by rw [s4_26] at h1; exact h1)).2.2.2.2.2
              have hlx : 0 ≤ ρ26.1 30 ∧ ρ26.1 30 ≤ 300 := by rw [s30_26]; omega
              refine S_callV (mi := mi_X8_send) [] ok_X8_endOldSkipped ml_X8_72 dX8_send_190 rfl (by decide) rfl (by decide) rfl (Nat.le_of_ble_eq_true rfl) rfl (c_endOldSkipped (G := G) (ρ := ρ26) m (by rw [s4_26]; exact hm2) hm12 hlx (by rw [e26, RS.setA_s, e24, RS.setA_s, e22, thR_s _ _ _ _ _ _ (by decide), e18, RS.setS_ne (by decide), ltR_s, e8, thR_s _ _ _ _ _ _ (by decide)]; omega) hKx hTx hzx (show Cs Y ρ26 M25 from ⟨sc, kn, hS26, hCl26⟩)) ?_
              rintro v' M27 ⟨rfl, hCs27, hF27', hB27'⟩
              obtain ⟨ρ28, e28⟩ : ∃ z9 : RS, z9 = (expR ρ26) := ⟨_, rfl⟩
              rw [← e28] at hCs27
              obtain ⟨sc, kn, hS28, hCl28⟩ := hCs27
              have hF28 : Fr CLs M M27 := hF26.trans hF27'
              have hB28 : Bg 6 25 M M27 := (hB26.trans hB27').le (by omega) (by omega)
              have s4_28 : ρ28.1 4 = ρ.1 4 := (by rw [e28, expR_s (by assumption), s4_26])
              have s30_28 : ρ28.1 30 = (↑l + 1) := (by rw [e28, expR_s (by assumption), s30_26])
              clear hA hB hC hD hE hN hG hH hI hJ hK hL hCl26 hS26 hF26 hB26
              obtain ⟨hA, hB, hC, hD, hE, hN, hG, hH, hI, hJ, hK, hL⟩ := id hCl28
              refine S_aload_n dX8_send_193 rfl ?_
              refine S_aload_n dX8_send_194 rfl ?_
              refine S_getI (v := (↑l + 1)) fl_X8_142 dX8_send_195 rfl rfl (by rw [(show M27.I (1, 0) 7 = (↑l + 1) from (show M27.I (1, 0) 7 = ρ28.1 30 from congrFun hA.2.1 7).trans (by rw [s30_28]))]) ?_
              refine S_iconst dX8_send_198 ?_
              refine S_isub dX8_send_199 ?_
              rw [show ((↑l : Int) + 1 - 1) = ↑l from by omega]
              refine S_callV (mi := mi_X8_send) [vI (↑l)] ok_X8_done ml_X8_69 dX8_send_200 rfl (by decide) rfl (by decide) rfl (Nat.le_of_ble_eq_true rfl) rfl (c_done (show Cs Y ρ28 M27 from ⟨sc, kn, hS28, hCl28⟩) (↑l)) ?_
              rintro v' M29 ⟨rfl, hCs29, hF29', hB29'⟩
              obtain ⟨ρ30, e30⟩ : ∃ z9 : RS, z9 = (ρ28.setS 42 0) := ⟨_, rfl⟩
              rw [← e30] at hCs29
              obtain ⟨sc, kn, hS30, hCl30⟩ := hCs29
              have hF30 : Fr CLs M M29 := hF28.trans hF29'
              have hB30 : Bg 6 25 M M29 := (hB28.trans hB29').le (by omega) (by omega)
              have s4_30 : ρ30.1 4 = ρ.1 4 := (by rw [e30, RS.setS_ne (by decide), s4_28])
              have s30_30 : ρ30.1 30 = (↑l + 1) := (by rw [e30, RS.setS_ne (by decide), s30_28])
              have t_30 : thN ρ30 = thN ρ28 := by rw [e30]; rfl
              clear hA hB hC hD hE hN hG hH hI hJ hK hL hCl28 hS28 hF28 hB28
              obtain ⟨hA, hB, hC, hD, hE, hN, hG, hH, hI, hJ, hK, hL⟩ := id hCl30
              exact S_iret dX8_send_203 rfl (Or.inl rfl) (by
      have e9 : sendF ρ (↑x) b = ((↑l : Int), ρ30) := by
        unfold sendF
        rw [if_neg (by omega), if_neg (by omega), Int.toNat_natCast, if_neg (by rw [h17]; omega), h17, h30, h15, Int.toNat_natCast, Int.toNat_natCast, Int.toNat_natCast]
        have eS8 : snG ρ x c l s b = ρ30 := by
          unfold snG sn3
          rw [← e8, ← ey6]
          have eS7 : sn1 ρ ρ8 x l y6 s (powF (ρ.1 0) (ρ.1 1) (ρ.2 9 s).toNat) b = (ltR ρ8 l (↑x) (powF (ρ.1 0) (ρ.1 1) ws) (↑b21) (↑p20) ((b + wk) % 256) (mixF (ρ.1 0) wk b) (↑y6) (↑s)) := by
            unfold sn1 ltR
            rw [hws, Int.toNat_natCast, h21, h20, hwkE, tmod256 (by omega)]
          rw [eS7]
          unfold sn2
          have q := chR_S30 (ltR ρ8 l (↑x) (powF (ρ.1 0) (ρ.1 1) ws) (↑b21) (↑p20) ((b + wk) % 256) (mixF (ρ.1 0) wk b) (↑y6) (↑s)) (↑l + 1) c
          rw [← e18] at q
          rw [h20]
          have eS6 : (((chR (ltR ρ8 l (↑x) (powF (ρ.1 0) (ρ.1 1) ws) (↑b21) (↑p20) ((b + wk) % 256) (mixF (ρ.1 0) wk b) (↑y6) (↑s)) c).setA 17 x ↑(chI (ltR ρ8 l (↑x) (powF (ρ.1 0) (ρ.1 1) ws) (↑b21) (↑p20) ((b + wk) % 256) (mixF (ρ.1 0) wk b) (↑y6) (↑s)) c)).setA 20 x (↑p20 + 1)).setS 30 (↑l + 1) = ρ26 := by
            rw [e26, e24, e22, ec20, q.1, q.2]
            rfl
          rw [eS6, e30, e28]
        rw [eS8]
      rw [e9]
      exact ⟨rfl, ⟨sc, kn, hS30, hCl30⟩, hF30, hB30.le (by omega) (by omega)⟩)
          · have h14 : ρ.2 14 (x / 2) = 0 := by
              by_cases h : ρ.2 14 (x / 2) = 0
              · exact h
              · exact absurd ((hYs x (by omega)).mpr h) hst
            refine S_aload_n dX8_send_43 rfl ?_
            refine S_getI (v := 0) fl_X8_99 dX8_send_44 rfl rfl (by rw [(show M.I (7, x) 3 = 0 from (congrFun (hE.1 x (by omega)).2.1 3).trans (if_neg hst))]) ?_
            refine S_if_eq 57 dX8_send_47 (by decide) (by omega) (fun c_47 => ?_) (fun c_47 => absurd c_47 (by omega))
            refine S_aload_n dX8_send_57 rfl ?_
            refine S_iconst dX8_send_58 ?_
            refine S_callV (mi := mi_X8_send) [vI 3] ok_X8_refuse ml_X8_54 dX8_send_59 rfl (by decide) rfl (by decide) rfl (Nat.le_of_ble_eq_true rfl) rfl (c_refuse (show Cs Y ρ M from ⟨sc, kn, hS, hCl⟩) 3) ?_
            rintro v' M31 ⟨rfl, hCs31, hF31', hB31'⟩
            obtain ⟨ρ32, e32⟩ : ∃ z9 : RS, z9 = (ρ.setS 42 3) := ⟨_, rfl⟩
            rw [← e32] at hCs31
            obtain ⟨sc, kn, hS32, hCl32⟩ := hCs31
            have hF32 : Fr CLs M M31 := hF0.trans hF31'
            have hB32 : Bg 0 0 M M31 := (hB0.trans hB31').le (by omega) (by omega)
            have s4_32 : ρ32.1 4 = ρ.1 4 := (by rw [e32, RS.setS_ne (by decide)])
            have s30_32 : ρ32.1 30 = ↑l := (by rw [e32, RS.setS_ne (by decide), h30])
            have t_32 : thN ρ32 = thN ρ := by rw [e32]; rfl
            clear hA hB hC hD hE hN hG hH hI hJ hK hL
            obtain ⟨hA, hB, hC, hD, hE, hN, hG, hH, hI, hJ, hK, hL⟩ := id hCl32
            exact S_iret dX8_send_62 rfl (Or.inl rfl) (by
      have e9 : sendF ρ (↑x) b = (((-1) : Int), ρ32) := by
        unfold sendF
        rw [if_neg (by omega), if_neg (by omega), Int.toNat_natCast, if_pos (by omega), e32]
      rw [e9]
      exact ⟨rfl, ⟨sc, kn, hS32, hCl32⟩, hF32, hB32.le (by omega) (by omega)⟩)
        · refine S_aload_n dX8_send_37 rfl ?_
          refine S_iconst dX8_send_38 ?_
          refine S_callV (mi := mi_X8_send) [vI 2] ok_X8_refuse ml_X8_54 dX8_send_39 rfl (by decide) rfl (by decide) rfl (Nat.le_of_ble_eq_true rfl) rfl (c_refuse (show Cs Y ρ M from ⟨sc, kn, hS, hCl⟩) 2) ?_
          rintro v' M33 ⟨rfl, hCs33, hF33', hB33'⟩
          obtain ⟨ρ34, e34⟩ : ∃ z9 : RS, z9 = (ρ.setS 42 2) := ⟨_, rfl⟩
          rw [← e34] at hCs33
          obtain ⟨sc, kn, hS34, hCl34⟩ := hCs33
          have hF34 : Fr CLs M M33 := hF0.trans hF33'
          have hB34 : Bg 0 0 M M33 := (hB0.trans hB33').le (by omega) (by omega)
          have s4_34 : ρ34.1 4 = ρ.1 4 := (by rw [e34, RS.setS_ne (by decide)])
          have s30_34 : ρ34.1 30 = ↑l := (by rw [e34, RS.setS_ne (by decide), h30])
          have t_34 : thN ρ34 = thN ρ := by rw [e34]; rfl
          clear hA hB hC hD hE hN hG hH hI hJ hK hL
          obtain ⟨hA, hB, hC, hD, hE, hN, hG, hH, hI, hJ, hK, hL⟩ := id hCl34
          exact S_iret dX8_send_42 rfl (Or.inl rfl) (by
      have e9 : sendF ρ (↑x) b = (((-1) : Int), ρ34) := by
        unfold sendF
        rw [if_neg (by omega), if_pos (by omega), e34]
      rw [e9]
      exact ⟨rfl, ⟨sc, kn, hS34, hCl34⟩, hF34, hB34.le (by omega) (by omega)⟩)
      · refine S_aload_n dX8_send_21 rfl ?_
        refine S_iconst dX8_send_22 ?_
        refine S_callV (mi := mi_X8_send) [vI 1] ok_X8_refuse ml_X8_54 dX8_send_23 rfl (by decide) rfl (by decide) rfl (Nat.le_of_ble_eq_true rfl) rfl (c_refuse (show Cs Y ρ M from ⟨sc, kn, hS, hCl⟩) 1) ?_
        rintro v' M35 ⟨rfl, hCs35, hF35', hB35'⟩
        obtain ⟨ρ36, e36⟩ : ∃ z9 : RS, z9 = (ρ.setS 42 1) := ⟨_, rfl⟩
        rw [← e36] at hCs35
        obtain ⟨sc, kn, hS36, hCl36⟩ := hCs35
        have hF36 : Fr CLs M M35 := hF0.trans hF35'
        have hB36 : Bg 0 0 M M35 := (hB0.trans hB35').le (by omega) (by omega)
        have s4_36 : ρ36.1 4 = ρ.1 4 := (by rw [e36, RS.setS_ne (by decide)])
        have s30_36 : ρ36.1 30 = ↑l := (by rw [e36, RS.setS_ne (by decide), h30])
        have t_36 : thN ρ36 = thN ρ := by rw [e36]; rfl
        clear hA hB hC hD hE hN hG hH hI hJ hK hL
        obtain ⟨hA, hB, hC, hD, hE, hN, hG, hH, hI, hJ, hK, hL⟩ := id hCl36
        exact S_iret dX8_send_26 rfl (Or.inl rfl) (by
      have e9 : sendF ρ (↑x) b = (((-1) : Int), ρ36) := by
        unfold sendF
        rw [if_pos (by omega), e36]
      rw [e9]
      exact ⟨rfl, ⟨sc, kn, hS36, hCl36⟩, hF36, hB36.le (by omega) (by omega)⟩)
  · refine S_callV (mi := mi_X8_send) [vI e] ok_X8_endAt ml_X8_78 dX8_send_2 rfl (by decide) rfl (by decide) rfl (Nat.le_of_ble_eq_true rfl) rfl (c_endAtN hCl hp e e32 hve) ?_
    rintro v' M37 ⟨rfl, hM37⟩
    rw [hM37]
    clear hM37
    refine S_astore_n dX8_send_5 (by decide) ?_
    refine S_aload_n dX8_send_6 rfl ?_
    refine S_ifnull 21 dX8_send_7 (by decide) (fun c_7 => ?_) (fun c_7 => absurd c_7 (by simp))
    refine S_aload_n dX8_send_21 rfl ?_
    refine S_iconst dX8_send_22 ?_
    refine S_callV (mi := mi_X8_send) [vI 1] ok_X8_refuse ml_X8_54 dX8_send_23 rfl (by decide) rfl (by decide) rfl (Nat.le_of_ble_eq_true rfl) rfl (c_refuse (show Cs Y ρ M from ⟨sc, kn, hS, hCl⟩) 1) ?_
    rintro v' M38 ⟨rfl, hCs38, hF38', hB38'⟩
    obtain ⟨ρ39, e39⟩ : ∃ z9 : RS, z9 = (ρ.setS 42 1) := ⟨_, rfl⟩
    rw [← e39] at hCs38
    obtain ⟨sc, kn, hS39, hCl39⟩ := hCs38
    have hF39 : Fr CLs M M38 := hF0.trans hF38'
    have hB39 : Bg 0 0 M M38 := (hB0.trans hB38').le (by omega) (by omega)
    have s4_39 : ρ39.1 4 = ρ.1 4 := (by rw [e39, RS.setS_ne (by decide)])
    have s30_39 : ρ39.1 30 = ↑l := (by rw [e39, RS.setS_ne (by decide), h30])
    have t_39 : thN ρ39 = thN ρ := by rw [e39]; rfl
    clear hA hB hC hD hE hN hG hH hI hJ hK hL
    obtain ⟨hA, hB, hC, hD, hE, hN, hG, hH, hI, hJ, hK, hL⟩ := id hCl39
    exact S_iret dX8_send_26 rfl (Or.inl rfl) (by
      have e9 : sendF ρ e b = (((-1) : Int), ρ39) := by
        unfold sendF
        rw [if_pos (by omega), e39]
      rw [e9]
      exact ⟨rfl, ⟨sc, kn, hS39, hCl39⟩, hF39, hB39.le (by omega) (by omega)⟩)
