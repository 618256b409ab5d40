/-! THE REFERENCE: what ends, the steps of a taking chain, a meeting -/
def expS (ρ : RS) (e i : Nat) : RS := if ρ.1 3 < ρ.1 30 - ρ.2 29 (12 * e + i) then dropR ρ e i ((ρ.2 25 e).toNat - 1) else ρ
def expE (ρ : RS) (e : Nat) : Nat → RS
  | 0 => ρ
  | i + 1 => expE (expS ρ e i) e i
def expA : Nat → Nat → RS → RS
  | 0, _, ρ => ρ
  | d + 1, e, ρ => expA d (e + 1) (expE ρ e (ρ.2 25 e).toNat)
def expR (ρ : RS) : RS := expA 12 0 ρ
theorem expS_ok {ρ : RS} (h : KOK ρ) {e i : Nat} (he : e < 12) : KOK (expS ρ e i) ∧ ∀ k, (expS ρ e i).1 k = ρ.1 k := by
  unfold expS
  split
  · obtain ⟨n, h1, h2⟩ := h.1 e he
    exact ⟨h.drop he (by omega), fun _ => rfl⟩
  · exact ⟨h, fun _ => rfl⟩
theorem expE_ok : ∀ (n : Nat) {ρ : RS} (_ : KOK ρ) {e : Nat} (_ : e < 12), KOK (expE ρ e n) ∧ ∀ k, (expE ρ e n).1 k = ρ.1 k := by
  intro n
  induction n with
  | zero => intro ρ h e he; exact ⟨h, fun _ => rfl⟩
  | succ n ih =>
    intro ρ h e he
    have h1 := expS_ok h he (i := n)
    have h2 := ih h1.1 he
    exact ⟨h2.1, fun k => (h2.2 k).trans (h1.2 k)⟩
theorem lp_X9_exp1 {G : Ge} {M0 : Mem} {Q : Option AVal → Mem → Prop} (e : Nat) (he : e < 12) : ∀ (d : Nat) (ρ : RS) (M : Mem), KOK ρ → (∃ n : Nat, d ≤ n ∧ n ≤ 12 ∧ ρ.2 25 e = ↑n) → (0 ≤ ρ.1 30 ∧ ρ.1 30 ≤ 300) → (0 ≤ ρ.1 3 ∧ ρ.1 3 ≤ 300) → (∀ M', Rf (expE ρ e d) M' → SameR M0 M' → Sf G mi_X9_expire Q 56 [some (vR (30, 0)), some (vI ↑e), some (vI (-1))] [] M') → Rf ρ M → SameR M0 M → Sf G mi_X9_expire Q 17 [some (vR ((30, 0))), some (vI (↑e)), some (vI (↑d - 1))] [] M := by
  intro d
  induction d with
  | zero =>
    intro ρ M hK hle hl hli hc hR hS
    rw [show ((0 : Nat) : Int) - 1 = -1 from rfl]
    refine S_iload_n dX9_expire_17 rfl ?_
    refine S_if_lt 56 dX9_expire_18 (by decide) (by omega) (fun c => hc _ hR hS) (fun c => absurd c (by omega))
  | succ d ih =>
    intro ρ M hK hle hl hli hc hR hS
    obtain ⟨n0, hn1, hn2, hr0⟩ := hle
    obtain ⟨n, rfl⟩ : ∃ n, n0 = n + 1 := ⟨n0 - 1, by omega⟩
    have hr : ρ.2 25 e = ↑(n + 1) := hr0
    have hk1 := hK.2 (12 * e + d) (by omega)
    have h0 : (↑(d + 1) : Int) - 1 = ↑d := by omega
    rw [h0]
    refine S_iload_n dX9_expire_17 rfl ?_
    refine S_if_lt 56 dX9_expire_18 (by decide) (by omega) (fun c_18 => absurd c_18 (by omega)) (fun c_18 => ?_)
    refine S_aload_n dX9_expire_21 rfl ?_
    refine S_getI (v := ρ.1 30) fl_X9_142 dX9_expire_22 rfl rfl (hR.s 30) ?_
    refine S_aload_n dX9_expire_25 rfl ?_
    refine S_getP fl_X9_93 dX9_expire_26 rfl rfl (hR.p 29 rfl) ?_
    refine S_bipush dX9_expire_29 (by decide) ?_
    refine S_iload_n dX9_expire_31 rfl ?_
    refine S_imul dX9_expire_32 ?_
    refine S_iload_n dX9_expire_33 rfl ?_
    refine S_iadd dX9_expire_34 ?_
    refine R_ald (v := ρ.2 29 (((12 * e) + d))) (((12 * e) + d)) hR dX9_expire_35 rfl rfl (by omega) (show _ < 144 from by omega) rfl ?_
    refine S_isub dX9_expire_36 ?_
    refine S_aload_n dX9_expire_37 rfl ?_
    refine S_getI (v := ρ.1 3) fl_X9_19 dX9_expire_38 rfl rfl (hR.s 3) ?_
    refine S_icmp_le 50 dX9_expire_41 (by decide) (by omega) (fun c_41 => ?_) (fun c_41 => ?_)
    · have hs : expS ρ e d = ρ := if_neg (by omega)
      refine S_iinc dX9_expire_50 rfl (by decide) ?_
      rw [show ((↑d) + (-1) : Int) = ↑d - 1 from by omega]
      refine S_goto 17 dX9_expire_53 (by decide) ?_
      exact ih ρ _ hK ⟨n + 1, by omega, by omega, hr⟩ hl hli (fun M' hM hS' => hc M' (by show Rf (expE (expS ρ e d) e d) M'; rw [hs]; exact hM) hS') hR hS
    · have hs : expS ρ e d = dropR ρ e d n := by
        unfold expS; rw [if_pos (by omega), hr]; rfl
      refine S_aload_n dX9_expire_44 rfl ?_
      refine S_iload_n dX9_expire_45 rfl ?_
      refine S_iload_n dX9_expire_46 rfl ?_
      refine S_callV (mi := mi_X9_expire) [vI (↑e), vI (↑d)] ok_X9_drops ml_X9_194 dX9_expire_47 rfl (by decide) rfl (by decide) rfl (Nat.le_of_ble_eq_true rfl) rfl (r_X9_drops (ρ := ρ) e d n (by omega) (by omega) (by omega) hr M hR) ?_
      rintro v' M1 ⟨rfl, hR1, hS1'⟩
      have hS1 := hS.trans hS1'
      refine S_iinc dX9_expire_50 rfl (by decide) ?_
      rw [show ((↑d) + (-1) : Int) = ↑d - 1 from by omega]
      refine S_goto 17 dX9_expire_53 (by decide) ?_
      exact ih ((dropR ρ e d n)) _ (hK.drop he (by omega)) ⟨n, by omega, by omega, (drop_25 _ _ _ _ _).trans (if_pos rfl)⟩ hl hli (fun M' hM hS' => hc M' (by show Rf (expE (expS ρ e d) e d) M'; rw [hs]; exact hM) hS') hR1 hS1
theorem lp_X9_exp0 {G : Ge} {M0 : Mem}  : ∀ (d : Nat) (e : Nat) (ρ : RS) (x : Option AVal) (M : Mem), e + d = 12 → KOK ρ → (0 ≤ ρ.1 30 ∧ ρ.1 30 ≤ 300) → (0 ≤ ρ.1 3 ∧ ρ.1 3 ≤ 300) → Rf ρ M → SameR M0 M → Sf G mi_X9_expire (fun v' M' => v' = none ∧ Rf (expA d e ρ) M' ∧ SameR M0 M') 2 [some (vR ((30, 0))), some (vI (↑e)), x] [] M := by
  intro d
  induction d with
  | zero =>
    intro e ρ x M hed hK hl hli hR hS
    obtain rfl : e = 12 := by omega
    refine S_iload_n dX9_expire_2 rfl ?_
    refine S_bipush dX9_expire_3 (by decide) ?_
    refine S_icmp_ge 62 dX9_expire_5 (by decide) (by omega) (fun c_5 => ?_) (fun c_5 => absurd c_5 (by omega))
    exact S_vret dX9_expire_62 rfl ⟨rfl, hR, hS⟩
  | succ d ih =>
    intro e ρ x M hed hK hl hli hR hS
    have he : e < 12 := by omega
    obtain ⟨n, hn, hr⟩ := hK.1 e he
    refine S_iload_n dX9_expire_2 rfl ?_
    refine S_bipush dX9_expire_3 (by decide) ?_
    refine S_icmp_ge 62 dX9_expire_5 (by decide) (by omega) (fun c_5 => absurd c_5 (by omega)) (fun c_5 => ?_)
    refine S_aload_n dX9_expire_8 rfl ?_
    refine S_getP fl_X9_81 dX9_expire_9 rfl rfl (hR.p 25 rfl) ?_
    refine S_iload_n dX9_expire_12 rfl ?_
    refine R_ald (v := ↑n) e hR dX9_expire_13 rfl rfl (by omega) (show _ < 12 from by omega) hr ?_
    refine S_iconst dX9_expire_14 ?_
    refine S_isub dX9_expire_15 ?_
    refine S_istore_n dX9_expire_16 (by decide) ?_
    rw [show (expA (d + 1) e ρ) = expA d (e + 1) (expE ρ e n) from by show expA d (e + 1) (expE ρ e (ρ.2 25 e).toNat) = _; rw [hr]; rfl]
    have ho := expE_ok n hK he
    refine lp_X9_exp1 e he n ρ _ hK ⟨n, Nat.le_refl n, hn, hr⟩ hl hli (fun M' hR' hS' => ?_) hR hS
    refine S_iinc dX9_expire_56 rfl (by decide) ?_
    rw [show (↑e + 1 : Int) = ↑(e + 1) from by omega]
    refine S_goto 2 dX9_expire_59 (by decide) ?_
    exact ih (e + 1) (expE ρ e n) _ _ (by omega) ho.1 (by rw [ho.2]; exact hl) (by rw [ho.2]; exact hli) hR' hS'
theorem r_X9_expire {G : Ge} {ρ : RS} (hK : KOK ρ) (hl : 0 ≤ ρ.1 30 ∧ ρ.1 30 ≤ 300) (hli : 0 ≤ ρ.1 3 ∧ ρ.1 3 ≤ 300) : RC G mi_X9_expire [vR ((30, 0))] ρ none (expR ρ) := by
  intro M hR
  have hS := SameR.rf M
  refine Ct.of pl_X9_expire [some (vR ((30, 0))), none, none] rfl (Nat.le_of_ble_eq_true rfl) ?_
  refine S_iconst dX9_expire_0 ?_
  refine S_istore_n dX9_expire_1 (by decide) ?_
  exact lp_X9_exp0 12 0 ρ none _ rfl hK hl hli hR hS
theorem mixv {q x y : Int} (hq : 3 ≤ q ∧ q ≤ 10007) (hx : 0 ≤ x) (hy : 0 ≤ y) : 0 ≤ mixF q x y ∧ mixF q x y ≤ 10007 := by
  have := mixF_bd (q := q) (by omega) hx hy; omega
theorem kyV_bd {ρ : RS} {N t : Nat} (h : ThOK ρ N) (ht : t < thN ρ) : 0 ≤ kyV ρ t ∧ kyV ρ t ≤ 10007 := mixv h.2.2.1 (h.2.2.2.2 t ht).2.2.2.1 (by decide)
theorem chV_bd {ρ : RS} {N t : Nat} (h : ThOK ρ N) (ht : t < thN ρ) : 0 ≤ chV ρ t ∧ chV ρ t ≤ 10007 := mixv h.2.2.1 (h.2.2.2.2 t ht).2.2.2.1 (by split <;> decide)
theorem rtV_bd {ρ : RS} {N m : Nat} {r : Int} (h : ThOK ρ N) (hr : r = -1 ∨ (0 ≤ r ∧ r < thN ρ)) (hm : m < thN ρ) : 0 ≤ rtV ρ r m ∧ rtV ρ r m ≤ 10007 := by
  unfold rtV
  split
  · exact (h.2.2.2.2 m hm).2.2.2
  · exact mixv h.2.2.1 (h.2.2.2.2 r.toNat (by omega)).2.2.2.1 (h.2.2.2.2 m hm).2.2.2.1
theorem powv {q b : Int} (hq : 3 ≤ q ∧ q ≤ 10007) (hb : 0 ≤ b) (n : Nat) : 0 ≤ powF q b n ∧ powF q b n ≤ 10007 := by
  have := powF_bd (q := q) (by omega) hb n; omega
theorem meV_bd {ρ : RS} {N : Nat} (a b : Nat) (h : ThOK ρ N) : 0 ≤ meV ρ a b ∧ meV ρ a b ≤ 10007 := powv h.2.2.1 (powv h.2.2.1 h.2.2.2.1.1 _).1 _
theorem ThOK.ky {ρ : RS} {N t : Nat} (h : ThOK ρ N) (ht : t < thN ρ) : ThOK (kyR ρ t) (N + 1) ∧ kyI ρ t < thN (kyR ρ t) ∧ thN ρ ≤ thN (kyR ρ t) := h.thR (by decide) (by omega) (by omega) (kyV_bd h ht)
theorem ThOK.ch {ρ : RS} {N t : Nat} (h : ThOK ρ N) (ht : t < thN ρ) : ThOK (chR ρ t) (N + 1) ∧ chI ρ t < thN (chR ρ t) ∧ thN ρ ≤ thN (chR ρ t) := h.thR (by decide) (by omega) (by omega) (chV_bd h ht)
theorem ThOK.rt {ρ : RS} {N m : Nat} {r : Int} (h : ThOK ρ N) (hr : r = -1 ∨ (0 ≤ r ∧ r < thN ρ)) (hm : m < thN ρ) : ThOK (rtR ρ r m) (N + 1) ∧ rtI ρ r m < thN (rtR ρ r m) ∧ thN ρ ≤ thN (rtR ρ r m) := h.thR (by decide) (by omega) (by omega) (rtV_bd h hr hm)
theorem meLo_lt {a b n : Nat} (ha : a < n) (hb : b < n) : meLo a b < n ∧ meHi a b < n := by
  unfold meLo meHi; split <;> omega
theorem ThOK.me {ρ : RS} {N a b : Nat} (h : ThOK ρ N) (ha : a < thN ρ) (hb : b < thN ρ) : ThOK (meR ρ a b) (N + 1) ∧ meI ρ a b < thN (meR ρ a b) ∧ thN ρ ≤ thN (meR ρ a b) := by
  have := meLo_lt ha hb
  exact h.thR (by decide) (by omega) (by omega) (meV_bd a b h)
def opR (ρ : RS) (e c : Nat) : RS := ((chR (kyR ρ c) c).setA 18 e ↑(chI (kyR ρ c) c)).setA 22 e (ρ.2 22 e + 1)
theorem r_X9_opened {G : Ge} {ρ : RS} (e c : Nat) (N : Nat) (h : ThOK ρ N) (hN : N < 7999) (he : e < 12) (h18 : ρ.2 18 e = ↑c) (hc : c < thN ρ) : RC G mi_X9_opened [vR ((30, 0)), vI (↑e)] ρ none (opR ρ e c) := by
  intro M hR
  have hS := SameR.rf M
  refine Ct.of pl_X9_opened [some (vR ((30, 0))), some (vI (↑e))] rfl (Nat.le_of_ble_eq_true rfl) ?_
  have h1 := h.ky hc
  have h2 := h1.1.ch (t := c) (by omega)
  refine S_aload_n dX9_opened_0 rfl ?_
  refine S_aload_n dX9_opened_1 rfl ?_
  refine S_getP fl_X9_60 dX9_opened_2 rfl rfl (hR.p 18 rfl) ?_
  refine S_iload_n dX9_opened_5 rfl ?_
  refine R_ald (v := ↑c) e hR dX9_opened_6 rfl rfl (by omega) (show _ < 12 from by omega) h18 ?_
  refine S_callV (mi := mi_X9_opened) [vI (↑c)] ok_X9_keyOf ml_X9_188 dX9_opened_7 rfl (by decide) rfl (by decide) rfl (Nat.le_of_ble_eq_true rfl) rfl (r_X9_keyOf (ρ := ρ) c N h (by omega) (by omega) M hR) ?_
  rintro v' M1 ⟨rfl, hR1, hS1'⟩
  have hS1 := hS.trans hS1'
  refine S_pop dX9_opened_10 ?_
  refine S_aload_n dX9_opened_11 rfl ?_
  refine S_getP fl_X9_60 dX9_opened_12 rfl rfl (hR1.p 18 rfl) ?_
  refine S_iload_n dX9_opened_15 rfl ?_
  refine S_aload_n dX9_opened_16 rfl ?_
  refine S_aload_n dX9_opened_17 rfl ?_
  refine S_getP fl_X9_60 dX9_opened_18 rfl rfl (hR1.p 18 rfl) ?_
  refine S_iload_n dX9_opened_21 rfl ?_
  refine R_ald (v := ↑c) e hR1 dX9_opened_22 rfl rfl (by omega) (show _ < 12 from by omega) ((thR_old_at _ _ _ _ _ _ _ (by omega)).trans h18) ?_
  refine S_callV (mi := mi_X9_opened) [vI (↑c)] ok_X9_chainOf ml_X9_185 dX9_opened_23 rfl (by decide) rfl (by decide) rfl (Nat.le_of_ble_eq_true rfl) rfl (r_X9_chainOf (ρ := (kyR ρ c)) c (N + 1) h1.1 (by omega) (by omega) M1 hR1) ?_
  rintro v' M2 ⟨rfl, hR2, hS2'⟩
  have hS2 := hS1.trans hS2'
  refine R_ast e dX9_opened_26 rfl rfl (by omega) (show _ < 12 from by omega) hR2 hS2 (fun M3 hR3 hS3 => ?_)
  refine S_aload_n dX9_opened_27 rfl ?_
  refine S_getP fl_X9_72 dX9_opened_28 rfl rfl (hR3.p 22 rfl) ?_
  refine S_iload_n dX9_opened_31 rfl ?_
  refine S_dup2 dX9_opened_32 ?_
  refine R_ald (v := ρ.2 22 e) e hR3 dX9_opened_33 rfl rfl (by omega) (show _ < 12 from by omega) ((thR_old_at _ _ _ _ _ _ _ (by omega)).trans (thR_old_at _ _ _ _ _ _ _ (by omega))) ?_
  refine S_iconst dX9_opened_34 ?_
  refine S_iadd dX9_opened_35 ?_
  refine R_ast e dX9_opened_36 rfl rfl (by omega) (show _ < 12 from by omega) hR3 hS3 (fun M4 hR4 hS4 => ?_)
  exact S_vret dX9_opened_37 rfl ⟨rfl, hR4, hS4⟩
