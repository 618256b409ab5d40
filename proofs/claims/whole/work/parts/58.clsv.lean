/-! THE CLASS: meetings of an end; what holds after keys were skipped -/
theorem meR_sym (ρ : RS) (a b : Nat) : meR ρ a b = meR ρ b a ∧ meI ρ a b = meI ρ b a := by
  have h := me_sym a b
  have hv : meV ρ a b = meV ρ b a := by unfold meV; rw [h.1, h.2]
  constructor
  · show thR ρ 5 ↑(meLo a b) ↑(meHi a b) (meV ρ a b) = thR ρ 5 ↑(meLo b a) ↑(meHi b a) (meV ρ b a)
    rw [h.1, h.2, hv]
  · show thI ρ 5 ↑(meLo a b) ↑(meHi a b) = thI ρ 5 ↑(meLo b a) ↑(meHi b a)
    rw [h.1, h.2]
def SkT (par : Nat → Bool) (ρ : RS) (e N p : Nat) : Prop := SkOK ρ e N p ∧ TI par ρ N ∧ ∃ c : Nat, ρ.2 18 e = ↑c ∧ c < thN ρ ∧ ρ.2 6 c = 1
theorem SkT.st1 {par : Nat → Bool} {ρ : RS} {e N p : Nat} (h : SkT par ρ e N p) (he : e < 12) (hN : N < 7980) (hp : p < 500) : ∃ c n : Nat, ρ.2 18 e = ↑c ∧ ρ.2 25 e = ↑n ∧ SkT par (skS ρ e c n) e (N + 2) (p + 1) ∧ Gx ρ (skS ρ e c n) := by
  obtain ⟨hO, hTI, c, hc, hcl, hck⟩ := h
  obtain ⟨n, hn12, hn⟩ := hO.2.1.1 e he
  have h1 := (skS_ok he (by omega) (by omega) hO hc hcl hn hn12).1
  have hg := skS_gx he (by omega) (by omega) hO hc hcl hn hn12
  have k1 := hTI.ky hcl
  have k2 : TI par (keepR (kyR ρ c) e n (ρ.2 22 e) ↑(kyI ρ c)) (N + 1) := k1.1.cg ⟨keepR_s _ _ _ _ _ _, keepR_s _ _ _ _ _ _, keepR_s _ _ _ _ _ _⟩ (fun k j a b => keepR_at _ _ _ _ _ _ _ (by omega))
  have hn2 : thN (keepR (kyR ρ c) e n (ρ.2 22 e) ↑(kyI ρ c)) = thN (kyR ρ c) := thN_congr (keepR_s _ _ _ _ _ _)
  have k3 := k2.ch (c := c) (by omega)
  refine ⟨c, n, hc, hn, ⟨h1, k3.1.cg ⟨rfl, rfl, rfl⟩ (fun k j a b => ?_), chI (keepR (kyR ρ c) e n (ρ.2 22 e) ↑(kyI ρ c)) c, ?_, ?_, ?_⟩, hg⟩
  · unfold skS
    rw [RS.setA_ne (by omega), RS.setA_ne (by omega)]
  · unfold skS
    rw [RS.setA_ne (by omega), RS.setA_eq]
  · exact k3.2.1
  · unfold skS
    rw [RS.setA_ne (by omega), RS.setA_ne (by omega)]
    exact th_kind (by decide)
theorem SkT.many {par : Nat → Bool} {e : Nat} (he : e < 12) : ∀ (d : Nat) {ρ : RS} {N p : Nat}, N + 2 * d < 7980 → p + d ≤ 500 → SkT par ρ e N p → SkT par (skF ρ e d) e (N + 2 * d) (p + d) ∧ Gx ρ (skF ρ e d) := by
  intro d
  induction d with
  | zero => intro ρ N p _ _ h; exact ⟨h, Gx.rf ρ⟩
  | succ d ih =>
    intro ρ N p hN hp h
    obtain ⟨c, n, hc, hn, h1, hg⟩ := h.st1 he (by omega) (by omega)
    have h2 := ih (by omega) (by omega) h1
    have e1 : skF ρ e (d + 1) = skF (skS ρ e c n) e d := by
      show skF (skS ρ e (ρ.2 18 e).toNat (ρ.2 25 e).toNat) e d = _
      rw [hc, hn, Int.toNat_natCast, Int.toNat_natCast]
    rw [e1, show N + 2 * (d + 1) = N + 2 + 2 * d from by omega, show p + (d + 1) = p + 1 + d from by omega]
    exact ⟨h2.1, hg.trans h2.2⟩
theorem TI.op {par : Nat → Bool} {ρ : RS} {e N c : Nat} (h : TI par ρ N) (hc : c < thN ρ) : TI par (opR ρ e c) (N + 2) ∧ Gx ρ (opR ρ e c) := by
  have k1 := h.ky hc
  have k2 := k1.1.ch (c := c) (by omega)
  exact ⟨k2.1.cg ⟨rfl, rfl, rfl⟩ (fun k j a b => by unfold opR; rw [RS.setA_ne (by omega), RS.setA_ne (by omega)]), (opR_ok h.1 hc).2.1⟩
set_option maxRecDepth 100000 in
theorem c_meetingAtE {G : Ge} {M : Mem} {Y : (Nat → Bool) × (Nat → Bool)} {ρ : RS} (hCs : Cs Y ρ M) (N : Nat) (hTI : TI Y.2 ρ N) (hNb : N < 7990) (e s z : Nat) (he : (e : Int) < 2 * ρ.1 4) (hp : 0 ≤ ρ.1 4 ∧ ρ.1 4 ≤ 6) (hst : Y.1 e = true) (h15 : ρ.2 15 e = ↑s) (hs : s < thN ρ) (hz : z < thN ρ) (heo : e % 2 = 0) (hps : Y.2 s = false) (hpz : Y.2 z = true) (hks : ρ.2 6 s = 3) (hkz : ρ.2 6 z = 3) (hRm : Rm 2 8 M) : Ct G mi_X8_meetingAt [vR ((1, 0)), vR ((7, e)), vR ((18, z))] M (CP Y (meR ρ s z) 2 8 (some (vR (18, meI ρ s z))) M) := by
  refine Ct.of pl_X8_meetingAt [some (vR ((1, 0))), some (vR ((7, e))), some (vR ((18, z)))] rfl (Nat.le_of_ble_eq_true rfl) ?_
  obtain ⟨sc, kn, hS, hCl⟩ := hCs
  have hF0 : Fr CLs M M := Fr.rf CLs M
  have hB0 : Bg 0 0 M M := Bg.rf M
  obtain ⟨hA, hB, hC, hD, hE, hN, hG, hH, hI, hJ, hK, hL⟩ := id hCl
  refine S_aload_n dX8_meetingAt_0 rfl ?_
  refine S_getI (v := ↑e) fl_X8_178 dX8_meetingAt_1 rfl rfl (by rw [(show M.I (7, e) 0 = ↑e from congrFun (hE.1 e (by omega)).2.1 0)]) ?_
  refine S_iconst dX8_meetingAt_4 ?_
  refine S_irem dX8_meetingAt_5 (by omega) (by omega) ?_
  rw [show Int.tmod (↑e) 2 = (↑(e % 2) : Int) from rfl]
  refine S_if_ne 24 dX8_meetingAt_6 (by decide) (by omega) (fun c_6 => absurd c_6 (by omega)) (fun c_6 => ?_)
  refine S_aload_n dX8_meetingAt_9 rfl ?_
  refine S_getP (o := some (3, 0)) fl_X8_10 dX8_meetingAt_10 rfl rfl (by rw [(show M.P (1, 0) 1 = some (3, 0) from congrFun hA.2.2 1)]) ?_
  refine S_aload_n dX8_meetingAt_13 rfl ?_
  refine S_getP (o := some (18, s)) fl_X8_115 dX8_meetingAt_14 rfl rfl (by rw [(show M.P (7, e) 4 = some (18, s) from (congrFun (hE.1 e (by omega)).2.2 4).trans ((if_pos hst).trans (qx_of h15)))]) ?_
  refine S_aload_n dX8_meetingAt_17 rfl ?_
  refine S_callV (mi := mi_X8_meetingAt) [vR ((18, s)), vR ((18, z))] ok_X5_meetingOf ml_X8_107 dX8_meetingAt_18 rfl (by decide) rfl (by decide) rfl (Nat.le_of_ble_eq_true rfl) rfl ((by have h := c_meetingOf (G := G) (show Cs Y ρ M from ⟨sc, kn, hS, hCl⟩) N hTI hNb s z (by omega) (by omega) hps hpz hks hkz (hRm.sub hB0 (by omega) (by omega)); exact h)) ?_
  rintro v' M1 ⟨rfl, hCs1, hF1', hB1'⟩
  obtain ⟨ρ2, e2⟩ : ∃ z9 : RS, z9 = (meR ρ s z) := ⟨_, rfl⟩
  rw [← e2] at hCs1
  obtain ⟨sc, kn, hS2, hCl2⟩ := hCs1
  have hF2 : Fr CLs M M1 := hF0.trans hF1'
  have hB2 : Bg 2 8 M M1 := (hB0.trans hB1').le (by omega) (by omega)
  obtain ⟨hA, hB, hC, hD, hE, hN, hG, hH, hI, hJ, hK, hL⟩ := id hCl2
  refine S_goto 36 dX8_meetingAt_21 (by decide) ?_
  exact S_aret dX8_meetingAt_36 rfl rfl (by subst_vars; exact ⟨rfl, ⟨sc, kn, hS2, hCl2⟩, hF2, hB2.le (by omega) (by omega)⟩)
set_option maxRecDepth 100000 in
theorem c_meetingAtO {G : Ge} {M : Mem} {Y : (Nat → Bool) × (Nat → Bool)} {ρ : RS} (hCs : Cs Y ρ M) (N : Nat) (hTI : TI Y.2 ρ N) (hNb : N < 7990) (e s z : Nat) (he : (e : Int) < 2 * ρ.1 4) (hp : 0 ≤ ρ.1 4 ∧ ρ.1 4 ≤ 6) (hst : Y.1 e = true) (h15 : ρ.2 15 e = ↑s) (hs : s < thN ρ) (hz : z < thN ρ) (heo : e % 2 = 1) (hps : Y.2 s = true) (hpz : Y.2 z = false) (hks : ρ.2 6 s = 3) (hkz : ρ.2 6 z = 3) (hRm : Rm 2 8 M) : Ct G mi_X8_meetingAt [vR ((1, 0)), vR ((7, e)), vR ((18, z))] M (CP Y (meR ρ s z) 2 8 (some (vR (18, meI ρ s z))) M) := by
  refine Ct.of pl_X8_meetingAt [some (vR ((1, 0))), some (vR ((7, e))), some (vR ((18, z)))] rfl (Nat.le_of_ble_eq_true rfl) ?_
  obtain ⟨sc, kn, hS, hCl⟩ := hCs
  have hF0 : Fr CLs M M := Fr.rf CLs M
  have hB0 : Bg 0 0 M M := Bg.rf M
  obtain ⟨hA, hB, hC, hD, hE, hN, hG, hH, hI, hJ, hK, hL⟩ := id hCl
  refine S_aload_n dX8_meetingAt_0 rfl ?_
  refine S_getI (v := ↑e) fl_X8_178 dX8_meetingAt_1 rfl rfl (by rw [(show M.I (7, e) 0 = ↑e from congrFun (hE.1 e (by omega)).2.1 0)]) ?_
  refine S_iconst dX8_meetingAt_4 ?_
  refine S_irem dX8_meetingAt_5 (by omega) (by omega) ?_
  rw [show Int.tmod (↑e) 2 = (↑(e % 2) : Int) from rfl]
  refine S_if_ne 24 dX8_meetingAt_6 (by decide) (by omega) (fun c_6 => ?_) (fun c_6 => absurd c_6 (by omega))
  refine S_aload_n dX8_meetingAt_24 rfl ?_
  refine S_getP (o := some (3, 0)) fl_X8_10 dX8_meetingAt_25 rfl rfl (by rw [(show M.P (1, 0) 1 = some (3, 0) from congrFun hA.2.2 1)]) ?_
  refine S_aload_n dX8_meetingAt_28 rfl ?_
  refine S_aload_n dX8_meetingAt_29 rfl ?_
  refine S_getP (o := some (18, s)) fl_X8_115 dX8_meetingAt_30 rfl rfl (by rw [(show M.P (7, e) 4 = some (18, s) from (congrFun (hE.1 e (by omega)).2.2 4).trans ((if_pos hst).trans (qx_of h15)))]) ?_
  refine S_callV (mi := mi_X8_meetingAt) [vR ((18, z)), vR ((18, s))] ok_X5_meetingOf ml_X8_107 dX8_meetingAt_33 rfl (by decide) rfl (by decide) rfl (Nat.le_of_ble_eq_true rfl) rfl ((by have h := c_meetingOf (G := G) (show Cs Y ρ M from ⟨sc, kn, hS, hCl⟩) N hTI hNb z s (by omega) (by omega) hpz hps hkz hks (hRm.sub hB0 (by omega) (by omega)); rw [(meR_sym ρ z s).1, (meR_sym ρ z s).2] at h; exact h)) ?_
  rintro v' M1 ⟨rfl, hCs1, hF1', hB1'⟩
  obtain ⟨ρ2, e2⟩ : ∃ z9 : RS, z9 = (meR ρ s z) := ⟨_, rfl⟩
  rw [← e2] at hCs1
  obtain ⟨sc, kn, hS2, hCl2⟩ := hCs1
  have hF2 : Fr CLs M M1 := hF0.trans hF1'
  have hB2 : Bg 2 8 M M1 := (hB0.trans hB1').le (by omega) (by omega)
  obtain ⟨hA, hB, hC, hD, hE, hN, hG, hH, hI, hJ, hK, hL⟩ := id hCl2
  exact S_aret dX8_meetingAt_36 rfl rfl (by subst_vars; exact ⟨rfl, ⟨sc, kn, hS2, hCl2⟩, hF2, hB2.le (by omega) (by omega)⟩)
theorem c_meetingAt {G : Ge} {M : Mem} {Y : (Nat → Bool) × (Nat → Bool)} {ρ : RS} (hCs : Cs Y ρ M) (N : Nat) (hTI : TI Y.2 ρ N) (hNb : N < 7990) (e s z : Nat) (he : (e : Int) < 2 * ρ.1 4) (hp : 0 ≤ ρ.1 4 ∧ ρ.1 4 ≤ 6) (hst : Y.1 e = true) (h15 : ρ.2 15 e = ↑s) (hs : s < thN ρ) (hz : z < thN ρ) (hps : Y.2 s = decide (e % 2 = 1)) (hpz : Y.2 z = !decide (e % 2 = 1)) (hks : ρ.2 6 s = 3) (hkz : ρ.2 6 z = 3) (hRm : Rm 2 8 M) : Ct G mi_X8_meetingAt [vR (1, 0), vR (7, e), vR (18, z)] M (CP Y (meR ρ s z) 2 8 (some (vR (18, meI ρ s z))) M) := by
  by_cases h : e % 2 = 1
  · rw [decide_eq_true h] at hps hpz
    exact c_meetingAtO hCs N hTI hNb e s z he hp hst h15 hs hz h hps hpz hks hkz hRm
  · rw [decide_eq_false h] at hps hpz
    exact c_meetingAtE hCs N hTI hNb e s z he hp hst h15 hs hz (by omega) hps hpz hks hkz hRm
