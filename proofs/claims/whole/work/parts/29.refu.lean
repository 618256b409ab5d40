/-! THE REFERENCE: anew, from its first line -/
theorem leR_s {ρ : RS} {e k : Nat} : (leR ρ e).1 k = ρ.1 k := by unfold leR; split <;> rfl
theorem leR_at {ρ : RS} {e k j : Nat} (h : k ≠ 23 ∧ k ≠ 24) : (leR ρ e).2 k j = ρ.2 k j := by
  unfold leR
  split
  · rfl
  · rw [RS.setA_ne (by omega), RS.setA_ne (by omega)]
set_option maxRecDepth 100000 in
theorem an_b {G : Ge} {ρ : RS} {M0 : Mem} (e l r pl n t z N : Nat) (P key : Int) (x3 x4 x5 : Option AVal) (he : e < 12) (hl : l < 300) (h : ThOK ρ N) (hN : N < 7900) (hK : KOK ρ) (hl30 : 0 ≤ ρ.1 30 ∧ ρ.1 30 ≤ 300) (hr : r < thN ρ) (h32 : ρ.2 32 l = P) (hP : -1 ≤ P ∧ P ≤ 10007) (h34 : ρ.2 34 l = ↑pl) (hpl : pl ≤ 12) (h38 : ρ.2 38 l = ↑z) (hz : z < thN ρ) (hwz : ρ.2 9 z ≤ 10000) (h12 : ρ.2 12 e = ↑(n + 1)) (hn : n < 12) (h13 : ρ.2 13 (12 * e) = ↑t) (htl : t < thN ρ) (hwt : ρ.2 9 t ≤ 10000) (ht : 0 ≤ ρ.2 35 l ∧ ρ.2 35 l ≤ 255) (hkey : 0 ≤ key ∧ key ≤ 10007) (lf : Nat) (h23 : ρ.2 23 e = ↑lf) (hlf : lf < 600) (h19 : -1 ≤ ρ.2 19 e ∧ ρ.2 19 e ≤ 10007) (M : Mem) (hR : Rf ρ M) (hS : SameR M0 M) : Sf G mi_X9_anew (fun v' M' => v' = some (vI (byF ρ l key)) ∧ Rf ((anC (leR ρ e) e r pl n t z P).setS 42 0) M' ∧ SameR M0 M') 228 [some (vR ((30, 0))), some (vI (↑e)), some (vI (↑l)), x3, x4, x5, some (vI key), some (vI (↑r))] [] M := by
  have hl8 := h.2.1
  refine S_aload_n dX9_anew_228 rfl ?_
  refine S_getP fl_X9_63 dX9_anew_229 rfl rfl (hR.p 19 rfl) ?_
  refine S_iload_n dX9_anew_232 rfl ?_
  refine R_ald (v := ρ.2 19 e) e hR dX9_anew_233 rfl rfl (by omega) (show _ < 12 from by omega) rfl ?_
  refine S_iconst dX9_anew_234 ?_
  refine S_icmp_eq 271 dX9_anew_235 (by decide) (by omega) (fun c_235 => ?_) (fun c_235 => ?_)
  · have hL : leR ρ e = ρ := by
      unfold leR
      rw [if_pos (by omega)]
    have hRL : Rf (leR ρ e) M := by rw [hL]; exact hR
    rw [← byF_congr (σ := leR ρ e) (leR_at (by decide))]
    have gL : thN (leR ρ e) = thN ρ := thN_congr leR_s
    exact an_c e l r pl n t z N P key x3 x4 x5 he hl (h.congr ⟨leR_s, leR_s, leR_s⟩ (fun k j a1 a2 => leR_at (by omega))) hN (hK.congr (fun k j a1 a2 => leR_at (by omega))) (by rw [leR_s]; exact hl30) (by omega) ((leR_at (by decide)).trans h32) hP ((leR_at (by decide)).trans h34) hpl ((leR_at (by decide)).trans h38) (by omega) (by rw [leR_at (by decide)]; exact hwz) ((leR_at (by decide)).trans h12) hn ((leR_at (by decide)).trans h13) (by omega) (by rw [leR_at (by decide)]; exact hwt) (by rw [leR_at (by decide)]; exact ht) hkey _ hRL hS
  · refine S_aload_n dX9_anew_238 rfl ?_
    refine S_getP fl_X9_78 dX9_anew_239 rfl rfl (hR.p 24 rfl) ?_
    refine S_sipush dX9_anew_242 (by decide) ?_
    refine S_iload_n dX9_anew_245 rfl ?_
    refine S_imul dX9_anew_246 ?_
    refine S_aload_n dX9_anew_247 rfl ?_
    refine S_getP fl_X9_75 dX9_anew_248 rfl rfl (hR.p 23 rfl) ?_
    refine S_iload_n dX9_anew_251 rfl ?_
    refine R_ald (v := ↑lf) e hR dX9_anew_252 rfl rfl (by omega) (show _ < 12 from by omega) (by rw [h23]) ?_
    refine S_iadd dX9_anew_253 ?_
    refine S_aload_n dX9_anew_254 rfl ?_
    refine S_getP fl_X9_63 dX9_anew_255 rfl rfl (hR.p 19 rfl) ?_
    refine S_iload_n dX9_anew_258 rfl ?_
    refine R_ald (v := ρ.2 19 e) e hR dX9_anew_259 rfl rfl (by omega) (show _ < 12 from by omega) rfl ?_
    refine R_ast ((600 * e + lf)) dX9_anew_260 rfl rfl (by omega) (show _ < 7200 from by omega) hR hS (fun M1 hR1 hS1 => ?_)
    refine S_aload_n dX9_anew_261 rfl ?_
    refine S_getP fl_X9_75 dX9_anew_262 rfl rfl (hR1.p 23 rfl) ?_
    refine S_iload_n dX9_anew_265 rfl ?_
    refine S_dup2 dX9_anew_266 ?_
    refine R_ald (v := ↑lf) e hR1 dX9_anew_267 rfl rfl (by omega) (show _ < 12 from by omega) (by rw [RS.setA_ne (Or.inl (by decide)), h23]) ?_
    refine S_iconst dX9_anew_268 ?_
    refine S_iadd dX9_anew_269 ?_
    refine R_ast e dX9_anew_270 rfl rfl (by omega) (show _ < 12 from by omega) hR1 hS1 (fun M2 hR2 hS2 => ?_)
    have hL : leR ρ e = ((ρ.setA 24 ((600 * e + lf)) (ρ.2 19 e)).setA 23 e ((↑lf) + 1)) := by
      unfold leR
      rw [if_neg (by omega)]; rw [h23, Int.toNat_natCast]
    have hRL : Rf (leR ρ e) M2 := by rw [hL]; exact hR2
    rw [← byF_congr (σ := leR ρ e) (leR_at (by decide))]
    have gL : thN (leR ρ e) = thN ρ := thN_congr leR_s
    exact an_c e l r pl n t z N P key x3 x4 x5 he hl (h.congr ⟨leR_s, leR_s, leR_s⟩ (fun k j a1 a2 => leR_at (by omega))) hN (hK.congr (fun k j a1 a2 => leR_at (by omega))) (by rw [leR_s]; exact hl30) (by omega) ((leR_at (by decide)).trans h32) hP ((leR_at (by decide)).trans h34) hpl ((leR_at (by decide)).trans h38) (by omega) (by rw [leR_at (by decide)]; exact hwz) ((leR_at (by decide)).trans h12) hn ((leR_at (by decide)).trans h13) (by omega) (by rw [leR_at (by decide)]; exact hwt) (by rw [leR_at (by decide)]; exact ht) hkey _ hRL hS2
set_option maxRecDepth 100000 in
theorem an_a {G : Ge} {ρ : RS} {M0 : Mem} (e l r0 s pl n t z N : Nat) (P key : Int) (x3 x4 x5 x7 : Option AVal) (he : e < 12) (hl : l < 300) (h : ThOK ρ N) (hN : N < 7898) (hK : KOK ρ) (hl30 : 0 ≤ ρ.1 30 ∧ ρ.1 30 ≤ 300) (h16 : ρ.2 16 e = ↑r0) (hr : r0 < thN ρ) (h15 : ρ.2 15 e = ↑s) (hs : s < thN ρ) (hws : ρ.2 9 s ≤ 10000) (h32 : ρ.2 32 l = P) (hP : -1 ≤ P ∧ P ≤ 10007) (h34 : ρ.2 34 l = ↑pl) (hpl : pl ≤ 12) (h38 : ρ.2 38 l = ↑z) (hz : z < thN ρ) (hwz : ρ.2 9 z ≤ 10000) (h12 : ρ.2 12 e = ↑(n + 1)) (hn : n < 12) (h13 : ρ.2 13 (12 * e) = ↑t) (htl : t < thN ρ) (hwt : ρ.2 9 t ≤ 10000) (ht : 0 ≤ ρ.2 35 l ∧ ρ.2 35 l ≤ 255) (hkey : 0 ≤ key ∧ key ≤ 10007) (lf : Nat) (h23 : ρ.2 23 e = ↑lf) (hlf : lf < 600) (h19 : -1 ≤ ρ.2 19 e ∧ ρ.2 19 e ≤ 10007) (M : Mem) (hR : Rf ρ M) (hS : SameR M0 M) : Sf G mi_X9_anew (fun v' M' => v' = some (vI (byF ρ l key)) ∧ Rf ((anC (leR (rmR ρ ↑r0 s z) e) e (rmI ρ ↑r0 s z) pl n t z P).setS 42 0) M' ∧ SameR M0 M') 200 [some (vR ((30, 0))), some (vI (↑e)), some (vI (↑l)), x3, x4, x5, some (vI key), x7] [] M := by
  have hl8 := h.2.1
  refine S_aload_n dX9_anew_200 rfl ?_
  refine S_aload_n dX9_anew_201 rfl ?_
  refine S_getP fl_X9_54 dX9_anew_202 rfl rfl (hR.p 16 rfl) ?_
  refine S_iload_n dX9_anew_205 rfl ?_
  refine R_ald (v := ↑r0) e hR dX9_anew_206 rfl rfl (by omega) (show _ < 12 from by omega) (by rw [h16]) ?_
  refine S_aload_n dX9_anew_207 rfl ?_
  refine S_aload_n dX9_anew_208 rfl ?_
  refine S_getP fl_X9_51 dX9_anew_209 rfl rfl (hR.p 15 rfl) ?_
  refine S_iload_n dX9_anew_212 rfl ?_
  refine R_ald (v := ↑s) e hR dX9_anew_213 rfl rfl (by omega) (show _ < 12 from by omega) (by rw [h15]) ?_
  refine S_aload_n dX9_anew_214 rfl ?_
  refine S_getP fl_X9_117 dX9_anew_215 rfl rfl (hR.p 38 rfl) ?_
  refine S_iload_n dX9_anew_218 rfl ?_
  refine R_ald (v := ↑z) l hR dX9_anew_219 rfl rfl (by omega) (show _ < 300 from by omega) (by rw [h38]) ?_
  refine S_callV (mi := mi_X9_anew) [vI (↑s), vI (↑z)] ok_X9_meeting ml_X9_179 dX9_anew_220 rfl (by decide) rfl (by decide) rfl (Nat.le_of_ble_eq_true rfl) rfl (r_X9_meeting (ρ := ρ) s z (N) h (by omega) (by omega) (by omega) hws hwz M hR) ?_
  rintro v' M2 ⟨rfl, hR2, hS2'⟩
  have hS2 := hS.trans hS2'
  obtain ⟨ρ3, e3⟩ : ∃ x : RS, x = (meR ρ s z) := ⟨_, rfl⟩
  rw [← e3] at hR2
  obtain ⟨m1, em1⟩ : ∃ x : Nat, x = meI ρ s z := ⟨_, rfl⟩
  rw [← em1]
  have q4 : ThOK (meR ρ s z) (N + 1) ∧ meI ρ s z < thN (meR ρ s z) ∧ thN ρ ≤ thN (meR ρ s z) := h.me (by omega) (by omega)
  rw [← e3, ← em1] at q4
  obtain ⟨hT4, hi4, g4⟩ := q4
  refine S_callV (mi := mi_X9_anew) [vI (↑r0), vI (↑m1)] ok_X9_rootOf ml_X9_182 dX9_anew_223 rfl (by decide) rfl (by decide) rfl (Nat.le_of_ble_eq_true rfl) rfl (r_X9_rootOf (ρ := ρ3) (↑r0) m1 (N + 1) hT4 (by omega) (by omega) (by omega) M2 hR2) ?_
  rintro v' M6 ⟨rfl, hR6, hS6'⟩
  have hS6 := hS2.trans hS6'
  obtain ⟨ρ7, e7⟩ : ∃ x : RS, x = (rtR ρ3 (↑r0) m1) := ⟨_, rfl⟩
  rw [← e7] at hR6
  obtain ⟨r5, er5⟩ : ∃ x : Nat, x = rtI ρ3 (↑r0) m1 := ⟨_, rfl⟩
  rw [← er5]
  have q8 : ThOK (rtR ρ3 (↑r0) m1) (N + 2) ∧ rtI ρ3 (↑r0) m1 < thN (rtR ρ3 (↑r0) m1) ∧ thN ρ3 ≤ thN (rtR ρ3 (↑r0) m1) := hT4.rt (by omega) (by omega)
  rw [← e7, ← er5] at q8
  obtain ⟨hT8, hi8, g8⟩ := q8
  refine S_istore dX9_anew_226 (by decide) ?_
  have hA : rmR ρ ↑r0 s z = ρ7 := by
    subst_vars
    rfl
  have hI : rmI ρ ↑r0 s z = r5 := by
    subst_vars
    rfl
  rw [hA, hI, ← byF_congr (σ := ρ7) ((by rw [e7, thR_old_at _ _ _ _ _ _ _ (Or.inr (by decide)), e3, thR_old_at _ _ _ _ _ _ _ (Or.inr (by decide))]) : ρ7.2 35 l = ρ.2 35 l)]
  exact an_b e l r5 pl n t z (N + 2) P key x3 x4 x5 he hl hT8 (by omega) (hK.congr (fun k j a1 a2 => (by rw [e7, thR_old_at _ _ _ _ _ _ _ (Or.inr (by omega)), e3, thR_old_at _ _ _ _ _ _ _ (Or.inr (by omega))]))) (by rw [e7, thR_s _ _ _ _ _ _ (by decide), e3, thR_s _ _ _ _ _ _ (by decide)]; exact hl30) (by omega) (by rw [e7, thR_old_at _ _ _ _ _ _ _ (Or.inr (by decide)), e3, thR_old_at _ _ _ _ _ _ _ (Or.inr (by decide))]; exact h32) hP (by rw [e7, thR_old_at _ _ _ _ _ _ _ (Or.inr (by decide)), e3, thR_old_at _ _ _ _ _ _ _ (Or.inr (by decide))]; exact h34) hpl (by rw [e7, thR_old_at _ _ _ _ _ _ _ (Or.inr (by decide)), e3, thR_old_at _ _ _ _ _ _ _ (Or.inr (by decide)), h38]) (by omega) (by rw [e7, thR_old_at _ _ _ _ _ _ _ (Or.inl (by omega)), e3, thR_old_at _ _ _ _ _ _ _ (Or.inl (by omega))]; exact hwz) (by rw [e7, thR_old_at _ _ _ _ _ _ _ (Or.inr (by decide)), e3, thR_old_at _ _ _ _ _ _ _ (Or.inr (by decide))]; exact h12) hn (by rw [e7, thR_old_at _ _ _ _ _ _ _ (Or.inr (by decide)), e3, thR_old_at _ _ _ _ _ _ _ (Or.inr (by decide))]; exact h13) (by omega) (by rw [e7, thR_old_at _ _ _ _ _ _ _ (Or.inl (by omega)), e3, thR_old_at _ _ _ _ _ _ _ (Or.inl (by omega))]; exact hwt) (by rw [e7, thR_old_at _ _ _ _ _ _ _ (Or.inr (by decide)), e3, thR_old_at _ _ _ _ _ _ _ (Or.inr (by decide))]; exact ht) hkey lf (by rw [e7, thR_old_at _ _ _ _ _ _ _ (Or.inr (by decide)), e3, thR_old_at _ _ _ _ _ _ _ (Or.inr (by decide))]; exact h23) hlf (by rw [e7, thR_old_at _ _ _ _ _ _ _ (Or.inr (by decide)), e3, thR_old_at _ _ _ _ _ _ _ (Or.inr (by decide))]; exact h19) _ hR6 hS6
