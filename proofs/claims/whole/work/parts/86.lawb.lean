/-! THE LAW: its calls -/
abbrev miL (nm : String) : Mi := (⟨RL, nm, "([I)Z"⟩, code, maxLocals, ret, 22)
theorem law_prime {nm : String} {G : Ge} {Q : Option AVal → Mem → Prop} {M : Mem} {Y : (Nat → Bool) × (Nat → Bool)} {ρ : RS} {k i : Nat} (hk : k < 512) (h : LI k M Y ρ) (hRm : Rm 136 736 M) (hi : i + 3 < gN G ∧ gN G ≤ 2048) (kk : ∀ (Y' : (Nat → Bool) × (Nat → Bool)) (ρ' : RS) (M' : Mem), LI (k + 1) M' Y' ρ' → Bg 136 736 M M' → Sf G (miL nm) Q 809 [some (vR (40, 0)), some (vR (1, 0)), some (vR (30, 0)), some (vI ↑i)] [] M') : Sf G (miL nm) Q 140 [some (vR (40, 0)), some (vR (1, 0)), some (vR (30, 0)), some (vI ↑i)] [] M := by
  obtain ⟨hCs, hR, hIv, hQn⟩ := h
  obtain ⟨hN14, h23⟩ := hQn.lim hIv
  have hN : thN ρ < 7800 := by omega
  have hlfx : ∀ e : Nat, e < 12 → ρ.2 23 e < 300 := fun e he => by have := h23 e he; omega
  obtain ⟨sc, kn, hS, hCl⟩ := id hCs
  obtain ⟨⟨hp, hl, hm, hli, h44⟩, ⟨hTI, hSh⟩, ⟨hRo, hRp⟩, ⟨hEd, hOw, hYs, hSt⟩, hEn, hLf, ⟨hKo, hKy, hTs, hTl⟩, ⟨hLt, hLp⟩, hTr, hFe⟩ := id hIv
  refine S_aload_n dL_law_140 rfl ?_
  refine S_aload_n dL_law_141 rfl ?_
  refine S_iload_n dL_law_142 rfl ?_
  refine S_iconst dL_law_143 ?_
  refine S_iadd dL_law_144 ?_
  refine S_sld (i + 1) dL_law_145 (by omega) (by omega) rfl ?_
  refine S_aload_n dL_law_146 rfl ?_
  refine S_iload_n dL_law_147 rfl ?_
  refine S_iconst dL_law_148 ?_
  refine S_iadd dL_law_149 ?_
  refine S_sld (i + 2) dL_law_150 (by omega) (by omega) rfl ?_
  refine S_callV (mi := (miL nm)) [vI ((gX G (i + 1)).toInt), vI ((gX G (i + 2)).toInt)] ok_X8_prime ml_L_13 dL_law_151 rfl (by decide) rfl (Nat.le_of_ble_eq_true rfl) rfl (Nat.le_of_ble_eq_true rfl) rfl (c_prime hCs ((gX G (i + 1)).toInt) ((gX G (i + 2)).toInt) (i32 _) (i32 _) hp) ?_
  rintro v' M1 ⟨rfl, hCs1, hF1, hB1⟩
  refine S_aload_n dL_law_154 rfl ?_
  refine S_aload_n dL_law_155 rfl ?_
  refine S_iload_n dL_law_156 rfl ?_
  refine S_iconst dL_law_157 ?_
  refine S_iadd dL_law_158 ?_
  refine S_sld (i + 1) dL_law_159 (by omega) (by omega) rfl ?_
  refine S_aload_n dL_law_160 rfl ?_
  refine S_iload_n dL_law_161 rfl ?_
  refine S_iconst dL_law_162 ?_
  refine S_iadd dL_law_163 ?_
  refine S_sld (i + 2) dL_law_164 (by omega) (by omega) rfl ?_
  refine S_callV (mi := (miL nm)) [vI ((gX G (i + 1)).toInt), vI ((gX G (i + 2)).toInt)] ok_X9_prime ml_L_17 dL_law_165 rfl (by decide) rfl (Nat.le_of_ble_eq_true rfl) rfl (Nat.le_of_ble_eq_true rfl) rfl (r_X9_prime ((gX G (i + 1)).toInt) ((gX G (i + 2)).toInt) (i32 _) (i32 _) hp M1 (hR.frC hF1)) ?_
  rintro v' M2 ⟨rfl, hR2, hS2⟩
  refine S_icmp_same 809 dL_law_168 (by decide) ?_
  exact kk Y (primeF ρ ((gX G (i + 1)).toInt) ((gX G (i + 2)).toInt)).2 M2 ⟨hCs1.frR hS2.fr, hR2, (hIv.prime ((gX G (i + 1)).toInt) ((gX G (i + 2)).toInt)), (hQn.prime hIv ((gX G (i + 1)).toInt) ((gX G (i + 2)).toInt))⟩ ((hB1.trans hS2.bg).le (by decide) (by decide))
theorem law_limits {nm : String} {G : Ge} {Q : Option AVal → Mem → Prop} {M : Mem} {Y : (Nat → Bool) × (Nat → Bool)} {ρ : RS} {k i : Nat} (hk : k < 512) (h : LI k M Y ρ) (hRm : Rm 136 736 M) (hi : i + 3 < gN G ∧ gN G ≤ 2048) (kk : ∀ (Y' : (Nat → Bool) × (Nat → Bool)) (ρ' : RS) (M' : Mem), LI (k + 1) M' Y' ρ' → Bg 136 736 M M' → Sf G (miL nm) Q 809 [some (vR (40, 0)), some (vR (1, 0)), some (vR (30, 0)), some (vI ↑i)] [] M') : Sf G (miL nm) Q 173 [some (vR (40, 0)), some (vR (1, 0)), some (vR (30, 0)), some (vI ↑i)] [] M := by
  obtain ⟨hCs, hR, hIv, hQn⟩ := h
  obtain ⟨hN14, h23⟩ := hQn.lim hIv
  have hN : thN ρ < 7800 := by omega
  have hlfx : ∀ e : Nat, e < 12 → ρ.2 23 e < 300 := fun e he => by have := h23 e he; omega
  obtain ⟨sc, kn, hS, hCl⟩ := id hCs
  obtain ⟨⟨hp, hl, hm, hli, h44⟩, ⟨hTI, hSh⟩, ⟨hRo, hRp⟩, ⟨hEd, hOw, hYs, hSt⟩, hEn, hLf, ⟨hKo, hKy, hTs, hTl⟩, ⟨hLt, hLp⟩, hTr, hFe⟩ := id hIv
  refine S_aload_n dL_law_173 rfl ?_
  refine S_aload_n dL_law_174 rfl ?_
  refine S_iload_n dL_law_175 rfl ?_
  refine S_iconst dL_law_176 ?_
  refine S_iadd dL_law_177 ?_
  refine S_sld (i + 1) dL_law_178 (by omega) (by omega) rfl ?_
  refine S_aload_n dL_law_179 rfl ?_
  refine S_iload_n dL_law_180 rfl ?_
  refine S_iconst dL_law_181 ?_
  refine S_iadd dL_law_182 ?_
  refine S_sld (i + 2) dL_law_183 (by omega) (by omega) rfl ?_
  refine S_callV (mi := (miL nm)) [vI ((gX G (i + 1)).toInt), vI ((gX G (i + 2)).toInt)] ok_X8_limits ml_L_18 dL_law_184 rfl (by decide) rfl (Nat.le_of_ble_eq_true rfl) rfl (Nat.le_of_ble_eq_true rfl) rfl (c_limits hCs ((gX G (i + 1)).toInt) ((gX G (i + 2)).toInt) (i32 _) (i32 _) hp hl hKo hTs (fun e h1 h2 => (hFe e h2 h1).2.2.2.2.2)) ?_
  rintro v' M1 ⟨rfl, hCs1, hF1, hB1⟩
  refine S_aload_n dL_law_187 rfl ?_
  refine S_aload_n dL_law_188 rfl ?_
  refine S_iload_n dL_law_189 rfl ?_
  refine S_iconst dL_law_190 ?_
  refine S_iadd dL_law_191 ?_
  refine S_sld (i + 1) dL_law_192 (by omega) (by omega) rfl ?_
  refine S_aload_n dL_law_193 rfl ?_
  refine S_iload_n dL_law_194 rfl ?_
  refine S_iconst dL_law_195 ?_
  refine S_iadd dL_law_196 ?_
  refine S_sld (i + 2) dL_law_197 (by omega) (by omega) rfl ?_
  refine S_callV (mi := (miL nm)) [vI ((gX G (i + 1)).toInt), vI ((gX G (i + 2)).toInt)] ok_X9_limits ml_L_21 dL_law_198 rfl (by decide) rfl (Nat.le_of_ble_eq_true rfl) rfl (Nat.le_of_ble_eq_true rfl) rfl (r_X9_limits ((gX G (i + 1)).toInt) ((gX G (i + 2)).toInt) (i32 _) (i32 _) hKo hl M1 (hR.frC hF1)) ?_
  rintro v' M2 ⟨rfl, hR2, hS2⟩
  refine S_icmp_same 809 dL_law_201 (by decide) ?_
  exact kk Y (limitsF ρ ((gX G (i + 1)).toInt) ((gX G (i + 2)).toInt)).2 M2 ⟨hCs1.frR hS2.fr, hR2, (hIv.limits ((gX G (i + 1)).toInt) ((gX G (i + 2)).toInt)), (hQn.limits hIv ((gX G (i + 1)).toInt) ((gX G (i + 2)).toInt))⟩ ((hB1.trans hS2.bg).le (by decide) (by decide))
theorem law_pair {nm : String} {G : Ge} {Q : Option AVal → Mem → Prop} {M : Mem} {Y : (Nat → Bool) × (Nat → Bool)} {ρ : RS} {k i : Nat} (hk : k < 512) (h : LI k M Y ρ) (hRm : Rm 136 736 M) (hi : i + 3 < gN G ∧ gN G ≤ 2048) (kk : ∀ (Y' : (Nat → Bool) × (Nat → Bool)) (ρ' : RS) (M' : Mem), LI (k + 1) M' Y' ρ' → Bg 136 736 M M' → Sf G (miL nm) Q 809 [some (vR (40, 0)), some (vR (1, 0)), some (vR (30, 0)), some (vI ↑i)] [] M') : Sf G (miL nm) Q 206 [some (vR (40, 0)), some (vR (1, 0)), some (vR (30, 0)), some (vI ↑i)] [] M := by
  obtain ⟨hCs, hR, hIv, hQn⟩ := h
  obtain ⟨hN14, h23⟩ := hQn.lim hIv
  have hN : thN ρ < 7800 := by omega
  have hlfx : ∀ e : Nat, e < 12 → ρ.2 23 e < 300 := fun e he => by have := h23 e he; omega
  obtain ⟨sc, kn, hS, hCl⟩ := id hCs
  obtain ⟨⟨hp, hl, hm, hli, h44⟩, ⟨hTI, hSh⟩, ⟨hRo, hRp⟩, ⟨hEd, hOw, hYs, hSt⟩, hEn, hLf, ⟨hKo, hKy, hTs, hTl⟩, ⟨hLt, hLp⟩, hTr, hFe⟩ := id hIv
  refine S_aload_n dL_law_206 rfl ?_
  refine S_callV (mi := (miL nm)) [] ok_X8_pair ml_L_22 dL_law_207 rfl (by decide) rfl (Nat.le_of_ble_eq_true rfl) rfl (Nat.le_of_ble_eq_true rfl) rfl (c_pair hCs hIv (hRm.sub (Bg.rf M) (by decide) (by decide))) ?_
  rintro v' M1 ⟨rfl, hCs1, hF1, hB1⟩
  refine S_aload_n dL_law_210 rfl ?_
  refine S_callV (mi := (miL nm)) [] ok_X9_pair ml_L_26 dL_law_211 rfl (by decide) rfl (Nat.le_of_ble_eq_true rfl) rfl (Nat.le_of_ble_eq_true rfl) rfl (r_X9_pair hp M1 (hR.frC hF1)) ?_
  rintro v' M2 ⟨rfl, hR2, hS2⟩
  refine S_icmp_same 809 dL_law_214 (by decide) ?_
  exact kk Y (pairF ρ).2 M2 ⟨hCs1.frR hS2.fr, hR2, hIv.pair, (hQn.pair hIv)⟩ ((hB1.trans hS2.bg).le (by decide) (by decide))
theorem law_secret {nm : String} {G : Ge} {Q : Option AVal → Mem → Prop} {M : Mem} {Y : (Nat → Bool) × (Nat → Bool)} {ρ : RS} {k i : Nat} (hk : k < 512) (h : LI k M Y ρ) (hRm : Rm 136 736 M) (hi : i + 3 < gN G ∧ gN G ≤ 2048) (kk : ∀ (Y' : (Nat → Bool) × (Nat → Bool)) (ρ' : RS) (M' : Mem), LI (k + 1) M' Y' ρ' → Bg 136 736 M M' → Sf G (miL nm) Q 809 [some (vR (40, 0)), some (vR (1, 0)), some (vR (30, 0)), some (vI ↑i)] [] M') : Sf G (miL nm) Q 219 [some (vR (40, 0)), some (vR (1, 0)), some (vR (30, 0)), some (vI ↑i)] [] M := by
  obtain ⟨hCs, hR, hIv, hQn⟩ := h
  obtain ⟨hN14, h23⟩ := hQn.lim hIv
  have hN : thN ρ < 7800 := by omega
  have hlfx : ∀ e : Nat, e < 12 → ρ.2 23 e < 300 := fun e he => by have := h23 e he; omega
  obtain ⟨sc, kn, hS, hCl⟩ := id hCs
  obtain ⟨⟨hp, hl, hm, hli, h44⟩, ⟨hTI, hSh⟩, ⟨hRo, hRp⟩, ⟨hEd, hOw, hYs, hSt⟩, hEn, hLf, ⟨hKo, hKy, hTs, hTl⟩, ⟨hLt, hLp⟩, hTr, hFe⟩ := id hIv
  refine S_aload_n dL_law_219 rfl ?_
  refine S_aload_n dL_law_220 rfl ?_
  refine S_iload_n dL_law_221 rfl ?_
  refine S_iconst dL_law_222 ?_
  refine S_iadd dL_law_223 ?_
  refine S_sld (i + 1) dL_law_224 (by omega) (by omega) rfl ?_
  refine S_aload_n dL_law_225 rfl ?_
  refine S_iload_n dL_law_226 rfl ?_
  refine S_iconst dL_law_227 ?_
  refine S_iadd dL_law_228 ?_
  refine S_sld (i + 2) dL_law_229 (by omega) (by omega) rfl ?_
  refine S_callV (mi := (miL nm)) [vI ((gX G (i + 1)).toInt), vI ((gX G (i + 2)).toInt)] ok_X8_secret ml_L_27 dL_law_230 rfl (by decide) rfl (Nat.le_of_ble_eq_true rfl) rfl (Nat.le_of_ble_eq_true rfl) rfl (c_secret hCs ((gX G (i + 1)).toInt) ((gX G (i + 2)).toInt) (i32 _) (i32 _) hp (thN ρ) hTI.1 (by omega) (fun i hi => by obtain ⟨n, q1, q2, -⟩ := hRo i hi; exact ⟨n, q1, q2⟩) (hRm.sub (Bg.rf M) (by decide) (by decide))) ?_
  rintro v' M1 ⟨rfl, hCs1, hF1, hB1⟩
  refine S_aload_n dL_law_233 rfl ?_
  refine S_aload_n dL_law_234 rfl ?_
  refine S_iload_n dL_law_235 rfl ?_
  refine S_iconst dL_law_236 ?_
  refine S_iadd dL_law_237 ?_
  refine S_sld (i + 1) dL_law_238 (by omega) (by omega) rfl ?_
  refine S_aload_n dL_law_239 rfl ?_
  refine S_iload_n dL_law_240 rfl ?_
  refine S_iconst dL_law_241 ?_
  refine S_iadd dL_law_242 ?_
  refine S_sld (i + 2) dL_law_243 (by omega) (by omega) rfl ?_
  refine S_callV (mi := (miL nm)) [vI ((gX G (i + 1)).toInt), vI ((gX G (i + 2)).toInt)] ok_X9_secret ml_L_30 dL_law_244 rfl (by decide) rfl (Nat.le_of_ble_eq_true rfl) rfl (Nat.le_of_ble_eq_true rfl) rfl (r_X9_secret ((gX G (i + 1)).toInt) ((gX G (i + 2)).toInt) (i32 _) (i32 _) hp (thN ρ) hTI.1 (by omega) (fun i hi => by obtain ⟨n, q1, q2, -⟩ := hRo i hi; exact ⟨n, q1, q2⟩) M1 (hR.frC hF1)) ?_
  rintro v' M2 ⟨rfl, hR2, hS2⟩
  refine S_icmp_same 809 dL_law_247 (by decide) ?_
  exact kk (Y.1, spF Y.2 ρ (((gX G (i + 1)).toInt)).toNat) (secretF ρ ((gX G (i + 1)).toInt) ((gX G (i + 2)).toInt)).2 M2 ⟨hCs1.frR hS2.fr, hR2, (hIv.secret ((gX G (i + 1)).toInt) ((gX G (i + 2)).toInt)), (hQn.secret hIv ((gX G (i + 1)).toInt) ((gX G (i + 2)).toInt))⟩ ((hB1.trans hS2.bg).le (by decide) (by decide))
theorem law_start {nm : String} {G : Ge} {Q : Option AVal → Mem → Prop} {M : Mem} {Y : (Nat → Bool) × (Nat → Bool)} {ρ : RS} {k i : Nat} (hk : k < 512) (h : LI k M Y ρ) (hRm : Rm 136 736 M) (hi : i + 3 < gN G ∧ gN G ≤ 2048) (kk : ∀ (Y' : (Nat → Bool) × (Nat → Bool)) (ρ' : RS) (M' : Mem), LI (k + 1) M' Y' ρ' → Bg 136 736 M M' → Sf G (miL nm) Q 809 [some (vR (40, 0)), some (vR (1, 0)), some (vR (30, 0)), some (vI ↑i)] [] M') : Sf G (miL nm) Q 252 [some (vR (40, 0)), some (vR (1, 0)), some (vR (30, 0)), some (vI ↑i)] [] M := by
  obtain ⟨hCs, hR, hIv, hQn⟩ := h
  obtain ⟨hN14, h23⟩ := hQn.lim hIv
  have hN : thN ρ < 7800 := by omega
  have hlfx : ∀ e : Nat, e < 12 → ρ.2 23 e < 300 := fun e he => by have := h23 e he; omega
  obtain ⟨sc, kn, hS, hCl⟩ := id hCs
  obtain ⟨⟨hp, hl, hm, hli, h44⟩, ⟨hTI, hSh⟩, ⟨hRo, hRp⟩, ⟨hEd, hOw, hYs, hSt⟩, hEn, hLf, ⟨hKo, hKy, hTs, hTl⟩, ⟨hLt, hLp⟩, hTr, hFe⟩ := id hIv
  refine S_aload_n dL_law_252 rfl ?_
  refine S_aload_n dL_law_253 rfl ?_
  refine S_iload_n dL_law_254 rfl ?_
  refine S_iconst dL_law_255 ?_
  refine S_iadd dL_law_256 ?_
  refine S_sld (i + 1) dL_law_257 (by omega) (by omega) rfl ?_
  refine S_callV (mi := (miL nm)) [vI ((gX G (i + 1)).toInt)] ok_X8_start ml_L_31 dL_law_258 rfl (by decide) rfl (Nat.le_of_ble_eq_true rfl) rfl (Nat.le_of_ble_eq_true rfl) rfl (c_start hCs hIv (by omega) ((gX G (i + 1)).toInt) (i32 _) (hRm.sub (Bg.rf M) (by decide) (by decide))) ?_
  rintro v' M1 ⟨rfl, hCs1, hF1, hB1⟩
  refine S_aload_n dL_law_261 rfl ?_
  refine S_aload_n dL_law_262 rfl ?_
  refine S_iload_n dL_law_263 rfl ?_
  refine S_iconst dL_law_264 ?_
  refine S_iadd dL_law_265 ?_
  refine S_sld (i + 1) dL_law_266 (by omega) (by omega) rfl ?_
  refine S_callV (mi := (miL nm)) [vI ((gX G (i + 1)).toInt)] ok_X9_start ml_L_35 dL_law_267 rfl (by decide) rfl (Nat.le_of_ble_eq_true rfl) rfl (Nat.le_of_ble_eq_true rfl) rfl (r_X9_start ((gX G (i + 1)).toInt) (i32 _) hp (thN ρ) hTI.1 (by omega) (fun p hp => (hSt p hp).1) hTI.2.2.2 hRo M1 (hR.frC hF1)) ?_
  rintro v' M2 ⟨rfl, hR2, hS2⟩
  refine S_icmp_same 809 dL_law_270 (by decide) ?_
  exact kk (startY Y ρ ((gX G (i + 1)).toInt)) (startF ρ ((gX G (i + 1)).toInt)).2 M2 ⟨hCs1.frR hS2.fr, hR2, (hIv.start hQn.2.2.2.2.1 ((gX G (i + 1)).toInt)), (hQn.start hIv ((gX G (i + 1)).toInt))⟩ ((hB1.trans hS2.bg).le (by decide) (by decide))
theorem law_send {nm : String} {G : Ge} {Q : Option AVal → Mem → Prop} {M : Mem} {Y : (Nat → Bool) × (Nat → Bool)} {ρ : RS} {k i : Nat} (hk : k < 512) (h : LI k M Y ρ) (hRm : Rm 136 736 M) (hi : i + 3 < gN G ∧ gN G ≤ 2048) (kk : ∀ (Y' : (Nat → Bool) × (Nat → Bool)) (ρ' : RS) (M' : Mem), LI (k + 1) M' Y' ρ' → Bg 136 736 M M' → Sf G (miL nm) Q 809 [some (vR (40, 0)), some (vR (1, 0)), some (vR (30, 0)), some (vI ↑i)] [] M') : Sf G (miL nm) Q 275 [some (vR (40, 0)), some (vR (1, 0)), some (vR (30, 0)), some (vI ↑i)] [] M := by
  obtain ⟨hCs, hR, hIv, hQn⟩ := h
  obtain ⟨hN14, h23⟩ := hQn.lim hIv
  have hN : thN ρ < 7800 := by omega
  have hlfx : ∀ e : Nat, e < 12 → ρ.2 23 e < 300 := fun e he => by have := h23 e he; omega
  obtain ⟨sc, kn, hS, hCl⟩ := id hCs
  obtain ⟨⟨hp, hl, hm, hli, h44⟩, ⟨hTI, hSh⟩, ⟨hRo, hRp⟩, ⟨hEd, hOw, hYs, hSt⟩, hEn, hLf, ⟨hKo, hKy, hTs, hTl⟩, ⟨hLt, hLp⟩, hTr, hFe⟩ := id hIv
  refine S_aload_n dL_law_275 rfl ?_
  refine S_aload_n dL_law_276 rfl ?_
  refine S_iload_n dL_law_277 rfl ?_
  refine S_iconst dL_law_278 ?_
  refine S_iadd dL_law_279 ?_
  refine S_sld (i + 1) dL_law_280 (by omega) (by omega) rfl ?_
  refine S_aload_n dL_law_281 rfl ?_
  refine S_iload_n dL_law_282 rfl ?_
  refine S_iconst dL_law_283 ?_
  refine S_iadd dL_law_284 ?_
  refine S_sld (i + 2) dL_law_285 (by omega) (by omega) rfl ?_
  refine S_callV (mi := (miL nm)) [vI ((gX G (i + 1)).toInt), vI ((gX G (i + 2)).toInt)] ok_X8_send ml_L_36 dL_law_286 rfl (by decide) rfl (Nat.le_of_ble_eq_true rfl) rfl (Nat.le_of_ble_eq_true rfl) rfl (c_send hCs hIv (by omega) ((gX G (i + 1)).toInt) ((gX G (i + 2)).toInt) (i32 _) (i32 _) (hRm.sub (Bg.rf M) (by decide) (by decide))) ?_
  rintro v' M1 ⟨rfl, hCs1, hF1, hB1⟩
  refine S_aload_n dL_law_289 rfl ?_
  refine S_aload_n dL_law_290 rfl ?_
  refine S_iload_n dL_law_291 rfl ?_
  refine S_iconst dL_law_292 ?_
  refine S_iadd dL_law_293 ?_
  refine S_sld (i + 1) dL_law_294 (by omega) (by omega) rfl ?_
  refine S_aload_n dL_law_295 rfl ?_
  refine S_iload_n dL_law_296 rfl ?_
  refine S_iconst dL_law_297 ?_
  refine S_iadd dL_law_298 ?_
  refine S_sld (i + 2) dL_law_299 (by omega) (by omega) rfl ?_
  refine S_callV (mi := (miL nm)) [vI ((gX G (i + 1)).toInt), vI ((gX G (i + 2)).toInt)] ok_X9_send ml_L_39 dL_law_300 rfl (by decide) rfl (Nat.le_of_ble_eq_true rfl) rfl (Nat.le_of_ble_eq_true rfl) rfl (r_X9_send ((gX G (i + 1)).toInt) ((gX G (i + 2)).toInt) (i32 _) (i32 _) hp (thN ρ) hTI.1 (by omega) (fun p hp => (hSt p hp).1) hTI.2.2.2 hEd hKo hl hli M1 (hR.frC hF1)) ?_
  rintro v' M2 ⟨rfl, hR2, hS2⟩
  refine S_icmp_same 809 dL_law_303 (by decide) ?_
  exact kk Y (sendF ρ ((gX G (i + 1)).toInt) ((gX G (i + 2)).toInt)).2 M2 ⟨hCs1.frR hS2.fr, hR2, (hIv.send ((gX G (i + 1)).toInt) ((gX G (i + 2)).toInt)), (hQn.send hIv ((gX G (i + 1)).toInt) ((gX G (i + 2)).toInt))⟩ ((hB1.trans hS2.bg).le (by decide) (by decide))
theorem law_alter {nm : String} {G : Ge} {Q : Option AVal → Mem → Prop} {M : Mem} {Y : (Nat → Bool) × (Nat → Bool)} {ρ : RS} {k i : Nat} (hk : k < 512) (h : LI k M Y ρ) (hRm : Rm 136 736 M) (hi : i + 3 < gN G ∧ gN G ≤ 2048) (kk : ∀ (Y' : (Nat → Bool) × (Nat → Bool)) (ρ' : RS) (M' : Mem), LI (k + 1) M' Y' ρ' → Bg 136 736 M M' → Sf G (miL nm) Q 809 [some (vR (40, 0)), some (vR (1, 0)), some (vR (30, 0)), some (vI ↑i)] [] M') : Sf G (miL nm) Q 308 [some (vR (40, 0)), some (vR (1, 0)), some (vR (30, 0)), some (vI ↑i)] [] M := by
  obtain ⟨hCs, hR, hIv, hQn⟩ := h
  obtain ⟨hN14, h23⟩ := hQn.lim hIv
  have hN : thN ρ < 7800 := by omega
  have hlfx : ∀ e : Nat, e < 12 → ρ.2 23 e < 300 := fun e he => by have := h23 e he; omega
  obtain ⟨sc, kn, hS, hCl⟩ := id hCs
  obtain ⟨⟨hp, hl, hm, hli, h44⟩, ⟨hTI, hSh⟩, ⟨hRo, hRp⟩, ⟨hEd, hOw, hYs, hSt⟩, hEn, hLf, ⟨hKo, hKy, hTs, hTl⟩, ⟨hLt, hLp⟩, hTr, hFe⟩ := id hIv
  refine S_aload_n dL_law_308 rfl ?_
  refine S_aload_n dL_law_309 rfl ?_
  refine S_iload_n dL_law_310 rfl ?_
  refine S_iconst dL_law_311 ?_
  refine S_iadd dL_law_312 ?_
  refine S_sld (i + 1) dL_law_313 (by omega) (by omega) rfl ?_
  refine S_aload_n dL_law_314 rfl ?_
  refine S_iload_n dL_law_315 rfl ?_
  refine S_iconst dL_law_316 ?_
  refine S_iadd dL_law_317 ?_
  refine S_sld (i + 2) dL_law_318 (by omega) (by omega) rfl ?_
  refine S_callV (mi := (miL nm)) [vI ((gX G (i + 1)).toInt), vI ((gX G (i + 2)).toInt)] ok_X8_alter ml_L_40 dL_law_319 rfl (by decide) rfl (Nat.le_of_ble_eq_true rfl) rfl (Nat.le_of_ble_eq_true rfl) rfl (c_alter hCs ((gX G (i + 1)).toInt) ((gX G (i + 2)).toInt) (i32 _) (i32 _) hl) ?_
  rintro v' M1 ⟨rfl, hCs1, hF1, hB1⟩
  refine S_aload_n dL_law_322 rfl ?_
  refine S_aload_n dL_law_323 rfl ?_
  refine S_iload_n dL_law_324 rfl ?_
  refine S_iconst dL_law_325 ?_
  refine S_iadd dL_law_326 ?_
  refine S_sld (i + 1) dL_law_327 (by omega) (by omega) rfl ?_
  refine S_aload_n dL_law_328 rfl ?_
  refine S_iload_n dL_law_329 rfl ?_
  refine S_iconst dL_law_330 ?_
  refine S_iadd dL_law_331 ?_
  refine S_sld (i + 2) dL_law_332 (by omega) (by omega) rfl ?_
  refine S_callV (mi := (miL nm)) [vI ((gX G (i + 1)).toInt), vI ((gX G (i + 2)).toInt)] ok_X9_alter ml_L_43 dL_law_333 rfl (by decide) rfl (Nat.le_of_ble_eq_true rfl) rfl (Nat.le_of_ble_eq_true rfl) rfl (r_X9_alter ((gX G (i + 1)).toInt) ((gX G (i + 2)).toInt) (i32 _) (i32 _) hl M1 (hR.frC hF1)) ?_
  rintro v' M2 ⟨rfl, hR2, hS2⟩
  refine S_icmp_same 809 dL_law_336 (by decide) ?_
  exact kk Y (alterF ρ ((gX G (i + 1)).toInt) ((gX G (i + 2)).toInt)).2 M2 ⟨hCs1.frR hS2.fr, hR2, (hIv.alter ((gX G (i + 1)).toInt) ((gX G (i + 2)).toInt)), (hQn.alter hIv ((gX G (i + 1)).toInt) ((gX G (i + 2)).toInt))⟩ ((hB1.trans hS2.bg).le (by decide) (by decide))
theorem law_take {nm : String} {G : Ge} {Q : Option AVal → Mem → Prop} {M : Mem} {Y : (Nat → Bool) × (Nat → Bool)} {ρ : RS} {k i : Nat} (hk : k < 512) (h : LI k M Y ρ) (hRm : Rm 136 736 M) (hi : i + 3 < gN G ∧ gN G ≤ 2048) (kk : ∀ (Y' : (Nat → Bool) × (Nat → Bool)) (ρ' : RS) (M' : Mem), LI (k + 1) M' Y' ρ' → Bg 136 736 M M' → Sf G (miL nm) Q 809 [some (vR (40, 0)), some (vR (1, 0)), some (vR (30, 0)), some (vI ↑i)] [] M') : Sf G (miL nm) Q 341 [some (vR (40, 0)), some (vR (1, 0)), some (vR (30, 0)), some (vI ↑i)] [] M := by
  obtain ⟨hCs, hR, hIv, hQn⟩ := h
  obtain ⟨hN14, h23⟩ := hQn.lim hIv
  have hN : thN ρ < 7800 := by omega
  have hlfx : ∀ e : Nat, e < 12 → ρ.2 23 e < 300 := fun e he => by have := h23 e he; omega
  obtain ⟨sc, kn, hS, hCl⟩ := id hCs
  obtain ⟨⟨hp, hl, hm, hli, h44⟩, ⟨hTI, hSh⟩, ⟨hRo, hRp⟩, ⟨hEd, hOw, hYs, hSt⟩, hEn, hLf, ⟨hKo, hKy, hTs, hTl⟩, ⟨hLt, hLp⟩, hTr, hFe⟩ := id hIv
  refine S_aload_n dL_law_341 rfl ?_
  refine S_aload_n dL_law_342 rfl ?_
  refine S_iload_n dL_law_343 rfl ?_
  refine S_iconst dL_law_344 ?_
  refine S_iadd dL_law_345 ?_
  refine S_sld (i + 1) dL_law_346 (by omega) (by omega) rfl ?_
  refine S_aload_n dL_law_347 rfl ?_
  refine S_iload_n dL_law_348 rfl ?_
  refine S_iconst dL_law_349 ?_
  refine S_iadd dL_law_350 ?_
  refine S_sld (i + 2) dL_law_351 (by omega) (by omega) rfl ?_
  refine S_callV (mi := (miL nm)) [vI ((gX G (i + 1)).toInt), vI ((gX G (i + 2)).toInt)] ok_X8_take ml_L_44 dL_law_352 rfl (by decide) rfl (Nat.le_of_ble_eq_true rfl) rfl (Nat.le_of_ble_eq_true rfl) rfl (c_take hCs hIv hN hlfx ((gX G (i + 1)).toInt) ((gX G (i + 2)).toInt) (i32 _) (i32 _) hRm) ?_
  rintro v' M1 ⟨rfl, hCs1, hF1, hB1⟩
  refine S_aload_n dL_law_355 rfl ?_
  refine S_aload_n dL_law_356 rfl ?_
  refine S_iload_n dL_law_357 rfl ?_
  refine S_iconst dL_law_358 ?_
  refine S_iadd dL_law_359 ?_
  refine S_sld (i + 1) dL_law_360 (by omega) (by omega) rfl ?_
  refine S_aload_n dL_law_361 rfl ?_
  refine S_iload_n dL_law_362 rfl ?_
  refine S_iconst dL_law_363 ?_
  refine S_iadd dL_law_364 ?_
  refine S_sld (i + 2) dL_law_365 (by omega) (by omega) rfl ?_
  refine S_callV (mi := (miL nm)) [vI ((gX G (i + 1)).toInt), vI ((gX G (i + 2)).toInt)] ok_X9_take ml_L_47 dL_law_366 rfl (by decide) rfl (Nat.le_of_ble_eq_true rfl) rfl (Nat.le_of_ble_eq_true rfl) rfl (r_X9_take ((gX G (i + 1)).toInt) ((gX G (i + 2)).toInt) (i32 _) (i32 _) hp (thN ρ) hTI.1 hN hTI.2.2.2 hEd hKo hl hm hLt hEn hRo hKy hLf M1 (hR.frC hF1)) ?_
  rintro v' M2 ⟨rfl, hR2, hS2⟩
  refine S_icmp_same 809 dL_law_369 (by decide) ?_
  exact kk Y (takeF ρ ((gX G (i + 1)).toInt) ((gX G (i + 2)).toInt)).2 M2 ⟨hCs1.frR hS2.fr, hR2, (hIv.take hN hlfx ((gX G (i + 1)).toInt) ((gX G (i + 2)).toInt)), (hQn.take hIv hN hlfx ((gX G (i + 1)).toInt) ((gX G (i + 2)).toInt))⟩ ((hB1.trans hS2.bg).le (by decide) (by decide))
theorem law_see {nm : String} {G : Ge} {Q : Option AVal → Mem → Prop} {M : Mem} {Y : (Nat → Bool) × (Nat → Bool)} {ρ : RS} {k i : Nat} (hk : k < 512) (h : LI k M Y ρ) (hRm : Rm 136 736 M) (hi : i + 3 < gN G ∧ gN G ≤ 2048) (kk : ∀ (Y' : (Nat → Bool) × (Nat → Bool)) (ρ' : RS) (M' : Mem), LI (k + 1) M' Y' ρ' → Bg 136 736 M M' → Sf G (miL nm) Q 809 [some (vR (40, 0)), some (vR (1, 0)), some (vR (30, 0)), some (vI ↑i)] [] M') : Sf G (miL nm) Q 374 [some (vR (40, 0)), some (vR (1, 0)), some (vR (30, 0)), some (vI ↑i)] [] M := by
  obtain ⟨hCs, hR, hIv, hQn⟩ := h
  obtain ⟨hN14, h23⟩ := hQn.lim hIv
  have hN : thN ρ < 7800 := by omega
  have hlfx : ∀ e : Nat, e < 12 → ρ.2 23 e < 300 := fun e he => by have := h23 e he; omega
  obtain ⟨sc, kn, hS, hCl⟩ := id hCs
  obtain ⟨⟨hp, hl, hm, hli, h44⟩, ⟨hTI, hSh⟩, ⟨hRo, hRp⟩, ⟨hEd, hOw, hYs, hSt⟩, hEn, hLf, ⟨hKo, hKy, hTs, hTl⟩, ⟨hLt, hLp⟩, hTr, hFe⟩ := id hIv
  refine S_aload_n dL_law_374 rfl ?_
  refine S_aload_n dL_law_375 rfl ?_
  refine S_iload_n dL_law_376 rfl ?_
  refine S_iconst dL_law_377 ?_
  refine S_iadd dL_law_378 ?_
  refine S_sld (i + 1) dL_law_379 (by omega) (by omega) rfl ?_
  refine S_callV (mi := (miL nm)) [vI ((gX G (i + 1)).toInt)] ok_X8_see ml_L_48 dL_law_380 rfl (by decide) rfl (Nat.le_of_ble_eq_true rfl) rfl (Nat.le_of_ble_eq_true rfl) rfl (c_see hCs hIv (by omega) ((gX G (i + 1)).toInt) (i32 _)) ?_
  rintro v' M1 ⟨rfl, hCs1, hF1, hB1⟩
  refine S_aload_n dL_law_383 rfl ?_
  refine S_aload_n dL_law_384 rfl ?_
  refine S_iload_n dL_law_385 rfl ?_
  refine S_iconst dL_law_386 ?_
  refine S_iadd dL_law_387 ?_
  refine S_sld (i + 1) dL_law_388 (by omega) (by omega) rfl ?_
  refine S_callV (mi := (miL nm)) [vI ((gX G (i + 1)).toInt)] ok_X9_see ml_L_51 dL_law_389 rfl (by decide) rfl (Nat.le_of_ble_eq_true rfl) rfl (Nat.le_of_ble_eq_true rfl) rfl (r_X9_see ((gX G (i + 1)).toInt) (i32 _) hp (thN ρ) hTI.1 (by omega) (fun p hp => (hSt p hp).1) hEd hKo hSh (fun e i n he hn hi => by obtain ⟨k, k1, k2, -⟩ := hKy e i n he hn hi; omega) M1 (hR.frC hF1)) ?_
  rintro v' M2 ⟨rfl, hR2, hS2⟩
  refine S_icmp_same 809 dL_law_392 (by decide) ?_
  exact kk Y (seeF ρ ((gX G (i + 1)).toInt)).2 M2 ⟨hCs1.frR hS2.fr, hR2, (hIv.see ((gX G (i + 1)).toInt)), (hQn.see hIv ((gX G (i + 1)).toInt))⟩ ((hB1.trans hS2.bg).le (by decide) (by decide))
theorem law_known {nm : String} {G : Ge} {Q : Option AVal → Mem → Prop} {M : Mem} {Y : (Nat → Bool) × (Nat → Bool)} {ρ : RS} {k i : Nat} (hk : k < 512) (h : LI k M Y ρ) (hRm : Rm 136 736 M) (hi : i + 3 < gN G ∧ gN G ≤ 2048) (kk : ∀ (Y' : (Nat → Bool) × (Nat → Bool)) (ρ' : RS) (M' : Mem), LI (k + 1) M' Y' ρ' → Bg 136 736 M M' → Sf G (miL nm) Q 809 [some (vR (40, 0)), some (vR (1, 0)), some (vR (30, 0)), some (vI ↑i)] [] M') : Sf G (miL nm) Q 397 [some (vR (40, 0)), some (vR (1, 0)), some (vR (30, 0)), some (vI ↑i)] [] M := by
  obtain ⟨hCs, hR, hIv, hQn⟩ := h
  obtain ⟨hN14, h23⟩ := hQn.lim hIv
  have hN : thN ρ < 7800 := by omega
  have hlfx : ∀ e : Nat, e < 12 → ρ.2 23 e < 300 := fun e he => by have := h23 e he; omega
  obtain ⟨sc, kn, hS, hCl⟩ := id hCs
  obtain ⟨⟨hp, hl, hm, hli, h44⟩, ⟨hTI, hSh⟩, ⟨hRo, hRp⟩, ⟨hEd, hOw, hYs, hSt⟩, hEn, hLf, ⟨hKo, hKy, hTs, hTl⟩, ⟨hLt, hLp⟩, hTr, hFe⟩ := id hIv
  refine S_aload_n dL_law_397 rfl ?_
  refine S_aload_n dL_law_398 rfl ?_
  refine S_iload_n dL_law_399 rfl ?_
  refine S_iconst dL_law_400 ?_
  refine S_iadd dL_law_401 ?_
  refine S_sld (i + 1) dL_law_402 (by omega) (by omega) rfl ?_
  refine S_callV (mi := (miL nm)) [vI ((gX G (i + 1)).toInt)] ok_X8_known ml_L_52 dL_law_403 rfl (by decide) rfl (Nat.le_of_ble_eq_true rfl) rfl (Nat.le_of_ble_eq_true rfl) rfl (c_known hCl ((gX G (i + 1)).toInt) (i32 _) hl hLt hS (thN ρ) hTI.1 (by omega)) ?_
  rintro v' M1 ⟨rfl, hM1⟩
  rw [hM1]
  clear hM1
  refine S_aload_n dL_law_406 rfl ?_
  refine S_aload_n dL_law_407 rfl ?_
  refine S_iload_n dL_law_408 rfl ?_
  refine S_iconst dL_law_409 ?_
  refine S_iadd dL_law_410 ?_
  refine S_sld (i + 1) dL_law_411 (by omega) (by omega) rfl ?_
  refine S_callV (mi := (miL nm)) [vI ((gX G (i + 1)).toInt)] ok_X9_known ml_L_55 dL_law_412 rfl (by decide) rfl (Nat.le_of_ble_eq_true rfl) rfl (Nat.le_of_ble_eq_true rfl) rfl (r_X9_known ((gX G (i + 1)).toInt) (i32 _) (thN ρ) hTI.1 (by omega) hSh hl (fun l hl => by obtain ⟨⟨x, x1, x2, -⟩, -, -, -, -, -, ⟨k, k1, k2, -⟩, -⟩ := hLt l hl; exact ⟨⟨k, k1, k2⟩, by omega⟩) M hR) ?_
  rintro v' M2 ⟨rfl, hR2, hS2⟩
  refine S_icmp_same 809 dL_law_415 (by decide) ?_
  have hz : LI (k + 1) M2 Y (knownF ρ ((gX G (i + 1)).toInt)).2 := by
    have w1 : (knownF ρ ((gX G (i + 1)).toInt)).2 = ρ ∨ (knownF ρ ((gX G (i + 1)).toInt)).2 = knR ρ := by
      unfold knownF
      repeat' split
      all_goals first | exact Or.inl rfl | exact Or.inr rfl
    rcases w1 with w | w <;> rw [w] at hR2 ⊢
    · exact ⟨hCs.frR hS2.fr, hR2, hIv, hQn.none hIv⟩
    · exact ⟨hCs.know.frR hS2.fr, hR2, hIv.know, hQn.know hIv⟩
  exact kk Y _ M2 hz (hS2.bg.le (by decide) (by decide))
theorem law_steps {nm : String} {G : Ge} {Q : Option AVal → Mem → Prop} {M : Mem} {Y : (Nat → Bool) × (Nat → Bool)} {ρ : RS} {k i : Nat} (hk : k < 512) (h : LI k M Y ρ) (hRm : Rm 136 736 M) (hi : i + 3 < gN G ∧ gN G ≤ 2048) (kk : ∀ (Y' : (Nat → Bool) × (Nat → Bool)) (ρ' : RS) (M' : Mem), LI (k + 1) M' Y' ρ' → Bg 136 736 M M' → Sf G (miL nm) Q 809 [some (vR (40, 0)), some (vR (1, 0)), some (vR (30, 0)), some (vI ↑i)] [] M') : Sf G (miL nm) Q 420 [some (vR (40, 0)), some (vR (1, 0)), some (vR (30, 0)), some (vI ↑i)] [] M := by
  obtain ⟨hCs, hR, hIv, hQn⟩ := h
  obtain ⟨hN14, h23⟩ := hQn.lim hIv
  have hN : thN ρ < 7800 := by omega
  have hlfx : ∀ e : Nat, e < 12 → ρ.2 23 e < 300 := fun e he => by have := h23 e he; omega
  obtain ⟨sc, kn, hS, hCl⟩ := id hCs
  obtain ⟨⟨hp, hl, hm, hli, h44⟩, ⟨hTI, hSh⟩, ⟨hRo, hRp⟩, ⟨hEd, hOw, hYs, hSt⟩, hEn, hLf, ⟨hKo, hKy, hTs, hTl⟩, ⟨hLt, hLp⟩, hTr, hFe⟩ := id hIv
  refine S_aload_n dL_law_420 rfl ?_
  refine S_aload_n dL_law_421 rfl ?_
  refine S_iload_n dL_law_422 rfl ?_
  refine S_iconst dL_law_423 ?_
  refine S_iadd dL_law_424 ?_
  refine S_sld (i + 1) dL_law_425 (by omega) (by omega) rfl ?_
  refine S_callV (mi := (miL nm)) [vI ((gX G (i + 1)).toInt)] ok_X8_steps ml_L_56 dL_law_426 rfl (by decide) rfl (Nat.le_of_ble_eq_true rfl) rfl (Nat.le_of_ble_eq_true rfl) rfl (c_steps hCl ((gX G (i + 1)).toInt) (i32 _) hl hLt hS (thN ρ) hTI.1 (by omega)) ?_
  rintro v' M1 ⟨rfl, hM1⟩
  rw [hM1]
  clear hM1
  refine S_aload_n dL_law_429 rfl ?_
  refine S_aload_n dL_law_430 rfl ?_
  refine S_iload_n dL_law_431 rfl ?_
  refine S_iconst dL_law_432 ?_
  refine S_iadd dL_law_433 ?_
  refine S_sld (i + 1) dL_law_434 (by omega) (by omega) rfl ?_
  refine S_callV (mi := (miL nm)) [vI ((gX G (i + 1)).toInt)] ok_X9_steps ml_L_59 dL_law_435 rfl (by decide) rfl (Nat.le_of_ble_eq_true rfl) rfl (Nat.le_of_ble_eq_true rfl) rfl (r_X9_steps ((gX G (i + 1)).toInt) (i32 _) (thN ρ) hTI.1 (by omega) hSh hl (fun l hl => by obtain ⟨⟨x, x1, x2, -⟩, -, -, -, -, -, ⟨k, k1, k2, -⟩, -⟩ := hLt l hl; exact ⟨⟨k, k1, k2⟩, by omega⟩) M hR) ?_
  rintro v' M2 ⟨rfl, hR2, hS2⟩
  refine S_icmp_same 809 dL_law_438 (by decide) ?_
  have hz : LI (k + 1) M2 Y (stepsF ρ ((gX G (i + 1)).toInt)).2 := by
    have w1 : (stepsF ρ ((gX G (i + 1)).toInt)).2 = ρ ∨ (stepsF ρ ((gX G (i + 1)).toInt)).2 = knR ρ := by
      unfold stepsF
      repeat' split
      all_goals first | exact Or.inl rfl | exact Or.inr rfl
    rcases w1 with w | w <;> rw [w] at hR2 ⊢
    · exact ⟨hCs.frR hS2.fr, hR2, hIv, hQn.none hIv⟩
    · exact ⟨hCs.know.frR hS2.fr, hR2, hIv.know, hQn.know hIv⟩
  exact kk Y _ M2 hz (hS2.bg.le (by decide) (by decide))
theorem law_heals {nm : String} {G : Ge} {Q : Option AVal → Mem → Prop} {M : Mem} {Y : (Nat → Bool) × (Nat → Bool)} {ρ : RS} {k i : Nat} (hk : k < 512) (h : LI k M Y ρ) (hRm : Rm 136 736 M) (hi : i + 3 < gN G ∧ gN G ≤ 2048) (kk : ∀ (Y' : (Nat → Bool) × (Nat → Bool)) (ρ' : RS) (M' : Mem), LI (k + 1) M' Y' ρ' → Bg 136 736 M M' → Sf G (miL nm) Q 809 [some (vR (40, 0)), some (vR (1, 0)), some (vR (30, 0)), some (vI ↑i)] [] M') : Sf G (miL nm) Q 443 [some (vR (40, 0)), some (vR (1, 0)), some (vR (30, 0)), some (vI ↑i)] [] M := by
  obtain ⟨hCs, hR, hIv, hQn⟩ := h
  obtain ⟨hN14, h23⟩ := hQn.lim hIv
  have hN : thN ρ < 7800 := by omega
  have hlfx : ∀ e : Nat, e < 12 → ρ.2 23 e < 300 := fun e he => by have := h23 e he; omega
  obtain ⟨sc, kn, hS, hCl⟩ := id hCs
  obtain ⟨⟨hp, hl, hm, hli, h44⟩, ⟨hTI, hSh⟩, ⟨hRo, hRp⟩, ⟨hEd, hOw, hYs, hSt⟩, hEn, hLf, ⟨hKo, hKy, hTs, hTl⟩, ⟨hLt, hLp⟩, hTr, hFe⟩ := id hIv
  refine S_aload_n dL_law_443 rfl ?_
  refine S_aload_n dL_law_444 rfl ?_
  refine S_iload_n dL_law_445 rfl ?_
  refine S_iconst dL_law_446 ?_
  refine S_iadd dL_law_447 ?_
  refine S_sld (i + 1) dL_law_448 (by omega) (by omega) rfl ?_
  refine S_callV (mi := (miL nm)) [vI ((gX G (i + 1)).toInt)] ok_X8_heals ml_L_60 dL_law_449 rfl (by decide) rfl (Nat.le_of_ble_eq_true rfl) rfl (Nat.le_of_ble_eq_true rfl) rfl (c_heals hCl ((gX G (i + 1)).toInt) (i32 _) hp hl hLt (fun p h1 => (hSt p h1).2) hS (thN ρ) hTI.1 (by omega)) ?_
  rintro v' M1 ⟨rfl, hM1⟩
  rw [hM1]
  clear hM1
  refine S_aload_n dL_law_452 rfl ?_
  refine S_aload_n dL_law_453 rfl ?_
  refine S_iload_n dL_law_454 rfl ?_
  refine S_iconst dL_law_455 ?_
  refine S_iadd dL_law_456 ?_
  refine S_sld (i + 1) dL_law_457 (by omega) (by omega) rfl ?_
  refine S_callV (mi := (miL nm)) [vI ((gX G (i + 1)).toInt)] ok_X9_heals ml_L_63 dL_law_458 rfl (by decide) rfl (Nat.le_of_ble_eq_true rfl) rfl (Nat.le_of_ble_eq_true rfl) rfl (r_X9_heals ((gX G (i + 1)).toInt) (i32 _) (thN ρ) hTI.1 (by omega) hSh hl (fun l hl => by obtain ⟨⟨x, x1, x2, -⟩, -, -, -, -, -, ⟨k, k1, k2, -⟩, -⟩ := hLt l hl; exact ⟨⟨k, k1, k2⟩, by omega⟩) M hR) ?_
  rintro v' M2 ⟨rfl, hR2, hS2⟩
  refine S_icmp_same 809 dL_law_461 (by decide) ?_
  have hz : LI (k + 1) M2 Y (healsF ρ ((gX G (i + 1)).toInt)).2 := by
    have w1 : (healsF ρ ((gX G (i + 1)).toInt)).2 = ρ ∨ (healsF ρ ((gX G (i + 1)).toInt)).2 = knR ρ := by
      unfold healsF
      exact Or.inr rfl
    rcases w1 with w | w <;> rw [w] at hR2 ⊢
    · exact ⟨hCs.frR hS2.fr, hR2, hIv, hQn.none hIv⟩
    · exact ⟨hCs.know.frR hS2.fr, hR2, hIv.know, hQn.know hIv⟩
  exact kk Y _ M2 hz (hS2.bg.le (by decide) (by decide))
theorem law_same {nm : String} {G : Ge} {Q : Option AVal → Mem → Prop} {M : Mem} {Y : (Nat → Bool) × (Nat → Bool)} {ρ : RS} {k i : Nat} (hk : k < 512) (h : LI k M Y ρ) (hRm : Rm 136 736 M) (hi : i + 3 < gN G ∧ gN G ≤ 2048) (kk : ∀ (Y' : (Nat → Bool) × (Nat → Bool)) (ρ' : RS) (M' : Mem), LI (k + 1) M' Y' ρ' → Bg 136 736 M M' → Sf G (miL nm) Q 809 [some (vR (40, 0)), some (vR (1, 0)), some (vR (30, 0)), some (vI ↑i)] [] M') : Sf G (miL nm) Q 466 [some (vR (40, 0)), some (vR (1, 0)), some (vR (30, 0)), some (vI ↑i)] [] M := by
  obtain ⟨hCs, hR, hIv, hQn⟩ := h
  obtain ⟨hN14, h23⟩ := hQn.lim hIv
  have hN : thN ρ < 7800 := by omega
  have hlfx : ∀ e : Nat, e < 12 → ρ.2 23 e < 300 := fun e he => by have := h23 e he; omega
  obtain ⟨sc, kn, hS, hCl⟩ := id hCs
  obtain ⟨⟨hp, hl, hm, hli, h44⟩, ⟨hTI, hSh⟩, ⟨hRo, hRp⟩, ⟨hEd, hOw, hYs, hSt⟩, hEn, hLf, ⟨hKo, hKy, hTs, hTl⟩, ⟨hLt, hLp⟩, hTr, hFe⟩ := id hIv
  refine S_aload_n dL_law_466 rfl ?_
  refine S_aload_n dL_law_467 rfl ?_
  refine S_iload_n dL_law_468 rfl ?_
  refine S_iconst dL_law_469 ?_
  refine S_iadd dL_law_470 ?_
  refine S_sld (i + 1) dL_law_471 (by omega) (by omega) rfl ?_
  refine S_callV (mi := (miL nm)) [vI ((gX G (i + 1)).toInt)] ok_X8_same ml_L_64 dL_law_472 rfl (by decide) rfl (Nat.le_of_ble_eq_true rfl) rfl (Nat.le_of_ble_eq_true rfl) rfl (c_same hCl ((gX G (i + 1)).toInt) (i32 _) hp (fun e he => hYs e (by omega)) hEd (thN ρ) hTI.1 (by omega)) ?_
  rintro v' M1 ⟨rfl, hM1⟩
  rw [hM1]
  clear hM1
  refine S_aload_n dL_law_475 rfl ?_
  refine S_aload_n dL_law_476 rfl ?_
  refine S_iload_n dL_law_477 rfl ?_
  refine S_iconst dL_law_478 ?_
  refine S_iadd dL_law_479 ?_
  refine S_sld (i + 1) dL_law_480 (by omega) (by omega) rfl ?_
  refine S_callV (mi := (miL nm)) [vI ((gX G (i + 1)).toInt)] ok_X9_same ml_L_67 dL_law_481 rfl (by decide) rfl (Nat.le_of_ble_eq_true rfl) rfl (Nat.le_of_ble_eq_true rfl) rfl (r_X9_same ((gX G (i + 1)).toInt) (i32 _) hp (thN ρ) hTI.1 (by omega) (fun p hp => (hSt p hp).1) hEd M hR) ?_
  rintro v' M2 ⟨rfl, hR2, hS2⟩
  refine S_icmp_same 809 dL_law_484 (by decide) ?_
  exact kk Y ρ M2 ⟨hCs.frR hS2.fr, hR2, hIv, hQn.none hIv⟩ (hS2.bg.le (by decide) (by decide))
theorem law_told {nm : String} {G : Ge} {Q : Option AVal → Mem → Prop} {M : Mem} {Y : (Nat → Bool) × (Nat → Bool)} {ρ : RS} {k i : Nat} (hk : k < 512) (h : LI k M Y ρ) (hRm : Rm 136 736 M) (hi : i + 3 < gN G ∧ gN G ≤ 2048) (kk : ∀ (Y' : (Nat → Bool) × (Nat → Bool)) (ρ' : RS) (M' : Mem), LI (k + 1) M' Y' ρ' → Bg 136 736 M M' → Sf G (miL nm) Q 809 [some (vR (40, 0)), some (vR (1, 0)), some (vR (30, 0)), some (vI ↑i)] [] M') : Sf G (miL nm) Q 489 [some (vR (40, 0)), some (vR (1, 0)), some (vR (30, 0)), some (vI ↑i)] [] M := by
  obtain ⟨hCs, hR, hIv, hQn⟩ := h
  obtain ⟨hN14, h23⟩ := hQn.lim hIv
  have hN : thN ρ < 7800 := by omega
  have hlfx : ∀ e : Nat, e < 12 → ρ.2 23 e < 300 := fun e he => by have := h23 e he; omega
  obtain ⟨sc, kn, hS, hCl⟩ := id hCs
  obtain ⟨⟨hp, hl, hm, hli, h44⟩, ⟨hTI, hSh⟩, ⟨hRo, hRp⟩, ⟨hEd, hOw, hYs, hSt⟩, hEn, hLf, ⟨hKo, hKy, hTs, hTl⟩, ⟨hLt, hLp⟩, hTr, hFe⟩ := id hIv
  refine S_aload_n dL_law_489 rfl ?_
  refine S_aload_n dL_law_490 rfl ?_
  refine S_iload_n dL_law_491 rfl ?_
  refine S_iconst dL_law_492 ?_
  refine S_iadd dL_law_493 ?_
  refine S_sld (i + 1) dL_law_494 (by omega) (by omega) rfl ?_
  refine S_aload_n dL_law_495 rfl ?_
  refine S_iload_n dL_law_496 rfl ?_
  refine S_iconst dL_law_497 ?_
  refine S_iadd dL_law_498 ?_
  refine S_sld (i + 2) dL_law_499 (by omega) (by omega) rfl ?_
  refine S_callV (mi := (miL nm)) [vI ((gX G (i + 1)).toInt), vI ((gX G (i + 2)).toInt)] ok_X8_told ml_L_68 dL_law_500 rfl (by decide) rfl (Nat.le_of_ble_eq_true rfl) rfl (Nat.le_of_ble_eq_true rfl) rfl (c_told hCl ((gX G (i + 1)).toInt) ((gX G (i + 2)).toInt) (i32 _) (i32 _) hp (fun e he => hYs e (by omega)) hEd hTI.2.2.2 (thN ρ) hTI.1 (by omega) (fun i hi => by obtain ⟨n, q1, q2, -⟩ := hRo i hi; exact ⟨n, q1, q2⟩)) ?_
  rintro v' M1 ⟨rfl, hM1⟩
  rw [hM1]
  clear hM1
  refine S_aload_n dL_law_503 rfl ?_
  refine S_aload_n dL_law_504 rfl ?_
  refine S_iload_n dL_law_505 rfl ?_
  refine S_iconst dL_law_506 ?_
  refine S_iadd dL_law_507 ?_
  refine S_sld (i + 1) dL_law_508 (by omega) (by omega) rfl ?_
  refine S_aload_n dL_law_509 rfl ?_
  refine S_iload_n dL_law_510 rfl ?_
  refine S_iconst dL_law_511 ?_
  refine S_iadd dL_law_512 ?_
  refine S_sld (i + 2) dL_law_513 (by omega) (by omega) rfl ?_
  refine S_callV (mi := (miL nm)) [vI ((gX G (i + 1)).toInt), vI ((gX G (i + 2)).toInt)] ok_X9_told ml_L_71 dL_law_514 rfl (by decide) rfl (Nat.le_of_ble_eq_true rfl) rfl (Nat.le_of_ble_eq_true rfl) rfl (r_X9_told ((gX G (i + 1)).toInt) ((gX G (i + 2)).toInt) (i32 _) (i32 _) hp (thN ρ) hTI.1 (by omega) (fun p hp => (hSt p hp).1) hTI.2.2.2 hEd M hR) ?_
  rintro v' M2 ⟨rfl, hR2, hS2⟩
  refine S_icmp_same 809 dL_law_517 (by decide) ?_
  exact kk Y ρ M2 ⟨hCs.frR hS2.fr, hR2, hIv, hQn.none hIv⟩ (hS2.bg.le (by decide) (by decide))
theorem law_skipped {nm : String} {G : Ge} {Q : Option AVal → Mem → Prop} {M : Mem} {Y : (Nat → Bool) × (Nat → Bool)} {ρ : RS} {k i : Nat} (hk : k < 512) (h : LI k M Y ρ) (hRm : Rm 136 736 M) (hi : i + 3 < gN G ∧ gN G ≤ 2048) (kk : ∀ (Y' : (Nat → Bool) × (Nat → Bool)) (ρ' : RS) (M' : Mem), LI (k + 1) M' Y' ρ' → Bg 136 736 M M' → Sf G (miL nm) Q 809 [some (vR (40, 0)), some (vR (1, 0)), some (vR (30, 0)), some (vI ↑i)] [] M') : Sf G (miL nm) Q 522 [some (vR (40, 0)), some (vR (1, 0)), some (vR (30, 0)), some (vI ↑i)] [] M := by
  obtain ⟨hCs, hR, hIv, hQn⟩ := h
  obtain ⟨hN14, h23⟩ := hQn.lim hIv
  have hN : thN ρ < 7800 := by omega
  have hlfx : ∀ e : Nat, e < 12 → ρ.2 23 e < 300 := fun e he => by have := h23 e he; omega
  obtain ⟨sc, kn, hS, hCl⟩ := id hCs
  obtain ⟨⟨hp, hl, hm, hli, h44⟩, ⟨hTI, hSh⟩, ⟨hRo, hRp⟩, ⟨hEd, hOw, hYs, hSt⟩, hEn, hLf, ⟨hKo, hKy, hTs, hTl⟩, ⟨hLt, hLp⟩, hTr, hFe⟩ := id hIv
  refine S_aload_n dL_law_522 rfl ?_
  refine S_aload_n dL_law_523 rfl ?_
  refine S_iload_n dL_law_524 rfl ?_
  refine S_iconst dL_law_525 ?_
  refine S_iadd dL_law_526 ?_
  refine S_sld (i + 1) dL_law_527 (by omega) (by omega) rfl ?_
  refine S_aload_n dL_law_528 rfl ?_
  refine S_iload_n dL_law_529 rfl ?_
  refine S_iconst dL_law_530 ?_
  refine S_iadd dL_law_531 ?_
  refine S_sld (i + 2) dL_law_532 (by omega) (by omega) rfl ?_
  refine S_aload_n dL_law_533 rfl ?_
  refine S_iload_n dL_law_534 rfl ?_
  refine S_iconst dL_law_535 ?_
  refine S_iadd dL_law_536 ?_
  refine S_sld (i + 3) dL_law_537 (by omega) (by omega) rfl ?_
  refine S_callV (mi := (miL nm)) [vI ((gX G (i + 1)).toInt), vI ((gX G (i + 2)).toInt), vI ((gX G (i + 3)).toInt)] ok_X8_skipped ml_L_72 dL_law_538 rfl (by decide) rfl (Nat.le_of_ble_eq_true rfl) rfl (Nat.le_of_ble_eq_true rfl) rfl (c_skipped hCl ((gX G (i + 1)).toInt) ((gX G (i + 2)).toInt) ((gX G (i + 3)).toInt) (i32 _) (i32 _) (i32 _) hp hKo) ?_
  rintro v' M1 ⟨rfl, hM1⟩
  rw [hM1]
  clear hM1
  refine S_aload_n dL_law_541 rfl ?_
  refine S_aload_n dL_law_542 rfl ?_
  refine S_iload_n dL_law_543 rfl ?_
  refine S_iconst dL_law_544 ?_
  refine S_iadd dL_law_545 ?_
  refine S_sld (i + 1) dL_law_546 (by omega) (by omega) rfl ?_
  refine S_aload_n dL_law_547 rfl ?_
  refine S_iload_n dL_law_548 rfl ?_
  refine S_iconst dL_law_549 ?_
  refine S_iadd dL_law_550 ?_
  refine S_sld (i + 2) dL_law_551 (by omega) (by omega) rfl ?_
  refine S_aload_n dL_law_552 rfl ?_
  refine S_iload_n dL_law_553 rfl ?_
  refine S_iconst dL_law_554 ?_
  refine S_iadd dL_law_555 ?_
  refine S_sld (i + 3) dL_law_556 (by omega) (by omega) rfl ?_
  refine S_callV (mi := (miL nm)) [vI ((gX G (i + 1)).toInt), vI ((gX G (i + 2)).toInt), vI ((gX G (i + 3)).toInt)] ok_X9_skipped ml_L_76 dL_law_557 rfl (by decide) rfl (Nat.le_of_ble_eq_true rfl) rfl (Nat.le_of_ble_eq_true rfl) rfl (r_X9_skipped ((gX G (i + 1)).toInt) ((gX G (i + 2)).toInt) ((gX G (i + 3)).toInt) (i32 _) (i32 _) (i32 _) hp hKo (thN ρ) hTI.1 (by omega) (fun e j n he hn hj => by obtain ⟨k, k1, k2, -⟩ := hKy e j n he hn hj; exact ⟨k, k1, k2⟩) M hR) ?_
  rintro v' M2 ⟨rfl, hR2, hS2⟩
  refine S_icmp_same 809 dL_law_560 (by decide) ?_
  exact kk Y ρ M2 ⟨hCs.frR hS2.fr, hR2, hIv, hQn.none hIv⟩ (hS2.bg.le (by decide) (by decide))
theorem law_letter {nm : String} {G : Ge} {Q : Option AVal → Mem → Prop} {M : Mem} {Y : (Nat → Bool) × (Nat → Bool)} {ρ : RS} {k i : Nat} (hk : k < 512) (h : LI k M Y ρ) (hRm : Rm 136 736 M) (hi : i + 3 < gN G ∧ gN G ≤ 2048) (kk : ∀ (Y' : (Nat → Bool) × (Nat → Bool)) (ρ' : RS) (M' : Mem), LI (k + 1) M' Y' ρ' → Bg 136 736 M M' → Sf G (miL nm) Q 809 [some (vR (40, 0)), some (vR (1, 0)), some (vR (30, 0)), some (vI ↑i)] [] M') : Sf G (miL nm) Q 565 [some (vR (40, 0)), some (vR (1, 0)), some (vR (30, 0)), some (vI ↑i)] [] M := by
  obtain ⟨hCs, hR, hIv, hQn⟩ := h
  obtain ⟨hN14, h23⟩ := hQn.lim hIv
  have hN : thN ρ < 7800 := by omega
  have hlfx : ∀ e : Nat, e < 12 → ρ.2 23 e < 300 := fun e he => by have := h23 e he; omega
  obtain ⟨sc, kn, hS, hCl⟩ := id hCs
  obtain ⟨⟨hp, hl, hm, hli, h44⟩, ⟨hTI, hSh⟩, ⟨hRo, hRp⟩, ⟨hEd, hOw, hYs, hSt⟩, hEn, hLf, ⟨hKo, hKy, hTs, hTl⟩, ⟨hLt, hLp⟩, hTr, hFe⟩ := id hIv
  refine S_aload_n dL_law_565 rfl ?_
  refine S_aload_n dL_law_566 rfl ?_
  refine S_iload_n dL_law_567 rfl ?_
  refine S_iconst dL_law_568 ?_
  refine S_iadd dL_law_569 ?_
  refine S_sld (i + 1) dL_law_570 (by omega) (by omega) rfl ?_
  refine S_aload_n dL_law_571 rfl ?_
  refine S_iload_n dL_law_572 rfl ?_
  refine S_iconst dL_law_573 ?_
  refine S_iadd dL_law_574 ?_
  refine S_sld (i + 2) dL_law_575 (by omega) (by omega) rfl ?_
  refine S_callV (mi := (miL nm)) [vI ((gX G (i + 1)).toInt), vI ((gX G (i + 2)).toInt)] ok_X8_letter ml_L_77 dL_law_576 rfl (by decide) rfl (Nat.le_of_ble_eq_true rfl) rfl (Nat.le_of_ble_eq_true rfl) rfl (c_letter hCl ((gX G (i + 1)).toInt) ((gX G (i + 2)).toInt) (i32 _) (i32 _) hl) ?_
  rintro v' M1 ⟨rfl, hM1⟩
  rw [hM1]
  clear hM1
  refine S_aload_n dL_law_579 rfl ?_
  refine S_aload_n dL_law_580 rfl ?_
  refine S_iload_n dL_law_581 rfl ?_
  refine S_iconst dL_law_582 ?_
  refine S_iadd dL_law_583 ?_
  refine S_sld (i + 1) dL_law_584 (by omega) (by omega) rfl ?_
  refine S_aload_n dL_law_585 rfl ?_
  refine S_iload_n dL_law_586 rfl ?_
  refine S_iconst dL_law_587 ?_
  refine S_iadd dL_law_588 ?_
  refine S_sld (i + 2) dL_law_589 (by omega) (by omega) rfl ?_
  refine S_callV (mi := (miL nm)) [vI ((gX G (i + 1)).toInt), vI ((gX G (i + 2)).toInt)] ok_X9_letter ml_L_80 dL_law_590 rfl (by decide) rfl (Nat.le_of_ble_eq_true rfl) rfl (Nat.le_of_ble_eq_true rfl) rfl (r_X9_letter ((gX G (i + 1)).toInt) ((gX G (i + 2)).toInt) (i32 _) (i32 _) hl M hR) ?_
  rintro v' M2 ⟨rfl, hR2, hS2⟩
  refine S_icmp_same 809 dL_law_593 (by decide) ?_
  exact kk Y ρ M2 ⟨hCs.frR hS2.fr, hR2, hIv, hQn.none hIv⟩ (hS2.bg.le (by decide) (by decide))
theorem law_count {nm : String} {G : Ge} {Q : Option AVal → Mem → Prop} {M : Mem} {Y : (Nat → Bool) × (Nat → Bool)} {ρ : RS} {k i : Nat} (hk : k < 512) (h : LI k M Y ρ) (hRm : Rm 136 736 M) (hi : i + 3 < gN G ∧ gN G ≤ 2048) (kk : ∀ (Y' : (Nat → Bool) × (Nat → Bool)) (ρ' : RS) (M' : Mem), LI (k + 1) M' Y' ρ' → Bg 136 736 M M' → Sf G (miL nm) Q 809 [some (vR (40, 0)), some (vR (1, 0)), some (vR (30, 0)), some (vI ↑i)] [] M') : Sf G (miL nm) Q 598 [some (vR (40, 0)), some (vR (1, 0)), some (vR (30, 0)), some (vI ↑i)] [] M := by
  obtain ⟨hCs, hR, hIv, hQn⟩ := h
  obtain ⟨hN14, h23⟩ := hQn.lim hIv
  have hN : thN ρ < 7800 := by omega
  have hlfx : ∀ e : Nat, e < 12 → ρ.2 23 e < 300 := fun e he => by have := h23 e he; omega
  obtain ⟨sc, kn, hS, hCl⟩ := id hCs
  obtain ⟨⟨hp, hl, hm, hli, h44⟩, ⟨hTI, hSh⟩, ⟨hRo, hRp⟩, ⟨hEd, hOw, hYs, hSt⟩, hEn, hLf, ⟨hKo, hKy, hTs, hTl⟩, ⟨hLt, hLp⟩, hTr, hFe⟩ := id hIv
  refine S_aload_n dL_law_598 rfl ?_
  refine S_aload_n dL_law_599 rfl ?_
  refine S_iload_n dL_law_600 rfl ?_
  refine S_iconst dL_law_601 ?_
  refine S_iadd dL_law_602 ?_
  refine S_sld (i + 1) dL_law_603 (by omega) (by omega) rfl ?_
  refine S_callV (mi := (miL nm)) [vI ((gX G (i + 1)).toInt)] ok_X8_count ml_L_81 dL_law_604 rfl (by decide) rfl (Nat.le_of_ble_eq_true rfl) rfl (Nat.le_of_ble_eq_true rfl) rfl (c_count hCl ((gX G (i + 1)).toInt) (i32 _) hp hS (thN ρ) hTI.1 (by omega) (by omega)) ?_
  rintro v' M1 ⟨rfl, hM1⟩
  rw [hM1]
  clear hM1
  refine S_aload_n dL_law_607 rfl ?_
  refine S_aload_n dL_law_608 rfl ?_
  refine S_iload_n dL_law_609 rfl ?_
  refine S_iconst dL_law_610 ?_
  refine S_iadd dL_law_611 ?_
  refine S_sld (i + 1) dL_law_612 (by omega) (by omega) rfl ?_
  refine S_callV (mi := (miL nm)) [vI ((gX G (i + 1)).toInt)] ok_X9_count ml_L_84 dL_law_613 rfl (by decide) rfl (Nat.le_of_ble_eq_true rfl) rfl (Nat.le_of_ble_eq_true rfl) rfl (r_X9_count ((gX G (i + 1)).toInt) (i32 _) (thN ρ) hTI.1 (by omega) hSh M hR) ?_
  rintro v' M2 ⟨rfl, hR2, hS2⟩
  refine S_icmp_same 809 dL_law_616 (by decide) ?_
  have hz : LI (k + 1) M2 Y (countF ρ ((gX G (i + 1)).toInt)).2 := by
    have w1 : (countF ρ ((gX G (i + 1)).toInt)).2 = ρ ∨ (countF ρ ((gX G (i + 1)).toInt)).2 = knR ρ := by
      unfold countF
      repeat' split
      all_goals first | exact Or.inl rfl | exact Or.inr rfl
    rcases w1 with w | w <;> rw [w] at hR2 ⊢
    · exact ⟨hCs.frR hS2.fr, hR2, hIv, hQn.none hIv⟩
    · exact ⟨hCs.know.frR hS2.fr, hR2, hIv.know, hQn.know hIv⟩
  exact kk Y _ M2 hz (hS2.bg.le (by decide) (by decide))
theorem law_hold {nm : String} {G : Ge} {Q : Option AVal → Mem → Prop} {M : Mem} {Y : (Nat → Bool) × (Nat → Bool)} {ρ : RS} {k i : Nat} (hk : k < 512) (h : LI k M Y ρ) (hRm : Rm 136 736 M) (hi : i + 3 < gN G ∧ gN G ≤ 2048) (kk : ∀ (Y' : (Nat → Bool) × (Nat → Bool)) (ρ' : RS) (M' : Mem), LI (k + 1) M' Y' ρ' → Bg 136 736 M M' → Sf G (miL nm) Q 809 [some (vR (40, 0)), some (vR (1, 0)), some (vR (30, 0)), some (vI ↑i)] [] M') : Sf G (miL nm) Q 621 [some (vR (40, 0)), some (vR (1, 0)), some (vR (30, 0)), some (vI ↑i)] [] M := by
  obtain ⟨hCs, hR, hIv, hQn⟩ := h
  obtain ⟨hN14, h23⟩ := hQn.lim hIv
  have hN : thN ρ < 7800 := by omega
  have hlfx : ∀ e : Nat, e < 12 → ρ.2 23 e < 300 := fun e he => by have := h23 e he; omega
  obtain ⟨sc, kn, hS, hCl⟩ := id hCs
  obtain ⟨⟨hp, hl, hm, hli, h44⟩, ⟨hTI, hSh⟩, ⟨hRo, hRp⟩, ⟨hEd, hOw, hYs, hSt⟩, hEn, hLf, ⟨hKo, hKy, hTs, hTl⟩, ⟨hLt, hLp⟩, hTr, hFe⟩ := id hIv
  refine S_aload_n dL_law_621 rfl ?_
  refine S_aload_n dL_law_622 rfl ?_
  refine S_iload_n dL_law_623 rfl ?_
  refine S_iconst dL_law_624 ?_
  refine S_iadd dL_law_625 ?_
  refine S_sld (i + 1) dL_law_626 (by omega) (by omega) rfl ?_
  refine S_aload_n dL_law_627 rfl ?_
  refine S_iload_n dL_law_628 rfl ?_
  refine S_iconst dL_law_629 ?_
  refine S_iadd dL_law_630 ?_
  refine S_sld (i + 2) dL_law_631 (by omega) (by omega) rfl ?_
  refine S_aload_n dL_law_632 rfl ?_
  refine S_iload_n dL_law_633 rfl ?_
  refine S_iconst dL_law_634 ?_
  refine S_iadd dL_law_635 ?_
  refine S_sld (i + 3) dL_law_636 (by omega) (by omega) rfl ?_
  refine S_callV (mi := (miL nm)) [vI ((gX G (i + 1)).toInt), vI ((gX G (i + 2)).toInt), vI ((gX G (i + 3)).toInt)] ok_X8_hold ml_L_85 dL_law_637 rfl (by decide) rfl (Nat.le_of_ble_eq_true rfl) rfl (Nat.le_of_ble_eq_true rfl) rfl (c_hold hCs hIv ((gX G (i + 1)).toInt) ((gX G (i + 2)).toInt) ((gX G (i + 3)).toInt) (i32 _) (i32 _) (i32 _)) ?_
  rintro v' M1 ⟨rfl, hCs1, hF1, hB1⟩
  refine S_aload_n dL_law_640 rfl ?_
  refine S_aload_n dL_law_641 rfl ?_
  refine S_iload_n dL_law_642 rfl ?_
  refine S_iconst dL_law_643 ?_
  refine S_iadd dL_law_644 ?_
  refine S_sld (i + 1) dL_law_645 (by omega) (by omega) rfl ?_
  refine S_aload_n dL_law_646 rfl ?_
  refine S_iload_n dL_law_647 rfl ?_
  refine S_iconst dL_law_648 ?_
  refine S_iadd dL_law_649 ?_
  refine S_sld (i + 2) dL_law_650 (by omega) (by omega) rfl ?_
  refine S_aload_n dL_law_651 rfl ?_
  refine S_iload_n dL_law_652 rfl ?_
  refine S_iconst dL_law_653 ?_
  refine S_iadd dL_law_654 ?_
  refine S_sld (i + 3) dL_law_655 (by omega) (by omega) rfl ?_
  refine S_callV (mi := (miL nm)) [vI ((gX G (i + 1)).toInt), vI ((gX G (i + 2)).toInt), vI ((gX G (i + 3)).toInt)] ok_X9_hold ml_L_88 dL_law_656 rfl (by decide) rfl (Nat.le_of_ble_eq_true rfl) rfl (Nat.le_of_ble_eq_true rfl) rfl (r_X9_hold ((gX G (i + 1)).toInt) ((gX G (i + 2)).toInt) ((gX G (i + 3)).toInt) (i32 _) (i32 _) (i32 _) hp (thN ρ) hTI.1 (by omega) (fun p hp => (hSt p hp).1) hEd hKo hl (fun l hl => by obtain ⟨⟨x, x1, x2, -⟩, -, -, -, -, -, ⟨k, k1, k2, -⟩, -⟩ := hLt l hl; exact ⟨⟨k, k1, k2⟩, by omega⟩) M1 (hR.frC hF1)) ?_
  rintro v' M2 ⟨rfl, hR2, hS2⟩
  refine S_icmp_same 809 dL_law_659 (by decide) ?_
  exact kk Y (holdF ρ ((gX G (i + 1)).toInt) ((gX G (i + 2)).toInt) ((gX G (i + 3)).toInt)).2 M2 ⟨hCs1.frR hS2.fr, hR2, (hIv.hold ((gX G (i + 1)).toInt) ((gX G (i + 2)).toInt) ((gX G (i + 3)).toInt)), (hQn.hold hIv ((gX G (i + 1)).toInt) ((gX G (i + 2)).toInt) ((gX G (i + 3)).toInt))⟩ ((hB1.trans hS2.bg).le (by decide) (by decide))
theorem law_tray {nm : String} {G : Ge} {Q : Option AVal → Mem → Prop} {M : Mem} {Y : (Nat → Bool) × (Nat → Bool)} {ρ : RS} {k i : Nat} (hk : k < 512) (h : LI k M Y ρ) (hRm : Rm 136 736 M) (hi : i + 3 < gN G ∧ gN G ≤ 2048) (kk : ∀ (Y' : (Nat → Bool) × (Nat → Bool)) (ρ' : RS) (M' : Mem), LI (k + 1) M' Y' ρ' → Bg 136 736 M M' → Sf G (miL nm) Q 809 [some (vR (40, 0)), some (vR (1, 0)), some (vR (30, 0)), some (vI ↑i)] [] M') : Sf G (miL nm) Q 664 [some (vR (40, 0)), some (vR (1, 0)), some (vR (30, 0)), some (vI ↑i)] [] M := by
  obtain ⟨hCs, hR, hIv, hQn⟩ := h
  obtain ⟨hN14, h23⟩ := hQn.lim hIv
  have hN : thN ρ < 7800 := by omega
  have hlfx : ∀ e : Nat, e < 12 → ρ.2 23 e < 300 := fun e he => by have := h23 e he; omega
  obtain ⟨sc, kn, hS, hCl⟩ := id hCs
  obtain ⟨⟨hp, hl, hm, hli, h44⟩, ⟨hTI, hSh⟩, ⟨hRo, hRp⟩, ⟨hEd, hOw, hYs, hSt⟩, hEn, hLf, ⟨hKo, hKy, hTs, hTl⟩, ⟨hLt, hLp⟩, hTr, hFe⟩ := id hIv
  refine S_aload_n dL_law_664 rfl ?_
  refine S_aload_n dL_law_665 rfl ?_
  refine S_iload_n dL_law_666 rfl ?_
  refine S_iconst dL_law_667 ?_
  refine S_iadd dL_law_668 ?_
  refine S_sld (i + 1) dL_law_669 (by omega) (by omega) rfl ?_
  refine S_callV (mi := (miL nm)) [vI ((gX G (i + 1)).toInt)] ok_X8_tray ml_L_89 dL_law_670 rfl (by decide) rfl (Nat.le_of_ble_eq_true rfl) rfl (Nat.le_of_ble_eq_true rfl) rfl (c_tray hCl ((gX G (i + 1)).toInt) (i32 _)) ?_
  rintro v' M1 ⟨rfl, hM1⟩
  rw [hM1]
  clear hM1
  refine S_aload_n dL_law_673 rfl ?_
  refine S_aload_n dL_law_674 rfl ?_
  refine S_iload_n dL_law_675 rfl ?_
  refine S_iconst dL_law_676 ?_
  refine S_iadd dL_law_677 ?_
  refine S_sld (i + 1) dL_law_678 (by omega) (by omega) rfl ?_
  refine S_callV (mi := (miL nm)) [vI ((gX G (i + 1)).toInt)] ok_X9_tray ml_L_92 dL_law_679 rfl (by decide) rfl (Nat.le_of_ble_eq_true rfl) rfl (Nat.le_of_ble_eq_true rfl) rfl (r_X9_tray ((gX G (i + 1)).toInt) (i32 _) M hR) ?_
  rintro v' M2 ⟨rfl, hR2, hS2⟩
  refine S_icmp_same 809 dL_law_682 (by decide) ?_
  exact kk Y ρ M2 ⟨hCs.frR hS2.fr, hR2, hIv, hQn.none hIv⟩ (hS2.bg.le (by decide) (by decide))
theorem law_act {nm : String} {G : Ge} {Q : Option AVal → Mem → Prop} {M : Mem} {Y : (Nat → Bool) × (Nat → Bool)} {ρ : RS} {k i : Nat} (hk : k < 512) (h : LI k M Y ρ) (hRm : Rm 136 736 M) (hi : i + 3 < gN G ∧ gN G ≤ 2048) (kk : ∀ (Y' : (Nat → Bool) × (Nat → Bool)) (ρ' : RS) (M' : Mem), LI (k + 1) M' Y' ρ' → Bg 136 736 M M' → Sf G (miL nm) Q 809 [some (vR (40, 0)), some (vR (1, 0)), some (vR (30, 0)), some (vI ↑i)] [] M') : Sf G (miL nm) Q 687 [some (vR (40, 0)), some (vR (1, 0)), some (vR (30, 0)), some (vI ↑i)] [] M := by
  obtain ⟨hCs, hR, hIv, hQn⟩ := h
  obtain ⟨hN14, h23⟩ := hQn.lim hIv
  have hN : thN ρ < 7800 := by omega
  have hlfx : ∀ e : Nat, e < 12 → ρ.2 23 e < 300 := fun e he => by have := h23 e he; omega
  obtain ⟨sc, kn, hS, hCl⟩ := id hCs
  obtain ⟨⟨hp, hl, hm, hli, h44⟩, ⟨hTI, hSh⟩, ⟨hRo, hRp⟩, ⟨hEd, hOw, hYs, hSt⟩, hEn, hLf, ⟨hKo, hKy, hTs, hTl⟩, ⟨hLt, hLp⟩, hTr, hFe⟩ := id hIv
  refine S_aload_n dL_law_687 rfl ?_
  refine S_aload_n dL_law_688 rfl ?_
  refine S_iload_n dL_law_689 rfl ?_
  refine S_iconst dL_law_690 ?_
  refine S_iadd dL_law_691 ?_
  refine S_sld (i + 1) dL_law_692 (by omega) (by omega) rfl ?_
  refine S_aload_n dL_law_693 rfl ?_
  refine S_iload_n dL_law_694 rfl ?_
  refine S_iconst dL_law_695 ?_
  refine S_iadd dL_law_696 ?_
  refine S_sld (i + 2) dL_law_697 (by omega) (by omega) rfl ?_
  refine S_aload_n dL_law_698 rfl ?_
  refine S_iload_n dL_law_699 rfl ?_
  refine S_iconst dL_law_700 ?_
  refine S_iadd dL_law_701 ?_
  refine S_sld (i + 3) dL_law_702 (by omega) (by omega) rfl ?_
  refine S_callV (mi := (miL nm)) [vI ((gX G (i + 1)).toInt), vI ((gX G (i + 2)).toInt), vI ((gX G (i + 3)).toInt)] ok_X8_act ml_L_93 dL_law_703 rfl (by decide) rfl (Nat.le_of_ble_eq_true rfl) rfl (Nat.le_of_ble_eq_true rfl) rfl (c_act hCs hIv ((gX G (i + 1)).toInt) ((gX G (i + 2)).toInt) ((gX G (i + 3)).toInt) (i32 _) (i32 _) (i32 _)) ?_
  rintro v' M1 ⟨rfl, hCs1, hF1, hB1⟩
  refine S_aload_n dL_law_706 rfl ?_
  refine S_aload_n dL_law_707 rfl ?_
  refine S_iload_n dL_law_708 rfl ?_
  refine S_iconst dL_law_709 ?_
  refine S_iadd dL_law_710 ?_
  refine S_sld (i + 1) dL_law_711 (by omega) (by omega) rfl ?_
  refine S_aload_n dL_law_712 rfl ?_
  refine S_iload_n dL_law_713 rfl ?_
  refine S_iconst dL_law_714 ?_
  refine S_iadd dL_law_715 ?_
  refine S_sld (i + 2) dL_law_716 (by omega) (by omega) rfl ?_
  refine S_aload_n dL_law_717 rfl ?_
  refine S_iload_n dL_law_718 rfl ?_
  refine S_iconst dL_law_719 ?_
  refine S_iadd dL_law_720 ?_
  refine S_sld (i + 3) dL_law_721 (by omega) (by omega) rfl ?_
  refine S_callV (mi := (miL nm)) [vI ((gX G (i + 1)).toInt), vI ((gX G (i + 2)).toInt), vI ((gX G (i + 3)).toInt)] ok_X9_act ml_L_96 dL_law_722 rfl (by decide) rfl (Nat.le_of_ble_eq_true rfl) rfl (Nat.le_of_ble_eq_true rfl) rfl (r_X9_act ((gX G (i + 1)).toInt) ((gX G (i + 2)).toInt) ((gX G (i + 3)).toInt) (i32 _) (i32 _) (i32 _) hTr (thN ρ) hTI.1 (by omega) M1 (hR.frC hF1)) ?_
  rintro v' M2 ⟨rfl, hR2, hS2⟩
  refine S_icmp_same 809 dL_law_725 (by decide) ?_
  exact kk Y (actF ρ ((gX G (i + 1)).toInt) ((gX G (i + 2)).toInt) ((gX G (i + 3)).toInt)).2 M2 ⟨hCs1.frR hS2.fr, hR2, (hIv.act ((gX G (i + 1)).toInt) ((gX G (i + 2)).toInt) ((gX G (i + 3)).toInt)), (hQn.act hIv ((gX G (i + 1)).toInt) ((gX G (i + 2)).toInt) ((gX G (i + 3)).toInt))⟩ ((hB1.trans hS2.bg).le (by decide) (by decide))
theorem law_trace {nm : String} {G : Ge} {Q : Option AVal → Mem → Prop} {M : Mem} {Y : (Nat → Bool) × (Nat → Bool)} {ρ : RS} {k i : Nat} (hk : k < 512) (h : LI k M Y ρ) (hRm : Rm 136 736 M) (hi : i + 3 < gN G ∧ gN G ≤ 2048) (kk : ∀ (Y' : (Nat → Bool) × (Nat → Bool)) (ρ' : RS) (M' : Mem), LI (k + 1) M' Y' ρ' → Bg 136 736 M M' → Sf G (miL nm) Q 809 [some (vR (40, 0)), some (vR (1, 0)), some (vR (30, 0)), some (vI ↑i)] [] M') : Sf G (miL nm) Q 730 [some (vR (40, 0)), some (vR (1, 0)), some (vR (30, 0)), some (vI ↑i)] [] M := by
  obtain ⟨hCs, hR, hIv, hQn⟩ := h
  obtain ⟨hN14, h23⟩ := hQn.lim hIv
  have hN : thN ρ < 7800 := by omega
  have hlfx : ∀ e : Nat, e < 12 → ρ.2 23 e < 300 := fun e he => by have := h23 e he; omega
  obtain ⟨sc, kn, hS, hCl⟩ := id hCs
  obtain ⟨⟨hp, hl, hm, hli, h44⟩, ⟨hTI, hSh⟩, ⟨hRo, hRp⟩, ⟨hEd, hOw, hYs, hSt⟩, hEn, hLf, ⟨hKo, hKy, hTs, hTl⟩, ⟨hLt, hLp⟩, hTr, hFe⟩ := id hIv
  refine S_aload_n dL_law_730 rfl ?_
  refine S_aload_n dL_law_731 rfl ?_
  refine S_iload_n dL_law_732 rfl ?_
  refine S_iconst dL_law_733 ?_
  refine S_iadd dL_law_734 ?_
  refine S_sld (i + 1) dL_law_735 (by omega) (by omega) rfl ?_
  refine S_callV (mi := (miL nm)) [vI ((gX G (i + 1)).toInt)] ok_X8_trace ml_L_97 dL_law_736 rfl (by decide) rfl (Nat.le_of_ble_eq_true rfl) rfl (Nat.le_of_ble_eq_true rfl) rfl (c_trace hCl ((gX G (i + 1)).toInt) (i32 _) h44) ?_
  rintro v' M1 ⟨rfl, hM1⟩
  rw [hM1]
  clear hM1
  refine S_aload_n dL_law_739 rfl ?_
  refine S_aload_n dL_law_740 rfl ?_
  refine S_iload_n dL_law_741 rfl ?_
  refine S_iconst dL_law_742 ?_
  refine S_iadd dL_law_743 ?_
  refine S_sld (i + 1) dL_law_744 (by omega) (by omega) rfl ?_
  refine S_callV (mi := (miL nm)) [vI ((gX G (i + 1)).toInt)] ok_X9_trace ml_L_100 dL_law_745 rfl (by decide) rfl (Nat.le_of_ble_eq_true rfl) rfl (Nat.le_of_ble_eq_true rfl) rfl (r_X9_trace ((gX G (i + 1)).toInt) (i32 _) h44 M hR) ?_
  rintro v' M2 ⟨rfl, hR2, hS2⟩
  refine S_icmp_same 809 dL_law_748 (by decide) ?_
  exact kk Y ρ M2 ⟨hCs.frR hS2.fr, hR2, hIv, hQn.none hIv⟩ (hS2.bg.le (by decide) (by decide))
theorem law_forge {nm : String} {G : Ge} {Q : Option AVal → Mem → Prop} {M : Mem} {Y : (Nat → Bool) × (Nat → Bool)} {ρ : RS} {k i : Nat} (hk : k < 512) (h : LI k M Y ρ) (hRm : Rm 136 736 M) (hi : i + 3 < gN G ∧ gN G ≤ 2048) (kk : ∀ (Y' : (Nat → Bool) × (Nat → Bool)) (ρ' : RS) (M' : Mem), LI (k + 1) M' Y' ρ' → Bg 136 736 M M' → Sf G (miL nm) Q 809 [some (vR (40, 0)), some (vR (1, 0)), some (vR (30, 0)), some (vI ↑i)] [] M') : Sf G (miL nm) Q 753 [some (vR (40, 0)), some (vR (1, 0)), some (vR (30, 0)), some (vI ↑i)] [] M := by
  obtain ⟨hCs, hR, hIv, hQn⟩ := h
  obtain ⟨hN14, h23⟩ := hQn.lim hIv
  have hN : thN ρ < 7800 := by omega
  have hlfx : ∀ e : Nat, e < 12 → ρ.2 23 e < 300 := fun e he => by have := h23 e he; omega
  obtain ⟨sc, kn, hS, hCl⟩ := id hCs
  obtain ⟨⟨hp, hl, hm, hli, h44⟩, ⟨hTI, hSh⟩, ⟨hRo, hRp⟩, ⟨hEd, hOw, hYs, hSt⟩, hEn, hLf, ⟨hKo, hKy, hTs, hTl⟩, ⟨hLt, hLp⟩, hTr, hFe⟩ := id hIv
  refine S_aload_n dL_law_753 rfl ?_
  refine S_aload_n dL_law_754 rfl ?_
  refine S_iload_n dL_law_755 rfl ?_
  refine S_iconst dL_law_756 ?_
  refine S_iadd dL_law_757 ?_
  refine S_sld (i + 1) dL_law_758 (by omega) (by omega) rfl ?_
  refine S_aload_n dL_law_759 rfl ?_
  refine S_iload_n dL_law_760 rfl ?_
  refine S_iconst dL_law_761 ?_
  refine S_iadd dL_law_762 ?_
  refine S_sld (i + 2) dL_law_763 (by omega) (by omega) rfl ?_
  refine S_aload_n dL_law_764 rfl ?_
  refine S_iload_n dL_law_765 rfl ?_
  refine S_iconst dL_law_766 ?_
  refine S_iadd dL_law_767 ?_
  refine S_sld (i + 3) dL_law_768 (by omega) (by omega) rfl ?_
  refine S_callV (mi := (miL nm)) [vI ((gX G (i + 1)).toInt), vI ((gX G (i + 2)).toInt), vI ((gX G (i + 3)).toInt)] ok_X8_forge ml_L_101 dL_law_769 rfl (by decide) rfl (Nat.le_of_ble_eq_true rfl) rfl (Nat.le_of_ble_eq_true rfl) rfl (c_forge hCs hIv ((gX G (i + 1)).toInt) ((gX G (i + 2)).toInt) ((gX G (i + 3)).toInt) (i32 _) (i32 _) (i32 _)) ?_
  rintro v' M1 ⟨rfl, hCs1, hF1, hB1⟩
  refine S_aload_n dL_law_772 rfl ?_
  refine S_aload_n dL_law_773 rfl ?_
  refine S_iload_n dL_law_774 rfl ?_
  refine S_iconst dL_law_775 ?_
  refine S_iadd dL_law_776 ?_
  refine S_sld (i + 1) dL_law_777 (by omega) (by omega) rfl ?_
  refine S_aload_n dL_law_778 rfl ?_
  refine S_iload_n dL_law_779 rfl ?_
  refine S_iconst dL_law_780 ?_
  refine S_iadd dL_law_781 ?_
  refine S_sld (i + 2) dL_law_782 (by omega) (by omega) rfl ?_
  refine S_aload_n dL_law_783 rfl ?_
  refine S_iload_n dL_law_784 rfl ?_
  refine S_iconst dL_law_785 ?_
  refine S_iadd dL_law_786 ?_
  refine S_sld (i + 3) dL_law_787 (by omega) (by omega) rfl ?_
  refine S_callV (mi := (miL nm)) [vI ((gX G (i + 1)).toInt), vI ((gX G (i + 2)).toInt), vI ((gX G (i + 3)).toInt)] ok_X9_forge ml_L_104 dL_law_788 rfl (by decide) rfl (Nat.le_of_ble_eq_true rfl) rfl (Nat.le_of_ble_eq_true rfl) rfl (r_X9_forge ((gX G (i + 1)).toInt) ((gX G (i + 2)).toInt) ((gX G (i + 3)).toInt) (i32 _) (i32 _) (i32 _) hTr hl (thN ρ) hTI.1 (by omega) M1 (hR.frC hF1)) ?_
  rintro v' M2 ⟨rfl, hR2, hS2⟩
  refine S_icmp_same 809 dL_law_791 (by decide) ?_
  exact kk Y (forgeF ρ ((gX G (i + 1)).toInt) ((gX G (i + 2)).toInt) ((gX G (i + 3)).toInt)).2 M2 ⟨hCs1.frR hS2.fr, hR2, (hIv.forge ((gX G (i + 1)).toInt) ((gX G (i + 2)).toInt) ((gX G (i + 3)).toInt)), (hQn.forge hIv ((gX G (i + 1)).toInt) ((gX G (i + 2)).toInt) ((gX G (i + 3)).toInt))⟩ ((hB1.trans hS2.bg).le (by decide) (by decide))
theorem law_status {nm : String} {G : Ge} {Q : Option AVal → Mem → Prop} {M : Mem} {Y : (Nat → Bool) × (Nat → Bool)} {ρ : RS} {k i : Nat} (hk : k < 512) (h : LI k M Y ρ) (hRm : Rm 136 736 M) (hi : i + 3 < gN G ∧ gN G ≤ 2048) (kk : ∀ (Y' : (Nat → Bool) × (Nat → Bool)) (ρ' : RS) (M' : Mem), LI (k + 1) M' Y' ρ' → Bg 136 736 M M' → Sf G (miL nm) Q 809 [some (vR (40, 0)), some (vR (1, 0)), some (vR (30, 0)), some (vI ↑i)] [] M') : Sf G (miL nm) Q 796 [some (vR (40, 0)), some (vR (1, 0)), some (vR (30, 0)), some (vI ↑i)] [] M := by
  obtain ⟨hCs, hR, hIv, hQn⟩ := h
  obtain ⟨hN14, h23⟩ := hQn.lim hIv
  have hN : thN ρ < 7800 := by omega
  have hlfx : ∀ e : Nat, e < 12 → ρ.2 23 e < 300 := fun e he => by have := h23 e he; omega
  obtain ⟨sc, kn, hS, hCl⟩ := id hCs
  obtain ⟨⟨hp, hl, hm, hli, h44⟩, ⟨hTI, hSh⟩, ⟨hRo, hRp⟩, ⟨hEd, hOw, hYs, hSt⟩, hEn, hLf, ⟨hKo, hKy, hTs, hTl⟩, ⟨hLt, hLp⟩, hTr, hFe⟩ := id hIv
  refine S_aload_n dL_law_796 rfl ?_
  refine S_callV (mi := (miL nm)) [] ok_X8_status ml_L_105 dL_law_797 rfl (by decide) rfl (Nat.le_of_ble_eq_true rfl) rfl (Nat.le_of_ble_eq_true rfl) rfl (c_status hCl) ?_
  rintro v' M1 ⟨rfl, hM1⟩
  rw [hM1]
  clear hM1
  refine S_aload_n dL_law_800 rfl ?_
  refine S_callV (mi := (miL nm)) [] ok_X9_status ml_L_108 dL_law_801 rfl (by decide) rfl (Nat.le_of_ble_eq_true rfl) rfl (Nat.le_of_ble_eq_true rfl) rfl (r_X9_status M hR) ?_
  rintro v' M2 ⟨rfl, hR2, hS2⟩
  refine S_icmp_same 809 dL_law_804 (by decide) ?_
  exact kk Y ρ M2 ⟨hCs.frR hS2.fr, hR2, hIv, hQn.none hIv⟩ (hS2.bg.le (by decide) (by decide))
