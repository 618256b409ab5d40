/-! THE REFERENCE: send -/
theorem expR_s {ρ : RS} {k : Nat} (h : KOK ρ) : (expR ρ).1 k = ρ.1 k := by
  have h1 : ∀ (d e : Nat) (ρ : RS), e + d = 12 → KOK ρ → (expA d e ρ).1 k = ρ.1 k := by
    intro d
    induction d with
    | zero => intro e ρ _ _; rfl
    | succ d ih =>
      intro e ρ he hK
      have h2 := expE_ok (ρ.2 25 e).toNat hK (e := e) (by omega)
      exact (ih (e + 1) _ (by omega) h2.1).trans (h2.2 k)
  exact h1 12 0 ρ rfl h
def sn1 (ρ0 ρ : RS) (e l k s : Nat) (v b : Int) : RS := (((((((ρ.setA 31 l e).setA 32 l v).setA 33 l (ρ0.2 21 e)).setA 34 l (ρ0.2 20 e)).setA 35 l ((b + ρ.2 9 k).tmod 256)).setA 36 l (mixF (ρ0.1 0) (ρ.2 9 k) b)).setA 37 l k).setA 38 l s
def sn2 (ρ0 ρ : RS) (e c : Nat) : RS := ((chR ρ c).setA 17 e ↑(chI ρ c)).setA 20 e (ρ0.2 20 e + 1)
def sn3 (ρ : RS) (e c l s : Nat) (b : Int) : RS := (sn2 ρ (sn1 ρ (kyR ρ c) e l (kyI ρ c) s (powF (ρ.1 0) (ρ.1 1) (ρ.2 9 s).toNat) b) e c).setS 30 (↑l + 1)
def snG (ρ : RS) (e c l s : Nat) (b : Int) : RS := (expR (sn3 ρ e c l s b)).setS 42 0
def sendF (ρ : RS) (e b : Int) : Int × RS := if ¬ (0 ≤ e ∧ e ≤ 2 * ρ.1 4 - 1) ∨ ¬ (0 ≤ b ∧ b ≤ 255) then (-1, ρ.setS 42 1) else if ρ.1 30 = 300 then (-1, ρ.setS 42 2) else
  if ρ.2 14 (e.toNat / 2) = 0 ∨ ρ.2 17 e.toNat = -1 then (-1, ρ.setS 42 3) else
  (ρ.1 30, snG ρ e.toNat (ρ.2 17 e.toNat).toNat (ρ.1 30).toNat (ρ.2 15 e.toNat).toNat b)
set_option maxRecDepth 100000 in
theorem r_X9_send {G : Ge} {ρ : RS} (e b : Int) (e32 : -2147483648 ≤ e ∧ e < 2147483648) (b32 : -2147483648 ≤ b ∧ b < 2147483648) (hp : 0 ≤ ρ.1 4 ∧ ρ.1 4 ≤ 6) (N : Nat) (h : ThOK ρ N) (hN : N < 7990) (hst : ∀ p, p < 6 → ρ.2 14 p = 0 ∨ ρ.2 14 p = 1) (hSe : SecOK ρ) (hE : ∀ e : Nat, e < 12 → ρ.2 14 (e / 2) ≠ 0 → EndOK ρ e) (hK : KOK ρ) (hl : 0 ≤ ρ.1 30 ∧ ρ.1 30 ≤ 300) (hli : 0 ≤ ρ.1 3 ∧ ρ.1 3 ≤ 300) : RC G mi_X9_send [vR ((30, 0)), vI e, vI b] ρ (some (vI (sendF ρ e b).1)) ((sendF ρ e b).2) := by
  intro M hR
  have hS := SameR.rf M
  refine Ct.of pl_X9_send [some (vR ((30, 0))), some (vI e), some (vI b), none, none] rfl (Nat.le_of_ble_eq_true rfl) ?_
  refine S_aload_n dX9_send_0 rfl ?_
  refine S_iload_n dX9_send_1 rfl ?_
  refine S_callV (mi := mi_X9_send) [vI e] ok_X9_isEnd ml_X9_172 dX9_send_2 rfl (by decide) rfl (by decide) rfl (Nat.le_of_ble_eq_true rfl) rfl (r_X9_isEnd (ρ := ρ) e (by omega) (show 0 ≤ ρ.1 4 ∧ ρ.1 4 ≤ 6 from by omega) M hR) ?_
  rintro v' M1 ⟨⟨rfl, b_2⟩ | ⟨rfl, b_2⟩, hR1, hS1'⟩
  · have hS1 := hS.trans hS1'
    obtain ⟨i, rfl⟩ : ∃ i : Nat, e = ↑i := ⟨e.toNat, by omega⟩
    refine S_if_eq 19 dX9_send_5 (by decide) (by omega) (fun c_5 => absurd c_5 (by omega)) (fun c_5 => ?_)
    refine S_iload_n dX9_send_8 rfl ?_
    refine S_iconst dX9_send_9 ?_
    refine S_sipush dX9_send_10 (by decide) ?_
    refine S_callS (mi := mi_X9_send) [vI b, vI 0, vI 255] ok_X9_in ml_X9_138 dX9_send_13 (by decide) rfl (Nat.le_of_ble_eq_true rfl) rfl (r_X9_in (ρ := ρ) b 0 255 (by omega) (by omega) (by omega) M1 hR1) ?_
    rintro v' M2 ⟨⟨rfl, b_13⟩ | ⟨rfl, b_13⟩, hR2, hS2'⟩
    · have hS2 := hS1.trans hS2'
      refine S_if_ne 25 dX9_send_16 (by decide) (by omega) (fun c_16 => ?_) (fun c_16 => absurd c_16 (by omega))
      refine S_aload_n dX9_send_25 rfl ?_
      refine S_getI (v := ρ.1 30) fl_X9_142 dX9_send_26 rfl rfl ((hR2.s 30).trans rfl) ?_
      refine S_sipush dX9_send_29 (by decide) ?_
      refine S_icmp_ne 41 dX9_send_32 (by decide) (by omega) (fun c_32 => ?_) (fun c_32 => ?_)
      · refine S_aload_n dX9_send_41 rfl ?_
        refine S_getP fl_X9_48 dX9_send_42 rfl rfl (hR2.p 14 rfl) ?_
        refine S_iload_n dX9_send_45 rfl ?_
        refine S_iconst dX9_send_46 ?_
        refine S_idiv dX9_send_47 (by omega) (by omega) ?_
        rw [show Int.tdiv (↑i) 2 = (↑(i / 2) : Int) from rfl]
        have hst9 := hst (i / 2) (by omega)
        refine R_bld (v := ρ.2 14 ((i / 2))) ((i / 2)) hR2 dX9_send_48 rfl rfl (by omega) (show _ < 6 from by omega) rfl ?_
        refine S_if_eq 62 dX9_send_49 (by decide) (by omega) (fun c_49 => ?_) (fun c_49 => ?_)
        · refine S_aload_n dX9_send_62 rfl ?_
          refine S_iconst dX9_send_63 ?_
          refine S_callV (mi := mi_X9_send) [vI 3] ok_X9_refused ml_X9_163 dX9_send_64 rfl (by decide) rfl (by decide) rfl (Nat.le_of_ble_eq_true rfl) rfl (r_X9_refused (ρ := ρ) 3 M2 hR2) ?_
          rintro v' M3 ⟨rfl, hR3, hS3'⟩
          have hS3 := hS2.trans hS3'
          exact S_iret dX9_send_67 rfl (Or.inl rfl) (by first | (exfalso; omega) | (have e9 : sendF ρ (↑i) b = (((-1) : Int), (ρ.setS 42 3)) := (by unfold sendF; simp only [Int.toNat_natCast]; (repeat (first | rw [if_pos (by omega)] | rw [if_neg (by omega)])); try rfl); rw [e9]; exact ⟨rfl, hR3, hS3⟩))
        · obtain ⟨⟨s9, hs1, hs2, hs3⟩, hro, hsc, -⟩ := hE i (by omega) (by omega)
          have hw9 := hSe s9 hs2 hs3
          have hl8 := h.2.1
          have hsc9 : -1 ≤ ρ.2 17 i ∧ ρ.2 17 i ≤ 8000 := by rcases hsc with h9 | ⟨c9, h9, h8, -⟩ <;> omega
          refine S_aload_n dX9_send_52 rfl ?_
          refine S_getP fl_X9_57 dX9_send_53 rfl rfl (hR2.p 17 rfl) ?_
          refine S_iload_n dX9_send_56 rfl ?_
          refine R_ald (v := ρ.2 17 i) i hR2 dX9_send_57 rfl rfl (by omega) (show _ < 12 from by omega) rfl ?_
          refine S_iconst dX9_send_58 ?_
          refine S_icmp_ne 68 dX9_send_59 (by decide) (by omega) (fun c_59 => ?_) (fun c_59 => ?_)
          · obtain ⟨c, hc, hcl, hck⟩ : ∃ c : Nat, ρ.2 17 i = ↑c ∧ c < thN ρ ∧ ρ.2 6 c = 1 := by rcases hsc with h9 | h9; exact absurd h9 (by omega); exact h9
            obtain ⟨l, hl9⟩ : ∃ l : Nat, ρ.1 30 = ↑l := ⟨(ρ.1 30).toNat, by omega⟩
            have hgg := h.2.2.2.1
            have hq : 0 < ρ.1 0 ∧ ρ.1 0 ≤ 10007 := by have := h.2.2.1; omega
            refine S_aload_n dX9_send_68 rfl ?_
            refine S_getI (v := ↑l) fl_X9_142 dX9_send_69 rfl rfl ((hR2.s 30).trans (by rw [hl9])) ?_
            refine S_istore_n dX9_send_72 (by decide) ?_
            refine S_aload_n dX9_send_73 rfl ?_
            refine S_aload_n dX9_send_74 rfl ?_
            refine S_getP fl_X9_57 dX9_send_75 rfl rfl (hR2.p 17 rfl) ?_
            refine S_iload_n dX9_send_78 rfl ?_
            refine R_ald (v := ↑c) i hR2 dX9_send_79 rfl rfl (by omega) (show _ < 12 from by omega) (by rw [hc]) ?_
            refine S_callV (mi := mi_X9_send) [vI (↑c)] ok_X9_keyOf ml_X9_188 dX9_send_80 rfl (by decide) rfl (by decide) rfl (Nat.le_of_ble_eq_true rfl) rfl (r_X9_keyOf (ρ := ρ) c (N) h (by omega) (by omega) M2 hR2) ?_
            rintro v' M5 ⟨rfl, hR5, hS5'⟩
            have hS5 := hS2.trans hS5'
            obtain ⟨ρ6, e6⟩ : ∃ x : RS, x = (kyR ρ c) := ⟨_, rfl⟩
            rw [← e6] at hR5
            obtain ⟨y4, ey4⟩ : ∃ x : Nat, x = kyI ρ c := ⟨_, rfl⟩
            rw [← ey4]
            have q7 : ThOK (kyR ρ c) (N + 1) ∧ kyI ρ c < thN (kyR ρ c) ∧ thN ρ ≤ thN (kyR ρ c) := h.ky (by omega)
            rw [← e6, ← ey4] at q7
            obtain ⟨hT7, hi7, g7⟩ := q7
            have hTk := hT7
            have hyk := hi7
            refine S_istore dX9_send_83 (by decide) ?_
            refine S_aload_n dX9_send_85 rfl ?_
            refine S_getP fl_X9_96 dX9_send_86 rfl rfl (hR5.p 31 rfl) ?_
            refine S_iload_n dX9_send_89 rfl ?_
            refine S_iload_n dX9_send_90 rfl ?_
            refine R_ast l dX9_send_91 rfl rfl (by omega) (show _ < 300 from by omega) hR5 hS5 (fun M8 hR8 hS8 => ?_)
            refine S_aload_n dX9_send_92 rfl ?_
            refine S_getP fl_X9_99 dX9_send_93 rfl rfl (hR8.p 32 rfl) ?_
            refine S_iload_n dX9_send_96 rfl ?_
            refine S_aload_n dX9_send_97 rfl ?_
            refine S_aload_n dX9_send_98 rfl ?_
            refine S_getP fl_X9_51 dX9_send_99 rfl rfl (hR8.p 15 rfl) ?_
            refine S_iload_n dX9_send_102 rfl ?_
            refine R_ald (v := ↑s9) i hR8 dX9_send_103 rfl rfl (by omega) (show _ < 12 from by omega) (by rw [RS.setA_ne (Or.inl (by decide)), e6, thR_old_at _ _ _ _ _ _ _ (Or.inr (by decide)), hs1]) ?_
            obtain ⟨ρ9, e9⟩ : ∃ x : RS, x = (ρ6.setA 31 l (↑i)) := ⟨_, rfl⟩
            rw [← e9] at hR8
            have hT10 : ThOK ρ9 (N + 1) := hT7.congr ⟨(by rw [e9, RS.setA_s]), (by rw [e9, RS.setA_s]), (by rw [e9, RS.setA_s])⟩ (fun k j a1 a2 => (by rw [e9, RS.setA_ne (Or.inl (by omega))]))
            have g10 : thN ρ9 = thN ρ6 := thN_congr (by rw [e9, RS.setA_s])
            have hq11 : 0 < ρ9.1 0 ∧ ρ9.1 0 ≤ 10007 := by have := hT10.2.2.1; omega
            refine S_callV (mi := mi_X9_send) [vI (↑s9)] ok_X9_publicOf ml_X9_152 dX9_send_104 rfl (by decide) rfl (by decide) rfl (Nat.le_of_ble_eq_true rfl) rfl (r_X9_publicOf (ρ := ρ9) s9 ((ρ.2 9 s9).toNat) (by rw [e9, RS.setA_ne (Or.inl (by decide)), e6, thR_old_at _ _ _ _ _ _ _ (Or.inl (by omega))]; exact (by omega)) (by have := hT10.2.1; omega) (by omega) hT10.2.2.2.1 hq11 M8 hR8) ?_
            rintro v' M12 ⟨rfl, hR12, hS12'⟩
            have hS12 := hS8.trans hS12'
            rw [show ρ9.1 0 = ρ.1 0 from (by rw [e9, RS.setA_s, e6, thR_s _ _ _ _ _ _ (by decide)]), show ρ9.1 1 = ρ.1 1 from (by rw [e9, RS.setA_s, e6, thR_s _ _ _ _ _ _ (by decide)])]
            refine R_ast l dX9_send_107 rfl rfl (by omega) (show _ < 300 from by omega) hR12 hS12 (fun M13 hR13 hS13 => ?_)
            refine S_aload_n dX9_send_108 rfl ?_
            refine S_getP fl_X9_102 dX9_send_109 rfl rfl (hR13.p 33 rfl) ?_
            refine S_iload_n dX9_send_112 rfl ?_
            refine S_aload_n dX9_send_113 rfl ?_
            refine S_getP fl_X9_69 dX9_send_114 rfl rfl (hR13.p 21 rfl) ?_
            refine S_iload_n dX9_send_117 rfl ?_
            refine R_ald (v := ρ.2 21 i) i hR13 dX9_send_118 rfl rfl (by omega) (show _ < 12 from by omega) (by rw [RS.setA_ne (Or.inl (by decide)), e9, RS.setA_ne (Or.inl (by decide)), e6, thR_old_at _ _ _ _ _ _ _ (Or.inr (by decide))]) ?_
            refine R_ast l dX9_send_119 rfl rfl (by omega) (show _ < 300 from by omega) hR13 hS13 (fun M14 hR14 hS14 => ?_)
            refine S_aload_n dX9_send_120 rfl ?_
            refine S_getP fl_X9_105 dX9_send_121 rfl rfl (hR14.p 34 rfl) ?_
            refine S_iload_n dX9_send_124 rfl ?_
            refine S_aload_n dX9_send_125 rfl ?_
            refine S_getP fl_X9_66 dX9_send_126 rfl rfl (hR14.p 20 rfl) ?_
            refine S_iload_n dX9_send_129 rfl ?_
            refine R_ald (v := ρ.2 20 i) i hR14 dX9_send_130 rfl rfl (by omega) (show _ < 12 from by omega) (by rw [RS.setA_ne (Or.inl (by decide)), RS.setA_ne (Or.inl (by decide)), e9, RS.setA_ne (Or.inl (by decide)), e6, thR_old_at _ _ _ _ _ _ _ (Or.inr (by decide))]) ?_
            refine R_ast l dX9_send_131 rfl rfl (by omega) (show _ < 300 from by omega) hR14 hS14 (fun M15 hR15 hS15 => ?_)
            refine S_aload_n dX9_send_132 rfl ?_
            refine S_getP fl_X9_108 dX9_send_133 rfl rfl (hR15.p 35 rfl) ?_
            refine S_iload_n dX9_send_136 rfl ?_
            refine S_iload_n dX9_send_137 rfl ?_
            refine S_aload_n dX9_send_138 rfl ?_
            refine S_getP fl_X9_32 dX9_send_139 rfl rfl (hR15.p 9 rfl) ?_
            refine S_iload dX9_send_142 rfl ?_
            have hyb : ρ6.2 9 y4 = ρ6.2 9 y4 := rfl
            have hyl144 : y4 < 8000 := by have := hT10.2.1; omega
            refine R_ald (v := ρ6.2 9 y4) y4 hR15 dX9_send_144 rfl rfl (by omega) (show _ < 8000 from by omega) (by rw [RS.setA_ne (Or.inl (by decide)), RS.setA_ne (Or.inl (by decide)), RS.setA_ne (Or.inl (by decide)), e9, RS.setA_ne (Or.inl (by decide))]) ?_
            refine S_iadd dX9_send_145 ?_
            refine S_sipush dX9_send_146 (by decide) ?_
            have hyw := (hTk.2.2.2.2 y4 hyk).2.2.2
            refine S_irem dX9_send_149 (by omega) (by omega) ?_
            refine R_ast l dX9_send_150 rfl rfl (by omega) (show _ < 300 from by omega) hR15 hS15 (fun M16 hR16 hS16 => ?_)
            refine S_aload_n dX9_send_151 rfl ?_
            refine S_getP fl_X9_111 dX9_send_152 rfl rfl (hR16.p 36 rfl) ?_
            refine S_iload_n dX9_send_155 rfl ?_
            refine S_aload_n dX9_send_156 rfl ?_
            refine S_aload_n dX9_send_157 rfl ?_
            refine S_getP fl_X9_32 dX9_send_158 rfl rfl (hR16.p 9 rfl) ?_
            refine S_iload dX9_send_161 rfl ?_
            have hyl163 : y4 < 8000 := by have := hT10.2.1; omega
            refine R_ald (v := ρ6.2 9 y4) y4 hR16 dX9_send_163 rfl rfl (by omega) (show _ < 8000 from by omega) (by rw [RS.setA_ne (Or.inl (by decide)), RS.setA_ne (Or.inl (by decide)), RS.setA_ne (Or.inl (by decide)), RS.setA_ne (Or.inl (by decide)), e9, RS.setA_ne (Or.inl (by decide))]) ?_
            have hyw := (hTk.2.2.2.2 y4 hyk).2.2.2
            refine S_iload_n dX9_send_164 rfl ?_
            obtain ⟨ρ17, e17⟩ : ∃ x : RS, x = ((((ρ9.setA 32 l (powF (ρ.1 0) (ρ.1 1) ((ρ.2 9 s9).toNat))).setA 33 l (ρ.2 21 i)).setA 34 l (ρ.2 20 i)).setA 35 l (Int.tmod (b + (ρ6.2 9 y4)) 256)) := ⟨_, rfl⟩
            rw [← e17] at hR16
            have hq18 : 0 < ρ17.1 0 ∧ ρ17.1 0 ≤ 10007 := by rw [e17, RS.setA_s, RS.setA_s, RS.setA_s, RS.setA_s, e9, RS.setA_s, e6, thR_s _ _ _ _ _ _ (by decide)]; exact hq
            refine S_callV (mi := mi_X9_send) [vI (ρ6.2 9 y4), vI b] ok_X9_mix ml_X9_160 dX9_send_165 rfl (by decide) rfl (by decide) rfl (Nat.le_of_ble_eq_true rfl) rfl (r_X9_mix (ρ := ρ17) (ρ6.2 9 y4) b (by omega) (by omega) hq18 M16 hR16) ?_
            rintro v' M19 ⟨rfl, hR19, hS19'⟩
            have hS19 := hS16.trans hS19'
            rw [show ρ17.1 0 = ρ.1 0 from (by rw [e17, RS.setA_s, RS.setA_s, RS.setA_s, RS.setA_s, e9, RS.setA_s, e6, thR_s _ _ _ _ _ _ (by decide)])]
            refine R_ast l dX9_send_168 rfl rfl (by omega) (show _ < 300 from by omega) hR19 hS19 (fun M20 hR20 hS20 => ?_)
            refine S_aload_n dX9_send_169 rfl ?_
            refine S_getP fl_X9_114 dX9_send_170 rfl rfl (hR20.p 37 rfl) ?_
            refine S_iload_n dX9_send_173 rfl ?_
            refine S_iload dX9_send_174 rfl ?_
            refine R_ast l dX9_send_176 rfl rfl (by omega) (show _ < 300 from by omega) hR20 hS20 (fun M21 hR21 hS21 => ?_)
            refine S_aload_n dX9_send_177 rfl ?_
            refine S_getP fl_X9_117 dX9_send_178 rfl rfl (hR21.p 38 rfl) ?_
            refine S_iload_n dX9_send_181 rfl ?_
            refine S_aload_n dX9_send_182 rfl ?_
            refine S_getP fl_X9_51 dX9_send_183 rfl rfl (hR21.p 15 rfl) ?_
            refine S_iload_n dX9_send_186 rfl ?_
            refine R_ald (v := ↑s9) i hR21 dX9_send_187 rfl rfl (by omega) (show _ < 12 from by omega) (by rw [RS.setA_ne (Or.inl (by decide)), RS.setA_ne (Or.inl (by decide)), e17, RS.setA_ne (Or.inl (by decide)), RS.setA_ne (Or.inl (by decide)), RS.setA_ne (Or.inl (by decide)), RS.setA_ne (Or.inl (by decide)), e9, RS.setA_ne (Or.inl (by decide)), e6, thR_old_at _ _ _ _ _ _ _ (Or.inr (by decide)), hs1]) ?_
            refine R_ast l dX9_send_188 rfl rfl (by omega) (show _ < 300 from by omega) hR21 hS21 (fun M22 hR22 hS22 => ?_)
            refine S_aload_n dX9_send_189 rfl ?_
            refine S_getP fl_X9_57 dX9_send_190 rfl rfl (hR22.p 17 rfl) ?_
            refine S_iload_n dX9_send_193 rfl ?_
            refine S_aload_n dX9_send_194 rfl ?_
            refine S_aload_n dX9_send_195 rfl ?_
            refine S_getP fl_X9_57 dX9_send_196 rfl rfl (hR22.p 17 rfl) ?_
            refine S_iload_n dX9_send_199 rfl ?_
            refine R_ald (v := ↑c) i hR22 dX9_send_200 rfl rfl (by omega) (show _ < 12 from by omega) (by rw [RS.setA_ne (Or.inl (by decide)), RS.setA_ne (Or.inl (by decide)), RS.setA_ne (Or.inl (by decide)), e17, RS.setA_ne (Or.inl (by decide)), RS.setA_ne (Or.inl (by decide)), RS.setA_ne (Or.inl (by decide)), RS.setA_ne (Or.inl (by decide)), e9, RS.setA_ne (Or.inl (by decide)), e6, thR_old_at _ _ _ _ _ _ _ (Or.inr (by decide)), hc]) ?_
            obtain ⟨ρ23, e23⟩ : ∃ x : RS, x = (((ρ17.setA 36 l (mixF (ρ.1 0) (ρ6.2 9 y4) b)).setA 37 l (↑y4)).setA 38 l (↑s9)) := ⟨_, rfl⟩
            rw [← e23] at hR22
            have hT24 : ThOK ρ23 (N + 1) := hT10.congr ⟨(by rw [e23, RS.setA_s, RS.setA_s, RS.setA_s, e17, RS.setA_s, RS.setA_s, RS.setA_s, RS.setA_s]), (by rw [e23, RS.setA_s, RS.setA_s, RS.setA_s, e17, RS.setA_s, RS.setA_s, RS.setA_s, RS.setA_s]), (by rw [e23, RS.setA_s, RS.setA_s, RS.setA_s, e17, RS.setA_s, RS.setA_s, RS.setA_s, RS.setA_s])⟩ (fun k j a1 a2 => (by rw [e23, RS.setA_ne (Or.inl (by omega)), RS.setA_ne (Or.inl (by omega)), RS.setA_ne (Or.inl (by omega)), e17, RS.setA_ne (Or.inl (by omega)), RS.setA_ne (Or.inl (by omega)), RS.setA_ne (Or.inl (by omega)), RS.setA_ne (Or.inl (by omega))]))
            have g24 : thN ρ23 = thN ρ9 := thN_congr (by rw [e23, RS.setA_s, RS.setA_s, RS.setA_s, e17, RS.setA_s, RS.setA_s, RS.setA_s, RS.setA_s])
            refine S_callV (mi := mi_X9_send) [vI (↑c)] ok_X9_chainOf ml_X9_185 dX9_send_201 rfl (by decide) rfl (by decide) rfl (Nat.le_of_ble_eq_true rfl) rfl (r_X9_chainOf (ρ := ρ23) c (N + 1) hT24 (by omega) (by omega) M22 hR22) ?_
            rintro v' M26 ⟨rfl, hR26, hS26'⟩
            have hS26 := hS22.trans hS26'
            obtain ⟨ρ27, e27⟩ : ∃ x : RS, x = (chR ρ23 c) := ⟨_, rfl⟩
            rw [← e27] at hR26
            obtain ⟨c25, ec25⟩ : ∃ x : Nat, x = chI ρ23 c := ⟨_, rfl⟩
            rw [← ec25]
            have q28 : ThOK (chR ρ23 c) (N + 2) ∧ chI ρ23 c < thN (chR ρ23 c) ∧ thN ρ23 ≤ thN (chR ρ23 c) := hT24.ch (by omega)
            rw [← e27, ← ec25] at q28
            obtain ⟨hT28, hi28, g28⟩ := q28
            refine R_ast i dX9_send_204 rfl rfl (by omega) (show _ < 12 from by omega) hR26 hS26 (fun M29 hR29 hS29 => ?_)
            refine S_aload_n dX9_send_205 rfl ?_
            refine S_getP fl_X9_66 dX9_send_206 rfl rfl (hR29.p 20 rfl) ?_
            refine S_iload_n dX9_send_209 rfl ?_
            refine S_dup2 dX9_send_210 ?_
            refine R_ald (v := ρ.2 20 i) i hR29 dX9_send_211 rfl rfl (by omega) (show _ < 12 from by omega) (by rw [RS.setA_ne (Or.inl (by decide)), e27, thR_old_at _ _ _ _ _ _ _ (Or.inr (by decide)), e23, RS.setA_ne (Or.inl (by decide)), RS.setA_ne (Or.inl (by decide)), RS.setA_ne (Or.inl (by decide)), e17, RS.setA_ne (Or.inl (by decide)), RS.setA_ne (Or.inl (by decide)), RS.setA_ne (Or.inl (by decide)), RS.setA_ne (Or.inl (by decide)), e9, RS.setA_ne (Or.inl (by decide)), e6, thR_old_at _ _ _ _ _ _ _ (Or.inr (by decide))]) ?_
            refine S_iconst dX9_send_212 ?_
            refine S_iadd dX9_send_213 ?_
            refine R_ast i dX9_send_214 rfl rfl (by omega) (show _ < 12 from by omega) hR29 hS29 (fun M30 hR30 hS30 => ?_)
            refine S_aload_n dX9_send_215 rfl ?_
            refine S_dup dX9_send_216 ?_
            refine S_getI (v := ↑l) fl_X9_142 dX9_send_217 rfl rfl ((hR30.s 30).trans (by rw [RS.setA_s, RS.setA_s, e27, thR_s _ _ _ _ _ _ (by decide), e23, RS.setA_s, RS.setA_s, RS.setA_s, e17, RS.setA_s, RS.setA_s, RS.setA_s, RS.setA_s, e9, RS.setA_s, e6, thR_s _ _ _ _ _ _ (by decide), hl9])) ?_
            refine S_iconst dX9_send_220 ?_
            refine S_iadd dX9_send_221 ?_
            refine R_put fl_X9_142 dX9_send_222 rfl rfl rfl hR30 hS30 (fun M31 hR31 hS31 => ?_)
            refine S_aload_n dX9_send_225 rfl ?_
            obtain ⟨ρ32, e32⟩ : ∃ x : RS, x = (((ρ27.setA 17 i (↑c25)).setA 20 i ((ρ.2 20 i) + 1)).setS 30 ((↑l) + 1)) := ⟨_, rfl⟩
            rw [← e32] at hR31
            have hK33 : KOK ρ32 := hK.congr (fun k j a1 a2 => (by rw [e32, RS.setS_a, RS.setA_ne (Or.inl (by omega)), RS.setA_ne (Or.inl (by omega)), e27, thR_old_at _ _ _ _ _ _ _ (Or.inr (by omega)), e23, RS.setA_ne (Or.inl (by omega)), RS.setA_ne (Or.inl (by omega)), RS.setA_ne (Or.inl (by omega)), e17, RS.setA_ne (Or.inl (by omega)), RS.setA_ne (Or.inl (by omega)), RS.setA_ne (Or.inl (by omega)), RS.setA_ne (Or.inl (by omega)), e9, RS.setA_ne (Or.inl (by omega)), e6, thR_old_at _ _ _ _ _ _ _ (Or.inr (by omega))]))
            have hl33 : 0 ≤ ρ32.1 30 ∧ ρ32.1 30 ≤ 300 := by rw [e32, RS.setS_eq]; omega
            have hli33 : 0 ≤ ρ32.1 3 ∧ ρ32.1 3 ≤ 300 := by rw [e32, RS.setS_ne (by decide), RS.setA_s, RS.setA_s, e27, thR_s _ _ _ _ _ _ (by decide), e23, RS.setA_s, RS.setA_s, RS.setA_s, e17, RS.setA_s, RS.setA_s, RS.setA_s, RS.setA_s, e9, RS.setA_s, e6, thR_s _ _ _ _ _ _ (by decide)]; omega
            refine S_callV (mi := mi_X9_send) [] ok_X9_expire ml_X9_169 dX9_send_226 rfl (by decide) rfl (by decide) rfl (Nat.le_of_ble_eq_true rfl) rfl (r_X9_expire (ρ := ρ32) hK33 hl33 hli33 M31 hR31) ?_
            rintro v' M34 ⟨rfl, hR34, hS34'⟩
            have hS34 := hS31.trans hS34'
            obtain ⟨ρ35, e35⟩ : ∃ x : RS, x = (expR ρ32) := ⟨_, rfl⟩
            rw [← e35] at hR34
            refine S_aload_n dX9_send_229 rfl ?_
            refine S_iload_n dX9_send_230 rfl ?_
            refine S_callV (mi := mi_X9_send) [vI (↑l)] ok_X9_done ml_X9_166 dX9_send_231 rfl (by decide) rfl (by decide) rfl (Nat.le_of_ble_eq_true rfl) rfl (r_X9_done (ρ := ρ35) (↑l) M34 hR34) ?_
            rintro v' M36 ⟨rfl, hR36, hS36'⟩
            have hS36 := hS34.trans hS36'
            exact S_iret dX9_send_234 rfl (Or.inl rfl) (by
      have e9 : sendF ρ ↑i b = ((↑l : Int), (ρ35.setS 42 0)) := by
        unfold sendF
        rw [if_neg (by omega), if_neg (by omega), Int.toNat_natCast, if_neg (by omega), hc, hl9, hs1, Int.toNat_natCast, Int.toNat_natCast, Int.toNat_natCast]
        have e8 : (ρ35.setS 42 0) = snG ρ i c l s9 b := by
          subst_vars
          rfl
        rw [e8]
      rw [e9]; exact ⟨rfl, hR36, hS36⟩)
          · refine S_aload_n dX9_send_62 rfl ?_
            refine S_iconst dX9_send_63 ?_
            refine S_callV (mi := mi_X9_send) [vI 3] ok_X9_refused ml_X9_163 dX9_send_64 rfl (by decide) rfl (by decide) rfl (Nat.le_of_ble_eq_true rfl) rfl (r_X9_refused (ρ := ρ) 3 M2 hR2) ?_
            rintro v' M37 ⟨rfl, hR37, hS37'⟩
            have hS37 := hS2.trans hS37'
            exact S_iret dX9_send_67 rfl (Or.inl rfl) (by first | (exfalso; omega) | (have e9 : sendF ρ (↑i) b = (((-1) : Int), (ρ.setS 42 3)) := (by unfold sendF; simp only [Int.toNat_natCast]; (repeat (first | rw [if_pos (by omega)] | rw [if_neg (by omega)])); try rfl); rw [e9]; exact ⟨rfl, hR37, hS37⟩))
      · refine S_aload_n dX9_send_35 rfl ?_
        refine S_iconst dX9_send_36 ?_
        refine S_callV (mi := mi_X9_send) [vI 2] ok_X9_refused ml_X9_163 dX9_send_37 rfl (by decide) rfl (by decide) rfl (Nat.le_of_ble_eq_true rfl) rfl (r_X9_refused (ρ := ρ) 2 M2 hR2) ?_
        rintro v' M38 ⟨rfl, hR38, hS38'⟩
        have hS38 := hS2.trans hS38'
        exact S_iret dX9_send_40 rfl (Or.inl rfl) (by first | (exfalso; omega) | (have e9 : sendF ρ (↑i) b = (((-1) : Int), (ρ.setS 42 2)) := (by unfold sendF; simp only [Int.toNat_natCast]; (repeat (first | rw [if_pos (by omega)] | rw [if_neg (by omega)])); try rfl); rw [e9]; exact ⟨rfl, hR38, hS38⟩))
    · have hS2 := hS1.trans hS2'
      refine S_if_ne 25 dX9_send_16 (by decide) (by omega) (fun c_16 => absurd c_16 (by omega)) (fun c_16 => ?_)
      refine S_aload_n dX9_send_19 rfl ?_
      refine S_iconst dX9_send_20 ?_
      refine S_callV (mi := mi_X9_send) [vI 1] ok_X9_refused ml_X9_163 dX9_send_21 rfl (by decide) rfl (by decide) rfl (Nat.le_of_ble_eq_true rfl) rfl (r_X9_refused (ρ := ρ) 1 M2 hR2) ?_
      rintro v' M39 ⟨rfl, hR39, hS39'⟩
      have hS39 := hS2.trans hS39'
      exact S_iret dX9_send_24 rfl (Or.inl rfl) (by first | (exfalso; omega) | (have e9 : sendF ρ (↑i) b = (((-1) : Int), (ρ.setS 42 1)) := (by unfold sendF; simp only [Int.toNat_natCast]; (repeat (first | rw [if_pos (by omega)] | rw [if_neg (by omega)])); try rfl); rw [e9]; exact ⟨rfl, hR39, hS39⟩))
  · have hS1 := hS.trans hS1'
    refine S_if_eq 19 dX9_send_5 (by decide) (by omega) (fun c_5 => ?_) (fun c_5 => absurd c_5 (by omega))
    refine S_aload_n dX9_send_19 rfl ?_
    refine S_iconst dX9_send_20 ?_
    refine S_callV (mi := mi_X9_send) [vI 1] ok_X9_refused ml_X9_163 dX9_send_21 rfl (by decide) rfl (by decide) rfl (Nat.le_of_ble_eq_true rfl) rfl (r_X9_refused (ρ := ρ) 1 M1 hR1) ?_
    rintro v' M40 ⟨rfl, hR40, hS40'⟩
    have hS40 := hS1.trans hS40'
    exact S_iret dX9_send_24 rfl (Or.inl rfl) (by first | (exfalso; omega) | (have e9 : sendF ρ e b = (((-1) : Int), (ρ.setS 42 1)) := (by unfold sendF; (repeat (first | rw [if_pos (by omega)] | rw [if_neg (by omega)])); try rfl); rw [e9]; exact ⟨rfl, hR40, hS40⟩))
