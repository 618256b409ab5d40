/-! THE REFERENCE: anew -/
def lefB (ρ : RS) (e : Nat) (p : Int) : Nat → Bool
  | 0 => false
  | k + 1 => lefB ρ e p k || decide (ρ.2 24 (600 * e + k) = p)
theorem lefB_iff (ρ : RS) (e : Nat) (p : Int) : ∀ n, lefB ρ e p n = true ↔ ∃ k, k < n ∧ ρ.2 24 (600 * e + k) = p := by
  intro n
  induction n with
  | zero => exact ⟨fun h => (by cases h), fun ⟨k, h, _⟩ => absurd h (by omega)⟩
  | succ n ih =>
    show (lefB ρ e p n || decide (ρ.2 24 (600 * e + n) = p)) = true ↔ _
    rw [Bool.or_eq_true, ih, decide_eq_true_iff]
    constructor
    · rintro (⟨k, h1, h2⟩ | h)
      · exact ⟨k, by omega, h2⟩
      · exact ⟨n, by omega, h⟩
    · rintro ⟨k, h1, h2⟩
      by_cases hk : k = n
      · rw [hk] at h2; exact Or.inr h2
      · exact Or.inl ⟨k, by omega, h2⟩
def akF (ρ : RS) (e l : Nat) : Int := kbV (ρ.1 0) (mixF (ρ.1 0) (mixF (ρ.1 0) (ρ.2 9 (ρ.2 16 e).toNat) (powF (ρ.1 0) (powF (ρ.1 0) (ρ.1 1) (ρ.2 9 (ρ.2 38 l).toNat).toNat) (ρ.2 9 (ρ.2 15 e).toNat).toNat)) 3) (ρ.2 34 l).toNat
def anD2 (σ : RS) (e r0 s z pl n t : Nat) (P : Int) : RS := anC (leR (rmR σ ↑r0 s z) e) e (rmI σ ↑r0 s z) pl n t z P
def anD (ρ : RS) (e l old : Nat) : RS := anD2 (skF ρ e old) e (ρ.2 16 e).toNat (ρ.2 15 e).toNat (ρ.2 38 l).toNat (ρ.2 34 l).toNat ((ρ.2 12 e).toNat - 1) (ρ.2 13 (12 * e)).toNat (ρ.2 32 l)
def anF2 (ρ : RS) (e l old : Nat) : Int × RS := if ρ.1 2 < ↑old + ρ.2 34 l then (-1, ρ.setS 42 5) else if ρ.2 12 e = 0 then (-1, ρ.setS 42 6) else
  if mixF (ρ.1 0) (akF ρ e l) (byF ρ l (akF ρ e l)) ≠ ρ.2 36 l then (-1, ρ.setS 42 7) else (byF ρ l (akF ρ e l), (anD ρ e l old).setS 42 0)
def oldF (ρ : RS) (e l : Nat) : Nat := if ρ.2 18 e ≠ -1 ∧ ρ.2 22 e < ρ.2 33 l then (ρ.2 33 l - ρ.2 22 e).toNat else 0
def anF (ρ : RS) (e l : Nat) (kn : Int) : Int × RS := if kn ≠ 0 ∨ lefB ρ e (ρ.2 32 l) (ρ.2 23 e).toNat = true then (-1, ρ.setS 42 4) else anF2 ρ e l (oldF ρ e l)
set_option maxRecDepth 100000 in
theorem an_66 {G : Ge} {ρ : RS} {M0 : Mem} (e l r0 s pl pa n0 z N lf : Nat) (kn : Int) (he : e < 12) (hl : l < 300) (h : ThOK ρ N) (hN : N < 7800) (hK : KOK ρ) (hl30 : 0 ≤ ρ.1 30 ∧ ρ.1 30 ≤ 300) (hm : 0 ≤ ρ.1 2 ∧ ρ.1 2 ≤ 12) (h16 : ρ.2 16 e = ↑r0) (hr : r0 < thN ρ) (h15 : ρ.2 15 e = ↑s) (hs : s < thN ρ) (hws : ρ.2 9 s ≤ 10000) (hP : -1 ≤ ρ.2 32 l ∧ ρ.2 32 l ≤ 10007) (h34 : ρ.2 34 l = ↑pl) (hpl : pl ≤ 300) (h38 : ρ.2 38 l = ↑z) (hz : z < thN ρ) (hwz : ρ.2 9 z ≤ 10000) (h22 : ρ.2 22 e = ↑pa) (hpa : pa ≤ 400) (h12 : ρ.2 12 e = ↑n0) (hn : n0 ≤ 12) (h13 : ∀ i, i < n0 → ∃ t : Nat, ρ.2 13 (12 * e + i) = ↑t ∧ t < thN ρ ∧ ρ.2 9 t ≤ 10000) (ht : 0 ≤ ρ.2 35 l ∧ ρ.2 35 l ≤ 255) (hc : -2147483648 ≤ ρ.2 36 l ∧ ρ.2 36 l < 2147483648) (h23 : ρ.2 23 e = ↑lf) (hlf : lf < 600) (h19 : -1 ≤ ρ.2 19 e ∧ ρ.2 19 e ≤ 10007) (old : Nat) (hold : old ≤ 300) (ho : old = 0 ∨ (∃ c : Nat, ρ.2 18 e = ↑c ∧ c < thN ρ) ∧ ρ.2 33 l = ↑(pa + old)) (M : Mem) (hR : Rf ρ M) (hS : SameR M0 M) : Sf G mi_X9_anew (fun v' M' => v' = some (vI (anF2 ρ e l old).1) ∧ Rf (anF2 ρ e l old).2 M' ∧ SameR M0 M') 66 [some (vR ((30, 0))), some (vI (↑e)), some (vI (↑l)), some (vI kn), none, none, none, none] [vI (↑old)] M := by
  have hl8 := h.2.1
  have hq : 0 < ρ.1 0 ∧ ρ.1 0 ≤ 10007 := by have := h.2.2.1; omega
  refine S_istore dX9_anew_66 (by decide) ?_
  refine S_iload dX9_anew_68 rfl ?_
  refine S_aload_n dX9_anew_70 rfl ?_
  refine S_getP fl_X9_105 dX9_anew_71 rfl rfl (hR.p 34 rfl) ?_
  refine S_iload_n dX9_anew_74 rfl ?_
  refine R_ald (v := ↑pl) l hR dX9_anew_75 rfl rfl (by omega) (show _ < 300 from by omega) (by rw [h34]) ?_
  refine S_iadd dX9_anew_76 ?_
  refine S_aload_n dX9_anew_77 rfl ?_
  refine S_getI (v := ρ.1 2) fl_X9_16 dX9_anew_78 rfl rfl ((hR.s 2).trans rfl) ?_
  refine S_icmp_le 90 dX9_anew_81 (by decide) (by omega) (fun c_81 => ?_) (fun c_81 => ?_)
  · refine S_aload_n dX9_anew_90 rfl ?_
    refine S_getP fl_X9_42 dX9_anew_91 rfl rfl (hR.p 12 rfl) ?_
    refine S_iload_n dX9_anew_94 rfl ?_
    refine R_ald (v := ↑n0) e hR dX9_anew_95 rfl rfl (by omega) (show _ < 12 from by omega) (by rw [h12]) ?_
    refine S_if_ne 106 dX9_anew_96 (by decide) (by omega) (fun c_96 => ?_) (fun c_96 => ?_)
    · obtain ⟨n, rfl⟩ : ∃ n : Nat, n0 = n + 1 := ⟨n0 - 1, by omega⟩
      obtain ⟨t, htt, htl, hwt⟩ := h13 0 (by omega)
      rw [Nat.add_zero] at htt
      have hgg := h.2.2.2.1
      have hbz := (h.2.2.2.2 z hz).2.2.2
      have hbs := (h.2.2.2.2 s hs).2.2.2
      have hbr := (h.2.2.2.2 r0 hr).2.2.2
      refine S_aload_n dX9_anew_106 rfl ?_
      refine S_aload_n dX9_anew_107 rfl ?_
      refine S_aload_n dX9_anew_108 rfl ?_
      refine S_getP fl_X9_117 dX9_anew_109 rfl rfl (hR.p 38 rfl) ?_
      refine S_iload_n dX9_anew_112 rfl ?_
      refine R_ald (v := ↑z) l hR dX9_anew_113 rfl rfl (by omega) (show _ < 300 from by omega) (by rw [h38]) ?_
      have hq1 : 0 < ρ.1 0 ∧ ρ.1 0 ≤ 10007 := by have := h.2.2.1; omega
      refine S_callV (mi := mi_X9_anew) [vI (↑z)] ok_X9_publicOf ml_X9_152 dX9_anew_114 rfl (by decide) rfl (by decide) rfl (Nat.le_of_ble_eq_true rfl) rfl (r_X9_publicOf (ρ := ρ) z ((ρ.2 9 z).toNat) (by omega) (by have := h.2.1; omega) (by omega) h.2.2.2.1 hq1 M hR) ?_
      rintro v' M2 ⟨rfl, hR2, hS2'⟩
      have hS2 := hS.trans hS2'
      refine S_aload_n dX9_anew_117 rfl ?_
      refine S_getP fl_X9_32 dX9_anew_118 rfl rfl (hR2.p 9 rfl) ?_
      refine S_aload_n dX9_anew_121 rfl ?_
      refine S_getP fl_X9_51 dX9_anew_122 rfl rfl (hR2.p 15 rfl) ?_
      refine S_iload_n dX9_anew_125 rfl ?_
      refine R_ald (v := ↑s) e hR2 dX9_anew_126 rfl rfl (by omega) (show _ < 12 from by omega) (by rw [h15]) ?_
      refine R_ald (v := ↑(ρ.2 9 s).toNat) s hR2 dX9_anew_127 rfl rfl (by omega) (show _ < 8000 from by omega) (by omega) ?_
      have hp1 := powv h.2.2.1 hgg.1 (ρ.2 9 z).toNat
      refine S_callV (mi := mi_X9_anew) [vI (powF (ρ.1 0) (ρ.1 1) ((ρ.2 9 z).toNat)), vI (↑(ρ.2 9 s).toNat)] ok_X9_power ml_X9_145 dX9_anew_128 rfl (by decide) rfl (by decide) rfl (Nat.le_of_ble_eq_true rfl) rfl (r_X9_power (ρ := ρ) (powF (ρ.1 0) (ρ.1 1) ((ρ.2 9 z).toNat)) (ρ.2 9 s).toNat hp1 (by omega) hq M2 hR2) ?_
      rintro v' M3 ⟨rfl, hR3, hS3'⟩
      have hS3 := hS2.trans hS3'
      have hmet : 0 ≤ powF (ρ.1 0) (powF (ρ.1 0) (ρ.1 1) ((ρ.2 9 z).toNat)) (ρ.2 9 s).toNat ∧ powF (ρ.1 0) (powF (ρ.1 0) (ρ.1 1) ((ρ.2 9 z).toNat)) (ρ.2 9 s).toNat ≤ 10007 := powv h.2.2.1 hp1.1 _
      obtain ⟨met, emet⟩ : ∃ x : Int, x = powF (ρ.1 0) (powF (ρ.1 0) (ρ.1 1) ((ρ.2 9 z).toNat)) (ρ.2 9 s).toNat := ⟨_, rfl⟩
      rw [← emet] at hmet
      rw [← emet]
      refine S_istore dX9_anew_131 (by decide) ?_
      refine S_aload_n dX9_anew_133 rfl ?_
      refine S_aload_n dX9_anew_134 rfl ?_
      refine S_aload_n dX9_anew_135 rfl ?_
      refine S_aload_n dX9_anew_136 rfl ?_
      refine S_getP fl_X9_32 dX9_anew_137 rfl rfl (hR3.p 9 rfl) ?_
      refine S_aload_n dX9_anew_140 rfl ?_
      refine S_getP fl_X9_54 dX9_anew_141 rfl rfl (hR3.p 16 rfl) ?_
      refine S_iload_n dX9_anew_144 rfl ?_
      refine R_ald (v := ↑r0) e hR3 dX9_anew_145 rfl rfl (by omega) (show _ < 12 from by omega) (by rw [h16]) ?_
      refine R_ald (v := ρ.2 9 r0) r0 hR3 dX9_anew_146 rfl rfl (by omega) (show _ < 8000 from by omega) rfl ?_
      refine S_iload dX9_anew_147 rfl ?_
      have hq4 := hq
      refine S_callV (mi := mi_X9_anew) [vI (ρ.2 9 r0), vI met] ok_X9_mix ml_X9_160 dX9_anew_149 rfl (by decide) rfl (by decide) rfl (Nat.le_of_ble_eq_true rfl) rfl (r_X9_mix (ρ := ρ) (ρ.2 9 r0) met (by omega) (by omega) hq4 M3 hR3) ?_
      rintro v' M5 ⟨rfl, hR5, hS5'⟩
      have hS5 := hS3.trans hS5'
      have hc1 : 0 ≤ mixF (ρ.1 0) (ρ.2 9 r0) met ∧ mixF (ρ.1 0) (ρ.2 9 r0) met ≤ 10007 := mixv h.2.2.1 (by omega) (by omega)
      obtain ⟨c1, ec1⟩ : ∃ x : Int, x = mixF (ρ.1 0) (ρ.2 9 r0) met := ⟨_, rfl⟩
      rw [← ec1] at hc1
      rw [← ec1]
      refine S_iconst dX9_anew_152 ?_
      have hq6 := hq
      refine S_callV (mi := mi_X9_anew) [vI c1, vI 3] ok_X9_mix ml_X9_160 dX9_anew_153 rfl (by decide) rfl (by decide) rfl (Nat.le_of_ble_eq_true rfl) rfl (r_X9_mix (ρ := ρ) c1 3 (by omega) (by omega) hq6 M5 hR5) ?_
      rintro v' M7 ⟨rfl, hR7, hS7'⟩
      have hS7 := hS5.trans hS7'
      have hc2 : 0 ≤ mixF (ρ.1 0) c1 3 ∧ mixF (ρ.1 0) c1 3 ≤ 10007 := mixv h.2.2.1 (by omega) (by omega)
      obtain ⟨c2, ec2⟩ : ∃ x : Int, x = mixF (ρ.1 0) c1 3 := ⟨_, rfl⟩
      rw [← ec2] at hc2
      rw [← ec2]
      refine S_aload_n dX9_anew_156 rfl ?_
      refine S_getP fl_X9_105 dX9_anew_157 rfl rfl (hR7.p 34 rfl) ?_
      refine S_iload_n dX9_anew_160 rfl ?_
      refine R_ald (v := ↑pl) l hR7 dX9_anew_161 rfl rfl (by omega) (show _ < 300 from by omega) (by rw [h34]) ?_
      refine S_callV (mi := mi_X9_anew) [vI c2, vI (↑pl)] ok_X9_keyBehind ml_X9_219 dX9_anew_162 rfl (by decide) rfl (by decide) rfl (Nat.le_of_ble_eq_true rfl) rfl (r_X9_keyBehind (ρ := ρ) c2 pl (by omega) (by omega) hq M7 hR7) ?_
      rintro v' M8 ⟨rfl, hR8, hS8'⟩
      have hS8 := hS7.trans hS8'
      have hkey : 0 ≤ kbV (ρ.1 0) c2 pl ∧ kbV (ρ.1 0) c2 pl ≤ 10007 := mixv h.2.2.1 (kbF_bd hq (by omega) pl).1 (by decide)
      obtain ⟨key, ekey⟩ : ∃ x : Int, x = kbV (ρ.1 0) c2 pl := ⟨_, rfl⟩
      rw [← ekey] at hkey
      rw [← ekey]
      refine S_istore dX9_anew_165 (by decide) ?_
      refine S_aload_n dX9_anew_167 rfl ?_
      refine S_iload_n dX9_anew_168 rfl ?_
      refine S_iload dX9_anew_169 rfl ?_
      refine S_callV (mi := mi_X9_anew) [vI (↑l), vI key] ok_X9_isGood ml_X9_208 dX9_anew_171 rfl (by decide) rfl (by decide) rfl (Nat.le_of_ble_eq_true rfl) rfl (r_X9_isGood (ρ := ρ) l key (by omega) ht (by omega) hc hq M8 hR8) ?_
      rintro v' M9 ⟨⟨rfl, b_171⟩ | ⟨rfl, b_171⟩, hR9, hS9'⟩
      · have hS9 := hS8.trans hS9'
        have hkv : akF ρ e l = key := by
          unfold akF
          rw [h16, h38, h15, h34]
          simp only [Int.toNat_natCast]
          rw [← emet, ← ec1, ← ec2, ← ekey]
        refine S_if_ne 184 dX9_anew_174 (by decide) (by omega) (fun c_174 => ?_) (fun c_174 => absurd c_174 (by omega))
        refine S_iload dX9_anew_184 rfl ?_
        refine S_if_le 200 dX9_anew_186 (by decide) (by omega) (fun c_186 => ?_) (fun c_186 => ?_)
        · obtain rfl : old = 0 := by omega
          have hD : anD ρ e l 0 = anD2 ρ e r0 s z pl n t (ρ.2 32 l) := by
            unfold anD
            rw [h16, h15, h38, h34, h12, htt]
            simp only [Int.toNat_natCast]
            rw [show n + 1 - 1 = n from by omega]
            rfl
          have e9 : anF2 ρ e l 0 = (byF ρ l key, (anD ρ e l 0).setS 42 0) := by
            unfold anF2
            rw [if_neg (by omega), if_neg (by omega), hkv, if_neg (fun q => q b_171)]
          rw [e9, hD]
          show Sf G mi_X9_anew (fun v' M' => v' = some (vI (byF ρ l key)) ∧ Rf ((anD2 ρ e r0 s z pl n t (ρ.2 32 l)).setS 42 0) M' ∧ SameR M0 M') _ _ _ _
          skip
          exact an_a e l r0 s pl n t z (N) (ρ.2 32 l) key _ _ _ _ he hl h (by omega) hK hl30 h16 (by omega) h15 (by omega) hws rfl hP h34 (by omega) h38 (by omega) hwz h12 (by omega) htt (by omega) hwt ht hkey lf h23 hlf h19 _ hR9 hS9
        · obtain ⟨⟨c, h18, hcl⟩, h33⟩ := ho.resolve_left (by omega)
          refine S_aload_n dX9_anew_189 rfl ?_
          refine S_iload_n dX9_anew_190 rfl ?_
          refine S_aload_n dX9_anew_191 rfl ?_
          refine S_getP fl_X9_102 dX9_anew_192 rfl rfl (hR9.p 33 rfl) ?_
          refine S_iload_n dX9_anew_195 rfl ?_
          refine R_ald (v := ↑(pa + old)) l hR9 dX9_anew_196 rfl rfl (by omega) (show _ < 300 from by omega) (by rw [h33]) ?_
          have hO10 : SkOK ρ e (N) pa := ⟨h, hK, ⟨c, h18, hcl⟩, h19, hl30, h22⟩
          refine S_callV (mi := mi_X9_anew) [vI (↑e), vI (↑(pa + old))] ok_X9_skip ml_X9_222 dX9_anew_197 rfl (by decide) rfl (by decide) rfl (Nat.le_of_ble_eq_true rfl) rfl (r_X9_skip (ρ := ρ) e (pa + old) old (N) pa (by omega) (by omega) (by omega) (by omega) hO10 M9 hR9) ?_
          rintro v' M11 ⟨rfl, hR11, hS11'⟩
          have hS11 := hS9.trans hS11'
          obtain ⟨ρ12, e12⟩ : ∃ x : RS, x = (skF ρ e old) := ⟨_, rfl⟩
          rw [← e12] at hR11
          have q13 := skF_ok (by omega) old (by omega) (by omega) hO10
          rw [← e12] at q13
          obtain ⟨O13, G13⟩ := q13
          have hT13 : ThOK ρ12 (N + 2 * old) := O13.1
          have g13 := G13.1
          have hD : anD ρ e l old = anD2 ρ12 e r0 s z pl n t (ρ.2 32 l) := by
            unfold anD
            rw [h16, h15, h38, h34, h12, htt, ← e12]
            simp only [Int.toNat_natCast]
            rw [show n + 1 - 1 = n from by omega]
          have e9 : anF2 ρ e l old = (byF ρ l key, (anD ρ e l old).setS 42 0) := by
            unfold anF2
            rw [if_neg (by omega), if_neg (by omega), hkv, if_neg (fun q => q b_171)]
          rw [e9, hD]
          show Sf G mi_X9_anew (fun v' M' => v' = some (vI (byF ρ l key)) ∧ Rf ((anD2 ρ12 e r0 s z pl n t (ρ.2 32 l)).setS 42 0) M' ∧ SameR M0 M') _ _ _ _
          rw [← byF_congr (σ := ρ12) (by rw [e12, skF_at (by omega)])]
          exact an_a e l r0 s pl n t z (N + 2 * old) (ρ.2 32 l) key _ _ _ _ he hl hT13 (by omega) O13.2.1 (by rw [e12, skF_s (by decide)]; exact hl30) (by rw [e12, skF_at (by omega), h16]) (by omega) (by rw [e12, skF_at (by omega), h15]) (by omega) (by rw [G13.2 _ _ (by decide) (by decide) (by omega)]; exact hws) (by rw [e12, skF_at (by omega)]) hP (by rw [e12, skF_at (by omega), h34]) (by omega) (by rw [e12, skF_at (by omega), h38]) (by omega) (by rw [G13.2 _ _ (by decide) (by decide) (by omega)]; exact hwz) (by rw [e12, skF_at (by omega), h12]) (by omega) (by rw [e12, skF_at (by omega), htt]) (by omega) (by rw [G13.2 _ _ (by decide) (by decide) (by omega)]; exact hwt) (by rw [e12, skF_at (by omega)]; exact ht) hkey lf (by rw [e12, skF_at (by omega), h23]) hlf (by rw [e12, skF_at (by omega)]; exact h19) _ hR11 hS11
      · have hS9 := hS8.trans hS9'
        have hkv : akF ρ e l = key := by
          unfold akF
          rw [h16, h38, h15, h34]
          simp only [Int.toNat_natCast]
          rw [← emet, ← ec1, ← ec2, ← ekey]
        refine S_if_ne 184 dX9_anew_174 (by decide) (by omega) (fun c_174 => absurd c_174 (by omega)) (fun c_174 => ?_)
        refine S_aload_n dX9_anew_177 rfl ?_
        refine S_bipush dX9_anew_178 (by decide) ?_
        refine S_callV (mi := mi_X9_anew) [vI 7] ok_X9_refused ml_X9_163 dX9_anew_180 rfl (by decide) rfl (by decide) rfl (Nat.le_of_ble_eq_true rfl) rfl (r_X9_refused (ρ := ρ) 7 M9 hR9) ?_
        rintro v' M14 ⟨rfl, hR14, hS14'⟩
        have hS14 := hS9.trans hS14'
        exact S_iret dX9_anew_183 rfl (Or.inl rfl) (by have e9 : anF2 ρ e l old = (((-1) : Int), (ρ.setS 42 7)) := (by unfold anF2; rw [if_neg (by omega), if_neg (by omega), hkv, if_pos b_171]); rw [e9]; exact ⟨rfl, hR14, hS14⟩)
    · refine S_aload_n dX9_anew_99 rfl ?_
      refine S_bipush dX9_anew_100 (by decide) ?_
      refine S_callV (mi := mi_X9_anew) [vI 6] ok_X9_refused ml_X9_163 dX9_anew_102 rfl (by decide) rfl (by decide) rfl (Nat.le_of_ble_eq_true rfl) rfl (r_X9_refused (ρ := ρ) 6 M hR) ?_
      rintro v' M15 ⟨rfl, hR15, hS15'⟩
      have hS15 := hS.trans hS15'
      exact S_iret dX9_anew_105 rfl (Or.inl rfl) (by have e9 : anF2 ρ e l old = (((-1) : Int), (ρ.setS 42 6)) := (by unfold anF2; rw [if_neg (by omega), if_pos (by omega)]); rw [e9]; exact ⟨rfl, hR15, hS15⟩)
  · refine S_aload_n dX9_anew_84 rfl ?_
    refine S_iconst dX9_anew_85 ?_
    refine S_callV (mi := mi_X9_anew) [vI 5] ok_X9_refused ml_X9_163 dX9_anew_86 rfl (by decide) rfl (by decide) rfl (Nat.le_of_ble_eq_true rfl) rfl (r_X9_refused (ρ := ρ) 5 M hR) ?_
    rintro v' M16 ⟨rfl, hR16, hS16'⟩
    have hS16 := hS.trans hS16'
    exact S_iret dX9_anew_89 rfl (Or.inl rfl) (by have e9 : anF2 ρ e l old = (((-1) : Int), (ρ.setS 42 5)) := (by unfold anF2; rw [if_pos (by omega)]); rw [e9]; exact ⟨rfl, hR16, hS16⟩)
set_option maxRecDepth 100000 in
theorem r_X9_anew {G : Ge} {ρ : RS} (e l r0 s pl pa n0 z N lf : Nat) (kn : Int) (he : e < 12) (hl : l < 300) (h : ThOK ρ N) (hN : N < 7800) (hK : KOK ρ) (hl30 : 0 ≤ ρ.1 30 ∧ ρ.1 30 ≤ 300) (hm : 0 ≤ ρ.1 2 ∧ ρ.1 2 ≤ 12) (h16 : ρ.2 16 e = ↑r0) (hr : r0 < thN ρ) (h15 : ρ.2 15 e = ↑s) (hs : s < thN ρ) (hws : ρ.2 9 s ≤ 10000) (hP : -1 ≤ ρ.2 32 l ∧ ρ.2 32 l ≤ 10007) (h34 : ρ.2 34 l = ↑pl) (hpl : pl ≤ 300) (h38 : ρ.2 38 l = ↑z) (hz : z < thN ρ) (hwz : ρ.2 9 z ≤ 10000) (h22 : ρ.2 22 e = ↑pa) (hpa : pa ≤ 400) (h12 : ρ.2 12 e = ↑n0) (hn : n0 ≤ 12) (h13 : ∀ i, i < n0 → ∃ t : Nat, ρ.2 13 (12 * e + i) = ↑t ∧ t < thN ρ ∧ ρ.2 9 t ≤ 10000) (ht : 0 ≤ ρ.2 35 l ∧ ρ.2 35 l ≤ 255) (hc : -2147483648 ≤ ρ.2 36 l ∧ ρ.2 36 l < 2147483648) (h23 : ρ.2 23 e = ↑lf) (hlf : lf < 600) (h19 : -1 ≤ ρ.2 19 e ∧ ρ.2 19 e ≤ 10007) (hkn : kn = 0 ∨ kn = 1) (h18 : ρ.2 18 e = -1 ∨ ∃ c : Nat, ρ.2 18 e = ↑c ∧ c < thN ρ) (h33 : 0 ≤ ρ.2 33 l ∧ ρ.2 33 l ≤ 300) (h24 : ∀ j, j < 7200 → -1 ≤ ρ.2 24 j ∧ ρ.2 24 j ≤ 10007) : RC G mi_X9_anew [vR ((30, 0)), vI (↑e), vI (↑l), vI kn] ρ (some (vI (anF ρ e l kn).1)) ((anF ρ e l kn).2) := by
  intro M hR
  have hS := SameR.rf M
  refine Ct.of pl_X9_anew [some (vR ((30, 0))), some (vI (↑e)), some (vI (↑l)), some (vI kn), none, none, none, none] rfl (Nat.le_of_ble_eq_true rfl) ?_
  have hl8 := h.2.1
  have h18b : -1 ≤ ρ.2 18 e ∧ ρ.2 18 e ≤ 8000 := by rcases h18 with q | ⟨c, q, q2⟩ <;> omega
  refine S_iload_n dX9_anew_0 rfl ?_
  refine S_if_ne 18 dX9_anew_1 (by decide) (by clear h18; omega) (fun c_1 => ?_) (fun c_1 => ?_)
  · refine S_aload_n dX9_anew_18 rfl ?_
    refine S_iconst dX9_anew_19 ?_
    refine S_callV (mi := mi_X9_anew) [vI 4] ok_X9_refused ml_X9_163 dX9_anew_20 rfl (by decide) rfl (by decide) rfl (Nat.le_of_ble_eq_true rfl) rfl (r_X9_refused (ρ := ρ) 4 M hR) ?_
    rintro v' M1 ⟨rfl, hR1, hS1'⟩
    have hS1 := hS.trans hS1'
    exact S_iret dX9_anew_23 rfl (Or.inl rfl) (by have e9 : anF ρ e l kn = (((-1) : Int), (ρ.setS 42 4)) := (by unfold anF; rw [if_pos (by first | exact Or.inl c_1 | exact Or.inr (by rw [h23, Int.toNat_natCast]; exact (lefB_iff ρ e _ lf).2 b_12))]); rw [e9]; exact ⟨rfl, hR1, hS1⟩)
  · refine S_aload_n dX9_anew_4 rfl ?_
    refine S_iload_n dX9_anew_5 rfl ?_
    refine S_aload_n dX9_anew_6 rfl ?_
    refine S_getP fl_X9_99 dX9_anew_7 rfl rfl (hR.p 32 rfl) ?_
    refine S_iload_n dX9_anew_10 rfl ?_
    refine R_ald (v := ρ.2 32 l) l hR dX9_anew_11 rfl rfl (by omega) (show _ < 300 from by omega) rfl ?_
    refine S_callV (mi := mi_X9_anew) [vI (↑e), vI (ρ.2 32 l)] ok_X9_hasLeft ml_X9_229 dX9_anew_12 rfl (by decide) rfl (by decide) rfl (Nat.le_of_ble_eq_true rfl) rfl (r_X9_hasLeft (ρ := ρ) e lf (ρ.2 32 l) he (by omega) h23 h24 hP M hR) ?_
    rintro v' M2 ⟨⟨rfl, b_12⟩ | ⟨rfl, b_12⟩, hR2, hS2'⟩
    · have hS2 := hS.trans hS2'
      refine S_if_eq 24 dX9_anew_15 (by decide) (by omega) (fun c_15 => absurd c_15 (by omega)) (fun c_15 => ?_)
      refine S_aload_n dX9_anew_18 rfl ?_
      refine S_iconst dX9_anew_19 ?_
      refine S_callV (mi := mi_X9_anew) [vI 4] ok_X9_refused ml_X9_163 dX9_anew_20 rfl (by decide) rfl (by decide) rfl (Nat.le_of_ble_eq_true rfl) rfl (r_X9_refused (ρ := ρ) 4 M2 hR2) ?_
      rintro v' M3 ⟨rfl, hR3, hS3'⟩
      have hS3 := hS2.trans hS3'
      exact S_iret dX9_anew_23 rfl (Or.inl rfl) (by have e9 : anF ρ e l kn = (((-1) : Int), (ρ.setS 42 4)) := (by unfold anF; rw [if_pos (by first | exact Or.inl c_1 | exact Or.inr (by rw [h23, Int.toNat_natCast]; exact (lefB_iff ρ e _ lf).2 b_12))]); rw [e9]; exact ⟨rfl, hR3, hS3⟩)
    · have hS2 := hS.trans hS2'
      refine S_if_eq 24 dX9_anew_15 (by decide) (by omega) (fun c_15 => ?_) (fun c_15 => absurd c_15 (by omega))
      refine S_aload_n dX9_anew_24 rfl ?_
      refine S_getP fl_X9_60 dX9_anew_25 rfl rfl (hR2.p 18 rfl) ?_
      refine S_iload_n dX9_anew_28 rfl ?_
      refine R_ald (v := ρ.2 18 e) e hR2 dX9_anew_29 rfl rfl (by omega) (show _ < 12 from by omega) rfl ?_
      refine S_iconst dX9_anew_30 ?_
      refine S_icmp_eq 65 dX9_anew_31 (by decide) (by omega) (fun c_31 => ?_) (fun c_31 => ?_)
      · refine S_iconst dX9_anew_65 ?_
        have hof : oldF ρ e l = 0 := by
          unfold oldF
          rw [if_neg (by omega)]
        have e9 : anF ρ e l kn = anF2 ρ e l 0 := by
          unfold anF
          rw [if_neg (fun q => by rcases q with q | q; omega; exact b_12 (by rw [h23, Int.toNat_natCast] at q; exact (lefB_iff ρ e _ lf).1 q)), hof]
        rw [e9]
        exact an_66 e l r0 s pl pa n0 z N lf kn he hl h hN hK hl30 hm h16 hr h15 hs hws hP h34 hpl h38 hz hwz h22 hpa h12 hn h13 ht hc h23 hlf h19 0 (by omega) (Or.inl rfl) _ hR2 hS2
      · refine S_aload_n dX9_anew_34 rfl ?_
        refine S_getP fl_X9_102 dX9_anew_35 rfl rfl (hR2.p 33 rfl) ?_
        refine S_iload_n dX9_anew_38 rfl ?_
        refine R_ald (v := ρ.2 33 l) l hR2 dX9_anew_39 rfl rfl (by omega) (show _ < 300 from by omega) rfl ?_
        refine S_aload_n dX9_anew_40 rfl ?_
        refine S_getP fl_X9_72 dX9_anew_41 rfl rfl (hR2.p 22 rfl) ?_
        refine S_iload_n dX9_anew_44 rfl ?_
        refine R_ald (v := ↑pa) e hR2 dX9_anew_45 rfl rfl (by omega) (show _ < 12 from by omega) (by rw [h22]) ?_
        refine S_icmp_le 65 dX9_anew_46 (by decide) (by omega) (fun c_46 => ?_) (fun c_46 => ?_)
        · refine S_iconst dX9_anew_65 ?_
          have hof : oldF ρ e l = 0 := by
            unfold oldF
            rw [if_neg (by omega)]
          have e9 : anF ρ e l kn = anF2 ρ e l 0 := by
            unfold anF
            rw [if_neg (fun q => by rcases q with q | q; omega; exact b_12 (by rw [h23, Int.toNat_natCast] at q; exact (lefB_iff ρ e _ lf).1 q)), hof]
          rw [e9]
          exact an_66 e l r0 s pl pa n0 z N lf kn he hl h hN hK hl30 hm h16 hr h15 hs hws hP h34 hpl h38 hz hwz h22 hpa h12 hn h13 ht hc h23 hlf h19 0 (by omega) (Or.inl rfl) _ hR2 hS2
        · refine S_aload_n dX9_anew_49 rfl ?_
          refine S_getP fl_X9_102 dX9_anew_50 rfl rfl (hR2.p 33 rfl) ?_
          refine S_iload_n dX9_anew_53 rfl ?_
          refine R_ald (v := ρ.2 33 l) l hR2 dX9_anew_54 rfl rfl (by omega) (show _ < 300 from by omega) rfl ?_
          refine S_aload_n dX9_anew_55 rfl ?_
          refine S_getP fl_X9_72 dX9_anew_56 rfl rfl (hR2.p 22 rfl) ?_
          refine S_iload_n dX9_anew_59 rfl ?_
          refine R_ald (v := ↑pa) e hR2 dX9_anew_60 rfl rfl (by omega) (show _ < 12 from by omega) (by rw [h22]) ?_
          refine S_isub dX9_anew_61 ?_
          refine S_goto 66 dX9_anew_62 (by decide) ?_
          obtain ⟨c, h18c, hcl⟩ := h18.resolve_left c_31
          obtain ⟨old, ho⟩ : ∃ old : Nat, ρ.2 33 l = ↑(pa + old) := ⟨(ρ.2 33 l).toNat - pa, by omega⟩
          rw [show ((ρ.2 33 l) - (↑pa) : Int) = ↑old from by omega]
          have hof : oldF ρ e l = old := by
            unfold oldF
            rw [if_pos (by omega), h22]
            omega
          have e9 : anF ρ e l kn = anF2 ρ e l old := by
            unfold anF
            rw [if_neg (fun q => by rcases q with q | q; omega; exact b_12 (by rw [h23, Int.toNat_natCast] at q; exact (lefB_iff ρ e _ lf).1 q)), hof]
          rw [e9]
          exact an_66 e l r0 s pl pa n0 z N lf kn he hl h hN hK hl30 hm h16 hr h15 hs hws hP h34 hpl h38 hz hwz h22 hpa h12 hn h13 ht hc h23 hlf h19 old (by omega) (Or.inr ⟨⟨c, h18c, hcl⟩, ho⟩) _ hR2 hS2
