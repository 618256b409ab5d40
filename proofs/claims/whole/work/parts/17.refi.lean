/-! THE REFERENCE: what another one knows -/
def stA (ρ : RS) (t : Nat) : Int := if ρ.2 7 t = -1 then -1 else ρ.2 11 (ρ.2 7 t).toNat
def stB (ρ : RS) (t : Nat) : Int := if ρ.2 8 t = -1 then -1 else ρ.2 11 (ρ.2 8 t).toNat
def stM (k f a b : Int) : Int := if k = 5 then (if a = -1 then b else if b = -1 then a else if a < b then a else b) else if k = 2 then (if f = -1 then b else if a = -1 ∨ b = -1 then -1 else if b < a then a else b) else if k = 3 then -1 else a
def stV (ρ : RS) (t : Nat) : Int := if ρ.2 10 t ≠ 0 then 0 else if stM (ρ.2 6 t) (ρ.2 7 t) (stA ρ t) (stB ρ t) = -1 then -1 else stM (ρ.2 6 t) (ρ.2 7 t) (stA ρ t) (stB ρ t) + 1
def knT (ρ : RS) : Nat → RS
  | 0 => ρ
  | t + 1 => (knT ρ t).setA 11 t (stV (knT ρ t) t)
def knR (ρ : RS) : RS := knT ρ (thN ρ)
theorem knT_at (ρ : RS) : ∀ (n k j : Nat), k ≠ 11 ∨ n ≤ j → (knT ρ n).2 k j = ρ.2 k j := by
  intro n
  induction n with
  | zero => intro k j _; rfl
  | succ n ih =>
    intro k j h
    show ((knT ρ n).setA 11 n _).2 k j = _
    rw [RS.setA_ne (by omega)]
    exact ih k j (by omega)
theorem knT_s (ρ : RS) : ∀ (n k : Nat), (knT ρ n).1 k = ρ.1 k := by
  intro n
  induction n with
  | zero => intro k; rfl
  | succ n ih => exact ih
theorem knT_keep (ρ : RS) (j : Nat) : ∀ n, j < n → (knT ρ n).2 11 j = (knT ρ (j + 1)).2 11 j := by
  intro n
  induction n with
  | zero => intro h; omega
  | succ n ih =>
    intro h
    by_cases h1 : j = n
    · rw [h1]
    · show ((knT ρ n).setA 11 n _).2 11 j = _
      rw [RS.setA_ne (by omega)]
      exact ih (by omega)
theorem knT_self (ρ : RS) (j : Nat) : (knT ρ (j + 1)).2 11 j = stV (knT ρ j) j := by
  show ((knT ρ j).setA 11 j _).2 11 j = _
  rw [RS.setA_eq]
def StOK (ρ : RS) : Prop := (∀ t, t < thN ρ → ρ.2 10 t = 0 ∨ ρ.2 10 t = 1) ∧ ∀ t, t < 8000 → -1 ≤ ρ.2 11 t ∧ ρ.2 11 t ≤ 20000
theorem stV_bd {ρ : RS} {N t c : Nat} (h : ThOK ρ N) (ht : t < thN ρ) (hb : ∀ j, j < t → -1 ≤ ρ.2 11 j ∧ ρ.2 11 j ≤ c) : -1 ≤ stV ρ t ∧ stV ρ t ≤ c + 1 := by
  have h1 := h.2.2.2.2 t ht
  have ha : -1 ≤ stA ρ t ∧ stA ρ t ≤ c := by
    unfold stA; split
    · omega
    · exact hb _ (by omega)
  have hb2 : -1 ≤ stB ρ t ∧ stB ρ t ≤ c := by
    unfold stB; split
    · omega
    · exact hb _ (by omega)
  have hm : -1 ≤ stM (ρ.2 6 t) (ρ.2 7 t) (stA ρ t) (stB ρ t) ∧ stM (ρ.2 6 t) (ρ.2 7 t) (stA ρ t) (stB ρ t) ≤ c := by
    unfold stM
    repeat' split
    all_goals omega
  unfold stV
  repeat' split
  all_goals omega
theorem knT_bd {ρ : RS} {N : Nat} (h : ThOK ρ N) : ∀ n, n ≤ thN ρ → ∀ j, j < n → -1 ≤ (knT ρ n).2 11 j ∧ (knT ρ n).2 11 j ≤ n := by
  intro n
  induction n with
  | zero => intro _ j hj; omega
  | succ n ih =>
    intro hn j hj
    have hT : ThOK (knT ρ n) N := h.congr ⟨knT_s _ _ _, knT_s _ _ _, knT_s _ _ _⟩ (fun k j a b => knT_at _ _ _ _ (by omega))
    have hthn : thN (knT ρ n) = thN ρ := thN_congr (knT_s _ _ _)
    by_cases h1 : j = n
    · subst h1
      rw [knT_self]
      exact stV_bd hT (by omega) (ih (by omega))
    · have := ih (by omega) j (by omega)
      show -1 ≤ ((knT ρ n).setA 11 n _).2 11 j ∧ ((knT ρ n).setA 11 n _).2 11 j ≤ _
      rw [RS.setA_ne (by omega)]
      omega
theorem kn_a {G : Ge} {Q : Option AVal → Mem → Prop} {ρ : RS} (t N : Nat) (h : ThOK ρ N) (hN : N < 8000) (ht : t < thN ρ) (x2 x3 x4 : Option AVal) (M : Mem) (hR : Rf ρ M) (hc : Sf G mi_X9_know Q 36 [some (vR ((30, 0))), some (vI (↑t)), some (vI (stA ρ t)), x3, x4] [] M) : Sf G mi_X9_know Q 10 [some (vR ((30, 0))), some (vI (↑t)), x2, x3, x4] [] M := by
  have h1 := h.2.2.2.2 t ht
  have h2 := h.2.1
  refine S_aload_n dX9_know_10 rfl ?_
  refine S_getP fl_X9_26 dX9_know_11 rfl rfl (hR.p 7 rfl) ?_
  refine S_iload_n dX9_know_14 rfl ?_
  refine R_ald (v := ρ.2 7 t) t hR dX9_know_15 rfl rfl (by omega) (show _ < 8000 from by omega) rfl ?_
  refine S_iconst dX9_know_16 ?_
  refine S_icmp_ne 24 dX9_know_17 (by decide) (by omega) (fun c_17 => ?_) (fun c_17 => ?_)
  · refine S_aload_n dX9_know_24 rfl ?_
    refine S_getP fl_X9_39 dX9_know_25 rfl rfl (hR.p 11 rfl) ?_
    refine S_aload_n dX9_know_28 rfl ?_
    refine S_getP fl_X9_26 dX9_know_29 rfl rfl (hR.p 7 rfl) ?_
    refine S_iload_n dX9_know_32 rfl ?_
    refine R_ald (v := ρ.2 7 t) t hR dX9_know_33 rfl rfl (by omega) (show _ < 8000 from by omega) rfl ?_
    refine R_ald (v := ρ.2 11 (ρ.2 7 t).toNat) (ρ.2 7 t).toNat hR dX9_know_34 rfl rfl (by omega) (show _ < 8000 from by omega) rfl ?_
    refine S_istore_n dX9_know_35 (by decide) ?_
    have e9 : stA ρ t = (ρ.2 11 (ρ.2 7 t).toNat : Int) := (by unfold stA; (repeat (first | rw [if_pos (by omega)] | rw [if_neg (by omega)])); try rfl)
    rw [e9] at hc
    exact hc
  · refine S_iconst dX9_know_20 ?_
    refine S_goto 35 dX9_know_21 (by decide) ?_
    refine S_istore_n dX9_know_35 (by decide) ?_
    have e9 : stA ρ t = ((-1) : Int) := (by unfold stA; (repeat (first | rw [if_pos (by omega)] | rw [if_neg (by omega)])); try rfl)
    rw [e9] at hc
    exact hc
theorem kn_b {G : Ge} {Q : Option AVal → Mem → Prop} {ρ : RS} (t N : Nat) (h : ThOK ρ N) (hN : N < 8000) (ht : t < thN ρ) (a : Int) (x3 x4 : Option AVal) (M : Mem) (hR : Rf ρ M) (hc : Sf G mi_X9_know Q 62 [some (vR ((30, 0))), some (vI (↑t)), some (vI a), some (vI (stB ρ t)), x4] [] M) : Sf G mi_X9_know Q 36 [some (vR ((30, 0))), some (vI (↑t)), some (vI a), x3, x4] [] M := by
  have h1 := h.2.2.2.2 t ht
  have h2 := h.2.1
  refine S_aload_n dX9_know_36 rfl ?_
  refine S_getP fl_X9_29 dX9_know_37 rfl rfl (hR.p 8 rfl) ?_
  refine S_iload_n dX9_know_40 rfl ?_
  refine R_ald (v := ρ.2 8 t) t hR dX9_know_41 rfl rfl (by omega) (show _ < 8000 from by omega) rfl ?_
  refine S_iconst dX9_know_42 ?_
  refine S_icmp_ne 50 dX9_know_43 (by decide) (by omega) (fun c_43 => ?_) (fun c_43 => ?_)
  · refine S_aload_n dX9_know_50 rfl ?_
    refine S_getP fl_X9_39 dX9_know_51 rfl rfl (hR.p 11 rfl) ?_
    refine S_aload_n dX9_know_54 rfl ?_
    refine S_getP fl_X9_29 dX9_know_55 rfl rfl (hR.p 8 rfl) ?_
    refine S_iload_n dX9_know_58 rfl ?_
    refine R_ald (v := ρ.2 8 t) t hR dX9_know_59 rfl rfl (by omega) (show _ < 8000 from by omega) rfl ?_
    refine R_ald (v := ρ.2 11 (ρ.2 8 t).toNat) (ρ.2 8 t).toNat hR dX9_know_60 rfl rfl (by omega) (show _ < 8000 from by omega) rfl ?_
    refine S_istore_n dX9_know_61 (by decide) ?_
    have e9 : stB ρ t = (ρ.2 11 (ρ.2 8 t).toNat : Int) := (by unfold stB; (repeat (first | rw [if_pos (by omega)] | rw [if_neg (by omega)])); try rfl)
    rw [e9] at hc
    exact hc
  · refine S_iconst dX9_know_46 ?_
    refine S_goto 61 dX9_know_47 (by decide) ?_
    refine S_istore_n dX9_know_61 (by decide) ?_
    have e9 : stB ρ t = ((-1) : Int) := (by unfold stB; (repeat (first | rw [if_pos (by omega)] | rw [if_neg (by omega)])); try rfl)
    rw [e9] at hc
    exact hc
theorem kn_m {G : Ge} {Q : Option AVal → Mem → Prop} {ρ : RS} (t N : Nat) (h : ThOK ρ N) (hN : N < 8000) (ht : t < thN ρ) (a b : Int) (ha : -1 ≤ a ∧ a ≤ 100000) (hb : -1 ≤ b ∧ b ≤ 100000) (x4 : Option AVal) (M : Mem) (hR : Rf ρ M) (hc : Sf G mi_X9_know Q 174 [some (vR ((30, 0))), some (vI (↑t)), some (vI a), some (vI b), some (vI (stM (ρ.2 6 t) (ρ.2 7 t) a b))] [] M) : Sf G mi_X9_know Q 62 [some (vR ((30, 0))), some (vI (↑t)), some (vI a), some (vI b), x4] [] M := by
  have h1 := h.2.2.2.2 t ht
  have h2 := h.2.1
  refine S_iconst dX9_know_62 ?_
  refine S_istore dX9_know_63 (by decide) ?_
  refine S_aload_n dX9_know_65 rfl ?_
  refine S_getP fl_X9_22 dX9_know_66 rfl rfl (hR.p 6 rfl) ?_
  refine S_iload_n dX9_know_69 rfl ?_
  refine R_ald (v := ρ.2 6 t) t hR dX9_know_70 rfl rfl (by omega) (show _ < 8000 from by omega) rfl ?_
  refine S_iconst dX9_know_71 ?_
  refine S_icmp_ne 108 dX9_know_72 (by decide) (by omega) (fun c_72 => ?_) (fun c_72 => ?_)
  · refine S_aload_n dX9_know_108 rfl ?_
    refine S_getP fl_X9_22 dX9_know_109 rfl rfl (hR.p 6 rfl) ?_
    refine S_iload_n dX9_know_112 rfl ?_
    refine R_ald (v := ρ.2 6 t) t hR dX9_know_113 rfl rfl (by omega) (show _ < 8000 from by omega) rfl ?_
    refine S_iconst dX9_know_114 ?_
    refine S_icmp_ne 161 dX9_know_115 (by decide) (by omega) (fun c_115 => ?_) (fun c_115 => ?_)
    · refine S_aload_n dX9_know_161 rfl ?_
      refine S_getP fl_X9_22 dX9_know_162 rfl rfl (hR.p 6 rfl) ?_
      refine S_iload_n dX9_know_165 rfl ?_
      refine R_ald (v := ρ.2 6 t) t hR dX9_know_166 rfl rfl (by omega) (show _ < 8000 from by omega) rfl ?_
      refine S_iconst dX9_know_167 ?_
      refine S_icmp_eq 174 dX9_know_168 (by decide) (by omega) (fun c_168 => ?_) (fun c_168 => ?_)
      · have e9 : stM (ρ.2 6 t) (ρ.2 7 t) a b = ((-1) : Int) := (by unfold stM; (repeat (first | rw [if_pos (by omega)] | rw [if_neg (by omega)])); try rfl)
        rw [e9] at hc
        exact hc
      · refine S_iload_n dX9_know_171 rfl ?_
        refine S_istore dX9_know_172 (by decide) ?_
        have e9 : stM (ρ.2 6 t) (ρ.2 7 t) a b = (a : Int) := (by unfold stM; (repeat (first | rw [if_pos (by omega)] | rw [if_neg (by omega)])); try rfl)
        rw [e9] at hc
        exact hc
    · refine S_aload_n dX9_know_118 rfl ?_
      refine S_getP fl_X9_26 dX9_know_119 rfl rfl (hR.p 7 rfl) ?_
      refine S_iload_n dX9_know_122 rfl ?_
      refine R_ald (v := ρ.2 7 t) t hR dX9_know_123 rfl rfl (by omega) (show _ < 8000 from by omega) rfl ?_
      refine S_iconst dX9_know_124 ?_
      refine S_icmp_ne 132 dX9_know_125 (by decide) (by omega) (fun c_125 => ?_) (fun c_125 => ?_)
      · refine S_iload_n dX9_know_132 rfl ?_
        refine S_iconst dX9_know_133 ?_
        refine S_icmp_eq 142 dX9_know_134 (by decide) (by omega) (fun c_134 => ?_) (fun c_134 => ?_)
        · refine S_iconst dX9_know_142 ?_
          refine S_goto 156 dX9_know_143 (by decide) ?_
          refine S_istore dX9_know_156 (by decide) ?_
          refine S_goto 174 dX9_know_158 (by decide) ?_
          have e9 : stM (ρ.2 6 t) (ρ.2 7 t) a b = ((-1) : Int) := (by unfold stM; (repeat (first | rw [if_pos (by omega)] | rw [if_neg (by omega)])); try rfl)
          rw [e9] at hc
          exact hc
        · refine S_iload_n dX9_know_137 rfl ?_
          refine S_iconst dX9_know_138 ?_
          refine S_icmp_ne 146 dX9_know_139 (by decide) (by omega) (fun c_139 => ?_) (fun c_139 => ?_)
          · refine S_iload_n dX9_know_146 rfl ?_
            refine S_iload_n dX9_know_147 rfl ?_
            refine S_icmp_le 155 dX9_know_148 (by decide) (by omega) (fun c_148 => ?_) (fun c_148 => ?_)
            · refine S_iload_n dX9_know_155 rfl ?_
              refine S_istore dX9_know_156 (by decide) ?_
              refine S_goto 174 dX9_know_158 (by decide) ?_
              have e9 : stM (ρ.2 6 t) (ρ.2 7 t) a b = (b : Int) := (by unfold stM; (repeat (first | rw [if_pos (by omega)] | rw [if_neg (by omega)])); try rfl)
              rw [e9] at hc
              exact hc
            · refine S_iload_n dX9_know_151 rfl ?_
              refine S_goto 156 dX9_know_152 (by decide) ?_
              refine S_istore dX9_know_156 (by decide) ?_
              refine S_goto 174 dX9_know_158 (by decide) ?_
              have e9 : stM (ρ.2 6 t) (ρ.2 7 t) a b = (a : Int) := (by unfold stM; (repeat (first | rw [if_pos (by omega)] | rw [if_neg (by omega)])); try rfl)
              rw [e9] at hc
              exact hc
          · refine S_iconst dX9_know_142 ?_
            refine S_goto 156 dX9_know_143 (by decide) ?_
            refine S_istore dX9_know_156 (by decide) ?_
            refine S_goto 174 dX9_know_158 (by decide) ?_
            have e9 : stM (ρ.2 6 t) (ρ.2 7 t) a b = ((-1) : Int) := (by unfold stM; (repeat (first | rw [if_pos (by omega)] | rw [if_neg (by omega)])); try rfl)
            rw [e9] at hc
            exact hc
      · refine S_iload_n dX9_know_128 rfl ?_
        refine S_goto 156 dX9_know_129 (by decide) ?_
        refine S_istore dX9_know_156 (by decide) ?_
        refine S_goto 174 dX9_know_158 (by decide) ?_
        have e9 : stM (ρ.2 6 t) (ρ.2 7 t) a b = (b : Int) := (by unfold stM; (repeat (first | rw [if_pos (by omega)] | rw [if_neg (by omega)])); try rfl)
        rw [e9] at hc
        exact hc
  · refine S_iload_n dX9_know_75 rfl ?_
    refine S_iconst dX9_know_76 ?_
    refine S_icmp_ne 84 dX9_know_77 (by decide) (by omega) (fun c_77 => ?_) (fun c_77 => ?_)
    · refine S_iload_n dX9_know_84 rfl ?_
      refine S_iconst dX9_know_85 ?_
      refine S_icmp_ne 93 dX9_know_86 (by decide) (by omega) (fun c_86 => ?_) (fun c_86 => ?_)
      · refine S_iload_n dX9_know_93 rfl ?_
        refine S_iload_n dX9_know_94 rfl ?_
        refine S_icmp_ge 102 dX9_know_95 (by decide) (by omega) (fun c_95 => ?_) (fun c_95 => ?_)
        · refine S_iload_n dX9_know_102 rfl ?_
          refine S_istore dX9_know_103 (by decide) ?_
          refine S_goto 174 dX9_know_105 (by decide) ?_
          have e9 : stM (ρ.2 6 t) (ρ.2 7 t) a b = (b : Int) := (by unfold stM; (repeat (first | rw [if_pos (by omega)] | rw [if_neg (by omega)])); try rfl)
          rw [e9] at hc
          exact hc
        · refine S_iload_n dX9_know_98 rfl ?_
          refine S_goto 103 dX9_know_99 (by decide) ?_
          refine S_istore dX9_know_103 (by decide) ?_
          refine S_goto 174 dX9_know_105 (by decide) ?_
          have e9 : stM (ρ.2 6 t) (ρ.2 7 t) a b = (a : Int) := (by unfold stM; (repeat (first | rw [if_pos (by omega)] | rw [if_neg (by omega)])); try rfl)
          rw [e9] at hc
          exact hc
      · refine S_iload_n dX9_know_89 rfl ?_
        refine S_goto 103 dX9_know_90 (by decide) ?_
        refine S_istore dX9_know_103 (by decide) ?_
        refine S_goto 174 dX9_know_105 (by decide) ?_
        have e9 : stM (ρ.2 6 t) (ρ.2 7 t) a b = (a : Int) := (by unfold stM; (repeat (first | rw [if_pos (by omega)] | rw [if_neg (by omega)])); try rfl)
        rw [e9] at hc
        exact hc
    · refine S_iload_n dX9_know_80 rfl ?_
      refine S_goto 103 dX9_know_81 (by decide) ?_
      refine S_istore dX9_know_103 (by decide) ?_
      refine S_goto 174 dX9_know_105 (by decide) ?_
      have e9 : stM (ρ.2 6 t) (ρ.2 7 t) a b = (b : Int) := (by unfold stM; (repeat (first | rw [if_pos (by omega)] | rw [if_neg (by omega)])); try rfl)
      rw [e9] at hc
      exact hc
theorem kn_w {G : Ge} {Q : Option AVal → Mem → Prop} {ρ : RS} {M0 : Mem} (t N : Nat) (h : ThOK ρ N) (hN : N < 8000) (ht : t < thN ρ) (a b m : Int) (hm : -1 ≤ m ∧ m ≤ 100000) (hsh : ρ.2 10 t = 0 ∨ ρ.2 10 t = 1) (M : Mem) (hR : Rf ρ M) (hS : SameR M0 M) (hc : ∀ M', Rf (ρ.setA 11 t (if ρ.2 10 t ≠ 0 then 0 else if m = -1 then -1 else m + 1)) M' → SameR M0 M' → Sf G mi_X9_know Q 207 [some (vR ((30, 0))), some (vI (↑t)), some (vI a), some (vI b), some (vI m)] [] M') : Sf G mi_X9_know Q 174 [some (vR ((30, 0))), some (vI (↑t)), some (vI a), some (vI b), some (vI m)] [] M := by
  have h1 := h.2.2.2.2 t ht
  have h2 := h.2.1
  refine S_aload_n dX9_know_174 rfl ?_
  refine S_getP fl_X9_39 dX9_know_175 rfl rfl (hR.p 11 rfl) ?_
  refine S_iload_n dX9_know_178 rfl ?_
  refine S_aload_n dX9_know_179 rfl ?_
  refine S_getP fl_X9_35 dX9_know_180 rfl rfl (hR.p 10 rfl) ?_
  refine S_iload_n dX9_know_183 rfl ?_
  refine R_bld (v := ρ.2 10 t) t hR dX9_know_184 rfl rfl (by omega) (show _ < 8000 from by omega) rfl ?_
  refine S_if_eq 192 dX9_know_185 (by decide) (by omega) (fun c_185 => ?_) (fun c_185 => ?_)
  · refine S_iload dX9_know_192 rfl ?_
    refine S_iconst dX9_know_194 ?_
    refine S_icmp_ne 202 dX9_know_195 (by decide) (by omega) (fun c_195 => ?_) (fun c_195 => ?_)
    · refine S_iload dX9_know_202 rfl ?_
      refine S_iconst dX9_know_204 ?_
      refine S_iadd dX9_know_205 ?_
      refine R_ast t dX9_know_206 rfl rfl (by omega) (show _ < 8000 from by omega) hR hS (fun M1 hR1 hS1 => ?_)
      have e9 : (if ρ.2 10 t ≠ 0 then 0 else if m = -1 then -1 else m + 1) = (m + 1 : Int) := (by (repeat (first | rw [if_pos (by omega)] | rw [if_neg (by omega)])); try rfl)
      rw [e9] at hc
      exact hc _ hR1 hS1
    · refine S_iconst dX9_know_198 ?_
      refine S_goto 206 dX9_know_199 (by decide) ?_
      refine R_ast t dX9_know_206 rfl rfl (by omega) (show _ < 8000 from by omega) hR hS (fun M2 hR2 hS2 => ?_)
      have e9 : (if ρ.2 10 t ≠ 0 then 0 else if m = -1 then -1 else m + 1) = ((-1) : Int) := (by (repeat (first | rw [if_pos (by omega)] | rw [if_neg (by omega)])); try rfl)
      rw [e9] at hc
      exact hc _ hR2 hS2
  · refine S_iconst dX9_know_188 ?_
    refine S_goto 206 dX9_know_189 (by decide) ?_
    refine R_ast t dX9_know_206 rfl rfl (by omega) (show _ < 8000 from by omega) hR hS (fun M3 hR3 hS3 => ?_)
    have e9 : (if ρ.2 10 t ≠ 0 then 0 else if m = -1 then -1 else m + 1) = (0 : Int) := (by (repeat (first | rw [if_pos (by omega)] | rw [if_neg (by omega)])); try rfl)
    rw [e9] at hc
    exact hc _ hR3 hS3
