/-! THE REFERENCE: same, shows, see, hold -/
def sameV (ρ : RS) (p : Int) : Int := if ¬ (0 ≤ p ∧ p ≤ ρ.1 4 - 1) then -1 else if ρ.2 14 p.toNat = 0 then -1 else
  (if ρ.2 16 (2 * p.toNat) = ρ.2 16 (2 * p.toNat + 1) then 1 else 0) + (if ρ.2 17 (2 * p.toNat) = ρ.2 18 (2 * p.toNat + 1) then 2 else 0) + (if ρ.2 17 (2 * p.toNat + 1) = ρ.2 18 (2 * p.toNat) then 4 else 0)
theorem EndOK.bd {ρ : RS} {N e : Nat} (h : EndOK ρ e) (hT : ThOK ρ N) (hN : N < 8000) : (0 ≤ ρ.2 15 e ∧ ρ.2 15 e < 8000) ∧ (0 ≤ ρ.2 16 e ∧ ρ.2 16 e < 8000) ∧ (-1 ≤ ρ.2 17 e ∧ ρ.2 17 e < 8000) ∧ (-1 ≤ ρ.2 18 e ∧ ρ.2 18 e < 8000) := by
  obtain ⟨⟨s, a1, a2, -⟩, ⟨r, b1, b2, -⟩, c, d⟩ := h
  have := hT.2.1
  refine ⟨by omega, by omega, ?_, ?_⟩
  · rcases c with c | ⟨c1, c2, c3, -⟩ <;> omega
  · rcases d with c | ⟨c1, c2, c3, -⟩ <;> omega
set_option maxRecDepth 100000 in
theorem r_X9_same {G : Ge} {ρ : RS} (p : Int) (p32 : -2147483648 ≤ p ∧ p < 2147483648) (hp : 0 ≤ ρ.1 4 ∧ ρ.1 4 ≤ 6) (N : Nat) (h : ThOK ρ N) (hN : N < 8000) (hst : ∀ p, p < 6 → ρ.2 14 p = 0 ∨ ρ.2 14 p = 1) (hE : ∀ e : Nat, e < 12 → ρ.2 14 (e / 2) ≠ 0 → EndOK ρ e) : RC G mi_X9_same [vR ((30, 0)), vI p] ρ (some (vI (sameV ρ p))) ρ := by
  intro M hR
  have hS := SameR.rf M
  refine Ct.of pl_X9_same [some (vR ((30, 0))), some (vI p), none, none] rfl (Nat.le_of_ble_eq_true rfl) ?_
  refine S_iload_n dX9_same_0 rfl ?_
  refine S_iconst dX9_same_1 ?_
  refine S_aload_n dX9_same_2 rfl ?_
  refine S_getI (v := ρ.1 4) fl_X9_135 dX9_same_3 rfl rfl (hR.s 4) ?_
  refine S_iconst dX9_same_6 ?_
  refine S_isub dX9_same_7 ?_
  refine S_callS (mi := mi_X9_same) [vI p, vI 0, vI ((ρ.1 4) - 1)] ok_X9_in ml_X9_138 dX9_same_8 (by decide) rfl (Nat.le_of_ble_eq_true rfl) rfl (r_X9_in (ρ := ρ) p 0 ((ρ.1 4) - 1) (by omega) (by omega) (by omega) M hR) ?_
  rintro v' M1 ⟨⟨rfl, b_8⟩ | ⟨rfl, b_8⟩, hR1, hS1'⟩
  · have hS1 := hS.trans hS1'
    obtain ⟨x, rfl⟩ : ∃ x : Nat, p = ↑x := ⟨p.toNat, by omega⟩
    have hsx := hst x (by omega)
    refine S_if_eq 23 dX9_same_11 (by decide) (by omega) (fun c_11 => absurd c_11 (by omega)) (fun c_11 => ?_)
    refine S_aload_n dX9_same_14 rfl ?_
    refine S_getP fl_X9_48 dX9_same_15 rfl rfl (hR1.p 14 rfl) ?_
    refine S_iload_n dX9_same_18 rfl ?_
    refine R_bld (v := ρ.2 14 x) x hR1 dX9_same_19 rfl rfl (by omega) (show _ < 6 from by omega) rfl ?_
    refine S_if_ne 25 dX9_same_20 (by decide) (by omega) (fun c_20 => ?_) (fun c_20 => ?_)
    · have hb0 := (hE (2 * x) (by omega) (by rw [show 2 * x / 2 = x by omega]; exact c_20)).bd h hN
      have hb1 := (hE (2 * x + 1) (by omega) (by rw [show (2 * x + 1) / 2 = x by omega]; exact c_20)).bd h hN
      refine S_iconst dX9_same_25 ?_
      refine S_iload_n dX9_same_26 rfl ?_
      refine S_imul dX9_same_27 ?_
      refine S_istore_n dX9_same_28 (by decide) ?_
      refine S_iload_n dX9_same_29 rfl ?_
      refine S_iconst dX9_same_30 ?_
      refine S_iadd dX9_same_31 ?_
      refine S_istore_n dX9_same_32 (by decide) ?_
      refine S_aload_n dX9_same_33 rfl ?_
      refine S_getP fl_X9_54 dX9_same_34 rfl rfl (hR1.p 16 rfl) ?_
      refine S_iload_n dX9_same_37 rfl ?_
      refine R_ald (v := ρ.2 16 ((2 * x))) ((2 * x)) hR1 dX9_same_38 rfl rfl (by omega) (show _ < 12 from by omega) rfl ?_
      refine S_aload_n dX9_same_39 rfl ?_
      refine S_getP fl_X9_54 dX9_same_40 rfl rfl (hR1.p 16 rfl) ?_
      refine S_iload_n dX9_same_43 rfl ?_
      refine R_ald (v := ρ.2 16 (((2 * x) + 1))) (((2 * x) + 1)) hR1 dX9_same_44 rfl rfl (by omega) (show _ < 12 from by omega) rfl ?_
      refine S_icmp_ne 52 dX9_same_45 (by decide) (by omega) (fun c_45 => ?_) (fun c_45 => ?_)
      · refine S_iconst dX9_same_52 ?_
        refine S_aload_n dX9_same_53 rfl ?_
        refine S_getP fl_X9_57 dX9_same_54 rfl rfl (hR1.p 17 rfl) ?_
        refine S_iload_n dX9_same_57 rfl ?_
        refine R_ald (v := ρ.2 17 ((2 * x))) ((2 * x)) hR1 dX9_same_58 rfl rfl (by omega) (show _ < 12 from by omega) rfl ?_
        refine S_aload_n dX9_same_59 rfl ?_
        refine S_getP fl_X9_60 dX9_same_60 rfl rfl (hR1.p 18 rfl) ?_
        refine S_iload_n dX9_same_63 rfl ?_
        refine R_ald (v := ρ.2 18 (((2 * x) + 1))) (((2 * x) + 1)) hR1 dX9_same_64 rfl rfl (by omega) (show _ < 12 from by omega) rfl ?_
        refine S_icmp_ne 72 dX9_same_65 (by decide) (by omega) (fun c_65 => ?_) (fun c_65 => ?_)
        · refine S_iconst dX9_same_72 ?_
          refine S_iadd dX9_same_73 ?_
          refine S_aload_n dX9_same_74 rfl ?_
          refine S_getP fl_X9_57 dX9_same_75 rfl rfl (hR1.p 17 rfl) ?_
          refine S_iload_n dX9_same_78 rfl ?_
          refine R_ald (v := ρ.2 17 (((2 * x) + 1))) (((2 * x) + 1)) hR1 dX9_same_79 rfl rfl (by omega) (show _ < 12 from by omega) rfl ?_
          refine S_aload_n dX9_same_80 rfl ?_
          refine S_getP fl_X9_60 dX9_same_81 rfl rfl (hR1.p 18 rfl) ?_
          refine S_iload_n dX9_same_84 rfl ?_
          refine R_ald (v := ρ.2 18 ((2 * x))) ((2 * x)) hR1 dX9_same_85 rfl rfl (by omega) (show _ < 12 from by omega) rfl ?_
          refine S_icmp_ne 93 dX9_same_86 (by decide) (by omega) (fun c_86 => ?_) (fun c_86 => ?_)
          · refine S_iconst dX9_same_93 ?_
            refine S_iadd dX9_same_94 ?_
            exact S_iret dX9_same_95 rfl (Or.inl rfl) (by have e9 : sameV ρ (↑x) = ((0 + 0) + 0 : Int) := (by unfold sameV; simp only [Int.toNat_natCast]; (repeat (first | rw [if_pos (by omega)] | rw [if_neg (by omega)])); try rfl); rw [e9]; exact ⟨rfl, hR1, hS1⟩)
          · refine S_iconst dX9_same_89 ?_
            refine S_goto 94 dX9_same_90 (by decide) ?_
            refine S_iadd dX9_same_94 ?_
            exact S_iret dX9_same_95 rfl (Or.inl rfl) (by have e9 : sameV ρ (↑x) = ((0 + 0) + 4 : Int) := (by unfold sameV; simp only [Int.toNat_natCast]; (repeat (first | rw [if_pos (by omega)] | rw [if_neg (by omega)])); try rfl); rw [e9]; exact ⟨rfl, hR1, hS1⟩)
        · refine S_iconst dX9_same_68 ?_
          refine S_goto 73 dX9_same_69 (by decide) ?_
          refine S_iadd dX9_same_73 ?_
          refine S_aload_n dX9_same_74 rfl ?_
          refine S_getP fl_X9_57 dX9_same_75 rfl rfl (hR1.p 17 rfl) ?_
          refine S_iload_n dX9_same_78 rfl ?_
          refine R_ald (v := ρ.2 17 (((2 * x) + 1))) (((2 * x) + 1)) hR1 dX9_same_79 rfl rfl (by omega) (show _ < 12 from by omega) rfl ?_
          refine S_aload_n dX9_same_80 rfl ?_
          refine S_getP fl_X9_60 dX9_same_81 rfl rfl (hR1.p 18 rfl) ?_
          refine S_iload_n dX9_same_84 rfl ?_
          refine R_ald (v := ρ.2 18 ((2 * x))) ((2 * x)) hR1 dX9_same_85 rfl rfl (by omega) (show _ < 12 from by omega) rfl ?_
          refine S_icmp_ne 93 dX9_same_86 (by decide) (by omega) (fun c_86 => ?_) (fun c_86 => ?_)
          · refine S_iconst dX9_same_93 ?_
            refine S_iadd dX9_same_94 ?_
            exact S_iret dX9_same_95 rfl (Or.inl rfl) (by have e9 : sameV ρ (↑x) = ((0 + 2) + 0 : Int) := (by unfold sameV; simp only [Int.toNat_natCast]; (repeat (first | rw [if_pos (by omega)] | rw [if_neg (by omega)])); try rfl); rw [e9]; exact ⟨rfl, hR1, hS1⟩)
          · refine S_iconst dX9_same_89 ?_
            refine S_goto 94 dX9_same_90 (by decide) ?_
            refine S_iadd dX9_same_94 ?_
            exact S_iret dX9_same_95 rfl (Or.inl rfl) (by have e9 : sameV ρ (↑x) = ((0 + 2) + 4 : Int) := (by unfold sameV; simp only [Int.toNat_natCast]; (repeat (first | rw [if_pos (by omega)] | rw [if_neg (by omega)])); try rfl); rw [e9]; exact ⟨rfl, hR1, hS1⟩)
      · refine S_iconst dX9_same_48 ?_
        refine S_goto 53 dX9_same_49 (by decide) ?_
        refine S_aload_n dX9_same_53 rfl ?_
        refine S_getP fl_X9_57 dX9_same_54 rfl rfl (hR1.p 17 rfl) ?_
        refine S_iload_n dX9_same_57 rfl ?_
        refine R_ald (v := ρ.2 17 ((2 * x))) ((2 * x)) hR1 dX9_same_58 rfl rfl (by omega) (show _ < 12 from by omega) rfl ?_
        refine S_aload_n dX9_same_59 rfl ?_
        refine S_getP fl_X9_60 dX9_same_60 rfl rfl (hR1.p 18 rfl) ?_
        refine S_iload_n dX9_same_63 rfl ?_
        refine R_ald (v := ρ.2 18 (((2 * x) + 1))) (((2 * x) + 1)) hR1 dX9_same_64 rfl rfl (by omega) (show _ < 12 from by omega) rfl ?_
        refine S_icmp_ne 72 dX9_same_65 (by decide) (by omega) (fun c_65 => ?_) (fun c_65 => ?_)
        · refine S_iconst dX9_same_72 ?_
          refine S_iadd dX9_same_73 ?_
          refine S_aload_n dX9_same_74 rfl ?_
          refine S_getP fl_X9_57 dX9_same_75 rfl rfl (hR1.p 17 rfl) ?_
          refine S_iload_n dX9_same_78 rfl ?_
          refine R_ald (v := ρ.2 17 (((2 * x) + 1))) (((2 * x) + 1)) hR1 dX9_same_79 rfl rfl (by omega) (show _ < 12 from by omega) rfl ?_
          refine S_aload_n dX9_same_80 rfl ?_
          refine S_getP fl_X9_60 dX9_same_81 rfl rfl (hR1.p 18 rfl) ?_
          refine S_iload_n dX9_same_84 rfl ?_
          refine R_ald (v := ρ.2 18 ((2 * x))) ((2 * x)) hR1 dX9_same_85 rfl rfl (by omega) (show _ < 12 from by omega) rfl ?_
          refine S_icmp_ne 93 dX9_same_86 (by decide) (by omega) (fun c_86 => ?_) (fun c_86 => ?_)
          · refine S_iconst dX9_same_93 ?_
            refine S_iadd dX9_same_94 ?_
            exact S_iret dX9_same_95 rfl (Or.inl rfl) (by have e9 : sameV ρ (↑x) = ((1 + 0) + 0 : Int) := (by unfold sameV; simp only [Int.toNat_natCast]; (repeat (first | rw [if_pos (by omega)] | rw [if_neg (by omega)])); try rfl); rw [e9]; exact ⟨rfl, hR1, hS1⟩)
          · refine S_iconst dX9_same_89 ?_
            refine S_goto 94 dX9_same_90 (by decide) ?_
            refine S_iadd dX9_same_94 ?_
            exact S_iret dX9_same_95 rfl (Or.inl rfl) (by have e9 : sameV ρ (↑x) = ((1 + 0) + 4 : Int) := (by unfold sameV; simp only [Int.toNat_natCast]; (repeat (first | rw [if_pos (by omega)] | rw [if_neg (by omega)])); try rfl); rw [e9]; exact ⟨rfl, hR1, hS1⟩)
        · refine S_iconst dX9_same_68 ?_
          refine S_goto 73 dX9_same_69 (by decide) ?_
          refine S_iadd dX9_same_73 ?_
          refine S_aload_n dX9_same_74 rfl ?_
          refine S_getP fl_X9_57 dX9_same_75 rfl rfl (hR1.p 17 rfl) ?_
          refine S_iload_n dX9_same_78 rfl ?_
          refine R_ald (v := ρ.2 17 (((2 * x) + 1))) (((2 * x) + 1)) hR1 dX9_same_79 rfl rfl (by omega) (show _ < 12 from by omega) rfl ?_
          refine S_aload_n dX9_same_80 rfl ?_
          refine S_getP fl_X9_60 dX9_same_81 rfl rfl (hR1.p 18 rfl) ?_
          refine S_iload_n dX9_same_84 rfl ?_
          refine R_ald (v := ρ.2 18 ((2 * x))) ((2 * x)) hR1 dX9_same_85 rfl rfl (by omega) (show _ < 12 from by omega) rfl ?_
          refine S_icmp_ne 93 dX9_same_86 (by decide) (by omega) (fun c_86 => ?_) (fun c_86 => ?_)
          · refine S_iconst dX9_same_93 ?_
            refine S_iadd dX9_same_94 ?_
            exact S_iret dX9_same_95 rfl (Or.inl rfl) (by have e9 : sameV ρ (↑x) = ((1 + 2) + 0 : Int) := (by unfold sameV; simp only [Int.toNat_natCast]; (repeat (first | rw [if_pos (by omega)] | rw [if_neg (by omega)])); try rfl); rw [e9]; exact ⟨rfl, hR1, hS1⟩)
          · refine S_iconst dX9_same_89 ?_
            refine S_goto 94 dX9_same_90 (by decide) ?_
            refine S_iadd dX9_same_94 ?_
            exact S_iret dX9_same_95 rfl (Or.inl rfl) (by have e9 : sameV ρ (↑x) = ((1 + 2) + 4 : Int) := (by unfold sameV; simp only [Int.toNat_natCast]; (repeat (first | rw [if_pos (by omega)] | rw [if_neg (by omega)])); try rfl); rw [e9]; exact ⟨rfl, hR1, hS1⟩)
    · refine S_iconst dX9_same_23 ?_
      exact S_iret dX9_same_24 rfl (Or.inl rfl) (by have e9 : sameV ρ (↑x) = ((-1) : Int) := (by unfold sameV; simp only [Int.toNat_natCast]; (repeat (first | rw [if_pos (by omega)] | rw [if_neg (by omega)])); try rfl); rw [e9]; exact ⟨rfl, hR1, hS1⟩)
  · have hS1 := hS.trans hS1'
    refine S_if_eq 23 dX9_same_11 (by decide) (by omega) (fun c_11 => ?_) (fun c_11 => absurd c_11 (by omega))
    refine S_iconst dX9_same_23 ?_
    exact S_iret dX9_same_24 rfl (Or.inl rfl) (by have e9 : sameV ρ p = ((-1) : Int) := (by unfold sameV; (repeat (first | rw [if_pos (by omega)] | rw [if_neg (by omega)])); try rfl); rw [e9]; exact ⟨rfl, hR1, hS1⟩)
def shR (ρ : RS) (t : Int) : RS := if t = -1 then ρ.setS 45 (ρ.1 45 + 0) else (ρ.setS 45 (ρ.1 45 + (if ρ.2 10 t.toNat = 0 then 1 else 0))).setA 10 t.toNat 1
def shK (ρ : RS) (e : Nat) : Nat → RS
  | 0 => ρ
  | i + 1 => shR (shK ρ e i) (ρ.2 28 (12 * e + i))
theorem shR_at (ρ : RS) (t : Int) (k j : Nat) (h : k ≠ 10) : (shR ρ t).2 k j = ρ.2 k j := by
  unfold shR; split
  · rfl
  · exact if_neg (fun q => h q.1)
theorem shR_s (ρ : RS) (t : Int) (k : Nat) (h : k ≠ 45) : (shR ρ t).1 k = ρ.1 k := by
  unfold shR; split <;> exact if_neg h
theorem shK_at (ρ : RS) (e k j : Nat) (h : k ≠ 10) : ∀ i, (shK ρ e i).2 k j = ρ.2 k j := by
  intro i
  induction i with
  | zero => rfl
  | succ i ih => show (shR (shK ρ e i) _).2 k j = _; rw [shR_at _ _ _ _ h]; exact ih
theorem shK_s (ρ : RS) (e k : Nat) (h : k ≠ 45) : ∀ i, (shK ρ e i).1 k = ρ.1 k := by
  intro i
  induction i with
  | zero => rfl
  | succ i ih => show (shR (shK ρ e i) _).1 k = _; rw [shR_s _ _ _ h]; exact ih
def ShOK (ρ : RS) (n : Nat) : Prop := (∀ t, t < n → ρ.2 10 t = 0 ∨ ρ.2 10 t = 1)
theorem ShOK.sh {ρ : RS} {n : Nat} (h : ShOK ρ n) (t : Int) : ShOK (shR ρ t) n := fun j hj => by
  unfold shR; split
  · exact h j hj
  · show (if 10 = 10 ∧ j = t.toNat then (1 : Int) else ρ.2 10 j) = 0 ∨ (if 10 = 10 ∧ j = t.toNat then (1 : Int) else ρ.2 10 j) = 1
    by_cases h2 : 10 = 10 ∧ j = t.toNat
    · rw [if_pos h2]; exact Or.inr rfl
    · rw [if_neg h2]; exact h j hj
theorem ShOK.shK {ρ : RS} {n : Nat} (h : ShOK ρ n) (e : Nat) : ∀ i, ShOK (shK ρ e i) n := by
  intro i
  induction i with
  | zero => exact h
  | succ i ih => exact ih.sh _
set_option maxRecDepth 100000 in
theorem r_X9_shows {G : Ge} {ρ : RS} (t : Int) (n : Nat) (ht : t = -1 ∨ (0 ≤ t ∧ t < n)) (hn : n ≤ 8000) (hs : ShOK ρ n) : RC G mi_X9_shows [vR ((30, 0)), vI t] ρ none (shR ρ t) := by
  intro M hR
  have hS := SameR.rf M
  refine Ct.of pl_X9_shows [some (vR ((30, 0))), some (vI t)] rfl (Nat.le_of_ble_eq_true rfl) ?_
  refine S_aload_n dX9_shows_0 rfl ?_
  refine S_dup dX9_shows_1 ?_
  refine S_getI (v := ρ.1 45) fl_X9_232 dX9_shows_2 rfl rfl (hR.s 45) ?_
  refine S_iload_n dX9_shows_5 rfl ?_
  refine S_iconst dX9_shows_6 ?_
  refine S_icmp_eq 23 dX9_shows_7 (by decide) (by omega) (fun c_7 => ?_) (fun c_7 => ?_)
  · obtain rfl : t = -1 := by omega
    refine S_iconst dX9_shows_23 ?_
    refine S_iadd dX9_shows_24 ?_
    refine R_put fl_X9_232 dX9_shows_25 rfl rfl rfl hR hS (fun M1 hR1 hS1 => ?_)
    refine S_iload_n dX9_shows_28 rfl ?_
    refine S_iconst dX9_shows_29 ?_
    refine S_icmp_eq 40 dX9_shows_30 (by decide) (by omega) (fun c_30 => ?_) (fun c_30 => absurd c_30 (by omega))
    exact S_vret dX9_shows_40 rfl (by have e9 : shR ρ ((-1)) = (ρ.setS 45 ((ρ.1 45) + 0)) := (by unfold shR; (first | rw [if_pos (by omega)] | rw [if_neg (by omega)]); (try simp only [Int.toNat_natCast]); (try (first | rw [if_pos (by omega)] | rw [if_neg (by omega)] | rfl))); rw [e9]; exact ⟨rfl, hR1, hS1⟩)
  · obtain ⟨j, rfl⟩ : ∃ j : Nat, t = ↑j := ⟨t.toNat, by omega⟩
    have h10 := hs j (by omega)
    refine S_aload_n dX9_shows_10 rfl ?_
    refine S_getP fl_X9_35 dX9_shows_11 rfl rfl (hR.p 10 rfl) ?_
    refine S_iload_n dX9_shows_14 rfl ?_
    refine R_bld (v := ρ.2 10 j) j hR dX9_shows_15 rfl rfl (by omega) (show _ < 8000 from by omega) rfl ?_
    refine S_if_ne 23 dX9_shows_16 (by decide) (by omega) (fun c_16 => ?_) (fun c_16 => ?_)
    · refine S_iconst dX9_shows_23 ?_
      refine S_iadd dX9_shows_24 ?_
      refine R_put fl_X9_232 dX9_shows_25 rfl rfl rfl hR hS (fun M2 hR2 hS2 => ?_)
      refine S_iload_n dX9_shows_28 rfl ?_
      refine S_iconst dX9_shows_29 ?_
      refine S_icmp_eq 40 dX9_shows_30 (by decide) (by omega) (fun c_30 => ?_) (fun c_30 => ?_)
      · exact absurd c_30 (by omega)
      · refine S_aload_n dX9_shows_33 rfl ?_
        refine S_getP fl_X9_35 dX9_shows_34 rfl rfl (hR2.p 10 rfl) ?_
        refine S_iload_n dX9_shows_37 rfl ?_
        refine S_iconst dX9_shows_38 ?_
        refine R_bst j dX9_shows_39 rfl rfl (by omega) (show _ < 8000 from by omega) (by omega) hR2 hS2 (fun M3 hR3 hS3 => ?_)
        exact S_vret dX9_shows_40 rfl (by have e9 : shR ρ (↑j) = ((ρ.setS 45 ((ρ.1 45) + 0)).setA 10 j 1) := (by unfold shR; (first | rw [if_pos (by omega)] | rw [if_neg (by omega)]); (try simp only [Int.toNat_natCast]); (try (first | rw [if_pos (by omega)] | rw [if_neg (by omega)] | rfl))); rw [e9]; exact ⟨rfl, hR3, hS3⟩)
    · refine S_iconst dX9_shows_19 ?_
      refine S_goto 24 dX9_shows_20 (by decide) ?_
      refine S_iadd dX9_shows_24 ?_
      refine R_put fl_X9_232 dX9_shows_25 rfl rfl rfl hR hS (fun M4 hR4 hS4 => ?_)
      refine S_iload_n dX9_shows_28 rfl ?_
      refine S_iconst dX9_shows_29 ?_
      refine S_icmp_eq 40 dX9_shows_30 (by decide) (by omega) (fun c_30 => ?_) (fun c_30 => ?_)
      · exact absurd c_30 (by omega)
      · refine S_aload_n dX9_shows_33 rfl ?_
        refine S_getP fl_X9_35 dX9_shows_34 rfl rfl (hR4.p 10 rfl) ?_
        refine S_iload_n dX9_shows_37 rfl ?_
        refine S_iconst dX9_shows_38 ?_
        refine R_bst j dX9_shows_39 rfl rfl (by omega) (show _ < 8000 from by omega) (by omega) hR4 hS4 (fun M5 hR5 hS5 => ?_)
        exact S_vret dX9_shows_40 rfl (by have e9 : shR ρ (↑j) = ((ρ.setS 45 ((ρ.1 45) + 1)).setA 10 j 1) := (by unfold shR; (first | rw [if_pos (by omega)] | rw [if_neg (by omega)]); (try simp only [Int.toNat_natCast]); (try (first | rw [if_pos (by omega)] | rw [if_neg (by omega)] | rfl))); rw [e9]; exact ⟨rfl, hR5, hS5⟩)
def seeS (ρ : RS) (e : Nat) : RS := shR (shR (shR (shR (ρ.setS 45 0) (ρ.2 15 e)) (ρ.2 16 e)) (ρ.2 17 e)) (ρ.2 18 e)
def seeF (ρ : RS) (e : Int) : Int × RS := if ¬ (0 ≤ e ∧ e ≤ 2 * ρ.1 4 - 1) then (-1, ρ.setS 42 1) else if ρ.2 14 (e.toNat / 2) = 0 then (-1, ρ.setS 42 3) else
  ((shK (seeS ρ e.toNat) e.toNat (ρ.2 25 e.toNat).toNat).1 45, (shK (seeS ρ e.toNat) e.toNat (ρ.2 25 e.toNat).toNat).setS 42 0)
set_option maxRecDepth 100000 in
theorem lp_X9_see {G : Ge} {ρ : RS} {M0 : Mem} (e n : Nat) (he : e < 12) (hn : n ≤ 12) (hr : ρ.2 25 e = ↑n) (hn8 : thN ρ ≤ 8000) (hs : ShOK ρ (thN ρ)) (hk : ∀ i, i < n → 0 ≤ ρ.2 28 (12 * e + i) ∧ ρ.2 28 (12 * e + i) < thN ρ) : ∀ (d : Nat) (i : Nat) (M : Mem), i + d = n → Rf ((shK (seeS ρ e) e i)) M → SameR M0 M → Sf G mi_X9_see (fun v' M' => v' = some (vI ((shK (seeS ρ e) e n).1 45)) ∧ Rf ((shK (seeS ρ e) e n).setS 42 0) M' ∧ SameR M0 M') 78 [some (vR ((30, 0))), some (vI (↑e)), some (vI (↑i))] [] M := by
  intro d
  induction d with
  | zero =>
    intro i M hd hR hS
    obtain rfl : i = n := by omega
    refine S_iload_n dX9_see_78 rfl ?_
    refine S_aload_n dX9_see_79 rfl ?_
    refine S_getP fl_X9_81 dX9_see_80 rfl rfl (hR.p 25 rfl) ?_
    refine S_iload_n dX9_see_83 rfl ?_
    refine R_ald (v := ↑i) e hR dX9_see_84 rfl rfl (by omega) (show _ < 12 from by omega) ((shK_at _ _ _ _ (by decide) _).trans (((shR_at _ _ _ _ (by decide)).trans ((shR_at _ _ _ _ (by decide)).trans ((shR_at _ _ _ _ (by decide)).trans (shR_at _ _ _ _ (by decide))))).trans hr)) ?_
    refine S_icmp_ge 109 dX9_see_85 (by decide) (by omega) (fun c_85 => ?_) (fun c_85 => absurd c_85 (by omega))
    refine S_aload_n dX9_see_109 rfl ?_
    refine S_aload_n dX9_see_110 rfl ?_
    refine S_getI (v := (shK (seeS ρ e) e i).1 45) fl_X9_232 dX9_see_111 rfl rfl (hR.s 45) ?_
    refine S_callV (mi := mi_X9_see) [vI ((shK (seeS ρ e) e i).1 45)] ok_X9_done ml_X9_166 dX9_see_114 rfl (by decide) rfl (by decide) rfl (Nat.le_of_ble_eq_true rfl) rfl (r_X9_done (ρ := (shK (seeS ρ e) e i)) ((shK (seeS ρ e) e i).1 45) M hR) ?_
    rintro v' M1 ⟨rfl, hR1, hS1'⟩
    have hS1 := hS.trans hS1'
    exact S_iret dX9_see_117 rfl (Or.inl rfl) ⟨rfl, hR1, hS1⟩
  | succ d ih =>
    intro i M hd hR hS
    have hki := hk i (by omega)
    have hb8 := hn8
    refine S_iload_n dX9_see_78 rfl ?_
    refine S_aload_n dX9_see_79 rfl ?_
    refine S_getP fl_X9_81 dX9_see_80 rfl rfl (hR.p 25 rfl) ?_
    refine S_iload_n dX9_see_83 rfl ?_
    refine R_ald (v := ↑n) e hR dX9_see_84 rfl rfl (by omega) (show _ < 12 from by omega) ((shK_at _ _ _ _ (by decide) _).trans (((shR_at _ _ _ _ (by decide)).trans ((shR_at _ _ _ _ (by decide)).trans ((shR_at _ _ _ _ (by decide)).trans (shR_at _ _ _ _ (by decide))))).trans hr)) ?_
    refine S_icmp_ge 109 dX9_see_85 (by decide) (by omega) (fun c_85 => absurd c_85 (by omega)) (fun c_85 => ?_)
    refine S_aload_n dX9_see_88 rfl ?_
    refine S_aload_n dX9_see_89 rfl ?_
    refine S_getP fl_X9_90 dX9_see_90 rfl rfl (hR.p 28 rfl) ?_
    refine S_bipush dX9_see_93 (by decide) ?_
    refine S_iload_n dX9_see_95 rfl ?_
    refine S_imul dX9_see_96 ?_
    refine S_iload_n dX9_see_97 rfl ?_
    refine S_iadd dX9_see_98 ?_
    refine R_ald (v := ρ.2 28 (12 * e + i)) (((12 * e) + i)) hR dX9_see_99 rfl rfl (by omega) (show _ < 144 from by omega) ((shK_at _ _ _ _ (by decide) _).trans ((shR_at _ _ _ _ (by decide)).trans ((shR_at _ _ _ _ (by decide)).trans ((shR_at _ _ _ _ (by decide)).trans (shR_at _ _ _ _ (by decide)))))) ?_
    refine S_callV (mi := mi_X9_see) [vI (ρ.2 28 (12 * e + i))] ok_X9_shows ml_X9_235 dX9_see_100 rfl (by decide) rfl (by decide) rfl (Nat.le_of_ble_eq_true rfl) rfl (r_X9_shows (ρ := (shK (seeS ρ e) e i)) (ρ.2 28 (12 * e + i)) (thN ρ) (Or.inr (by omega)) hn8 ((show ShOK (seeS ρ e) (thN ρ) from ((((show ShOK (ρ.setS 45 0) (thN ρ) from hs).sh _).sh _).sh _).sh _).shK e i) M hR) ?_
    rintro v' M1 ⟨rfl, hR1, hS1'⟩
    have hS1 := hS.trans hS1'
    refine S_iinc dX9_see_103 rfl (by decide) ?_
    rw [show ((↑i) + 1 : Int) = ↑(i + 1) from by omega]
    refine S_goto 78 dX9_see_106 (by decide) ?_
    have e9 : shK (seeS ρ e) e (i + 1) = shR (shK (seeS ρ e) e i) (ρ.2 28 (12 * e + i)) := (by show shR (shK (seeS ρ e) e i) ((seeS ρ e).2 28 (12 * e + i)) = _; rw [show (seeS ρ e).2 28 (12 * e + i) = ρ.2 28 (12 * e + i) from ((shR_at _ _ _ _ (by decide)).trans ((shR_at _ _ _ _ (by decide)).trans ((shR_at _ _ _ _ (by decide)).trans (shR_at _ _ _ _ (by decide)))))])
    rw [← e9] at hR1
    exact ih (i + 1) _ (by omega) hR1 hS1
set_option maxRecDepth 100000 in
theorem r_X9_see {G : Ge} {ρ : RS} (e : Int) (e32 : -2147483648 ≤ e ∧ e < 2147483648) (hp : 0 ≤ ρ.1 4 ∧ ρ.1 4 ≤ 6) (N : Nat) (h : ThOK ρ N) (hN : N < 8000) (hst : ∀ p, p < 6 → ρ.2 14 p = 0 ∨ ρ.2 14 p = 1) (hE : ∀ e : Nat, e < 12 → ρ.2 14 (e / 2) ≠ 0 → EndOK ρ e) (hK : KOK ρ) (hs : ShOK ρ (thN ρ)) (hk : ∀ e i n : Nat, e < 12 → ρ.2 25 e = ↑n → i < n → 0 ≤ ρ.2 28 (12 * e + i) ∧ ρ.2 28 (12 * e + i) < thN ρ) : RC G mi_X9_see [vR ((30, 0)), vI e] ρ (some (vI (seeF ρ e).1)) ((seeF ρ e).2) := by
  intro M hR
  have hS := SameR.rf M
  refine Ct.of pl_X9_see [some (vR ((30, 0))), some (vI e), none] rfl (Nat.le_of_ble_eq_true rfl) ?_
  refine S_aload_n dX9_see_0 rfl ?_
  refine S_iload_n dX9_see_1 rfl ?_
  refine S_callV (mi := mi_X9_see) [vI e] ok_X9_isEnd ml_X9_172 dX9_see_2 rfl (by decide) rfl (by decide) rfl (Nat.le_of_ble_eq_true rfl) rfl (r_X9_isEnd (ρ := ρ) e (by omega) (show 0 ≤ ρ.1 4 ∧ ρ.1 4 ≤ 6 from by omega) M hR) ?_
  rintro v' M1 ⟨⟨rfl, b_2⟩ | ⟨rfl, b_2⟩, hR1, hS1'⟩
  · have hS1 := hS.trans hS1'
    obtain ⟨x, rfl⟩ : ∃ x : Nat, e = ↑x := ⟨e.toNat, by omega⟩
    obtain ⟨n, hn, hr⟩ := hK.1 x (by omega)
    have hn8 : thN ρ ≤ 8000 := by have := h.2.1; omega
    refine S_if_ne 14 dX9_see_5 (by decide) (by omega) (fun c_5 => ?_) (fun c_5 => absurd c_5 (by omega))
    refine S_aload_n dX9_see_14 rfl ?_
    refine S_getP fl_X9_48 dX9_see_15 rfl rfl (hR1.p 14 rfl) ?_
    refine S_iload_n dX9_see_18 rfl ?_
    refine S_iconst dX9_see_19 ?_
    refine S_idiv dX9_see_20 (by omega) (by omega) ?_
    rw [show Int.tdiv (↑x) 2 = (↑(x / 2) : Int) from rfl]
    refine R_bld (v := ρ.2 14 ((x / 2))) ((x / 2)) hR1 dX9_see_21 rfl rfl (by omega) (show _ < 6 from by omega) rfl ?_
    refine S_if_ne 31 dX9_see_22 (by decide) (by have := hst (x / 2) (by omega); omega) (fun c_22 => ?_) (fun c_22 => ?_)
    · obtain ⟨⟨s9, hs1, hs2, hs3⟩, ⟨r9, hr1, hr2, hr3⟩, hsc, htc⟩ := hE x (by omega) (by omega)
      have hsc2 : ρ.2 17 x = -1 ∨ (0 ≤ ρ.2 17 x ∧ ρ.2 17 x < thN ρ) := by rcases hsc with h9 | ⟨c9, h9, h8, -⟩ <;> omega
      have htc2 : ρ.2 18 x = -1 ∨ (0 ≤ ρ.2 18 x ∧ ρ.2 18 x < thN ρ) := by rcases htc with h9 | ⟨c9, h9, h8, -⟩ <;> omega
      refine S_aload_n dX9_see_31 rfl ?_
      refine S_iconst dX9_see_32 ?_
      refine R_put fl_X9_232 dX9_see_33 rfl rfl rfl hR1 hS1 (fun M2 hR2 hS2 => ?_)
      refine S_aload_n dX9_see_36 rfl ?_
      refine S_aload_n dX9_see_37 rfl ?_
      refine S_getP fl_X9_51 dX9_see_38 rfl rfl (hR2.p 15 rfl) ?_
      refine S_iload_n dX9_see_41 rfl ?_
      refine R_ald (v := ρ.2 15 x) x hR2 dX9_see_42 rfl rfl (by omega) (show _ < 12 from by omega) rfl ?_
      refine S_callV (mi := mi_X9_see) [vI (ρ.2 15 x)] ok_X9_shows ml_X9_235 dX9_see_43 rfl (by decide) rfl (by decide) rfl (Nat.le_of_ble_eq_true rfl) rfl (r_X9_shows (ρ := (ρ.setS 45 0)) (ρ.2 15 x) (thN ρ) (Or.inr (by omega)) hn8 hs M2 hR2) ?_
      rintro v' M3 ⟨rfl, hR3, hS3'⟩
      have hS3 := hS2.trans hS3'
      refine S_aload_n dX9_see_46 rfl ?_
      refine S_aload_n dX9_see_47 rfl ?_
      refine S_getP fl_X9_54 dX9_see_48 rfl rfl (hR3.p 16 rfl) ?_
      refine S_iload_n dX9_see_51 rfl ?_
      refine R_ald (v := ρ.2 16 x) x hR3 dX9_see_52 rfl rfl (by omega) (show _ < 12 from by omega) ((shR_at _ _ _ _ (by decide)).trans rfl) ?_
      refine S_callV (mi := mi_X9_see) [vI (ρ.2 16 x)] ok_X9_shows ml_X9_235 dX9_see_53 rfl (by decide) rfl (by decide) rfl (Nat.le_of_ble_eq_true rfl) rfl (r_X9_shows (ρ := (shR (ρ.setS 45 0) (ρ.2 15 x))) (ρ.2 16 x) (thN ρ) (Or.inr (by omega)) hn8 ((show ShOK (ρ.setS 45 0) (thN ρ) from hs).sh _) M3 hR3) ?_
      rintro v' M4 ⟨rfl, hR4, hS4'⟩
      have hS4 := hS3.trans hS4'
      refine S_aload_n dX9_see_56 rfl ?_
      refine S_aload_n dX9_see_57 rfl ?_
      refine S_getP fl_X9_57 dX9_see_58 rfl rfl (hR4.p 17 rfl) ?_
      refine S_iload_n dX9_see_61 rfl ?_
      refine R_ald (v := ρ.2 17 x) x hR4 dX9_see_62 rfl rfl (by omega) (show _ < 12 from by omega) ((shR_at _ _ _ _ (by decide)).trans ((shR_at _ _ _ _ (by decide)).trans rfl)) ?_
      refine S_callV (mi := mi_X9_see) [vI (ρ.2 17 x)] ok_X9_shows ml_X9_235 dX9_see_63 rfl (by decide) rfl (by decide) rfl (Nat.le_of_ble_eq_true rfl) rfl (r_X9_shows (ρ := (shR (shR (ρ.setS 45 0) (ρ.2 15 x)) (ρ.2 16 x))) (ρ.2 17 x) (thN ρ) (by omega) hn8 (((show ShOK (ρ.setS 45 0) (thN ρ) from hs).sh _).sh _) M4 hR4) ?_
      rintro v' M5 ⟨rfl, hR5, hS5'⟩
      have hS5 := hS4.trans hS5'
      refine S_aload_n dX9_see_66 rfl ?_
      refine S_aload_n dX9_see_67 rfl ?_
      refine S_getP fl_X9_60 dX9_see_68 rfl rfl (hR5.p 18 rfl) ?_
      refine S_iload_n dX9_see_71 rfl ?_
      refine R_ald (v := ρ.2 18 x) x hR5 dX9_see_72 rfl rfl (by omega) (show _ < 12 from by omega) ((shR_at _ _ _ _ (by decide)).trans ((shR_at _ _ _ _ (by decide)).trans ((shR_at _ _ _ _ (by decide)).trans rfl))) ?_
      refine S_callV (mi := mi_X9_see) [vI (ρ.2 18 x)] ok_X9_shows ml_X9_235 dX9_see_73 rfl (by decide) rfl (by decide) rfl (Nat.le_of_ble_eq_true rfl) rfl (r_X9_shows (ρ := (shR (shR (shR (ρ.setS 45 0) (ρ.2 15 x)) (ρ.2 16 x)) (ρ.2 17 x))) (ρ.2 18 x) (thN ρ) (by omega) hn8 ((((show ShOK (ρ.setS 45 0) (thN ρ) from hs).sh _).sh _).sh _) M5 hR5) ?_
      rintro v' M6 ⟨rfl, hR6, hS6'⟩
      have hS6 := hS5.trans hS6'
      refine S_iconst dX9_see_76 ?_
      refine S_istore_n dX9_see_77 (by decide) ?_
      rw [show seeF ρ ↑x = ((shK (seeS ρ x) x n).1 45, (shK (seeS ρ x) x n).setS 42 0) from (by unfold seeF; simp only [Int.toNat_natCast, hr]; rw [if_neg (by omega), if_neg (by omega)])]
      exact lp_X9_see x n (by omega) hn hr hn8 hs (fun i hi => hk x i n (by omega) hr hi) n 0 _ (by omega) hR6 hS6
    · refine S_aload_n dX9_see_25 rfl ?_
      refine S_iconst dX9_see_26 ?_
      refine S_callV (mi := mi_X9_see) [vI 3] ok_X9_refused ml_X9_163 dX9_see_27 rfl (by decide) rfl (by decide) rfl (Nat.le_of_ble_eq_true rfl) rfl (r_X9_refused (ρ := ρ) 3 M1 hR1) ?_
      rintro v' M7 ⟨rfl, hR7, hS7'⟩
      have hS7 := hS1.trans hS7'
      exact S_iret dX9_see_30 rfl (Or.inl rfl) (by have e9 : seeF ρ ↑x = (((-1) : Int), (ρ.setS 42 3)) := (by unfold seeF; simp only [Int.toNat_natCast]; (repeat (first | rw [if_pos (by omega)] | rw [if_neg (by omega)])); try rfl); rw [e9]; exact ⟨rfl, hR7, hS7⟩)
  · have hS1 := hS.trans hS1'
    refine S_if_ne 14 dX9_see_5 (by decide) (by omega) (fun c_5 => absurd c_5 (by omega)) (fun c_5 => ?_)
    refine S_aload_n dX9_see_8 rfl ?_
    refine S_iconst dX9_see_9 ?_
    refine S_callV (mi := mi_X9_see) [vI 1] ok_X9_refused ml_X9_163 dX9_see_10 rfl (by decide) rfl (by decide) rfl (Nat.le_of_ble_eq_true rfl) rfl (r_X9_refused (ρ := ρ) 1 M1 hR1) ?_
    rintro v' M8 ⟨rfl, hR8, hS8'⟩
    have hS8 := hS1.trans hS8'
    exact S_iret dX9_see_13 rfl (Or.inl rfl) (by have e9 : seeF ρ e = (((-1) : Int), (ρ.setS 42 1)) := (by unfold seeF; (repeat (first | rw [if_pos (by omega)] | rw [if_neg (by omega)])); try rfl); rw [e9]; exact ⟨rfl, hR8, hS8⟩)
