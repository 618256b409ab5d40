/-! THE REFERENCE: trays and acts -/
def ranR (ρ : RS) (n : Nat) (b : Int) : RS := (ρ.setA 43 n b).setS 44 (↑n + 1)
def ranL (ρ : RS) : Nat → List Int → RS
  | _, [] => ρ
  | n, b :: l => ranL (ranR ρ n b) (n + 1) l
theorem ranR_s (ρ : RS) (n : Nat) (b : Int) (k : Nat) (h : k ≠ 44) : (ranR ρ n b).1 k = ρ.1 k := if_neg h
theorem ranR_44 (ρ : RS) (n : Nat) (b : Int) : (ranR ρ n b).1 44 = ↑(n + 1) := by
  show (if 44 = 44 then (n : Int) + 1 else (ρ.setA 43 n b).1 44) = _
  rw [if_pos rfl]; omega
theorem ranR_a (ρ : RS) (n : Nat) (b : Int) (k j : Nat) (h : k ≠ 43) : (ranR ρ n b).2 k j = ρ.2 k j := if_neg (fun q => h q.1)
theorem ranL_app (a b : List Int) : ∀ (ρ : RS) (n : Nat), ranL ρ n (a ++ b) = ranL (ranL ρ n a) (n + a.length) b := by
  induction a with
  | nil => intro ρ n; rfl
  | cons x a ih =>
    intro ρ n
    show ranL (ranR ρ n x) (n + 1) (a ++ b) = ranL (ranL (ranR ρ n x) (n + 1) a) (n + (a.length + 1)) b
    rw [ih, show n + 1 + a.length = n + (a.length + 1) by omega]
theorem ranL_44 : ∀ (l : List Int) (ρ : RS) (n : Nat), ρ.1 44 = ↑n → (ranL ρ n l).1 44 = ↑(n + l.length) := by
  intro l
  induction l with
  | nil => intro ρ n h; exact h
  | cons b l ih =>
    intro ρ n h
    have h2 := ih (ranR ρ n b) (n + 1) (ranR_44 ρ n b)
    show (ranL (ranR ρ n b) (n + 1) l).1 44 = ↑(n + (l.length + 1))
    rw [h2, show n + 1 + l.length = n + (l.length + 1) by omega]
def moveL (k : Int) : List Int := if k = 1 ∨ k = 2 then [20, 10] else [10]
def moveV (k v x : Int) : Int := if k = 1 ∨ k = 2 then (x + v) * 2 else x + v
def mixedL (k : Int) : List Int := (if k = 3 then [40, 11] else [11]) ++ moveL k
def mixedV (k v x : Int) : Int := if k = 3 then moveV k v x * 3 + 5 else moveV k v x * 3
def tellL (k : Int) : List Int := if k = 2 then [30, 13] else [13]
def tellV (k v x : Int) : Int := if k = 2 then (jI x ^^^ jI v).toInt - 1 else (jI x ^^^ jI v).toInt
def kendL (k : Int) : List Int := [12] ++ (mixedL k ++ tellL k)
def kendV (k v x : Int) : Int := mixedV k v x - tellV k v x
def endedL (k : Int) : List Int := if k = 1 ∨ k = 2 then [21] ++ kendL k else if k = 4 then [50] ++ kendL k else kendL k
def endedV (k v x t : Int) : Int := if k = 1 ∨ k = 2 then kendV k v (x + 1) else if k = 4 then kendV k v x + t else kendV k v x
theorem moveL_len (k : Int) : (moveL k).length ≤ 2 := by unfold moveL; split <;> decide
theorem tellL_len (k : Int) : (tellL k).length ≤ 2 := by unfold tellL; split <;> decide
theorem mixedL_len (k : Int) : (mixedL k).length ≤ 4 := by
  unfold mixedL
  rw [List.length_append]
  have := moveL_len k
  split <;> simp only [List.length_cons, List.length_nil] <;> omega
theorem kendL_len (k : Int) : (kendL k).length ≤ 7 := by
  unfold kendL
  rw [List.length_append, List.length_append]
  have := mixedL_len k; have := tellL_len k
  simp only [List.length_cons, List.length_nil]; omega
set_option maxRecDepth 100000 in
theorem r_X9_ran {G : Ge} {ρ : RS} (b : Int) (n : Nat) (hn : ρ.1 44 = ↑n) (hn40 : n < 40) : RC G mi_X9_ran [vR ((30, 0)), vI b] ρ none (ranR ρ n b) := by
  intro M hR
  have hS := SameR.rf M
  refine Ct.of pl_X9_ran [some (vR ((30, 0))), some (vI b)] rfl (Nat.le_of_ble_eq_true rfl) ?_
  refine S_aload_n dX9_ran_0 rfl ?_
  refine S_getI (v := ↑n) fl_X9_248 dX9_ran_1 rfl rfl ((hR.s 44).trans hn) ?_
  refine S_bipush dX9_ran_4 (by decide) ?_
  refine S_icmp_ge 19 dX9_ran_6 (by decide) (by omega) (fun c_6 => absurd c_6 (by omega)) (fun c_6 => ?_)
  refine S_aload_n dX9_ran_9 rfl ?_
  refine S_getP fl_X9_129 dX9_ran_10 rfl rfl (hR.p 43 rfl) ?_
  refine S_aload_n dX9_ran_13 rfl ?_
  refine S_getI (v := ↑n) fl_X9_248 dX9_ran_14 rfl rfl ((hR.s 44).trans hn) ?_
  refine S_iload_n dX9_ran_17 rfl ?_
  refine R_ast n dX9_ran_18 rfl rfl (by omega) (show _ < 40 from by omega) hR hS (fun M1 hR1 hS1 => ?_)
  refine S_aload_n dX9_ran_19 rfl ?_
  refine S_dup dX9_ran_20 ?_
  refine S_getI (v := ↑n) fl_X9_248 dX9_ran_21 rfl rfl ((hR1.s 44).trans hn) ?_
  refine S_iconst dX9_ran_24 ?_
  refine S_iadd dX9_ran_25 ?_
  refine R_put fl_X9_248 dX9_ran_26 rfl rfl rfl hR1 hS1 (fun M2 hR2 hS2 => ?_)
  exact S_vret dX9_ran_29 rfl ⟨rfl, hR2, hS2⟩
set_option maxRecDepth 100000 in
theorem r_X9_isChain {G : Ge} {ρ : RS} (k : Int) (hk : -2147483648 ≤ k ∧ k < 2147483648) : RB G mi_X9_isChain [vI k] ρ (k = 1 ∨ k = 2) := by
  intro M hR
  have hS := SameR.rf M
  refine Ct.of pl_X9_isChain [some (vI k)] rfl (Nat.le_of_ble_eq_true rfl) ?_
  refine S_iload_n dX9_isChain_0 rfl ?_
  refine S_iconst dX9_isChain_1 ?_
  refine S_icmp_eq 10 dX9_isChain_2 (by decide) (by omega) (fun c_2 => ?_) (fun c_2 => ?_)
  · refine S_iconst dX9_isChain_10 ?_
    refine S_goto 15 dX9_isChain_11 (by decide) ?_
    exact S_iret dX9_isChain_15 rfl (Or.inr ⟨rfl, by omega⟩) ⟨Or.inl ⟨rfl, by omega⟩, hR, hS⟩
  · refine S_iload_n dX9_isChain_5 rfl ?_
    refine S_iconst dX9_isChain_6 ?_
    refine S_icmp_ne 14 dX9_isChain_7 (by decide) (by omega) (fun c_7 => ?_) (fun c_7 => ?_)
    · refine S_iconst dX9_isChain_14 ?_
      exact S_iret dX9_isChain_15 rfl (Or.inr ⟨rfl, by omega⟩) ⟨Or.inr ⟨rfl, by omega⟩, hR, hS⟩
    · refine S_iconst dX9_isChain_10 ?_
      refine S_goto 15 dX9_isChain_11 (by decide) ?_
      exact S_iret dX9_isChain_15 rfl (Or.inr ⟨rfl, by omega⟩) ⟨Or.inl ⟨rfl, by omega⟩, hR, hS⟩
set_option maxRecDepth 100000 in
theorem r_X9_move {G : Ge} {ρ : RS} (k v x : Int) (hk : 0 ≤ k ∧ k ≤ 5) (n : Nat) (hn : ρ.1 44 = ↑n) (hn40 : n < 30) : RC G mi_X9_move [vR ((30, 0)), vI k, vI v, vI x] ρ (some (vI (moveV k v x))) (ranL ρ n (moveL k)) := by
  intro M hR
  have hS := SameR.rf M
  refine Ct.of pl_X9_move [some (vR ((30, 0))), some (vI k), some (vI v), some (vI x)] rfl (Nat.le_of_ble_eq_true rfl) ?_
  refine S_iload_n dX9_move_0 rfl ?_
  refine S_callS (mi := mi_X9_move) [vI k] ok_X9_isChain ml_X9_255 dX9_move_1 (by decide) rfl (Nat.le_of_ble_eq_true rfl) rfl (r_X9_isChain (ρ := ρ) k (by omega) M hR) ?_
  rintro v' M1 ⟨⟨rfl, b_1⟩ | ⟨rfl, b_1⟩, hR1, hS1'⟩
  · have hS1 := hS.trans hS1'
    refine S_if_eq 25 dX9_move_4 (by decide) (by omega) (fun c_4 => absurd c_4 (by omega)) (fun c_4 => ?_)
    refine S_aload_n dX9_move_7 rfl ?_
    refine S_bipush dX9_move_8 (by decide) ?_
    refine S_callV (mi := mi_X9_move) [vI 20] ok_X9_ran ml_X9_258 dX9_move_10 rfl (by decide) rfl (by decide) rfl (Nat.le_of_ble_eq_true rfl) rfl (r_X9_ran (ρ := ρ) 20 n hn (by omega) M1 hR1) ?_
    rintro v' M2 ⟨rfl, hR2, hS2'⟩
    have hS2 := hS1.trans hS2'
    refine S_aload_n dX9_move_13 rfl ?_
    refine S_bipush dX9_move_14 (by decide) ?_
    refine S_callV (mi := mi_X9_move) [vI 10] ok_X9_ran ml_X9_258 dX9_move_16 rfl (by decide) rfl (by decide) rfl (Nat.le_of_ble_eq_true rfl) rfl (r_X9_ran (ρ := (ranR ρ n 20)) 10 (n + 1) (ranR_44 _ _ _) (by omega) M2 hR2) ?_
    rintro v' M3 ⟨rfl, hR3, hS3'⟩
    have hS3 := hS2.trans hS3'
    refine S_iload_n dX9_move_19 rfl ?_
    refine S_iload_n dX9_move_20 rfl ?_
    refine S_iadd dX9_move_21 ?_
    refine S_iconst dX9_move_22 ?_
    refine S_imul dX9_move_23 ?_
    exact S_iret dX9_move_24 rfl (Or.inl rfl) (by have e8 : moveV k v x = ((x + v) * 2 : Int) := (by unfold moveV; first | rw [if_pos (by omega)] | rw [if_neg (by omega), if_pos (by omega)] | rw [if_neg (by omega), if_neg (by omega)] | rw [if_neg (by omega)]); have e9 : ranL ρ n (moveL k) = (ranR (ranR ρ n 20) (n + 1) 10) := (by unfold moveL; (first | rw [if_pos (by omega)] | rw [if_neg (by omega), if_pos (by omega)] | rw [if_neg (by omega), if_neg (by omega)] | rw [if_neg (by omega)]); try rfl); rw [e8, e9]; exact ⟨rfl, hR3, hS3⟩)
  · have hS1 := hS.trans hS1'
    refine S_if_eq 25 dX9_move_4 (by decide) (by omega) (fun c_4 => ?_) (fun c_4 => absurd c_4 (by omega))
    refine S_aload_n dX9_move_25 rfl ?_
    refine S_bipush dX9_move_26 (by decide) ?_
    refine S_callV (mi := mi_X9_move) [vI 10] ok_X9_ran ml_X9_258 dX9_move_28 rfl (by decide) rfl (by decide) rfl (Nat.le_of_ble_eq_true rfl) rfl (r_X9_ran (ρ := ρ) 10 n hn (by omega) M1 hR1) ?_
    rintro v' M4 ⟨rfl, hR4, hS4'⟩
    have hS4 := hS1.trans hS4'
    refine S_iload_n dX9_move_31 rfl ?_
    refine S_iload_n dX9_move_32 rfl ?_
    refine S_iadd dX9_move_33 ?_
    exact S_iret dX9_move_34 rfl (Or.inl rfl) (by have e8 : moveV k v x = (x + v : Int) := (by unfold moveV; first | rw [if_pos (by omega)] | rw [if_neg (by omega), if_pos (by omega)] | rw [if_neg (by omega), if_neg (by omega)] | rw [if_neg (by omega)]); have e9 : ranL ρ n (moveL k) = (ranR ρ n 10) := (by unfold moveL; (first | rw [if_pos (by omega)] | rw [if_neg (by omega), if_pos (by omega)] | rw [if_neg (by omega), if_neg (by omega)] | rw [if_neg (by omega)]); try rfl); rw [e8, e9]; exact ⟨rfl, hR4, hS4⟩)
set_option maxRecDepth 100000 in
theorem r_X9_mixed {G : Ge} {ρ : RS} (k v x : Int) (hk : 0 ≤ k ∧ k ≤ 5) (n : Nat) (hn : ρ.1 44 = ↑n) (hn40 : n < 28) : RC G mi_X9_mixed [vR ((30, 0)), vI k, vI v, vI x] ρ (some (vI (mixedV k v x))) (ranL ρ n (mixedL k)) := by
  intro M hR
  have hS := SameR.rf M
  refine Ct.of pl_X9_mixed [some (vR ((30, 0))), some (vI k), some (vI v), some (vI x), none] rfl (Nat.le_of_ble_eq_true rfl) ?_
  refine S_iload_n dX9_mixed_0 rfl ?_
  refine S_iconst dX9_mixed_1 ?_
  refine S_icmp_ne 11 dX9_mixed_2 (by decide) (by omega) (fun c_2 => ?_) (fun c_2 => ?_)
  · refine S_aload_n dX9_mixed_11 rfl ?_
    refine S_bipush dX9_mixed_12 (by decide) ?_
    refine S_callV (mi := mi_X9_mixed) [vI 11] ok_X9_ran ml_X9_258 dX9_mixed_14 rfl (by decide) rfl (by decide) rfl (Nat.le_of_ble_eq_true rfl) rfl (r_X9_ran (ρ := ρ) 11 n hn (by omega) M hR) ?_
    rintro v' M1 ⟨rfl, hR1, hS1'⟩
    have hS1 := hS.trans hS1'
    refine S_aload_n dX9_mixed_17 rfl ?_
    refine S_iload_n dX9_mixed_18 rfl ?_
    refine S_iload_n dX9_mixed_19 rfl ?_
    refine S_iload_n dX9_mixed_20 rfl ?_
    refine S_callV (mi := mi_X9_mixed) [vI k, vI v, vI x] ok_X9_move ml_X9_261 dX9_mixed_21 rfl (by decide) rfl (by decide) rfl (Nat.le_of_ble_eq_true rfl) rfl (r_X9_move (ρ := (ranR ρ n 11)) k v x hk (n + 1) (ranR_44 _ _ _) (by omega) M1 hR1) ?_
    rintro v' M2 ⟨rfl, hR2, hS2'⟩
    have hS2 := hS1.trans hS2'
    refine S_iconst dX9_mixed_24 ?_
    refine S_imul dX9_mixed_25 ?_
    refine S_istore dX9_mixed_26 (by decide) ?_
    refine S_iload_n dX9_mixed_28 rfl ?_
    refine S_iconst dX9_mixed_29 ?_
    refine S_icmp_ne 40 dX9_mixed_30 (by decide) (by omega) (fun c_30 => ?_) (fun c_30 => absurd c_30 (by omega))
    refine S_iload dX9_mixed_40 rfl ?_
    exact S_iret dX9_mixed_42 rfl (Or.inl rfl) (by have e8 : mixedV k v x = ((moveV k v x) * 3 : Int) := (by unfold mixedV; first | rw [if_pos (by omega)] | rw [if_neg (by omega)]); have e9 : ranL ρ n (mixedL k) = (ranL (ranR ρ n 11) (n + 1) (moveL k)) := (by unfold mixedL; (first | rw [if_pos (by omega)] | rw [if_neg (by omega)]); try rfl); rw [e8, e9]; exact ⟨rfl, hR2, hS2⟩)
  · refine S_aload_n dX9_mixed_5 rfl ?_
    refine S_bipush dX9_mixed_6 (by decide) ?_
    refine S_callV (mi := mi_X9_mixed) [vI 40] ok_X9_ran ml_X9_258 dX9_mixed_8 rfl (by decide) rfl (by decide) rfl (Nat.le_of_ble_eq_true rfl) rfl (r_X9_ran (ρ := ρ) 40 n hn (by omega) M hR) ?_
    rintro v' M3 ⟨rfl, hR3, hS3'⟩
    have hS3 := hS.trans hS3'
    refine S_aload_n dX9_mixed_11 rfl ?_
    refine S_bipush dX9_mixed_12 (by decide) ?_
    refine S_callV (mi := mi_X9_mixed) [vI 11] ok_X9_ran ml_X9_258 dX9_mixed_14 rfl (by decide) rfl (by decide) rfl (Nat.le_of_ble_eq_true rfl) rfl (r_X9_ran (ρ := (ranR ρ n 40)) 11 (n + 1) (ranR_44 _ _ _) (by omega) M3 hR3) ?_
    rintro v' M4 ⟨rfl, hR4, hS4'⟩
    have hS4 := hS3.trans hS4'
    refine S_aload_n dX9_mixed_17 rfl ?_
    refine S_iload_n dX9_mixed_18 rfl ?_
    refine S_iload_n dX9_mixed_19 rfl ?_
    refine S_iload_n dX9_mixed_20 rfl ?_
    refine S_callV (mi := mi_X9_mixed) [vI k, vI v, vI x] ok_X9_move ml_X9_261 dX9_mixed_21 rfl (by decide) rfl (by decide) rfl (Nat.le_of_ble_eq_true rfl) rfl (r_X9_move (ρ := (ranR (ranR ρ n 40) (n + 1) 11)) k v x hk (n + 1 + 1) (ranR_44 _ _ _) (by omega) M4 hR4) ?_
    rintro v' M5 ⟨rfl, hR5, hS5'⟩
    have hS5 := hS4.trans hS5'
    refine S_iconst dX9_mixed_24 ?_
    refine S_imul dX9_mixed_25 ?_
    refine S_istore dX9_mixed_26 (by decide) ?_
    refine S_iload_n dX9_mixed_28 rfl ?_
    refine S_iconst dX9_mixed_29 ?_
    refine S_icmp_ne 40 dX9_mixed_30 (by decide) (by omega) (fun c_30 => absurd c_30 (by omega)) (fun c_30 => ?_)
    refine S_iload dX9_mixed_33 rfl ?_
    refine S_iconst dX9_mixed_35 ?_
    refine S_iadd dX9_mixed_36 ?_
    refine S_goto 42 dX9_mixed_37 (by decide) ?_
    exact S_iret dX9_mixed_42 rfl (Or.inl rfl) (by have e8 : mixedV k v x = (((moveV k v x) * 3) + 5 : Int) := (by unfold mixedV; first | rw [if_pos (by omega)] | rw [if_neg (by omega)]); have e9 : ranL ρ n (mixedL k) = (ranL (ranR (ranR ρ n 40) (n + 1) 11) (n + 1 + 1) (moveL k)) := (by unfold mixedL; (first | rw [if_pos (by omega)] | rw [if_neg (by omega)]); try rfl); rw [e8, e9]; exact ⟨rfl, hR5, hS5⟩)
set_option maxRecDepth 100000 in
theorem r_X9_tell {G : Ge} {ρ : RS} (k v x : Int) (hk : 0 ≤ k ∧ k ≤ 5) (n : Nat) (hn : ρ.1 44 = ↑n) (hn40 : n < 30) : RC G mi_X9_tell [vR ((30, 0)), vI k, vI v, vI x] ρ (some (vI (tellV k v x))) (ranL ρ n (tellL k)) := by
  intro M hR
  have hS := SameR.rf M
  refine Ct.of pl_X9_tell [some (vR ((30, 0))), some (vI k), some (vI v), some (vI x)] rfl (Nat.le_of_ble_eq_true rfl) ?_
  refine S_iload_n dX9_tell_0 rfl ?_
  refine S_iconst dX9_tell_1 ?_
  refine S_icmp_ne 11 dX9_tell_2 (by decide) (by omega) (fun c_2 => ?_) (fun c_2 => ?_)
  · refine S_aload_n dX9_tell_11 rfl ?_
    refine S_bipush dX9_tell_12 (by decide) ?_
    refine S_callV (mi := mi_X9_tell) [vI 13] ok_X9_ran ml_X9_258 dX9_tell_14 rfl (by decide) rfl (by decide) rfl (Nat.le_of_ble_eq_true rfl) rfl (r_X9_ran (ρ := ρ) 13 n hn (by omega) M hR) ?_
    rintro v' M1 ⟨rfl, hR1, hS1'⟩
    have hS1 := hS.trans hS1'
    refine S_iload_n dX9_tell_17 rfl ?_
    refine S_iconst dX9_tell_18 ?_
    refine S_icmp_ne 30 dX9_tell_19 (by decide) (by omega) (fun c_19 => ?_) (fun c_19 => absurd c_19 (by omega))
    refine S_iload_n dX9_tell_30 rfl ?_
    refine S_iload_n dX9_tell_31 rfl ?_
    refine S_ixor dX9_tell_32 ?_
    exact S_iret dX9_tell_33 rfl (Or.inl rfl) (by have e8 : tellV k v x = ((jI x ^^^ jI v).toInt : Int) := (by unfold tellV; first | rw [if_pos (by omega)] | rw [if_neg (by omega), if_pos (by omega)] | rw [if_neg (by omega), if_neg (by omega)] | rw [if_neg (by omega)]); have e9 : ranL ρ n (tellL k) = (ranR ρ n 13) := (by unfold tellL; (first | rw [if_pos (by omega)] | rw [if_neg (by omega), if_pos (by omega)] | rw [if_neg (by omega), if_neg (by omega)] | rw [if_neg (by omega)]); try rfl); rw [e8, e9]; exact ⟨rfl, hR1, hS1⟩)
  · refine S_aload_n dX9_tell_5 rfl ?_
    refine S_bipush dX9_tell_6 (by decide) ?_
    refine S_callV (mi := mi_X9_tell) [vI 30] ok_X9_ran ml_X9_258 dX9_tell_8 rfl (by decide) rfl (by decide) rfl (Nat.le_of_ble_eq_true rfl) rfl (r_X9_ran (ρ := ρ) 30 n hn (by omega) M hR) ?_
    rintro v' M2 ⟨rfl, hR2, hS2'⟩
    have hS2 := hS.trans hS2'
    refine S_aload_n dX9_tell_11 rfl ?_
    refine S_bipush dX9_tell_12 (by decide) ?_
    refine S_callV (mi := mi_X9_tell) [vI 13] ok_X9_ran ml_X9_258 dX9_tell_14 rfl (by decide) rfl (by decide) rfl (Nat.le_of_ble_eq_true rfl) rfl (r_X9_ran (ρ := (ranR ρ n 30)) 13 (n + 1) (ranR_44 _ _ _) (by omega) M2 hR2) ?_
    rintro v' M3 ⟨rfl, hR3, hS3'⟩
    have hS3 := hS2.trans hS3'
    refine S_iload_n dX9_tell_17 rfl ?_
    refine S_iconst dX9_tell_18 ?_
    refine S_icmp_ne 30 dX9_tell_19 (by decide) (by omega) (fun c_19 => absurd c_19 (by omega)) (fun c_19 => ?_)
    refine S_iload_n dX9_tell_22 rfl ?_
    refine S_iload_n dX9_tell_23 rfl ?_
    refine S_ixor dX9_tell_24 ?_
    refine S_iconst dX9_tell_25 ?_
    refine S_isub dX9_tell_26 ?_
    refine S_goto 33 dX9_tell_27 (by decide) ?_
    exact S_iret dX9_tell_33 rfl (Or.inl rfl) (by have e8 : tellV k v x = (((jI x ^^^ jI v).toInt) - 1 : Int) := (by unfold tellV; first | rw [if_pos (by omega)] | rw [if_neg (by omega), if_pos (by omega)] | rw [if_neg (by omega), if_neg (by omega)] | rw [if_neg (by omega)]); have e9 : ranL ρ n (tellL k) = (ranR (ranR ρ n 30) (n + 1) 13) := (by unfold tellL; (first | rw [if_pos (by omega)] | rw [if_neg (by omega), if_pos (by omega)] | rw [if_neg (by omega), if_neg (by omega)] | rw [if_neg (by omega)]); try rfl); rw [e8, e9]; exact ⟨rfl, hR3, hS3⟩)
set_option maxRecDepth 100000 in
theorem r_X9_keyEnd {G : Ge} {ρ : RS} (k v x : Int) (hk : 0 ≤ k ∧ k ≤ 5) (n : Nat) (hn : ρ.1 44 = ↑n) (hn40 : n < 20) : RC G mi_X9_keyEnd [vR ((30, 0)), vI k, vI v, vI x] ρ (some (vI (kendV k v x))) (ranL ρ n (kendL k)) := by
  intro M hR
  have hS := SameR.rf M
  refine Ct.of pl_X9_keyEnd [some (vR ((30, 0))), some (vI k), some (vI v), some (vI x), none] rfl (Nat.le_of_ble_eq_true rfl) ?_
  have hml := mixedL_len k
  refine S_aload_n dX9_keyEnd_0 rfl ?_
  refine S_bipush dX9_keyEnd_1 (by decide) ?_
  refine S_callV (mi := mi_X9_keyEnd) [vI 12] ok_X9_ran ml_X9_258 dX9_keyEnd_3 rfl (by decide) rfl (by decide) rfl (Nat.le_of_ble_eq_true rfl) rfl (r_X9_ran (ρ := ρ) 12 n hn (by omega) M hR) ?_
  rintro v' M1 ⟨rfl, hR1, hS1'⟩
  have hS1 := hS.trans hS1'
  refine S_aload_n dX9_keyEnd_6 rfl ?_
  refine S_iload_n dX9_keyEnd_7 rfl ?_
  refine S_iload_n dX9_keyEnd_8 rfl ?_
  refine S_iload_n dX9_keyEnd_9 rfl ?_
  refine S_callV (mi := mi_X9_keyEnd) [vI k, vI v, vI x] ok_X9_mixed ml_X9_264 dX9_keyEnd_10 rfl (by decide) rfl (by decide) rfl (Nat.le_of_ble_eq_true rfl) rfl (r_X9_mixed (ρ := (ranR ρ n 12)) k v x hk (n + 1) (ranR_44 _ _ _) (by omega) M1 hR1) ?_
  rintro v' M2 ⟨rfl, hR2, hS2'⟩
  have hS2 := hS1.trans hS2'
  refine S_istore dX9_keyEnd_13 (by decide) ?_
  refine S_iload dX9_keyEnd_15 rfl ?_
  refine S_aload_n dX9_keyEnd_17 rfl ?_
  refine S_iload_n dX9_keyEnd_18 rfl ?_
  refine S_iload_n dX9_keyEnd_19 rfl ?_
  refine S_iload_n dX9_keyEnd_20 rfl ?_
  refine S_callV (mi := mi_X9_keyEnd) [vI k, vI v, vI x] ok_X9_tell ml_X9_267 dX9_keyEnd_21 rfl (by decide) rfl (by decide) rfl (Nat.le_of_ble_eq_true rfl) rfl (r_X9_tell (ρ := (ranL (ranR ρ n 12) (n + 1) (mixedL k))) k v x hk (n + 1 + (mixedL k).length) (ranL_44 _ _ _ (ranR_44 _ _ _)) (by omega) M2 hR2) ?_
  rintro v' M3 ⟨rfl, hR3, hS3'⟩
  have hS3 := hS2.trans hS3'
  refine S_isub dX9_keyEnd_24 ?_
  exact S_iret dX9_keyEnd_25 rfl (Or.inl rfl) (by have e9 : ranL ρ n (kendL k) = (ranL (ranL (ranR ρ n 12) (n + 1) (mixedL k)) (n + 1 + (mixedL k).length) (tellL k)) := (by unfold kendL; show ranL (ranR ρ n 12) (n + 1) (mixedL k ++ tellL k) = _; rw [ranL_app]); rw [e9]; exact ⟨rfl, hR3, hS3⟩)
set_option maxRecDepth 100000 in
theorem r_X9_ended {G : Ge} {ρ : RS} (k v x t : Int) (hk : 0 ≤ k ∧ k ≤ 5) (n : Nat) (hn : ρ.1 44 = ↑n) (hn40 : n < 15) : RC G mi_X9_ended [vR ((30, 0)), vI k, vI v, vI x, vI t] ρ (some (vI (endedV k v x t))) (ranL ρ n (endedL k)) := by
  intro M hR
  have hS := SameR.rf M
  refine Ct.of pl_X9_ended [some (vR ((30, 0))), some (vI k), some (vI v), some (vI x), some (vI t)] rfl (Nat.le_of_ble_eq_true rfl) ?_
  refine S_iload_n dX9_ended_0 rfl ?_
  refine S_callS (mi := mi_X9_ended) [vI k] ok_X9_isChain ml_X9_255 dX9_ended_1 (by decide) rfl (Nat.le_of_ble_eq_true rfl) rfl (r_X9_isChain (ρ := ρ) k (by omega) M hR) ?_
  rintro v' M1 ⟨⟨rfl, b_1⟩ | ⟨rfl, b_1⟩, hR1, hS1'⟩
  · have hS1 := hS.trans hS1'
    refine S_if_eq 23 dX9_ended_4 (by decide) (by omega) (fun c_4 => absurd c_4 (by omega)) (fun c_4 => ?_)
    refine S_aload_n dX9_ended_7 rfl ?_
    refine S_bipush dX9_ended_8 (by decide) ?_
    refine S_callV (mi := mi_X9_ended) [vI 21] ok_X9_ran ml_X9_258 dX9_ended_10 rfl (by decide) rfl (by decide) rfl (Nat.le_of_ble_eq_true rfl) rfl (r_X9_ran (ρ := ρ) 21 n hn (by omega) M1 hR1) ?_
    rintro v' M2 ⟨rfl, hR2, hS2'⟩
    have hS2 := hS1.trans hS2'
    refine S_aload_n dX9_ended_13 rfl ?_
    refine S_iload_n dX9_ended_14 rfl ?_
    refine S_iload_n dX9_ended_15 rfl ?_
    refine S_iload_n dX9_ended_16 rfl ?_
    refine S_iconst dX9_ended_17 ?_
    refine S_iadd dX9_ended_18 ?_
    refine S_callV (mi := mi_X9_ended) [vI k, vI v, vI (x + 1)] ok_X9_keyEnd ml_X9_270 dX9_ended_19 rfl (by decide) rfl (by decide) rfl (Nat.le_of_ble_eq_true rfl) rfl (r_X9_keyEnd (ρ := (ranR ρ n 21)) k v (x + 1) hk (n + 1) (ranR_44 _ _ _) (by omega) M2 hR2) ?_
    rintro v' M3 ⟨rfl, hR3, hS3'⟩
    have hS3 := hS2.trans hS3'
    exact S_iret dX9_ended_22 rfl (Or.inl rfl) (by have e8 : endedV k v x t = (kendV k v (x + 1) : Int) := (by unfold endedV; first | rw [if_pos (by omega)] | rw [if_neg (by omega), if_pos (by omega)] | rw [if_neg (by omega), if_neg (by omega)] | rw [if_neg (by omega)]); have e9 : ranL ρ n (endedL k) = (ranL (ranR ρ n 21) (n + 1) (kendL k)) := (by unfold endedL; (first | rw [if_pos (by omega)] | rw [if_neg (by omega), if_pos (by omega)] | rw [if_neg (by omega), if_neg (by omega)] | rw [if_neg (by omega)]); try rfl); rw [e8, e9]; exact ⟨rfl, hR3, hS3⟩)
  · have hS1 := hS.trans hS1'
    refine S_if_eq 23 dX9_ended_4 (by decide) (by omega) (fun c_4 => ?_) (fun c_4 => absurd c_4 (by omega))
    refine S_iload_n dX9_ended_23 rfl ?_
    refine S_iconst dX9_ended_24 ?_
    refine S_icmp_ne 45 dX9_ended_25 (by decide) (by omega) (fun c_25 => ?_) (fun c_25 => ?_)
    · refine S_aload_n dX9_ended_45 rfl ?_
      refine S_iload_n dX9_ended_46 rfl ?_
      refine S_iload_n dX9_ended_47 rfl ?_
      refine S_iload_n dX9_ended_48 rfl ?_
      refine S_callV (mi := mi_X9_ended) [vI k, vI v, vI x] ok_X9_keyEnd ml_X9_270 dX9_ended_49 rfl (by decide) rfl (by decide) rfl (Nat.le_of_ble_eq_true rfl) rfl (r_X9_keyEnd (ρ := ρ) k v x hk n hn (by omega) M1 hR1) ?_
      rintro v' M4 ⟨rfl, hR4, hS4'⟩
      have hS4 := hS1.trans hS4'
      exact S_iret dX9_ended_52 rfl (Or.inl rfl) (by have e8 : endedV k v x t = (kendV k v x : Int) := (by unfold endedV; first | rw [if_pos (by omega)] | rw [if_neg (by omega), if_pos (by omega)] | rw [if_neg (by omega), if_neg (by omega)] | rw [if_neg (by omega)]); have e9 : ranL ρ n (endedL k) = (ranL ρ n (kendL k)) := (by unfold endedL; (first | rw [if_pos (by omega)] | rw [if_neg (by omega), if_pos (by omega)] | rw [if_neg (by omega), if_neg (by omega)] | rw [if_neg (by omega)]); try rfl); rw [e8, e9]; exact ⟨rfl, hR4, hS4⟩)
    · refine S_aload_n dX9_ended_28 rfl ?_
      refine S_bipush dX9_ended_29 (by decide) ?_
      refine S_callV (mi := mi_X9_ended) [vI 50] ok_X9_ran ml_X9_258 dX9_ended_31 rfl (by decide) rfl (by decide) rfl (Nat.le_of_ble_eq_true rfl) rfl (r_X9_ran (ρ := ρ) 50 n hn (by omega) M1 hR1) ?_
      rintro v' M5 ⟨rfl, hR5, hS5'⟩
      have hS5 := hS1.trans hS5'
      refine S_aload_n dX9_ended_34 rfl ?_
      refine S_iload_n dX9_ended_35 rfl ?_
      refine S_iload_n dX9_ended_36 rfl ?_
      refine S_iload_n dX9_ended_37 rfl ?_
      refine S_callV (mi := mi_X9_ended) [vI k, vI v, vI x] ok_X9_keyEnd ml_X9_270 dX9_ended_38 rfl (by decide) rfl (by decide) rfl (Nat.le_of_ble_eq_true rfl) rfl (r_X9_keyEnd (ρ := (ranR ρ n 50)) k v x hk (n + 1) (ranR_44 _ _ _) (by omega) M5 hR5) ?_
      rintro v' M6 ⟨rfl, hR6, hS6'⟩
      have hS6 := hS5.trans hS6'
      refine S_iload dX9_ended_41 rfl ?_
      refine S_iadd dX9_ended_43 ?_
      exact S_iret dX9_ended_44 rfl (Or.inl rfl) (by have e8 : endedV k v x t = ((kendV k v x) + t : Int) := (by unfold endedV; first | rw [if_pos (by omega)] | rw [if_neg (by omega), if_pos (by omega)] | rw [if_neg (by omega), if_neg (by omega)] | rw [if_neg (by omega)]); have e9 : ranL ρ n (endedL k) = (ranL (ranR ρ n 50) (n + 1) (kendL k)) := (by unfold endedL; (first | rw [if_pos (by omega)] | rw [if_neg (by omega), if_pos (by omega)] | rw [if_neg (by omega), if_neg (by omega)] | rw [if_neg (by omega)]); try rfl); rw [e8, e9]; exact ⟨rfl, hR6, hS6⟩)
