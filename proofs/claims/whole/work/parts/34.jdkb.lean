/-! THE JDK's list: add -/
theorem Mem.cpy_P {M : Mem} {r q : Role} {n k : Nat} (h : k < n) : (M.cpy r q n).P q k = M.P r k := if_pos ⟨rfl, h⟩
theorem Mem.cpy_P_ne {M : Mem} {r q r' : Role} {n k : Nat} (h : r' ≠ q) : (M.cpy r q n).P r' k = M.P r' k := if_neg (fun e => h e.1)
theorem Mem.cpy_len {M : Mem} {r q r' : Role} {n : Nat} : (M.cpy r q n).len r' = M.len r' := rfl
theorem Mem.cpy_I {M : Mem} {r q r' : Role} {n : Nat} : (M.cpy r q n).I r' = M.I r' := rfl
theorem Fr.cpy {cs : List Nat} (M : Mem) (r q : Role) (n : Nat) (hr : q.1 ∈ cs) : Fr cs M (M.cpy r q n) := fun r' h => by
  have hne : r' ≠ q := fun e => h (by rw [e]; exact hr)
  exact ⟨rfl, rfl, funext fun k' => if_neg (fun e => hne e.1)⟩
theorem Fr.cp {cs : List Nat} (c i : Nat) (hc : c ∈ cs) {M : Mem} {r : Role} {n : Nat} : Fr cs M (M.cpy r (c, i) n) := Fr.cpy M r (c, i) n hc
def GrQ (n c cap : Nat) (M : Mem) (v' : Option AVal) (M' : Mem) : Prop := v' = some (vR (5, c)) ∧ Fr [4, 5] M M' ∧ M'.len (4, 0) = some 0 ∧ M'.P (4, 0) 1 = some (5, c) ∧ (∀ t, t < n → M'.P (5, c) t = some (18, t)) ∧ (∀ c', c + 1 ≤ c' → M'.len (5, c') = none) ∧ ∃ n', M'.len (5, c) = some n' ∧ n + 1 ≤ n' ∧ n' ≤ 12000 ∧ 10 ≤ n' ∧ M.rc ≤ M'.rc + 1 ∧ M.rs + 4 * cap ≤ M'.rs + 4 * n'
theorem Ls.fin {M : Mem} {n c c0 n' : Nat} (h1 : M.len (4, 0) = some 0) (h3 : M.P (4, 0) 1 = some (5, c)) (h4 : M.len (5, c) = some n') (h6 : n + 1 ≤ n') (h7 : n' ≤ 12000) (h5 : 10 ≤ n') (hc : c < c0) (h8 : ∀ t, t < n → M.P (5, c) t = some (18, t)) (h9 : ∀ c', c0 ≤ c' → M.len (5, c') = none) : Ls (n + 1) ((M.putP (5, c) n (some (18, n))).putI (4, 0) 2 (↑n + 1)) ∧ capM ((M.putP (5, c) n (some (18, n))).putI (4, 0) 2 (↑n + 1)) = n' := by
  have e1 : ((M.putP (5, c) n (some (18, n))).putI (4, 0) 2 (↑n + 1)).P (4, 0) 1 = some (5, c) := by rw [Mem.putI_P, Mem.putP_at (Or.inl (rne (by decide)))]; exact h3
  refine ⟨⟨h1, by rw [Mem.putI_eq]; rfl, (5, c), n', c0, e1, h4, Or.inr ⟨rfl, hc, h5⟩, h6, h7, fun t ht => ?_, h9⟩, ?_⟩
  · rw [Mem.putI_P]
    by_cases h : t = n
    · subst h; exact Mem.putP_eq
    · rw [Mem.putP_at (Or.inr h)]; exact h8 t (by omega)
  · unfold capM
    rw [e1]
    show (M.len (5, c)).getD 0 = n'
    rw [h4]
    rfl
theorem capM_of {M : Mem} {lr : Role} {cap : Nat} (h3 : M.P (4, 0) 1 = some lr) (h4 : M.len lr = some cap) : capM M = cap := by
  unfold capM
  rw [h3]
  show (M.len lr).getD 0 = cap
  rw [h4]
  rfl
set_option maxRecDepth 100000 in
theorem c_grow0 {G : Ge} {M : Mem} (c : Nat) (h1 : M.len (4, 0) = some 0) (h3 : M.P (4, 0) 1 = some (20, 0)) (h9 : ∀ c', c ≤ c' → M.len (5, c') = none) (hrc : 1 ≤ M.rc) (hrs : 12000 ≤ M.rs) : Ct G mi_Jx4a65c_grow_92f84 [vR ((4, 0)), vI (↑(0 + 1))] M (GrQ 0 c 0 M) := by
  refine Ct.of pl_Jx4a65c_grow_92f84 [some (vR ((4, 0))), some (vI (↑(0 + 1))), none, none] rfl (Nat.le_of_ble_eq_true rfl) ?_
  refine S_aload_n dJx4a65c_grow_92f84_0 rfl ?_
  refine S_getP (o := some (20, 0)) fl_Jx4a65c_9 dJx4a65c_grow_92f84_1 rfl rfl (by rw [h3]) ?_
  refine S_alenE dJx4a65c_grow_92f84_4 ?_
  refine S_istore_n dJx4a65c_grow_92f84_5 (by decide) ?_
  refine S_iload_n dJx4a65c_grow_92f84_6 rfl ?_
  refine S_if_gt 20 dJx4a65c_grow_92f84_7 (by decide) (by omega) (fun c_7 => absurd c_7 (by omega)) (fun c_7 => ?_)
  refine S_aload_n dJx4a65c_grow_92f84_10 rfl ?_
  refine S_getP (o := some (20, 0)) fl_Jx4a65c_9 dJx4a65c_grow_92f84_11 rfl rfl (by rw [h3]) ?_
  refine S_gets gs_Jx4a65c_39 dJx4a65c_grow_92f84_14 ?_
  refine S_acmp_eq 45 dJx4a65c_grow_92f84_17 (by decide) ⟨fun r h => by cases h; exact ⟨by decide, by decide⟩, fun r h => by cases h; exact ⟨by decide, by decide⟩⟩ (fun _ => ?_) (fun h => absurd rfl h)
  refine S_aload_n dJx4a65c_grow_92f84_45 rfl ?_
  refine S_bipush dJx4a65c_grow_92f84_46 (by decide) ?_
  refine S_iload_n dJx4a65c_grow_92f84_48 rfl ?_
  refine S_max mm_Jx4a65c_79 dJx4a65c_grow_92f84_49 (by decide) (Nat.le_of_ble_eq_true rfl) (by omega) ?_
  rw [show (if (10 : Int) < ↑(0 + 1) then ↑(0 + 1) else 10) = (10 : Int) from by rw [if_neg (by omega)]]
  refine S_newarrA (5, c) 10 cl_Jx4a65c_7 (by decide) dJx4a65c_grow_92f84_52 rfl (by omega) rfl (by decide) rfl rfl (h9 c (Nat.le_refl _)) hrc (by omega) ?_
  refine Sf.nm (fun M1 hM1 => ?_)
  refine S_dup_x1 dJx4a65c_grow_92f84_55 ?_
  refine S_putP fl_Jx4a65c_9 dJx4a65c_grow_92f84_56 rfl rfl rfl  ?_
  refine Sf.nm (fun M2 hM2 => ?_)
  exact S_aret dJx4a65c_grow_92f84_59 rfl rfl ⟨rfl, (by rw [hM2, hM1]; exact (Fr.nw 5 c (by decide)).trans (Fr.pP 4 0 (by decide))), by rw [hM2, Mem.putP_len, hM1, Mem.new_len_ne (rne (by decide))]; exact h1, by rw [hM2, Mem.putP_eq], fun t ht => absurd ht (by omega), fun c' hc' => by rw [hM2, Mem.putP_len, hM1, Mem.new_len_ne (rni (by omega))]; exact h9 c' (by omega), 10, by rw [hM2, Mem.putP_len, hM1, Mem.new_len_eq], by omega, by omega, by omega, by rw [hM2, hM1]; show M.rc ≤ (M.rc - 1) + 1; omega, by rw [hM2, hM1]; show M.rs + 4 * 0 ≤ (M.rs - 10) + 4 * 10; omega⟩
set_option maxRecDepth 100000 in
theorem c_grow1 {G : Ge} {M : Mem} (n c x : Nat) (h1 : M.len (4, 0) = some 0) (h3 : M.P (4, 0) 1 = some (5, x)) (h4 : M.len (5, x) = some n) (hxc : x < c) (hn : 10 ≤ n ∧ n ≤ 8000) (h8 : ∀ t, t < n → M.P (5, x) t = some (18, t)) (h9 : ∀ c', c ≤ c' → M.len (5, c') = none) (hrc : 1 ≤ M.rc) (hrs : 12000 ≤ M.rs) : Ct G mi_Jx4a65c_grow_92f84 [vR ((4, 0)), vI (↑(n + 1))] M (GrQ n c n M) := by
  refine Ct.of pl_Jx4a65c_grow_92f84 [some (vR ((4, 0))), some (vI (↑(n + 1))), none, none] rfl (Nat.le_of_ble_eq_true rfl) ?_
  have hne : ((5, x) : Role) ≠ (5, c) := rni (by omega)
  refine S_aload_n dJx4a65c_grow_92f84_0 rfl ?_
  refine S_getP (o := some (5, x)) fl_Jx4a65c_9 dJx4a65c_grow_92f84_1 rfl rfl (by rw [h3]) ?_
  refine S_alen dJx4a65c_grow_92f84_4 rfl (by decide) rfl (by rw [h4]) ?_
  refine S_istore_n dJx4a65c_grow_92f84_5 (by decide) ?_
  refine S_iload_n dJx4a65c_grow_92f84_6 rfl ?_
  refine S_if_gt 20 dJx4a65c_grow_92f84_7 (by decide) (by omega) (fun c_7 => ?_) (fun c_7 => absurd c_7 (by omega))
  refine S_iload_n dJx4a65c_grow_92f84_20 rfl ?_
  refine S_iload_n dJx4a65c_grow_92f84_21 rfl ?_
  refine S_iload_n dJx4a65c_grow_92f84_22 rfl ?_
  refine S_isub dJx4a65c_grow_92f84_23 ?_
  refine S_iload_n dJx4a65c_grow_92f84_24 rfl ?_
  refine S_iconst dJx4a65c_grow_92f84_25 ?_
  refine S_ishr1 dJx4a65c_grow_92f84_26 (by omega) ?_
  rw [show (↑n) / 2 = (↑(n / 2) : Int) from rfl]
  rw [show ((↑(n + 1) - ↑n : Int)) = 1 from by omega]
  refine S_callS (mi := mi_Jx4a65c_grow_92f84) [vI (↑n), vI 1, vI (↑(n / 2))] ok_J8_newLength_cabcc ml_Jx4a65c_73 dJx4a65c_grow_92f84_27 (by decide) rfl (Nat.le_of_ble_eq_true rfl) rfl (c_J8_newLength_cabcc n hn) ?_
  rintro v' M1 ⟨rfl, hM1⟩
  rw [hM1]
  clear hM1
  refine S_istore_n dJx4a65c_grow_92f84_30 (by decide) ?_
  refine S_aload_n dJx4a65c_grow_92f84_31 rfl ?_
  refine S_aload_n dJx4a65c_grow_92f84_32 rfl ?_
  refine S_getP (o := some (5, x)) fl_Jx4a65c_9 dJx4a65c_grow_92f84_33 rfl rfl (by rw [h3]) ?_
  refine S_iload_n dJx4a65c_grow_92f84_36 rfl ?_
  refine S_callS (mi := mi_Jx4a65c_grow_92f84) [vR ((5, x)), vI (↑(n + n / 2))] ok_J7_copyOf_1904c ml_Jx4a65c_66 dJx4a65c_grow_92f84_37 (by decide) rfl (Nat.le_of_ble_eq_true rfl) rfl (c_J7_copyOf_1904c x c n (n + n / 2) h4 (h9 c (Nat.le_refl _)) (by omega) (by omega) hrc (by omega) (fun i r hi hr => by rw [h8 i hi] at hr; cases hr; rfl)) ?_
  rintro v' M2 ⟨rfl, hM2⟩
  refine S_dup_x1 dJx4a65c_grow_92f84_40 ?_
  refine S_putP fl_Jx4a65c_9 dJx4a65c_grow_92f84_41 rfl rfl rfl  ?_
  refine Sf.nm (fun M3 hM3 => ?_)
  exact S_aret dJx4a65c_grow_92f84_44 rfl rfl ⟨rfl, (by rw [hM3, hM2]; exact ((Fr.nw 5 c (by decide)).trans (Fr.cp 5 c (by decide))).trans (Fr.pP 4 0 (by decide))), by rw [hM3, Mem.putP_len, hM2, Mem.cpy_len, Mem.new_len_ne (rne (by decide))]; exact h1, by rw [hM3, Mem.putP_eq], fun t ht => by rw [hM3, Mem.putP_at (Or.inl (rne (by decide))), hM2, Mem.cpy_P ht, Mem.new_P_ne hne]; exact h8 t ht, fun c' hc' => by rw [hM3, Mem.putP_len, hM2, Mem.cpy_len, Mem.new_len_ne (rni (by omega))]; exact h9 c' (by omega), n + n / 2, by rw [hM3, Mem.putP_len, hM2, Mem.cpy_len, Mem.new_len_eq], by omega, by omega, by omega, by rw [hM3, hM2]; show M.rc ≤ (M.rc - 1) + 1; omega, by rw [hM3, hM2]; show M.rs + 4 * n ≤ (M.rs - (n + n / 2)) + 4 * (n + n / 2); omega⟩
theorem GrQ.re {n c cap : Nat} {M M' : Mem} {v' : Option AVal} (h : GrQ n c cap M v' M') : v' = some (vR (5, c)) := h.1
set_option maxRecDepth 100000 in
theorem c_growA {G : Ge} {M : Mem} (c : Nat) (h1 : M.len (4, 0) = some 0) (h2 : M.I (4, 0) 2 = ↑(0 : Nat)) (h3 : M.P (4, 0) 1 = some (20, 0)) (h9 : ∀ c', c ≤ c' → M.len (5, c') = none) (hrc : 1 ≤ M.rc) (hrs : 12000 ≤ M.rs) : Ct G mi_Jx4a65c_grow_d5877 [vR ((4, 0))] M (GrQ 0 c 0 M) := by
  refine Ct.of pl_Jx4a65c_grow_d5877 [some (vR ((4, 0)))] rfl (Nat.le_of_ble_eq_true rfl) ?_
  refine S_aload_n dJx4a65c_grow_d5877_0 rfl ?_
  refine S_aload_n dJx4a65c_grow_d5877_1 rfl ?_
  refine S_getI (v := ↑(0 : Nat)) fl_Jx4a65c_48 dJx4a65c_grow_d5877_2 rfl rfl (by rw [h2]) ?_
  refine S_iconst dJx4a65c_grow_d5877_5 ?_
  refine S_iadd dJx4a65c_grow_d5877_6 ?_
  rw [show ((↑(0 : Nat) : Int) + 1) = ↑(0 + 1) from rfl]
  refine S_callV (mi := mi_Jx4a65c_grow_d5877) [vI (↑(0 + 1))] ok_Jx4a65c_grow_92f84 ml_Jx4a65c_69 dJx4a65c_grow_d5877_7 rfl (by decide) rfl (by decide) rfl (Nat.le_of_ble_eq_true rfl) rfl (c_grow0 c h1 h3 h9 hrc hrs) ?_
  rintro v' M1 hg1
  obtain rfl := hg1.1
  exact S_aret dJx4a65c_grow_d5877_10 rfl rfl hg1
set_option maxRecDepth 100000 in
theorem c_growB {G : Ge} {M : Mem} (n c x : Nat) (h1 : M.len (4, 0) = some 0) (h2 : M.I (4, 0) 2 = ↑n) (h3 : M.P (4, 0) 1 = some (5, x)) (h4 : M.len (5, x) = some n) (hxc : x < c) (hn : 10 ≤ n ∧ n ≤ 8000) (h8 : ∀ t, t < n → M.P (5, x) t = some (18, t)) (h9 : ∀ c', c ≤ c' → M.len (5, c') = none) (hrc : 1 ≤ M.rc) (hrs : 12000 ≤ M.rs) : Ct G mi_Jx4a65c_grow_d5877 [vR ((4, 0))] M (GrQ n c n M) := by
  refine Ct.of pl_Jx4a65c_grow_d5877 [some (vR ((4, 0)))] rfl (Nat.le_of_ble_eq_true rfl) ?_
  refine S_aload_n dJx4a65c_grow_d5877_0 rfl ?_
  refine S_aload_n dJx4a65c_grow_d5877_1 rfl ?_
  refine S_getI (v := ↑n) fl_Jx4a65c_48 dJx4a65c_grow_d5877_2 rfl rfl (by rw [h2]) ?_
  refine S_iconst dJx4a65c_grow_d5877_5 ?_
  refine S_iadd dJx4a65c_grow_d5877_6 ?_
  rw [show ((↑(n : Nat) : Int) + 1) = ↑(n + 1) from rfl]
  refine S_callV (mi := mi_Jx4a65c_grow_d5877) [vI (↑(n + 1))] ok_Jx4a65c_grow_92f84 ml_Jx4a65c_69 dJx4a65c_grow_d5877_7 rfl (by decide) rfl (by decide) rfl (Nat.le_of_ble_eq_true rfl) rfl (c_grow1 n c x h1 h3 h4 hxc hn h8 h9 hrc hrs) ?_
  rintro v' M1 hg1
  obtain rfl := hg1.1
  exact S_aret dJx4a65c_grow_d5877_10 rfl rfl hg1
set_option maxRecDepth 100000 in
theorem c_addA {G : Ge} {M : Mem} (c : Nat) (h1 : M.len (4, 0) = some 0) (h2 : M.I (4, 0) 2 = ↑(0 : Nat)) (h3 : M.P (4, 0) 1 = some (20, 0)) (h4 : M.len (20, 0) = some 0) (h9 : ∀ c', c ≤ c' → M.len (5, c') = none) (hrc : 1 ≤ M.rc) (hrs : 12000 ≤ M.rs) : Ct G mi_Jx4a65c_add_72be8 [vR ((4, 0)), vR ((18, 0)), vR ((20, 0)), vI (↑(0 : Nat))] M (fun v' M' => v' = none ∧ Ls (0 + 1) M' ∧ Fr [4, 5] M M' ∧ M.rc ≤ M'.rc + 1 ∧ M.rs + 4 * capM M ≤ M'.rs + 4 * capM M') := by
  refine Ct.of pl_Jx4a65c_add_72be8 [some (vR ((4, 0))), some (vR ((18, 0))), some (vR ((20, 0))), some (vI (↑(0 : Nat)))] rfl (Nat.le_of_ble_eq_true rfl) ?_
  refine S_iload_n dJx4a65c_add_72be8_0 rfl ?_
  refine S_aload_n dJx4a65c_add_72be8_1 rfl ?_
  refine S_alenE dJx4a65c_add_72be8_2 ?_
  refine S_icmp_ne 11 dJx4a65c_add_72be8_3 (by decide) (by omega) (fun c_3 => absurd c_3 (by omega)) (fun c_3 => ?_)
  refine S_aload_n dJx4a65c_add_72be8_6 rfl ?_
  refine S_callV (mi := mi_Jx4a65c_add_72be8) [] ok_Jx4a65c_grow_d5877 ml_Jx4a65c_129 dJx4a65c_add_72be8_7 rfl (by decide) rfl (by decide) rfl (Nat.le_of_ble_eq_true rfl) rfl (c_growA c h1 h2 h3 h9 hrc hrs) ?_
  rintro v' M1 hg1
  obtain ⟨rfl, gF, g1, g3, g8, g9, n', g4, g6, g7, g5, grc, grs⟩ := hg1
  refine S_astore_n dJx4a65c_add_72be8_10 (by decide) ?_
  refine S_aload_n dJx4a65c_add_72be8_11 rfl ?_
  refine S_iload_n dJx4a65c_add_72be8_12 rfl ?_
  refine S_aload_n dJx4a65c_add_72be8_13 rfl ?_
  refine S_aastO 0 dJx4a65c_add_72be8_14 rfl rfl rfl (by rw [g4]) (by omega) (by omega) ?_
  refine Sf.nm (fun M2 hM2 => ?_)
  refine S_aload_n dJx4a65c_add_72be8_15 rfl ?_
  refine S_iload_n dJx4a65c_add_72be8_16 rfl ?_
  refine S_iconst dJx4a65c_add_72be8_17 ?_
  refine S_iadd dJx4a65c_add_72be8_18 ?_
  refine S_putI fl_Jx4a65c_48 dJx4a65c_add_72be8_19 rfl rfl rfl  (Or.inl rfl) ?_
  refine Sf.nm (fun M3 hM3 => ?_)
  exact S_vret dJx4a65c_add_72be8_22 rfl (by
    have q := Ls.fin g1 g3 g4 g6 g7 g5 (Nat.lt_succ_self c) g8 g9
    have e : M3 = (M1.putP (5, c) 0 (some (18, 0))).putI (4, 0) 2 (↑(0 : Nat) + 1) := by rw [hM3, hM2]
    rw [e]
    refine ⟨rfl, q.1, (gF.trans (Fr.pP 5 c (by decide))).trans (Fr.pI 4 0 (by decide)), ?_, ?_⟩
    · show M.rc ≤ M1.rc + 1
      omega
    · rw [q.2, capM_of h3 h4]
      show M.rs + 4 * _ ≤ M1.rs + 4 * _
      omega)
set_option maxRecDepth 100000 in
theorem c_addB {G : Ge} {M : Mem} (n c x : Nat) (h1 : M.len (4, 0) = some 0) (h2 : M.I (4, 0) 2 = ↑n) (h3 : M.P (4, 0) 1 = some (5, x)) (h4 : M.len (5, x) = some n) (hxc : x < c) (hn : 10 ≤ n ∧ n ≤ 8000) (h8 : ∀ t, t < n → M.P (5, x) t = some (18, t)) (h9 : ∀ c', c ≤ c' → M.len (5, c') = none) (hrc : 1 ≤ M.rc) (hrs : 12000 ≤ M.rs) : Ct G mi_Jx4a65c_add_72be8 [vR ((4, 0)), vR ((18, n)), vR ((5, x)), vI (↑n)] M (fun v' M' => v' = none ∧ Ls (n + 1) M' ∧ Fr [4, 5] M M' ∧ M.rc ≤ M'.rc + 1 ∧ M.rs + 4 * capM M ≤ M'.rs + 4 * capM M') := by
  refine Ct.of pl_Jx4a65c_add_72be8 [some (vR ((4, 0))), some (vR ((18, n))), some (vR ((5, x))), some (vI (↑n))] rfl (Nat.le_of_ble_eq_true rfl) ?_
  refine S_iload_n dJx4a65c_add_72be8_0 rfl ?_
  refine S_aload_n dJx4a65c_add_72be8_1 rfl ?_
  refine S_alen dJx4a65c_add_72be8_2 rfl (by decide) rfl (by rw [h4]) ?_
  refine S_icmp_ne 11 dJx4a65c_add_72be8_3 (by decide) (by omega) (fun c_3 => absurd c_3 (by omega)) (fun c_3 => ?_)
  refine S_aload_n dJx4a65c_add_72be8_6 rfl ?_
  refine S_callV (mi := mi_Jx4a65c_add_72be8) [] ok_Jx4a65c_grow_d5877 ml_Jx4a65c_129 dJx4a65c_add_72be8_7 rfl (by decide) rfl (by decide) rfl (Nat.le_of_ble_eq_true rfl) rfl (c_growB n c x h1 h2 h3 h4 hxc hn h8 h9 hrc hrs) ?_
  rintro v' M1 hg1
  obtain ⟨rfl, gF, g1, g3, g8, g9, n', g4, g6, g7, g5, grc, grs⟩ := hg1
  refine S_astore_n dJx4a65c_add_72be8_10 (by decide) ?_
  refine S_aload_n dJx4a65c_add_72be8_11 rfl ?_
  refine S_iload_n dJx4a65c_add_72be8_12 rfl ?_
  refine S_aload_n dJx4a65c_add_72be8_13 rfl ?_
  refine S_aastO n dJx4a65c_add_72be8_14 rfl rfl rfl (by rw [g4]) (by omega) (by omega) ?_
  refine Sf.nm (fun M2 hM2 => ?_)
  refine S_aload_n dJx4a65c_add_72be8_15 rfl ?_
  refine S_iload_n dJx4a65c_add_72be8_16 rfl ?_
  refine S_iconst dJx4a65c_add_72be8_17 ?_
  refine S_iadd dJx4a65c_add_72be8_18 ?_
  refine S_putI fl_Jx4a65c_48 dJx4a65c_add_72be8_19 rfl rfl rfl  (Or.inl rfl) ?_
  refine Sf.nm (fun M3 hM3 => ?_)
  exact S_vret dJx4a65c_add_72be8_22 rfl (by
    have q := Ls.fin g1 g3 g4 g6 g7 g5 (Nat.lt_succ_self c) g8 g9
    have e : M3 = (M1.putP (5, c) n (some (18, n))).putI (4, 0) 2 (↑(n : Nat) + 1) := by rw [hM3, hM2]
    rw [e]
    refine ⟨rfl, q.1, (gF.trans (Fr.pP 5 c (by decide))).trans (Fr.pI 4 0 (by decide)), ?_, ?_⟩
    · show M.rc ≤ M1.rc + 1
      omega
    · rw [q.2, capM_of h3 h4]
      show M.rs + 4 * _ ≤ M1.rs + 4 * _
      omega)
set_option maxRecDepth 100000 in
theorem c_addC {G : Ge} {M : Mem} (n c x cap : Nat) (h1 : M.len (4, 0) = some 0) (h3 : M.P (4, 0) 1 = some (5, x)) (h4 : M.len (5, x) = some cap) (hxc : x < c) (h5' : 10 ≤ cap) (h6 : n < cap) (h7 : cap ≤ 12000) (h8 : ∀ t, t < n → M.P (5, x) t = some (18, t)) (h9 : ∀ c', c ≤ c' → M.len (5, c') = none) : Ct G mi_Jx4a65c_add_72be8 [vR ((4, 0)), vR ((18, n)), vR ((5, x)), vI (↑n)] M (fun v' M' => v' = none ∧ Ls (n + 1) M' ∧ Fr [4, 5] M M' ∧ M.rc ≤ M'.rc + 1 ∧ M.rs + 4 * capM M ≤ M'.rs + 4 * capM M') := by
  refine Ct.of pl_Jx4a65c_add_72be8 [some (vR ((4, 0))), some (vR ((18, n))), some (vR ((5, x))), some (vI (↑n))] rfl (Nat.le_of_ble_eq_true rfl) ?_
  refine S_iload_n dJx4a65c_add_72be8_0 rfl ?_
  refine S_aload_n dJx4a65c_add_72be8_1 rfl ?_
  refine S_alen dJx4a65c_add_72be8_2 rfl (by decide) rfl (by rw [h4]) ?_
  refine S_icmp_ne 11 dJx4a65c_add_72be8_3 (by decide) (by omega) (fun c_3 => ?_) (fun c_3 => absurd c_3 (by omega))
  refine S_aload_n dJx4a65c_add_72be8_11 rfl ?_
  refine S_iload_n dJx4a65c_add_72be8_12 rfl ?_
  refine S_aload_n dJx4a65c_add_72be8_13 rfl ?_
  refine S_aastO n dJx4a65c_add_72be8_14 rfl rfl rfl (by rw [h4]) (by omega) (by omega) ?_
  refine Sf.nm (fun M1 hM1 => ?_)
  refine S_aload_n dJx4a65c_add_72be8_15 rfl ?_
  refine S_iload_n dJx4a65c_add_72be8_16 rfl ?_
  refine S_iconst dJx4a65c_add_72be8_17 ?_
  refine S_iadd dJx4a65c_add_72be8_18 ?_
  refine S_putI fl_Jx4a65c_48 dJx4a65c_add_72be8_19 rfl rfl rfl  (Or.inl rfl) ?_
  refine Sf.nm (fun M2 hM2 => ?_)
  exact S_vret dJx4a65c_add_72be8_22 rfl (by
    have q := Ls.fin h1 h3 h4 (by omega) h7 h5' hxc h8 h9
    have e : M2 = (M.putP (5, x) n (some (18, n))).putI (4, 0) 2 (↑n + 1) := by rw [hM2, hM1]
    rw [e]
    refine ⟨rfl, q.1, (Fr.pP 5 x (by decide)).trans (Fr.pI 4 0 (by decide)), ?_, ?_⟩
    · show M.rc ≤ M.rc + 1
      omega
    · rw [q.2, capM_of h3 h4]
      exact Nat.le_refl _)
