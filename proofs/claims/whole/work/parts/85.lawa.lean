/-! THE LAW: what holds between the calls of both, and how either's call keeps the other -/
section
variable {G : Ge} {mi : Mi} {Q : Option AVal → Mem → Prop} {pc : Nat} {L : List (Option AVal)} {st : List AVal} {M M' : Mem} {Y : (Nat → Bool) × (Nat → Bool)} {ρ σ : RS}
theorem S_icmp_same {x off : Int} (tgt : Nat) (hd : decode mi.2.1 pc = .ok (.if_icmp .eq off, 3)) (ht : (pc : Int) + off = (tgt : Int)) (kt : Sf G mi Q tgt L st M) : Sf G mi Q pc L (vI x :: vI x :: st) M := by
  intro p e R s m args below meth c H locs cells slots ls rc0 rs0 A A0 M0 hC hF
  exact lv_icmp_eq hC.1 hC.2.1 hd ht (fun _ => kt p e R s m args below meth c H locs cells slots ls rc0 rs0 A A0 M0 hC (hF.st (fun h => h.pop.pop))) (fun h => absurd rfl h)
theorem Cl.frR {X : Gh} (h : Cl X ρ M) (hF : Fr [30, 31, 32] M M') : Cl X ρ M' := by
  obtain ⟨hA, hB, hC, hD, hE, hN, hG, hH, hI, hJ, hK, hL⟩ := h
  exact ⟨hA.fr hF (by decide), hB.fr hF (by decide), hC.fr hF (by decide) (by decide) (by decide) (by decide), hD.fr hF (by decide), hE.fr hF (by decide) (by decide) (by decide) (by decide), hN.fr hF (by decide), hG.fr hF (by decide), hH.fr hF (by decide) (by decide), hI.fr hF (by decide), hJ.fr hF (by decide) (by decide) (by decide), hK.fr hF (by decide) (by decide) (by decide), hL.fr hF (by decide) (by decide)⟩
theorem Cs.frR (h : Cs Y ρ M) (hF : Fr [30, 31, 32] M M') : Cs Y ρ M' := by
  obtain ⟨sc, kn, h1, h2⟩ := h
  exact ⟨sc, kn, h1, h2.frR hF⟩
theorem SameR.fr (h : SameR M M') : Fr [30, 31, 32] M M' := fun r hr => ⟨congrFun h.1 r, h.2.1 r (fun z => hr (by rw [z]; decide)) (fun z => hr (by rw [z]; decide)) (fun z => hr (by rw [z]; decide)), congrFun h.2.2.1 r⟩
theorem SameR.bg (h : SameR M M') : Bg 0 0 M M' := by
  have e : capM M' = capM M := by
    unfold capM
    rw [h.1, h.2.2.1]
  exact ⟨by rw [h.2.2.2.1]; omega, by rw [h.2.2.2.2, e]; omega⟩
theorem Rf.frC (h : Rf ρ M) (hF : Fr CLs M M') : Rf ρ M' := by
  have ar : ∀ k, arC k ∉ CLs := fun k => by
    unfold arC
    split <;> decide
  exact ⟨(hF.len (30, 0) (by decide)).trans h.1, fun k => (hF.I (30, 0) (by decide)).trans (h.2.1 k), fun k j => (hF.I (arC k, k) (ar k)).trans (h.2.2.1 k j), fun k hk => ⟨(hF.P (30, 0) (by decide)).trans (h.2.2.2 k hk).1, (hF.len (arC k, k) (ar k)).trans (h.2.2.2 k hk).2⟩⟩
theorem Cs.know (h : Cs Y ρ M) : Cs Y (knR ρ) M := by
  obtain ⟨sc, kn, h1, h2⟩ := h
  exact ⟨sc, kn, h1.cg (knR_s ρ 5) (fun k t a b => knR_at ρ k t (Or.inl (by omega))), h2.cg11 (fun k _ => knR_s ρ k) (fun k j hk => knR_at ρ k j (Or.inl hk))⟩
def LI (k : Nat) (M : Mem) (Y : (Nat → Bool) × (Nat → Bool)) (ρ : RS) : Prop := Cs Y ρ M ∧ Rf ρ M ∧ Iv Y ρ ∧ Qn k ρ
theorem Iv.zero : Iv ((fun _ => false, fun _ => false) : (Nat → Bool) × (Nat → Bool)) ini := by
  have n0 : thN ini = 0 := rfl
  have a0 : ∀ k j, ini.2 k j = 0 := fun _ _ => rfl
  have nn : ∀ {n : Nat}, (0 : Int) = ↑n → n = 0 := fun h => by omega
  refine ⟨⟨by decide, by decide, by decide, by decide, by decide⟩, ⟨⟨⟨rfl, Nat.le_refl _, by decide, by decide, fun t ht => absurd ht (by rw [n0]; omega)⟩, fun s t hs => absurd hs (by rw [n0]; omega), fun t ht => absurd ht (by rw [n0]; omega), fun t ht => absurd ht (by rw [n0]; omega)⟩, fun t ht => absurd ht (by rw [n0]; omega)⟩, ⟨fun e he => ⟨0, by omega, rfl, fun i hi => absurd hi (by omega)⟩, fun e i n he hn hi => ?_⟩, ⟨fun e he h => absurd rfl h, fun e he h => absurd rfl h, fun e he => ⟨fun h => (by cases h), fun h => absurd rfl h⟩, fun p hp => ⟨Or.inl rfl, fun h => absurd rfl h⟩⟩, fun e he h => absurd rfl h, ⟨fun e he => ⟨0, rfl, by omega⟩, fun j hj => ⟨by rw [a0]; omega, by rw [a0]; omega⟩⟩, ⟨⟨fun e he => ⟨0, by omega, rfl⟩, fun j hj => ⟨⟨by rw [a0]; omega, by rw [a0]; omega⟩, ⟨by rw [a0]; omega, by rw [a0]; omega⟩, ⟨by rw [a0]; omega, by rw [a0]; omega⟩, ⟨by rw [a0]; omega, by rw [a0]; omega⟩⟩⟩, fun e j n he hn hj => ?_, fun e n he hn i j hi hj => ?_, fun e n i he hn hi => ?_⟩, ⟨fun l hl => ?_, fun l hl => ?_⟩, fun i hi => ⟨⟨by rw [a0]; omega, by rw [a0]; omega⟩, fun h => ?_, fun h => ?_⟩, fun e he h4 => ⟨rfl, rfl, rfl, rfl, rfl, rfl⟩⟩
  · have := nn hn
    omega
  · have := nn hn
    omega
  · have := nn hn
    omega
  · have := nn hn
    omega
  · have q : ini.1 30 = 0 := rfl
    omega
  · have q : ini.1 30 = 0 := rfl
    omega
  · rw [a0] at h
    omega
  · rw [a0] at h
    omega
theorem i32 (x : Int32) : -2147483648 ≤ x.toInt ∧ x.toInt < 2147483648 := jI_bd x
end
