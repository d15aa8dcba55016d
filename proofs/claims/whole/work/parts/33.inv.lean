/-! what holds of every state stays so -/
/-- the cells of the fair as it is -/
def nowC (k j : Nat) : Prop := (k = 76 ∧ (j = 0 ∨ j = 1 ∨ j = 2 ∨ j = 3 ∨ j = 12 ∨ j = 30 ∨ j = 33)) ∨ (77 ≤ k ∧ k ≤ 83) ∨ (95 ≤ k ∧ k ≤ 99)
theorem fdI_c {M M' : Hp} (h : ∀ k j, ¬ nowC k j → gi M' k j = gi M k j) : fdI M' = fdI M := by
  funext f j
  unfold fdI
  split <;> exact h _ _ (by unfold nowC; omega)
theorem RMl_c {L : Nat → List Cl} {M M' : Hp} (h : ∀ k j, (84 ≤ k ∧ k ≤ 90) ∨ (k = 76 ∧ j = 11) → gi M' k j = gi M k j) (hL : RMl L M) : RMl L M' := by
  intro f hf hf'
  rw [h 76 11 (by omega)] at hf'
  obtain ⟨h1, h2, h3⟩ := hL f hf hf'
  refine ⟨(h _ _ (by omega)).trans h1, h2, fun i c hc => ?_⟩
  obtain ⟨g1, g2, g3, g4, g5⟩ := h3 i c hc
  refine ⟨(h _ _ (by omega)).trans g1, g2, (h _ _ (by omega)).trans g3, g4, ?_⟩
  rcases g5 with g5 | ⟨ops, a, q1, q2, q3, q4, q5, q6⟩
  · exact Or.inl g5
  · exact Or.inr ⟨ops, a, q1, q2, (h _ _ (by omega)).trans q3, (h _ _ (by omega)).trans q4, fun j op hj => ⟨(h _ _ (by omega)).trans (q5 j op hj).1, (q5 j op hj).2⟩, q6⟩
theorem Inv_now {L : Nat → List Cl} {M M' : Hp} (hI : Inv L M) (h : ∀ k j, ¬ nowC k j → gi M' k j = gi M k j) (hN : InvF (fdN M') (gi M 76 11)) : Inv L M' := by
  have n1 : ∀ j, ¬ (j = 0 ∨ j = 1 ∨ j = 2 ∨ j = 3 ∨ j = 12 ∨ j = 30 ∨ j = 33) → gi M' 76 j = gi M 76 j := fun j hj => h 76 j (by unfold nowC; omega)
  have n2 : ∀ k j, (84 ≤ k ∧ k ≤ 94) ∨ 100 ≤ k → gi M' k j = gi M k j := fun k j hk => h k j (by unfold nowC; omega)
  obtain ⟨a1, a2, a3, a4, a5, a6, a7, a8, a9, a10⟩ := hI
  have hL : gi M' 76 11 = gi M 76 11 := n1 11 (by decide)
  refine ⟨?_, ?_, ?_, RMl_c (fun k j hk => h k j (by unfold nowC; omega)) a4, ?_, ?_, ?_, ?_, ?_, ?_⟩
  · rw [hL]; exact a1
  · rw [hL]; exact hN
  · rw [hL, fdI_c h]; exact a3
  · rw [n1 13 (by decide)]; exact a5
  · intro j hj; rw [n2 84 j (by decide)]; exact a6 j hj
  · rw [n1 37 (by decide)]; exact a7
  · rw [n1 57 (by decide)]; exact a8
  · intro t ht; rw [n2 114 t (by decide), n2 113 t (by decide)]; exact a9 t ht
  · simp only [n2 92 _ (by decide)]; exact a10
theorem isN_i {x : Int32} {n : Nat} (hn : n ≤ 2 ^ 31) (h : rng x n) : isN x n := by
  rcases Nat.lt_or_ge n (2 ^ 31) with h1 | h1
  · exact rng_N h h1
  · have e : n = 2 ^ 31 := by omega
    obtain ⟨j, hj, rfl⟩ := nI_of (Int32.not_lt.mpr h.1)
    exact isN_of rfl (by omega) hn
theorem isN_le {x m : Int32} {n : Nat} (hm : m = nI n) (hn : n < 2 ^ 30) (h : 0 ≤ x ∧ x ≤ m) : isN x (n + 1) := by
  subst hm
  exact rng_N ((le_pred x (n := n + 1) (by omega)).mp ⟨h.1, by rw [nI_pred]; exact h.2⟩) (by omega)
theorem one_le {x : Int32} (h : 1 ≤ x ∧ x ≤ 30) : isN x 31 ∧ 1 ≤ cN x := by
  have h0 : 0 ≤ x := Int32.le_trans (by decide) h.1
  have h1 := isN_le (n := 30) rfl (by decide) ⟨h0, h.2⟩
  refine ⟨h1, ?_⟩
  have h2 := h.1
  rw [h1.1, show (1 : Int32) = nI 1 from rfl, nI_leI (by decide) (by have := h1.2; omega)] at h2
  exact h2
theorem nowOut {M : Hp} {a b : Nat} {x : Int32} (hn : nowC a b) {k j : Nat} (h : ¬ nowC k j) : gi (si M a b x) k j = gi M k j := by
  have : ¬ (k = a ∧ j = b) := by
    rintro ⟨rfl, rfl⟩
    exact h hn
  simp only [gi, si, if_neg this]
theorem fd_pow {M : Hp} : isN (gi M 76 0) 7 → True := fun _ => trivial
/-- the fair as it is, cell by cell -/
theorem InvN {M : Hp} {laws : Int32} (h0 : isN (gi M 76 0) 7) (h2 : isN (gi M 76 1) 9) (h9 : isN (gi M 76 2) 10000) (h10 : isN (gi M 76 3) 10000000)
    (h11 : gi M 76 12 = -1 ∨ (isN (gi M 76 12) 6 ∧ cN (gi M 76 12) < cN laws)) (h12 : isN (gi M 76 30) 9) (h15 : isN (gi M 76 33) 9)
    (hw : ∀ j, j < mW M → isN (gi M 77 j) 31 ∧ 1 ≤ cN (gi M 77 j))
    (he : ∀ n, n < mE M → isN (gi M 78 n) 7 ∧ isN (gi M 79 n) 10 ∧ isN (gi M 80 n) (2 ^ mW M) ∧ isN (gi M 81 n) 100 ∧ isN (gi M 82 n) 10000 ∧ cN (gi M 82 n) ≤ mD M ∧ ∀ i, i < 4 → isN (gi M 83 (4 * n + i)) 10)
    (ho : ∀ k, k < cN (gi M 76 30) → isN (gi M 95 k) (mE M) ∧ isN (gi M 96 k) 2)
    (hb : ∀ k, k < cN (gi M 76 33) → isN (gi M 97 k) (mE M) ∧ isN (gi M 98 k) (mW M) ∧ isN (gi M 99 k) 10000) : InvF (fdN M) laws :=
  ⟨h0, h2, h9, h10, h11, h12, h15, hw, he, ho, hb⟩
theorem isN_m {x : Int32} {n m : Nat} (h : isN x n) (hm : n ≤ m) : isN x m := ⟨h.1, Nat.lt_of_lt_of_le h.2 hm⟩
theorem pw_mono {a b : Nat} (h : a ≤ b) : 2 ^ a ≤ 2 ^ b := Nat.pow_le_pow_right (by decide) h
theorem I_cell {L : Nat → List Cl} {M : Hp} (hI : Inv L M) {a b : Nat} {x : Int32} (hn : 77 ≤ a ∧ a ≤ 83) (hx : (a = 77 → isN x 31 ∧ 1 ≤ cN x) ∧ (a = 78 → isN x 7) ∧ (a = 79 → isN x 10) ∧ (a = 80 → isN x (2 ^ mW M)) ∧ (a = 81 → isN x 100) ∧ (a = 82 → isN x 10000 ∧ cN x ≤ mD M) ∧ (a = 83 → isN x 10)) : Inv L (si M a b x) := by
  obtain ⟨b0, b2, b9, b10, b11, b12, b15, bw, be, bo, bb⟩ := hI.2.1
  refine Inv_now hI (fun k j h => nowOut (by unfold nowC; omega) h) ?_
  have g : ∀ k j, ¬ (77 ≤ k ∧ k ≤ 83) → gi (si M a b x) k j = gi M k j := fun k j h => gi_ne (by omega)
  have gc : ∀ (P : Int32 → Prop) k j, (77 ≤ k ∧ k ≤ 83) → P (gi M k j) → (a = k → P x) → P (gi (si M a b x) k j) := by
    intro P k j _ h1 h2
    by_cases e : k = a ∧ j = b
    · obtain ⟨rfl, rfl⟩ := e
      rw [gi_eq]
      exact h2 rfl
    · have : gi (si M a b x) k j = gi M k j := by simp only [gi, si, if_neg e]
      rw [this]
      exact h1
  have eW : mW (si M a b x) = mW M := congrArg Int32.toNatClampNeg (g 76 0 (by omega))
  have eE : mE (si M a b x) = mE M := congrArg Int32.toNatClampNeg (g 76 1 (by omega))
  have eD : mD (si M a b x) = mD M := congrArg Int32.toNatClampNeg (g 76 2 (by omega))
  refine InvN ?_ ?_ ?_ ?_ ?_ ?_ ?_ (fun j hj => ?_) (fun n hn => ?_) (fun k hk => ?_) (fun k hk => ?_)
  · rw [g 76 0 (by omega)]; exact b0
  · rw [g 76 1 (by omega)]; exact b2
  · rw [g 76 2 (by omega)]; exact b9
  · rw [g 76 3 (by omega)]; exact b10
  · rw [g 76 12 (by omega)]; exact b11
  · rw [g 76 30 (by omega)]; exact b12
  · rw [g 76 33 (by omega)]; exact b15
  · rw [eW] at hj
    exact gc (fun y => isN y 31 ∧ 1 ≤ cN y) 77 j (by omega) (bw j hj) hx.1
  · rw [eE] at hn
    obtain ⟨c1, c2, c3, c4, c5, c6, c7⟩ := be n hn
    rw [eW, eD]
    have c56 := gc (fun y => isN y 10000 ∧ cN y ≤ mD M) 82 n (by omega) ⟨c5, c6⟩ hx.2.2.2.2.2.1
    exact ⟨gc (fun y => isN y 7) 78 n (by omega) c1 hx.2.1, gc (fun y => isN y 10) 79 n (by omega) c2 hx.2.2.1, gc (fun y => isN y (2 ^ mW M)) 80 n (by omega) c3 hx.2.2.2.1, gc (fun y => isN y 100) 81 n (by omega) c4 hx.2.2.2.2.1, c56.1, c56.2, fun i hi => gc (fun y => isN y 10) 83 _ (by omega) (c7 i hi) hx.2.2.2.2.2.2⟩
  · rw [g 76 30 (by omega)] at hk
    rw [eE, g 95 k (by omega), g 96 k (by omega)]
    exact bo k hk
  · rw [g 76 33 (by omega)] at hk
    rw [eE, eW, g 97 k (by omega), g 98 k (by omega), g 99 k (by omega)]
    exact bb k hk
theorem I_chance {L : Nat → List Cl} {M : Hp} (hI : Inv L M) {j : Nat} {x : Int32} (h : 1 ≤ x ∧ x ≤ 30) : Inv L (si M 77 j x) := I_cell hI (by decide) ⟨fun _ => one_le h, fun q => absurd q (by decide), fun q => absurd q (by decide), fun q => absurd q (by decide), fun q => absurd q (by decide), fun q => absurd q (by decide), fun q => absurd q (by decide)⟩
theorem I_say {L : Nat → List Cl} {M : Hp} (hI : Inv L M) {j : Nat} {x : Int32} (h : rng x (2 ^ mW M)) : Inv L (si M 80 j x) := I_cell hI (by decide) ⟨fun q => absurd q (by decide), fun q => absurd q (by decide), fun q => absurd q (by decide), fun _ => rng_N h (by have := pwI hI; omega), fun q => absurd q (by decide), fun q => absurd q (by decide), fun q => absurd q (by decide)⟩
theorem I_price {L : Nat → List Cl} {M : Hp} (hI : Inv L M) {j : Nat} {x : Int32} (h : 0 ≤ x ∧ x ≤ 99) : Inv L (si M 81 j x) := I_cell hI (by decide) ⟨fun q => absurd q (by decide), fun q => absurd q (by decide), fun q => absurd q (by decide), fun q => absurd q (by decide), fun _ => isN_le (n := 99) rfl (by decide) h, fun q => absurd q (by decide), fun q => absurd q (by decide)⟩
theorem I_row {L : Nat → List Cl} {M : Hp} (hI : Inv L M) {j : Nat} {x : Int32} (h : 0 ≤ x ∧ x ≤ 9) : Inv L (si M 83 j x) := I_cell hI (by decide) ⟨fun q => absurd q (by decide), fun q => absurd q (by decide), fun q => absurd q (by decide), fun q => absurd q (by decide), fun q => absurd q (by decide), fun q => absurd q (by decide), fun _ => isN_le (n := 9) rfl (by decide) h⟩
theorem Iq_chance {L : Nat → List Cl} {M : Hp} (hI : Inv L M) (w x : Int32) : Inv L (q_chance M w x).2 := by
  unfold q_chance
  split
  · split
    · next h => exact I_chance hI h
    · exact hI
  · exact hI
theorem Iq_price {L : Nat → List Cl} {M : Hp} (hI : Inv L M) (w x : Int32) : Inv L (q_price M w x).2 := by
  unfold q_price
  split
  · split
    · next h => exact I_price hI h
    · exact hI
  · exact hI
theorem Iq_say {L : Nat → List Cl} {M : Hp} (hI : Inv L M) (w x : Int32) : Inv L (q_say M w x).2 := by
  unfold q_say
  split
  · split
    · next h => exact I_say hI h
    · exact hI
  · exact hI
theorem Iq_row {L : Nat → List Cl} {M : Hp} (hI : Inv L M) (e d x : Int32) : Inv L (q_row M e d x).2 := by
  unfold q_row
  split
  · split
    · split
      · next h =>
        split
        · exact I_row hI h
        · exact hI
      · exact hI
    · exact hI
  · exact hI
