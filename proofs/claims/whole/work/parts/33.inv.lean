/-! what holds of every state stays so -/
/-- the cells of the fair as it is -/
def nowC (k j : Nat) : Prop := (k = 76 ∧ (j = 0 ∨ j = 1 ∨ j = 2 ∨ j = 3 ∨ j = 12 ∨ j = 30 ∨ j = 33)) ∨ (77 ≤ k ∧ k ≤ 83) ∨ (95 ≤ k ∧ k ≤ 99)
theorem fdI_c {M M' : Hp} (h : ∀ k j, ¬ nowC k j → gi M' k j = gi M k j) : fdI M' = fdI M := by
  funext f j
  unfold fdI
  split <;> exact h _ _ (by unfold nowC; omega)
theorem RMl_c {L : Nat → List Cl} {M M' : Hp} (h : ∀ k j, (84 ≤ k ∧ k ≤ 90) ∨ (k = 76 ∧ j = 11) → gi M' k j = gi M k j) (hL : RMl L M) : RMl L M' := by
  intro f hf hf'
  rw [h 76 11 (by omega)] at hf'
  obtain ⟨h1, h2, h3⟩ := hL f hf hf'
  refine ⟨(h _ _ (by omega)).trans h1, h2, fun i c hc => ?_⟩
  obtain ⟨g1, g2, g3, g4, g5⟩ := h3 i c hc
  refine ⟨(h _ _ (by omega)).trans g1, g2, (h _ _ (by omega)).trans g3, g4, ?_⟩
  rcases g5 with g5 | ⟨ops, a, q1, q2, q3, q4, q5, q6⟩
  · exact Or.inl g5
  · exact Or.inr ⟨ops, a, q1, q2, (h _ _ (by omega)).trans q3, (h _ _ (by omega)).trans q4, fun j op hj => ⟨(h _ _ (by omega)).trans (q5 j op hj).1, (q5 j op hj).2⟩, q6⟩
theorem Inv_now {L : Nat → List Cl} {M M' : Hp} (hI : Inv L M) (h : ∀ k j, ¬ nowC k j → gi M' k j = gi M k j) (hN : InvF (fdN M') (gi M 76 11)) : Inv L M' := by
  have n1 : ∀ j, ¬ (j = 0 ∨ j = 1 ∨ j = 2 ∨ j = 3 ∨ j = 12 ∨ j = 30 ∨ j = 33) → gi M' 76 j = gi M 76 j := fun j hj => h 76 j (by unfold nowC; omega)
  have n2 : ∀ k j, (84 ≤ k ∧ k ≤ 94) ∨ 100 ≤ k → gi M' k j = gi M k j := fun k j hk => h k j (by unfold nowC; omega)
  obtain ⟨a1, a2, a3, a4, a5, a6, a7, a8, a9, a10⟩ := hI
  have hL : gi M' 76 11 = gi M 76 11 := n1 11 (by decide)
  refine ⟨?_, ?_, ?_, RMl_c (fun k j hk => h k j (by unfold nowC; omega)) a4, ?_, ?_, ?_, ?_, ?_, ?_⟩
  · rw [hL]; exact a1
  · rw [hL]; exact hN
  · rw [hL, fdI_c h]; exact a3
  · rw [n1 13 (by decide)]; exact a5
  · intro j hj; rw [n2 84 j (by decide)]; exact a6 j hj
  · rw [n1 37 (by decide)]; exact a7
  · rw [n1 57 (by decide)]; exact a8
  · intro t ht; rw [n2 114 t (by decide), n2 113 t (by decide)]; exact a9 t ht
  · simp only [n2 92 _ (by decide)]; exact a10
theorem isN_i {x : Int32} {n : Nat} (hn : n ≤ 2 ^ 31) (h : rng x n) : isN x n := by
  rcases Nat.lt_or_ge n (2 ^ 31) with h1 | h1
  · exact rng_N h h1
  · have e : n = 2 ^ 31 := by omega
    obtain ⟨j, hj, rfl⟩ := nI_of (Int32.not_lt.mpr h.1)
    exact isN_of rfl (by omega) hn
theorem isN_le {x m : Int32} {n : Nat} (hm : m = nI n) (hn : n < 2 ^ 30) (h : 0 ≤ x ∧ x ≤ m) : isN x (n + 1) := by
  subst hm
  exact rng_N ((le_pred x (n := n + 1) (by omega)).mp ⟨h.1, by rw [nI_pred]; exact h.2⟩) (by omega)
theorem one_le {x : Int32} (h : 1 ≤ x ∧ x ≤ 30) : isN x 31 ∧ 1 ≤ cN x := by
  have h0 : 0 ≤ x := Int32.le_trans (by decide) h.1
  have h1 := isN_le (n := 30) rfl (by decide) ⟨h0, h.2⟩
  refine ⟨h1, ?_⟩
  have h2 := h.1
  rw [h1.1, show (1 : Int32) = nI 1 from rfl, nI_leI (by decide) (by have := h1.2; omega)] at h2
  exact h2
theorem nowOut {M : Hp} {a b : Nat} {x : Int32} (hn : nowC a b) {k j : Nat} (h : ¬ nowC k j) : gi (si M a b x) k j = gi M k j := by
  have : ¬ (k = a ∧ j = b) := by
    rintro ⟨rfl, rfl⟩
    exact h hn
  simp only [gi, si, if_neg this]
theorem fd_pow {M : Hp} : isN (gi M 76 0) 7 → True := fun _ => trivial
/-- the fair as it is, cell by cell -/
theorem InvN {M : Hp} {laws : Int32} (h0 : isN (gi M 76 0) 7) (h2 : isN (gi M 76 1) 9) (h9 : isN (gi M 76 2) 10000) (h10 : isN (gi M 76 3) 10000000)
    (h11 : gi M 76 12 = -1 ∨ (isN (gi M 76 12) 6 ∧ cN (gi M 76 12) < cN laws)) (h12 : isN (gi M 76 30) 9) (h15 : isN (gi M 76 33) 9)
    (hw : ∀ j, j < mW M → isN (gi M 77 j) 31 ∧ 1 ≤ cN (gi M 77 j))
    (he : ∀ n, n < mE M → isN (gi M 78 n) 7 ∧ isN (gi M 79 n) 10 ∧ isN (gi M 80 n) (2 ^ mW M) ∧ isN (gi M 81 n) 100 ∧ isN (gi M 82 n) 10000 ∧ cN (gi M 82 n) ≤ mD M ∧ ∀ i, i < 4 → isN (gi M 83 (4 * n + i)) 10)
    (ho : ∀ k, k < cN (gi M 76 30) → isN (gi M 95 k) (mE M) ∧ isN (gi M 96 k) 2)
    (hb : ∀ k, k < cN (gi M 76 33) → isN (gi M 97 k) (mE M) ∧ isN (gi M 98 k) (mW M) ∧ isN (gi M 99 k) 10000) : InvF (fdN M) laws :=
  ⟨h0, h2, h9, h10, h11, h12, h15, hw, he, ho, hb⟩
theorem isN_m {x : Int32} {n m : Nat} (h : isN x n) (hm : n ≤ m) : isN x m := ⟨h.1, Nat.lt_of_lt_of_le h.2 hm⟩
theorem pw_mono {a b : Nat} (h : a ≤ b) : 2 ^ a ≤ 2 ^ b := Nat.pow_le_pow_right (by decide) h
theorem I_cell {L : Nat → List Cl} {M : Hp} (hI : Inv L M) {a b : Nat} {x : Int32} (hn : 77 ≤ a ∧ a ≤ 83) (hx : (a = 77 → isN x 31 ∧ 1 ≤ cN x) ∧ (a = 78 → isN x 7) ∧ (a = 79 → isN x 10) ∧ (a = 80 → isN x (2 ^ mW M)) ∧ (a = 81 → isN x 100) ∧ (a = 82 → isN x 10000 ∧ cN x ≤ mD M) ∧ (a = 83 → isN x 10)) : Inv L (si M a b x) := by
  obtain ⟨b0, b2, b9, b10, b11, b12, b15, bw, be, bo, bb⟩ := hI.2.1
  refine Inv_now hI (fun k j h => nowOut (by unfold nowC; omega) h) ?_
  have g : ∀ k j, ¬ (77 ≤ k ∧ k ≤ 83) → gi (si M a b x) k j = gi M k j := fun k j h => gi_ne (by omega)
  have gc : ∀ (P : Int32 → Prop) k j, (77 ≤ k ∧ k ≤ 83) → P (gi M k j) → (a = k → P x) → P (gi (si M a b x) k j) := by
    intro P k j _ h1 h2
    by_cases e : k = a ∧ j = b
    · obtain ⟨rfl, rfl⟩ := e
      rw [gi_eq]
      exact h2 rfl
    · have : gi (si M a b x) k j = gi M k j := by simp only [gi, si, if_neg e]
      rw [this]
      exact h1
  have eW : mW (si M a b x) = mW M := congrArg Int32.toNatClampNeg (g 76 0 (by omega))
  have eE : mE (si M a b x) = mE M := congrArg Int32.toNatClampNeg (g 76 1 (by omega))
  have eD : mD (si M a b x) = mD M := congrArg Int32.toNatClampNeg (g 76 2 (by omega))
  refine InvN ?_ ?_ ?_ ?_ ?_ ?_ ?_ (fun j hj => ?_) (fun n hn => ?_) (fun k hk => ?_) (fun k hk => ?_)
  · rw [g 76 0 (by omega)]; exact b0
  · rw [g 76 1 (by omega)]; exact b2
  · rw [g 76 2 (by omega)]; exact b9
  · rw [g 76 3 (by omega)]; exact b10
  · rw [g 76 12 (by omega)]; exact b11
  · rw [g 76 30 (by omega)]; exact b12
  · rw [g 76 33 (by omega)]; exact b15
  · rw [eW] at hj
    exact gc (fun y => isN y 31 ∧ 1 ≤ cN y) 77 j (by omega) (bw j hj) hx.1
  · rw [eE] at hn
    obtain ⟨c1, c2, c3, c4, c5, c6, c7⟩ := be n hn
    rw [eW, eD]
    have c56 := gc (fun y => isN y 10000 ∧ cN y ≤ mD M) 82 n (by omega) ⟨c5, c6⟩ hx.2.2.2.2.2.1
    exact ⟨gc (fun y => isN y 7) 78 n (by omega) c1 hx.2.1, gc (fun y => isN y 10) 79 n (by omega) c2 hx.2.2.1, gc (fun y => isN y (2 ^ mW M)) 80 n (by omega) c3 hx.2.2.2.1, gc (fun y => isN y 100) 81 n (by omega) c4 hx.2.2.2.2.1, c56.1, c56.2, fun i hi => gc (fun y => isN y 10) 83 _ (by omega) (c7 i hi) hx.2.2.2.2.2.2⟩
  · rw [g 76 30 (by omega)] at hk
    rw [eE, g 95 k (by omega), g 96 k (by omega)]
    exact bo k hk
  · rw [g 76 33 (by omega)] at hk
    rw [eE, eW, g 97 k (by omega), g 98 k (by omega), g 99 k (by omega)]
    exact bb k hk
theorem I_chance {L : Nat → List Cl} {M : Hp} (hI : Inv L M) {j : Nat} {x : Int32} (h : 1 ≤ x ∧ x ≤ 30) : Inv L (si M 77 j x) := I_cell hI (by decide) ⟨fun _ => one_le h, fun q => absurd q (by decide), fun q => absurd q (by decide), fun q => absurd q (by decide), fun q => absurd q (by decide), fun q => absurd q (by decide), fun q => absurd q (by decide)⟩
theorem I_say {L : Nat → List Cl} {M : Hp} (hI : Inv L M) {j : Nat} {x : Int32} (h : rng x (2 ^ mW M)) : Inv L (si M 80 j x) := I_cell hI (by decide) ⟨fun q => absurd q (by decide), fun q => absurd q (by decide), fun q => absurd q (by decide), fun _ => rng_N h (by have := pwI hI; omega), fun q => absurd q (by decide), fun q => absurd q (by decide), fun q => absurd q (by decide)⟩
theorem I_price {L : Nat → List Cl} {M : Hp} (hI : Inv L M) {j : Nat} {x : Int32} (h : 0 ≤ x ∧ x ≤ 99) : Inv L (si M 81 j x) := I_cell hI (by decide) ⟨fun q => absurd q (by decide), fun q => absurd q (by decide), fun q => absurd q (by decide), fun q => absurd q (by decide), fun _ => isN_le (n := 99) rfl (by decide) h, fun q => absurd q (by decide), fun q => absurd q (by decide)⟩
theorem I_row {L : Nat → List Cl} {M : Hp} (hI : Inv L M) {j : Nat} {x : Int32} (h : 0 ≤ x ∧ x ≤ 9) : Inv L (si M 83 j x) := I_cell hI (by decide) ⟨fun q => absurd q (by decide), fun q => absurd q (by decide), fun q => absurd q (by decide), fun q => absurd q (by decide), fun q => absurd q (by decide), fun q => absurd q (by decide), fun _ => isN_le (n := 9) rfl (by decide) h⟩
theorem Iq_chance {L : Nat → List Cl} {M : Hp} (hI : Inv L M) (w x : Int32) : Inv L (q_chance M w x).2 := by
  unfold q_chance
  split
  · split
    · next h => exact I_chance hI h
    · exact hI
  · exact hI
theorem Iq_price {L : Nat → List Cl} {M : Hp} (hI : Inv L M) (w x : Int32) : Inv L (q_price M w x).2 := by
  unfold q_price
  split
  · split
    · next h => exact I_price hI h
    · exact hI
  · exact hI
theorem Iq_say {L : Nat → List Cl} {M : Hp} (hI : Inv L M) (w x : Int32) : Inv L (q_say M w x).2 := by
  unfold q_say
  split
  · split
    · next h => exact I_say hI h
    · exact hI
  · exact hI
theorem Iq_row {L : Nat → List Cl} {M : Hp} (hI : Inv L M) (e d x : Int32) : Inv L (q_row M e d x).2 := by
  unfold q_row
  split
  · split
    · split
      · next h =>
        split
        · exact I_row hI h
        · exact hI
      · exact hI
    · exact hI
  · exact hI
def envOk (M : Hp) (W D n : Nat) : Prop := isN (gi M 78 n) 7 ∧ isN (gi M 79 n) 10 ∧ isN (gi M 80 n) (2 ^ W) ∧ isN (gi M 81 n) 100 ∧ isN (gi M 82 n) 10000 ∧ cN (gi M 82 n) ≤ D ∧ ∀ i, i < 4 → isN (gi M 83 (4 * n + i)) 10
theorem I_76 {L : Nat → List Cl} {M : Hp} (hI : Inv L M) {b : Nat} {y : Int32} (hb4 : b < 4) (v0 : isN (gi (si M 76 b y) 76 0) 7) (v1 : isN (gi (si M 76 b y) 76 1) 9) (v2 : isN (gi (si M 76 b y) 76 2) 10000) (v3 : isN (gi (si M 76 b y) 76 3) 10000000)
    (mw : mW M ≤ mW (si M 76 b y)) (me : mE M ≤ mE (si M 76 b y)) (md : mD M ≤ mD (si M 76 b y))
    (nw : ∀ j, mW M ≤ j → j < mW (si M 76 b y) → isN (gi M 77 j) 31 ∧ 1 ≤ cN (gi M 77 j))
    (ne : ∀ n, mE M ≤ n → n < mE (si M 76 b y) → envOk M (mW M) (mD M) n) : Inv L (si M 76 b y) := by
  obtain ⟨b0, b2, b9, b10, b11, b12, b15, bw, be, bo, bb⟩ := hI.2.1
  have hn : nowC 76 b := by unfold nowC; omega
  refine Inv_now hI (fun k j h => nowOut hn h) ?_
  have g : ∀ k j, k ≠ 76 → gi (si M 76 b y) k j = gi M k j := fun k j h => gi_ne h
  have g7 : ∀ j, 4 ≤ j → gi (si M 76 b y) 76 j = gi M 76 j := fun j h => gi_nj (by omega)
  refine InvN v0 v1 v2 v3 ?_ ?_ ?_ (fun j hj => ?_) (fun n hn => ?_) (fun k hk => ?_) (fun k hk => ?_)
  · rw [g7 12 (by decide)]; exact b11
  · rw [g7 30 (by decide)]; exact b12
  · rw [g7 33 (by decide)]; exact b15
  · rw [g 77 j (by decide)]
    rcases Nat.lt_or_ge j (mW M) with h | h
    · exact bw j h
    · exact nw j h hj
  · have h0 : envOk M (mW M) (mD M) n := by
      rcases Nat.lt_or_ge n (mE M) with h | h
      · exact be n h
      · exact ne n h hn
    obtain ⟨c1, c2, c3, c4, c5, c6, c7⟩ := h0
    rw [g 78 n (by decide), g 79 n (by decide), g 80 n (by decide), g 81 n (by decide), g 82 n (by decide)]
    exact ⟨c1, c2, isN_m c3 (pw_mono mw), c4, c5, Nat.le_trans c6 md, fun i hi => by rw [g 83 _ (by decide)]; exact c7 i hi⟩
  · rw [g7 30 (by decide)] at hk
    rw [g 95 k (by decide), g 96 k (by decide)]
    exact ⟨isN_m (bo k hk).1 me, (bo k hk).2⟩
  · rw [g7 33 (by decide)] at hk
    rw [g 97 k (by decide), g 98 k (by decide), g 99 k (by decide)]
    exact ⟨isN_m (bb k hk).1 me, isN_m (bb k hk).2.1 mw, (bb k hk).2.2⟩
theorem I_day {L : Nat → List Cl} {M : Hp} (hI : Inv L M) {d : Nat} (h1 : mD M ≤ d) (h2 : d < 10000) : Inv L (si M 76 2 (nI d)) := by
  have e : mD (si M 76 2 (nI d)) = d := nI_cN (by omega)
  exact I_76 hI (by decide) hI.2.1.1 hI.2.1.2.1 (isN_of rfl h2 (by decide)) hI.2.1.2.2.2.1 (Nat.le_refl _) (Nat.le_refl _) (by rw [e]; exact h1) (fun j h g => absurd (Nat.lt_of_lt_of_le g h) (Nat.lt_irrefl _)) (fun j h g => absurd (Nat.lt_of_lt_of_le g h) (Nat.lt_irrefl _))
theorem I_paid {L : Nat → List Cl} {M : Hp} (hI : Inv L M) {y : Int32} (h : isN y 10000000) : Inv L (si M 76 3 y) :=
  I_76 hI (by decide) hI.2.1.1 hI.2.1.2.1 hI.2.1.2.2.1 h (Nat.le_refl _) (Nat.le_refl _) (Nat.le_refl _) (fun j h g => absurd (Nat.lt_of_lt_of_le g h) (Nat.lt_irrefl _)) (fun j h g => absurd (Nat.lt_of_lt_of_le g h) (Nat.lt_irrefl _))
theorem I_W {L : Nat → List Cl} {M : Hp} (hI : Inv L M) (h6 : mW M < 6) (hx : isN (gi M 77 (mW M)) 31 ∧ 1 ≤ cN (gi M 77 (mW M))) : Inv L (si M 76 0 (nI (mW M + 1))) := by
  have e : mW (si M 76 0 (nI (mW M + 1))) = mW M + 1 := nI_cN (by omega)
  refine I_76 hI (by decide) (isN_of rfl (by omega) (by decide)) hI.2.1.2.1 hI.2.1.2.2.1 hI.2.1.2.2.2.1 (by rw [e]; omega) (Nat.le_refl _) (Nat.le_refl _) (fun j h g => ?_) (fun j h g => absurd (Nat.lt_of_lt_of_le g h) (Nat.lt_irrefl _))
  rw [e] at g
  obtain rfl : j = mW M := by omega
  exact hx
theorem I_E {L : Nat → List Cl} {M : Hp} (hI : Inv L M) (h8 : mE M < 8) (hx : envOk M (mW M) (mD M) (mE M)) : Inv L (si M 76 1 (nI (mE M + 1))) := by
  have e : mE (si M 76 1 (nI (mE M + 1))) = mE M + 1 := nI_cN (by omega)
  refine I_76 hI (by decide) hI.2.1.1 (isN_of rfl (by omega) (by decide)) hI.2.1.2.2.1 hI.2.1.2.2.2.1 (Nat.le_refl _) (by rw [e]; omega) (Nat.le_refl _) (fun j h g => absurd (Nat.lt_of_lt_of_le g h) (Nat.lt_irrefl _)) (fun j h g => ?_)
  rw [e] at g
  obtain rfl : j = mE M := by omega
  exact hx
theorem Iq_world {L : Nat → List Cl} {M : Hp} (hI : Inv L M) (x : Int32) : Inv L (q_world M x).2 := by
  unfold q_world
  split
  · next h =>
    split
    · next h6 =>
      have h1 := I_chance hI (j := mW M) h
      refine I_W h1 h6 ?_
      have hj : gi (si M 77 (mW M) x) 77 (mW M) = x := gi_eq
      show isN (gi (si M 77 (mW M) x) 77 (mW M)) 31 ∧ 1 ≤ cN (gi (si M 77 (mW M) x) 77 (mW M))
      rw [hj]
      exact one_le h
    · exact hI
  · exact hI
theorem Iq_envelope {L : Nat → List Cl} {M : Hp} (hI : Inv L M) (k v z pr : Int32) : Inv L (q_envelope M k v z pr).2 := by
  unfold q_envelope
  split
  · next hk =>
    split
    · next hv =>
      split
      · next hs =>
        split
        · next hp =>
          unfold q_addEnv
          split
          · next h8 =>
            have hk' := isN_le (n := 6) rfl (by decide) hk
            have hv' := isN_le (n := 9) rfl (by decide) hv
            have hp' := isN_le (n := 99) rfl (by decide) hp
            have hs' : isN z (2 ^ mW M) := rng_N hs (by have := pwI hI; omega)
            have hd' := isN_of (x := nI (mD M)) rfl (iD hI).2 (by decide)
            have hz := isN_of (x := 0) (j := 0) (n := 10) rfl (by decide) (by decide)
            have i1 : Inv L (si M 78 (mE M) k) := I_cell hI (by decide) ⟨fun q => absurd q (by decide), fun _ => hk', fun q => absurd q (by decide), fun q => absurd q (by decide), fun q => absurd q (by decide), fun q => absurd q (by decide), fun q => absurd q (by decide)⟩
            have i2 : Inv L (si (si M 78 (mE M) k) 79 (mE M) v) := I_cell i1 (by decide) ⟨fun q => absurd q (by decide), fun q => absurd q (by decide), fun _ => hv', fun q => absurd q (by decide), fun q => absurd q (by decide), fun q => absurd q (by decide), fun q => absurd q (by decide)⟩
            have i3 : Inv L (si (si (si M 78 (mE M) k) 79 (mE M) v) 80 (mE M) z) := I_say i2 hs
            have i4 : Inv L (si (si (si (si M 78 (mE M) k) 79 (mE M) v) 80 (mE M) z) 81 (mE M) pr) := I_price i3 hp
            have i5 : Inv L (si (si (si (si (si M 78 (mE M) k) 79 (mE M) v) 80 (mE M) z) 81 (mE M) pr) 82 (mE M) (nI (mD M))) := I_cell i4 (by decide) ⟨fun q => absurd q (by decide), fun q => absurd q (by decide), fun q => absurd q (by decide), fun q => absurd q (by decide), fun q => absurd q (by decide), fun _ => ⟨hd', Nat.le_of_eq (nI_cN (by have := (iD hI).2; omega))⟩, fun q => absurd q (by decide)⟩
            have i6 := I_row (j := 4 * mE M + 0) i5 (x := 0) (by decide)
            have i7 := I_row (j := 4 * mE M + 1) i6 (x := 0) (by decide)
            have i8 := I_row (j := 4 * mE M + 2) i7 (x := 0) (by decide)
            have i9 := I_row (j := 4 * mE M + 3) i8 (x := 0) (by decide)
            refine I_E i9 h8 (show envOk _ (mW M) (mD M) (mE M) from ?_)
            refine ⟨?_, ?_, ?_, ?_, ?_, ?_, fun i hi => ?_⟩
            · simp only [gi, si]; simpa using hk'
            · simp only [gi, si]; simpa using hv'
            · simp only [gi, si]; simpa using hs'
            · simp only [gi, si]; simpa using hp'
            · simp only [gi, si]; simpa using hd'
            · have h82 : cN (nI (mD M)) ≤ mD M := by
                rw [nI_cN (by have := (iD hI).2; omega)]
                exact Nat.le_refl _
              simp only [gi, si]; simpa using h82
            · have hi4 : i = 0 ∨ i = 1 ∨ i = 2 ∨ i = 3 := by omega
              rcases hi4 with q | q | q | q <;> subst q <;> (simp only [gi, si]; simpa using hz)
          · exact hI
        · exact hI
      · exact hI
    · exact hI
  · exact hI
theorem Iq_pass {L : Nat → List Cl} {M : Hp} (hI : Inv L M) (x : Int32) : Inv L (q_pass M x).2 := by
  unfold q_pass
  split
  · next h =>
    split
    · next h2 =>
      have hx := isN_le (n := 99) rfl (by decide) h
      have hd := (iD hI).2
      have e : nI (mD M) + x = nI (mD M + cN x) := by
        rw [hx.1, nI_add, nI_cN (by have := hx.2; omega)]
      have hx2 := hx.2
      rw [e] at h2 ⊢
      exact I_day hI (by omega) (by
        have := (nI_leI (b := 9999) (by omega) (by decide)).mp h2
        omega)
    · exact hI
  · exact hI
theorem min_N {x : Int32} {n : Nat} (h : isB x n) (hn : n < 2 ^ 31) : isN (minI 9999999 x) 10000000 := by
  obtain ⟨k, hk, rfl⟩ := h
  unfold minI
  split
  · next q =>
    have := (nI_ltI (b := 9999999) (by omega) (by decide)).mp q
    exact isN_of rfl (by omega) (by decide)
  · exact isN_of (j := 9999999) rfl (by decide) (by decide)
theorem Iq_come {L : Nat → List Cl} {M : Hp} (hI : Inv L M) (w : Int32) : Inv L (q_come L M w).2 := by
  unfold q_come
  split
  · next h =>
    split
    · next h9 =>
      have hw := (rng_N h (sm7 hI)).2
      have hs := sumI_b (mE M) (fun e he => pay_b hI he hw)
      have hp : isB (gi M 76 3) 9999999 := isB.of hI.2.1.2.2.2.1
      have i1 := I_paid hI (min_N (hp.add hs) (by have := (iE hI).2; omega))
      exact I_day i1 (Nat.le_succ _) (by omega)
    · exact hI
  · exact hI
