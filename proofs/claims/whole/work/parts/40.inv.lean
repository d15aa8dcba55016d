/-! what holds of every state stays so, on -/
theorem Inv_sl {L : Nat → List Cl} {M : Hp} {k j : Nat} {x : Int64} (hI : Inv L M) : Inv L (sl M k j x) := hI
theorem Inv_zN {L : Nat → List Cl} {M : Hp} {t : Nat} (hI : Inv L M) : ∀ n, Inv L (zN M t n)
  | 0 => hI
  | n + 1 => Inv_sl (Inv_zN hI n)
theorem Inv_cp {L : Nat → List Cl} {M : Hp} {a b n : Nat} (hI : Inv L M) : Inv L (cpI M a b n) := hI
theorem Iq_item {L : Nat → List Cl} {M : Hp} (hI : Inv L M) (t i : Int32) (v : Int64) : Inv L (q_item M t i v).2 := by
  unfold q_item
  repeat' split
  all_goals first | exact hI | exact Inv_sl hI
theorem Iq_shift {L : Nat → List Cl} {M : Hp} (hI : Inv L M) (t i u j n : Int32) : Inv L (q_shift M t i u j n).2 := by
  unfold q_shift
  repeat' split
  all_goals first | exact hI | exact Inv_cp hI
theorem I_tape {L : Nat → List Cl} {M : Hp} (hI : Inv L M) {t : Nat} (ht : t < 6) {k n : Int32} (h : k = -1 ∧ n = 0 ∨ isN k 5) (hn : isN n 61) : Inv L (si (si M 113 t k) 114 t n) := by
  obtain ⟨a1, a2, a3, a4, a5, a6, a7, a8, a9, a10⟩ := hI
  refine ⟨a1, a2, a3, RMl_c (fun k j hk => ?_) a4, a5, a6, a7, a8, fun u hu => ?_, a10⟩
  · rw [gi_ne (by omega), gi_ne (by omega)]
  · by_cases e : u = t
    · subst e
      have g1 : gi (si (si M 113 u k) 114 u n) 114 u = n := gi_eq
      have g2 : gi (si (si M 113 u k) 114 u n) 113 u = k := (gi_ne (by decide)).trans gi_eq
      rw [g1, g2]
      exact ⟨hn, h⟩
    · have g1 : gi (si (si M 113 t k) 114 t n) 114 u = gi M 114 u := (gi_nj e).trans (gi_ne (by decide))
      have g2 : gi (si (si M 113 t k) 114 t n) 113 u = gi M 113 u := (gi_ne (by decide)).trans (gi_nj e)
      rw [g1, g2]
      exact a9 u hu
theorem Iq_tape {L : Nat → List Cl} {M : Hp} (hI : Inv L M) (t k n : Int32) : Inv L (q_tape M t k n).2 := by
  unfold q_tape
  split
  · next h =>
    have ht := (rng_N h (by decide)).2
    split
    · exact Inv_zN (I_tape hI ht (Or.inl ⟨rfl, rfl⟩) (isN_of (j := 0) rfl (by decide) (by decide))) 60
    · split
      · next hk =>
        split
        · next h60 =>
          split
          · next h0 => exact Inv_zN (I_tape hI ht (Or.inr (isN_le (n := 4) rfl (by decide) hk)) (isN_le (n := 60) rfl (by decide) ⟨h0, h60⟩)) 60
          · exact hI
        · exact hI
      · exact hI
  · exact hI
theorem Iq_add4 {L : Nat → List Cl} {M : Hp} (hI : Inv L M) {e x : Int32} (he : rng e (mE M)) (hx : x = 0 ∨ x = 1) : Inv L (q_add4 M e x).2 := by
  unfold q_add4
  split
  · next h8 =>
    obtain ⟨b0, b2, b9, b10, b11, b12, b15, bw, be, bo, bb⟩ := hI.2.1
    have hen := rng_N he (sm9 hI)
    refine Inv_now hI (fun k j h => ?_) (InvN b0 b2 b9 b10 b11 (isN_of rfl (show mO M + 1 < 9 by omega) (by decide)) b15 bw be (fun k hk => ?_) bb)
    · have q : ¬ (k = 76 ∧ j = 30) := fun q => h (by unfold nowC; omega)
      have q1 : k ≠ 95 := fun q => h (by unfold nowC; omega)
      have q2 : k ≠ 96 := fun q => h (by unfold nowC; omega)
      have g1 : gi (si (si (si M 95 (mO M) e) 96 (mO M) x) 76 30 (nI (mO M + 1))) k j = gi (si (si M 95 (mO M) e) 96 (mO M) x) k j := by simp only [gi, si, if_neg q]
      rw [g1, gi_ne q2, gi_ne q1]
    · have hk2 : k < mO M + 1 := by
        have e1 : cN (gi (si (si (si M 95 (mO M) e) 96 (mO M) x) 76 30 (nI (mO M + 1))) 76 30) = mO M + 1 := nI_cN (show mO M + 1 < 2 ^ 31 by omega)
        rw [e1] at hk
        exact hk
      show isN (gi (si (si (si M 95 (mO M) e) 96 (mO M) x) 76 30 (nI (mO M + 1))) 95 k) (mE M) ∧ isN (gi (si (si (si M 95 (mO M) e) 96 (mO M) x) 76 30 (nI (mO M + 1))) 96 k) 2
      by_cases e2 : k = mO M
      · subst e2
        have g1 : gi (si (si (si M 95 (mO M) e) 96 (mO M) x) 76 30 (nI (mO M + 1))) 95 (mO M) = e := (gi_ne (by decide)).trans ((gi_ne (by decide)).trans gi_eq)
        have g2 : gi (si (si (si M 95 (mO M) e) 96 (mO M) x) 76 30 (nI (mO M + 1))) 96 (mO M) = x := (gi_ne (by decide)).trans gi_eq
        rw [g1, g2]
        refine ⟨hen, ?_⟩
        rcases hx with q | q
        · exact isN_of (j := 0) q (by decide) (by decide)
        · exact isN_of (j := 1) q (by decide) (by decide)
      · have g1 : gi (si (si (si M 95 (mO M) e) 96 (mO M) x) 76 30 (nI (mO M + 1))) 95 k = gi M 95 k := (gi_ne (by decide)).trans ((gi_ne (by decide)).trans (gi_nj e2))
        have g2 : gi (si (si (si M 95 (mO M) e) 96 (mO M) x) 76 30 (nI (mO M + 1))) 96 k = gi M 96 k := (gi_ne (by decide)).trans ((gi_nj e2).trans (gi_ne (by decide)))
        rw [g1, g2]
        exact bo k (show k < mO M by omega)
  · exact hI
theorem Iq_add6 {L : Nat → List Cl} {M : Hp} (hI : Inv L M) {e w y : Int32} (he : rng e (mE M)) (hw : rng w (mW M)) (hy : 0 ≤ y ∧ y ≤ 9999) : Inv L (q_add6 M e w y).2 := by
  unfold q_add6
  split
  · next h8 =>
    obtain ⟨b0, b2, b9, b10, b11, b12, b15, bw, be, bo, bb⟩ := hI.2.1
    have hen := rng_N he (sm9 hI)
    have hwn := rng_N hw (sm7 hI)
    have hyn := isN_le (n := 9999) rfl (by decide) hy
    refine Inv_now hI (fun k j h => ?_) (InvN b0 b2 b9 b10 b11 b12 (isN_of rfl (show mB M + 1 < 9 by omega) (by decide)) bw be bo (fun k hk => ?_))
    · have q : ¬ (k = 76 ∧ j = 33) := fun q => h (by unfold nowC; omega)
      have q1 : k ≠ 97 := fun q => h (by unfold nowC; omega)
      have q2 : k ≠ 98 := fun q => h (by unfold nowC; omega)
      have q3 : k ≠ 99 := fun q => h (by unfold nowC; omega)
      have g1 : gi (si (si (si (si M 97 (mB M) e) 98 (mB M) w) 99 (mB M) y) 76 33 (nI (mB M + 1))) k j = gi (si (si (si M 97 (mB M) e) 98 (mB M) w) 99 (mB M) y) k j := by simp only [gi, si, if_neg q]
      rw [g1, gi_ne q3, gi_ne q2, gi_ne q1]
    · have hk2 : k < mB M + 1 := by
        have e1 : cN (gi (si (si (si (si M 97 (mB M) e) 98 (mB M) w) 99 (mB M) y) 76 33 (nI (mB M + 1))) 76 33) = mB M + 1 := nI_cN (show mB M + 1 < 2 ^ 31 by omega)
        rw [e1] at hk
        exact hk
      show isN (gi (si (si (si (si M 97 (mB M) e) 98 (mB M) w) 99 (mB M) y) 76 33 (nI (mB M + 1))) 97 k) (mE M) ∧ isN (gi (si (si (si (si M 97 (mB M) e) 98 (mB M) w) 99 (mB M) y) 76 33 (nI (mB M + 1))) 98 k) (mW M) ∧ isN (gi (si (si (si (si M 97 (mB M) e) 98 (mB M) w) 99 (mB M) y) 76 33 (nI (mB M + 1))) 99 k) 10000
      by_cases e2 : k = mB M
      · subst e2
        have g1 : gi (si (si (si (si M 97 (mB M) e) 98 (mB M) w) 99 (mB M) y) 76 33 (nI (mB M + 1))) 97 (mB M) = e := (gi_ne (by decide)).trans ((gi_ne (by decide)).trans ((gi_ne (by decide)).trans gi_eq))
        have g2 : gi (si (si (si (si M 97 (mB M) e) 98 (mB M) w) 99 (mB M) y) 76 33 (nI (mB M + 1))) 98 (mB M) = w := (gi_ne (by decide)).trans ((gi_ne (by decide)).trans gi_eq)
        have g3 : gi (si (si (si (si M 97 (mB M) e) 98 (mB M) w) 99 (mB M) y) 76 33 (nI (mB M + 1))) 99 (mB M) = y := (gi_ne (by decide)).trans gi_eq
        rw [g1, g2, g3]
        exact ⟨hen, hwn, hyn⟩
      · have g1 : gi (si (si (si (si M 97 (mB M) e) 98 (mB M) w) 99 (mB M) y) 76 33 (nI (mB M + 1))) 97 k = gi M 97 k := (gi_ne (by decide)).trans ((gi_ne (by decide)).trans ((gi_ne (by decide)).trans (gi_nj e2)))
        have g2 : gi (si (si (si (si M 97 (mB M) e) 98 (mB M) w) 99 (mB M) y) 76 33 (nI (mB M + 1))) 98 k = gi M 98 k := (gi_ne (by decide)).trans ((gi_ne (by decide)).trans ((gi_nj e2).trans (gi_ne (by decide))))
        have g3 : gi (si (si (si (si M 97 (mB M) e) 98 (mB M) w) 99 (mB M) y) 76 33 (nI (mB M + 1))) 99 k = gi M 99 k := (gi_ne (by decide)).trans ((gi_nj e2).trans ((gi_ne (by decide)).trans (gi_ne (by decide))))
        rw [g1, g2, g3]
        exact bb k (show k < mB M by omega)
  · exact hI
theorem I_none {L : Nat → List Cl} {M : Hp} (hI : Inv L M) {b : Nat} (hb : b = 30 ∨ b = 33) : Inv L (si M 76 b 0) := by
  obtain ⟨b0, b2, b9, b10, b11, b12, b15, bw, be, bo, bb⟩ := hI.2.1
  rcases hb with rfl | rfl
  · exact Inv_now hI (fun k j h => nowOut (by unfold nowC; omega) h) (InvN b0 b2 b9 b10 b11 (isN_of (j := 0) rfl (by decide) (by decide)) b15 bw be (fun k hk => absurd hk (Nat.not_lt_zero _)) bb)
  · exact Inv_now hI (fun k j h => nowOut (by unfold nowC; omega) h) (InvN b0 b2 b9 b10 b11 b12 (isN_of (j := 0) rfl (by decide) (by decide)) bw be bo (fun k hk => absurd hk (Nat.not_lt_zero _)))
theorem Iq_open {L : Nat → List Cl} {M : Hp} (hI : Inv L M) (e x : Int32) (hx : x = 0 ∨ x = 1) : Inv L (q_open M e x).2 := by
  unfold q_open
  split
  · exact I_none hI (Or.inl rfl)
  · split
    · next h => exact Iq_add4 hI h hx
    · exact hI
theorem Iq_book {L : Nat → List Cl} {M : Hp} (hI : Inv L M) (e w y : Int32) : Inv L (q_book M e w y).2 := by
  unfold q_book
  split
  · exact I_none hI (Or.inr rfl)
  · split
    · next h =>
      split
      · next h2 =>
        split
        · next h3 => exact Iq_add6 hI h h2 h3
        · exact hI
      · exact hI
    · exact hI
