/-! the leaves -/
theorem b1_iff : ∀ x : Int32, (x &&& 1 = 1) ↔ ¬ x &&& 1 = 0 := by
  intro x
  rw [pk_and x (m := 1) 1 (by decide)]
  have h : x.toBitVec.toNat % 2 ^ 1 = 0 ∨ x.toBitVec.toNat % 2 ^ 1 = 1 := by omega
  rcases h with h | h <;> rw [h] <;> decide
theorem c_isUpTo {l : Launch} {G : GT} {σ : Hp} (x m : Int32) : MM l G mG_isUpTo 0 0 0 [.int x, .int m] KA σ (PZ (0 ≤ x ∧ x ≤ m) KA σ) := by
  refine MM.of (loc := [(0, .int x), (1, .int m)]) (by decide +kernel) rfl (Nat.le_of_ble_eq_true rfl) ?_
  refine V_iload_n dG_isUpTo_0 rfl ?_
  refine V_if_lt (tgt := 13) dG_isUpTo_1 rfl (fun c1 => ?_) (fun c1 => ?_)
  · skip
    refine V_iconst (v := 0) dG_isUpTo_13 (by decide) ?_
    refine V_zret dG_isUpTo_14 rfl rfl rfl ?_
    exact Or.inr ⟨by simp only [Int32.lt_iff_toInt_lt, Int32.le_iff_toInt_le, Int32.toInt_zero] at *; omega, rfl, rfl, rfl⟩
  · skip
    refine V_iload_n dG_isUpTo_4 rfl ?_
    refine V_iload_n dG_isUpTo_5 rfl ?_
    refine V_icmp_gt (tgt := 13) dG_isUpTo_6 rfl (fun c6 => ?_) (fun c6 => ?_)
    · skip
      refine V_iconst (v := 0) dG_isUpTo_13 (by decide) ?_
      refine V_zret dG_isUpTo_14 rfl rfl rfl ?_
      exact Or.inr ⟨by simp only [Int32.lt_iff_toInt_lt, Int32.le_iff_toInt_le, Int32.toInt_zero] at *; omega, rfl, rfl, rfl⟩
    · skip
      refine V_iconst (v := 1) dG_isUpTo_9 (by decide) ?_
      refine V_goto (tgt := 14) dG_isUpTo_10 rfl ?_
      refine V_zret dG_isUpTo_14 rfl rfl rfl ?_
      exact Or.inl ⟨by simp only [Int32.lt_iff_toInt_lt, Int32.le_iff_toInt_le, Int32.toInt_zero] at *; omega, rfl, rfl, rfl⟩
theorem c_isChance {l : Launch} {G : GT} {σ : Hp} (x : Int32) : MM l G mG_isChance 0 0 0 [.int x] KA σ (PZ (1 ≤ x ∧ x ≤ 30) KA σ) := by
  refine MM.of (loc := [(0, .int x)]) (by decide +kernel) rfl (Nat.le_of_ble_eq_true rfl) ?_
  refine V_iload_n dG_isChance_0 rfl ?_
  refine V_iconst (v := 1) dG_isChance_1 (by decide) ?_
  refine V_icmp_lt (tgt := 15) dG_isChance_2 rfl (fun c2 => ?_) (fun c2 => ?_)
  · skip
    refine V_iconst (v := 0) dG_isChance_15 (by decide) ?_
    refine V_zret dG_isChance_16 rfl rfl rfl ?_
    exact Or.inr ⟨by simp only [Int32.lt_iff_toInt_lt, Int32.le_iff_toInt_le, Int32.toInt_zero] at *; omega, rfl, rfl, rfl⟩
  · skip
    refine V_iload_n dG_isChance_5 rfl ?_
    refine V_bipush (v := 30) dG_isChance_6 (by decide) ?_
    refine V_icmp_gt (tgt := 15) dG_isChance_8 rfl (fun c8 => ?_) (fun c8 => ?_)
    · skip
      refine V_iconst (v := 0) dG_isChance_15 (by decide) ?_
      refine V_zret dG_isChance_16 rfl rfl rfl ?_
      exact Or.inr ⟨by simp only [Int32.lt_iff_toInt_lt, Int32.le_iff_toInt_le, Int32.toInt_zero] at *; omega, rfl, rfl, rfl⟩
    · skip
      refine V_iconst (v := 1) dG_isChance_11 (by decide) ?_
      refine V_goto (tgt := 16) dG_isChance_12 rfl ?_
      refine V_zret dG_isChance_16 rfl rfl rfl ?_
      exact Or.inl ⟨by simp only [Int32.lt_iff_toInt_lt, Int32.le_iff_toInt_le, Int32.toInt_zero] at *; omega, rfl, rfl, rfl⟩
theorem c_isWithin {l : Launch} {G : GT} {σ : Hp} (x m : Int32) : MM l G mG_isWithin 0 0 0 [.int x, .int m] KA σ (PZ (x >>> (m &&& 31) = 0) KA σ) := by
  refine MM.of (loc := [(0, .int x), (1, .int m)]) (by decide +kernel) rfl (Nat.le_of_ble_eq_true rfl) ?_
  refine V_iload_n dG_isWithin_0 rfl ?_
  refine V_iload_n dG_isWithin_1 rfl ?_
  refine V_ishr dG_isWithin_2 ?_
  refine V_if_ne (tgt := 10) dG_isWithin_3 rfl (fun c3 => ?_) (fun c3 => ?_)
  · skip
    refine V_iconst (v := 0) dG_isWithin_10 (by decide) ?_
    exact V_zret dG_isWithin_11 rfl rfl rfl (Or.inr ⟨by first | assumption | exact (fun h => h (by assumption)), rfl, rfl, rfl⟩)
  · skip
    refine V_iconst (v := 1) dG_isWithin_6 (by decide) ?_
    refine V_goto (tgt := 11) dG_isWithin_7 rfl ?_
    exact V_zret dG_isWithin_11 rfl rfl rfl (Or.inl ⟨by assumption, rfl, rfl, rfl⟩)
theorem c_hasBit {l : Launch} {G : GT} {σ : Hp} (x m : Int32) : MM l G mG_hasBit 0 0 0 [.int x, .int m] KA σ (PZ (hasB x m) KA σ) := by
  refine MM.of (loc := [(0, .int x), (1, .int m)]) (by decide +kernel) rfl (Nat.le_of_ble_eq_true rfl) ?_
  refine V_iload_n dG_hasBit_0 rfl ?_
  refine V_iload_n dG_hasBit_1 rfl ?_
  refine V_ishr dG_hasBit_2 ?_
  refine V_iconst (v := 1) dG_hasBit_3 (by decide) ?_
  refine V_iand dG_hasBit_4 ?_
  refine V_if_eq (tgt := 12) dG_hasBit_5 rfl (fun c5 => ?_) (fun c5 => ?_)
  · skip
    refine V_iconst (v := 0) dG_hasBit_12 (by decide) ?_
    exact V_zret dG_hasBit_13 rfl rfl rfl (Or.inr ⟨by first | assumption | exact (fun h => h (by assumption)), rfl, rfl, rfl⟩)
  · skip
    refine V_iconst (v := 1) dG_hasBit_8 (by decide) ?_
    refine V_goto (tgt := 13) dG_hasBit_9 rfl ?_
    exact V_zret dG_hasBit_13 rfl rfl rfl (Or.inl ⟨by assumption, rfl, rfl, rfl⟩)
theorem m_in {l : Launch} {G : GT} {σ : Hp} (x a b : Int32) : MM l G mM_in 0 0 0 [.ref 76, .int x, .int a, .int b] KA σ (PZ (a ≤ x ∧ x ≤ b) KA σ) := by
  refine MM.of (loc := [(0, .ref 76), (1, .int x), (2, .int a), (3, .int b)]) (by decide +kernel) rfl (Nat.le_of_ble_eq_true rfl) ?_
  refine V_iload_n dM_in_0 rfl ?_
  refine V_iload_n dM_in_1 rfl ?_
  refine V_icmp_lt (tgt := 14) dM_in_2 rfl (fun c2 => ?_) (fun c2 => ?_)
  · skip
    refine V_iconst (v := 0) dM_in_14 (by decide) ?_
    refine V_zret dM_in_15 rfl rfl rfl ?_
    exact Or.inr ⟨by simp only [Int32.lt_iff_toInt_lt, Int32.le_iff_toInt_le, Int32.toInt_zero] at *; omega, rfl, rfl, rfl⟩
  · skip
    refine V_iload_n dM_in_5 rfl ?_
    refine V_iload_n dM_in_6 rfl ?_
    refine V_icmp_gt (tgt := 14) dM_in_7 rfl (fun c7 => ?_) (fun c7 => ?_)
    · skip
      refine V_iconst (v := 0) dM_in_14 (by decide) ?_
      refine V_zret dM_in_15 rfl rfl rfl ?_
      exact Or.inr ⟨by simp only [Int32.lt_iff_toInt_lt, Int32.le_iff_toInt_le, Int32.toInt_zero] at *; omega, rfl, rfl, rfl⟩
    · skip
      refine V_iconst (v := 1) dM_in_10 (by decide) ?_
      refine V_goto (tgt := 15) dM_in_11 rfl ?_
      refine V_zret dM_in_15 rfl rfl rfl ?_
      exact Or.inl ⟨by simp only [Int32.lt_iff_toInt_lt, Int32.le_iff_toInt_le, Int32.toInt_zero] at *; omega, rfl, rfl, rfl⟩
theorem m_has {l : Launch} {G : GT} {σ : Hp} (x m : Int32) : MM l G mM_has 0 0 0 [.ref 76, .int x, .int m] KA σ (PZ (hasB x m) KA σ) := by
  refine MM.of (loc := [(0, .ref 76), (1, .int x), (2, .int m)]) (by decide +kernel) rfl (Nat.le_of_ble_eq_true rfl) ?_
  refine V_iload_n dM_has_0 rfl ?_
  refine V_iload_n dM_has_1 rfl ?_
  refine V_ishr dM_has_2 ?_
  refine V_iconst (v := 1) dM_has_3 (by decide) ?_
  refine V_iand dM_has_4 ?_
  refine V_iconst (v := 1) dM_has_5 (by decide) ?_
  refine V_icmp_ne (tgt := 13) dM_has_6 rfl (fun c6 => ?_) (fun c6 => ?_)
  · skip
    refine V_iconst (v := 0) dM_has_13 (by decide) ?_
    exact V_zret dM_has_14 rfl rfl rfl (Or.inr ⟨fun h => (by assumption : ¬ _ = (1 : Int32)) ((b1_iff _).mpr h), rfl, rfl, rfl⟩)
  · skip
    refine V_iconst (v := 1) dM_has_9 (by decide) ?_
    refine V_goto (tgt := 14) dM_has_10 rfl ?_
    exact V_zret dM_has_14 rfl rfl rfl (Or.inl ⟨(b1_iff _).mp (by assumption), rfl, rfl, rfl⟩)
