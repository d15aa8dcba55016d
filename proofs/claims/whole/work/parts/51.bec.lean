/-! the first object: an envelope becomes as another -/
/-- s is sigma, with cell a's fields and row at cell b -/
def EC (σ s : Hp) (a b : Nat) : Prop := (∀ k j : Nat, gi s k j = if k = b ∧ 1 ≤ j ∧ j ≤ 5 then gi σ a j else if k = b + 1 ∧ j < 4 then gi σ (a + 1) j else gi σ k j) ∧ (∀ k j : Nat, gl s k j = gl σ k j) ∧ ∀ k j : Nat, gr s k j = gr σ k j
theorem EC_end {σ : Hp} {a b : Nat} (hab : a ≠ b ∧ a + 1 ≠ b ∧ a ≠ b + 1) : EC σ (ci (si (si (si (si (si σ b 1 (gi σ a 1)) b 2 (gi σ a 2)) b 3 (gi σ a 3)) b 4 (gi σ a 4)) b 5 (gi σ a 5)) (a + 1) (b + 1) 0 0 4) a b := by
  refine ⟨fun k j => ?_, fun _ _ => rfl, fun _ _ => rfl⟩
  obtain ⟨h1, h2, h3⟩ := hab
  show (if k = b + 1 ∧ 0 ≤ j ∧ j < 0 + 4 then gi (si (si (si (si (si σ b 1 (gi σ a 1)) b 2 (gi σ a 2)) b 3 (gi σ a 3)) b 4 (gi σ a 4)) b 5 (gi σ a 5)) (a + 1) (0 + (j - 0)) else gi (si (si (si (si (si σ b 1 (gi σ a 1)) b 2 (gi σ a 2)) b 3 (gi σ a 3)) b 4 (gi σ a 4)) b 5 (gi σ a 5)) k j) = _
  by_cases hk : k = b + 1
  · subst hk
    rw [if_neg (show ¬ (b + 1 = b ∧ 1 ≤ j ∧ j ≤ 5) by omega)]
    by_cases hj : j < 4
    · rw [if_pos (by omega), if_pos (by omega), gi_ne h2, gi_ne h2, gi_ne h2, gi_ne h2, gi_ne h2, Nat.zero_add, Nat.sub_zero]
    · rw [if_neg (by omega), if_neg (by omega), gi_ne (by omega), gi_ne (by omega), gi_ne (by omega), gi_ne (by omega), gi_ne (by omega)]
  · rw [if_neg (by omega)]
    by_cases hb : k = b
    · subst hb
      by_cases hj : 1 ≤ j ∧ j ≤ 5
      · rw [if_pos ⟨rfl, hj⟩]
        have h : j = 1 ∨ j = 2 ∨ j = 3 ∨ j = 4 ∨ j = 5 := by omega
        rcases h with h | h | h | h | h <;> subst h <;> simp [gi, si]
      · rw [if_neg (by omega), if_neg (by omega), gi_nj (by omega), gi_nj (by omega), gi_nj (by omega), gi_nj (by omega), gi_nj (by omega)]
    · rw [if_neg (by omega), if_neg (by omega), gi_ne hb, gi_ne hb, gi_ne hb, gi_ne hb, gi_ne hb]
theorem c_becomeE {l : Launch} {G : GT} {σ : Hp} (hR : RF σ) {a b : Nat} (hab : a ≠ b ∧ a + 1 ≠ b ∧ a ≠ b + 1) (ka : KA[a]? = some (1, 7)) (kb : KA[b]? = some (1, 7)) (ka1 : KA[a + 1]? = some (20, 4)) (kb1 : KA[b + 1]? = some (20, 4)) (ra : gr σ a 6 = some (a + 1)) (rb : gr σ b 6 = some (b + 1)) : MM l G mE_becomeAs 1 0 0 [.ref b, .ref a] KA σ (fun r k s => r = none ∧ KA = k ∧ EC σ s a b) := by
  refine MM.of (loc := [(0, .ref b), (1, .ref a)]) (by decide +kernel) rfl (Nat.le_of_ble_eq_true rfl) ?_
  refine V_aload_n dE_becomeAs_0 rfl ?_
  refine V_aload_n dE_becomeAs_1 rfl ?_
  refine V_getE (x := gi σ a 1) dE_becomeAs_2 flE_19 ka rfl rfl ?_
  refine V_putI dE_becomeAs_5 flE_19 (fpE_1 _) (Or.inl rfl) kb rfl ?_
  refine V_aload_n dE_becomeAs_8 rfl ?_
  refine V_aload_n dE_becomeAs_9 rfl ?_
  refine V_getE (x := gi σ a 2) dE_becomeAs_10 flE_22 ka rfl (by simp only [gi_ne hab.1]) ?_
  refine V_putI dE_becomeAs_13 flE_22 (fpE_2 _) (Or.inl rfl) kb rfl ?_
  refine V_aload_n dE_becomeAs_16 rfl ?_
  refine V_aload_n dE_becomeAs_17 rfl ?_
  refine V_getE (x := gi σ a 3) dE_becomeAs_18 flE_25 ka rfl (by simp only [gi_ne hab.1]) ?_
  refine V_putI dE_becomeAs_21 flE_25 (fpE_3 _) (Or.inl rfl) kb rfl ?_
  refine V_aload_n dE_becomeAs_24 rfl ?_
  refine V_aload_n dE_becomeAs_25 rfl ?_
  refine V_getE (x := gi σ a 4) dE_becomeAs_26 flE_28 ka rfl (by simp only [gi_ne hab.1]) ?_
  refine V_putI dE_becomeAs_29 flE_28 (fpE_4 _) (Or.inl rfl) kb rfl ?_
  refine V_aload_n dE_becomeAs_32 rfl ?_
  refine V_aload_n dE_becomeAs_33 rfl ?_
  refine V_getE (x := gi σ a 5) dE_becomeAs_34 flE_31 ka rfl (by simp only [gi_ne hab.1]) ?_
  refine V_putI dE_becomeAs_37 flE_31 (fpE_5 _) (Or.inl rfl) kb rfl ?_
  refine V_aload_n dE_becomeAs_40 rfl ?_
  refine V_getR (a := a + 1) dE_becomeAs_41 flE_9 ka rfl ra ?_
  refine V_iconst (v := 0) dE_becomeAs_44 (by decide) ?_
  refine V_aload_n dE_becomeAs_45 rfl ?_
  refine V_getR (a := b + 1) dE_becomeAs_46 flE_9 kb rfl rb ?_
  refine V_iconst (v := 0) dE_becomeAs_49 (by decide) ?_
  refine V_iconst (v := 4) dE_becomeAs_50 (by decide) ?_
  refine V_copyi (k0 := a + 1) (k1 := b + 1) (n0 := 4) (n1 := 4) rfl dE_becomeAs_51 mlE_34 acn acs iniJY ka1 kb1 (by decide) (by decide) (by decide) (by decide) (by decide) (by decide) (Nat.le_of_ble_eq_true rfl) ?_
  exact V_ret dE_becomeAs_54 rfl rfl ⟨rfl, rfl, EC_end hab⟩
