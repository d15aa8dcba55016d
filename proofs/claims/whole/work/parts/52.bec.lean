/-! the first object: rows become as others -/
/-- s is sigma, with a's rows at b -/
def WC (σ s : Hp) (a b : Nat) : Prop := (∀ k j : Nat, gi s k j = if k = b ∧ j = 0 then gi σ a 0 else if k = b + 1 ∧ j < 24 then gi σ (a + 1) j else gi σ k j) ∧ (∀ k j : Nat, gl s k j = gl σ k j) ∧ ∀ k j : Nat, gr s k j = gr σ k j
theorem WC_end {σ : Hp} {a b : Nat} (hab : a ≠ b ∧ a + 1 ≠ b ∧ a ≠ b + 1) : WC σ (ci (si σ b 0 (gi σ a 0)) (a + 1) (b + 1) 0 0 24) a b := by
  refine ⟨fun k j => ?_, fun _ _ => rfl, fun _ _ => rfl⟩
  obtain ⟨h1, h2, h3⟩ := hab
  show (if k = b + 1 ∧ 0 ≤ j ∧ j < 0 + 24 then gi (si σ b 0 (gi σ a 0)) (a + 1) (0 + (j - 0)) else gi (si σ b 0 (gi σ a 0)) k j) = _
  by_cases hk : k = b + 1
  · subst hk
    rw [if_neg (show ¬ (b + 1 = b ∧ j = 0) by omega)]
    by_cases hj : j < 24
    · rw [if_pos (by omega), if_pos (by omega), gi_ne h2, Nat.zero_add, Nat.sub_zero]
    · rw [if_neg (by omega), if_neg (by omega), gi_ne (by omega)]
  · rw [if_neg (by omega)]
    by_cases hb : k = b
    · subst hb
      by_cases hj : j = 0
      · subst hj
        rw [if_pos ⟨rfl, rfl⟩, gi_eq]
      · rw [if_neg (by omega), if_neg (by omega), gi_nj hj]
    · rw [if_neg (by omega), if_neg (by omega), gi_ne hb]
theorem c_becomeW {l : Launch} {G : GT} {σ : Hp} (hR : RF σ) {a b : Nat} (hab : a ≠ b ∧ a + 1 ≠ b ∧ a ≠ b + 1) (ka : KA[a]? = some (6, 2)) (kb : KA[b]? = some (6, 2)) (ka1 : KA[a + 1]? = some (20, 24)) (kb1 : KA[b + 1]? = some (20, 24)) (ra : gr σ a 1 = some (a + 1)) (rb : gr σ b 1 = some (b + 1)) : MM l G mW_becomeAs 1 0 0 [.ref b, .ref a] KA σ (fun r k s => r = none ∧ KA = k ∧ WC σ s a b) := by
  refine MM.of (loc := [(0, .ref b), (1, .ref a)]) (by decide +kernel) rfl (Nat.le_of_ble_eq_true rfl) ?_
  refine V_aload_n dW_becomeAs_0 rfl ?_
  refine V_aload_n dW_becomeAs_1 rfl ?_
  refine V_getE (x := gi σ a 0) dW_becomeAs_2 flW_15 ka rfl rfl ?_
  refine V_putI dW_becomeAs_5 flW_15 (fpW_0 _) (Or.inl rfl) kb rfl ?_
  refine V_aload_n dW_becomeAs_8 rfl ?_
  refine V_getR (a := a + 1) dW_becomeAs_9 flW_11 ka rfl ra ?_
  refine V_iconst (v := 0) dW_becomeAs_12 (by decide) ?_
  refine V_aload_n dW_becomeAs_13 rfl ?_
  refine V_getR (a := b + 1) dW_becomeAs_14 flW_11 kb rfl rb ?_
  refine V_iconst (v := 0) dW_becomeAs_17 (by decide) ?_
  refine V_aload_n dW_becomeAs_18 rfl ?_
  refine V_getR (a := b + 1) dW_becomeAs_19 flW_11 kb rfl rb ?_
  refine V_alen (t0 := 0) (v := 24) dW_becomeAs_22 kb1 (by decide) rfl (by decide) ?_
  refine V_copyi (k0 := a + 1) (k1 := b + 1) (n0 := 24) (n1 := 24) rfl dW_becomeAs_23 mlW_19 acn acs iniJY ka1 kb1 (by decide) (by decide) (by decide) (by decide) (by decide) (by decide) (Nat.le_of_ble_eq_true rfl) ?_
  exact V_ret dW_becomeAs_26 rfl rfl ⟨rfl, rfl, WC_end hab⟩
