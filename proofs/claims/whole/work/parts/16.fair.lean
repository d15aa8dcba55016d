/-! the fair: questions -/
def PF (x : Int32) (n : Nat) (kds : List Kd) (σ : Hp) : Option Value → List Kd → Hp → Prop := fun r k s => (∃ j : Nat, j < n ∧ x = nI j ∧ r = some (.ref (8 + 2 * j)) ∧ k = kds ∧ s = σ) ∨ (¬ rng x n ∧ r = some .null ∧ k = kds ∧ s = σ)
theorem lt9 {M : Hp} {L : Nat → List Cl} {n : Nat} (hI : Inv L M) (h : n < mE M) : n < 8 := by have := (iE hI).2; omega
theorem lt7 {M : Hp} {L : Nat → List Cl} {n : Nat} (hI : Inv L M) (h : n < mW M) : n < 6 := by have := (iW hI).2; omega
theorem sm9 {M : Hp} {L : Nat → List Cl} (hI : Inv L M) : mE M < 2 ^ 31 := by have := (iE hI).2; omega
theorem sm7 {M : Hp} {L : Nat → List Cl} (hI : Inv L M) : mW M < 2 ^ 31 := by have := (iW hI).2; omega
theorem c_hasWorld {l : Launch} {G : GT} {L : Nat → List Cl} {M σ : Hp} (hC : RC L M σ) (hI : Inv L M) (x : Int32) : MM l G mF_hasWorld 0 0 0 [.ref 1, .int x] KA σ (PZ (rng x (mW M)) KA σ) := by
  have hR := hC.1
  refine MM.of (loc := [(0, .ref 1), (1, .int x)]) (by decide +kernel) rfl (Nat.le_of_ble_eq_true rfl) ?_
  rcases ix_c x (mW M) (sm7 hI) with ⟨j, hj, rfl⟩ | hx
  · skip
    refine V_iload_n dF_hasWorld_0 rfl ?_
    refine V_if_lt (tgt := 16) dF_hasWorld_1 rfl (fun h => absurd h (nI_pos (Nat.lt_trans hj (sm7 hI)))) (fun _ => ?_)
    refine V_iload_n dF_hasWorld_4 rfl ?_
    refine V_aload_n dF_hasWorld_5 rfl ?_
    refine V_getE (x := nI (mW M)) dF_hasWorld_6 flF_38 k1 rfl (cW hC hI) ?_
    refine V_icmp_ge (tgt := 16) dF_hasWorld_9 rfl (fun h => absurd h (nI_ge hj (sm7 hI))) (fun _ => ?_)
    refine V_iconst (v := 1) dF_hasWorld_12 (by decide) ?_
    refine V_goto (tgt := 17) dF_hasWorld_13 rfl ?_
    exact V_zret dF_hasWorld_17 rfl rfl rfl (Or.inl ⟨rng_n hj (sm7 hI), rfl, rfl, rfl⟩)
  · skip
    refine V_iload_n dF_hasWorld_0 rfl ?_
    refine V_if_lt (tgt := 16) dF_hasWorld_1 rfl (fun c1 => ?_) (fun c1 => ?_)
    · skip
      refine V_iconst (v := 0) dF_hasWorld_16 (by decide) ?_
      exact V_zret dF_hasWorld_17 rfl rfl rfl (Or.inr ⟨hx, rfl, rfl, rfl⟩)
    · skip
      refine V_iload_n dF_hasWorld_4 rfl ?_
      refine V_aload_n dF_hasWorld_5 rfl ?_
      refine V_getE (x := nI (mW M)) dF_hasWorld_6 flF_38 k1 rfl (cW hC hI) ?_
      refine V_icmp_ge (tgt := 16) dF_hasWorld_9 rfl (fun c9 => ?_) (fun c9 => ?_)
      · skip
        refine V_iconst (v := 0) dF_hasWorld_16 (by decide) ?_
        exact V_zret dF_hasWorld_17 rfl rfl rfl (Or.inr ⟨hx, rfl, rfl, rfl⟩)
      · skip
        refine V_iconst (v := 1) dF_hasWorld_12 (by decide) ?_
        refine V_goto (tgt := 17) dF_hasWorld_13 rfl ?_
        exact V_zret dF_hasWorld_17 rfl rfl rfl (absurd ⟨Int32.not_lt.mp c1, Int32.not_le.mp c9⟩ hx)
theorem c_find {l : Launch} {G : GT} {L : Nat → List Cl} {M σ : Hp} (hC : RC L M σ) (hI : Inv L M) (x : Int32) : MM l G mF_find 0 0 0 [.ref 1, .int x] KA σ (PF x (mE M) KA σ) := by
  have hR := hC.1
  refine MM.of (loc := [(0, .ref 1), (1, .int x)]) (by decide +kernel) rfl (Nat.le_of_ble_eq_true rfl) ?_
  rcases ix_c x (mE M) (sm9 hI) with ⟨j, hj, rfl⟩ | hx
  · skip
    refine V_iload_n dF_find_0 rfl ?_
    refine V_if_lt (tgt := 21) dF_find_1 rfl (fun h => absurd h (nI_pos (Nat.lt_trans hj (sm9 hI)))) (fun _ => ?_)
    refine V_iload_n dF_find_4 rfl ?_
    refine V_aload_n dF_find_5 rfl ?_
    refine V_getE (x := nI (mE M)) dF_find_6 flF_47 k1 rfl (cE hC hI) ?_
    refine V_icmp_ge (tgt := 21) dF_find_9 rfl (fun h => absurd h (nI_ge hj (sm9 hI))) (fun _ => ?_)
    refine V_aload_n dF_find_12 rfl ?_
    refine V_getR (a := 3) dF_find_13 flF_17 k1 rfl (r1_3 hR) ?_
    refine V_iload_n dF_find_16 rfl ?_
    refine V_aaldN (j := j) (a := 8 + 2 * j) dF_find_17 k3 rfl (lt9 hI hj) (by decide) (rE hR (lt9 hI hj)) ?_
    refine V_goto (tgt := 22) dF_find_18 rfl ?_
    exact V_aret dF_find_22 rfl (by first | exact Or.inl rfl | exact Or.inr ⟨_, rfl⟩) rfl (Or.inl ⟨j, hj, rfl, rfl, rfl, rfl⟩)
  · skip
    refine V_iload_n dF_find_0 rfl ?_
    refine V_if_lt (tgt := 21) dF_find_1 rfl (fun c1 => ?_) (fun c1 => ?_)
    · skip
      refine V_null dF_find_21 ?_
      exact V_aret dF_find_22 rfl (by first | exact Or.inl rfl | exact Or.inr ⟨_, rfl⟩) rfl (Or.inr ⟨hx, rfl, rfl, rfl⟩)
    · skip
      refine V_iload_n dF_find_4 rfl ?_
      refine V_aload_n dF_find_5 rfl ?_
      refine V_getE (x := nI (mE M)) dF_find_6 flF_47 k1 rfl (cE hC hI) ?_
      refine V_icmp_ge (tgt := 21) dF_find_9 rfl (fun c9 => ?_) (fun c9 => ?_)
      · skip
        refine V_null dF_find_21 ?_
        exact V_aret dF_find_22 rfl (by first | exact Or.inl rfl | exact Or.inr ⟨_, rfl⟩) rfl (Or.inr ⟨hx, rfl, rfl, rfl⟩)
      · exact absurd ⟨Int32.not_lt.mp c1, Int32.not_le.mp c9⟩ hx --done
theorem c_allWorlds {l : Launch} {G : GT} {L : Nat → List Cl} {M σ : Hp} (hC : RC L M σ) (hI : Inv L M) : MM l G mF_allWorlds 0 0 0 [.ref 1] KA σ (PE (some (.int (allS M))) KA σ) := by
  have hR := hC.1
  refine MM.of (loc := [(0, .ref 1)]) (by decide +kernel) rfl (Nat.le_of_ble_eq_true rfl) ?_
  refine V_iconst (v := 1) dF_allWorlds_0 (by decide) ?_
  refine V_aload_n dF_allWorlds_1 rfl ?_
  refine V_getE (x := nI (mW M)) dF_allWorlds_2 flF_38 k1 rfl (cW hC hI) ?_
  refine V_ishl dF_allWorlds_5 ?_
  refine V_iconst (v := 1) dF_allWorlds_6 (by decide) ?_
  refine V_isub dF_allWorlds_7 ?_
  exact V_iret dF_allWorlds_8 rfl rfl ⟨rfl, rfl, rfl⟩
theorem c_allEnvelopes {l : Launch} {G : GT} {L : Nat → List Cl} {M σ : Hp} (hC : RC L M σ) (hI : Inv L M) : MM l G mF_allEnvelopes 0 0 0 [.ref 1] KA σ (PE (some (.int (allE M))) KA σ) := by
  have hR := hC.1
  refine MM.of (loc := [(0, .ref 1)]) (by decide +kernel) rfl (Nat.le_of_ble_eq_true rfl) ?_
  refine V_iconst (v := 1) dF_allEnvelopes_0 (by decide) ?_
  refine V_aload_n dF_allEnvelopes_1 rfl ?_
  refine V_getE (x := nI (mE M)) dF_allEnvelopes_2 flF_47 k1 rfl (cE hC hI) ?_
  refine V_ishl dF_allEnvelopes_5 ?_
  refine V_iconst (v := 1) dF_allEnvelopes_6 (by decide) ?_
  refine V_isub dF_allEnvelopes_7 ?_
  exact V_iret dF_allEnvelopes_8 rfl rfl ⟨rfl, rfl, rfl⟩
theorem c_chancesOf {l : Launch} {G : GT} {L : Nat → List Cl} {M σ : Hp} (hC : RC L M σ) (hI : Inv L M) (set : Int32) : MM l G mF_chancesOf 1 0 0 [.ref 1, .int set] KA σ (PE (some (.int (chS M set (mW M)))) KA σ) := by
  have hR := hC.1
  refine MM.of (loc := [(0, .ref 1), (1, .int set)]) (by decide +kernel) rfl (Nat.le_of_ble_eq_true rfl) ?_
  refine V_iconst (v := 0) dF_chancesOf_0 (by decide) ?_
  refine V_istore_n (loc' := [(2, .int 0), (0, .ref 1), (1, .int set)]) dF_chancesOf_1 (by decide) rfl ?_
  refine V_iconst (v := 0) dF_chancesOf_2 (by decide) ?_
  refine V_istore_n (loc' := [(3, .int 0), (2, .int 0), (0, .ref 1), (1, .int set)]) dF_chancesOf_3 (by decide) rfl ?_
  refine V.locs (loc' := [(3, .int 0), (2, .int 0), (0, .ref 1), (1, .int set)]) [0, 1, 2, 3] rfl ?_
  refine V_eqL (loc' := [(3, .int (nI 0)), (2, .int (chS M set 0)), (0, .ref 1), (1, .int set)]) (by first | rfl | simp) ?_
  skip
  have lp : ∀ n : Nat, n ≤ mW M → V l G mF_chancesOf (rmd 1 0 0) (KA.length + 0) 0 4 [(3, .int (nI n)), (2, .int (chS M set n)), (0, .ref 1), (1, .int set)] [] KA σ (PE (some (.int (chS M set (mW M)))) KA σ) := by
    refine lp_up (mW M) ?_ (fun n hn ihn => ?_)
    · skip
      refine V_iload_n dF_chancesOf_4 rfl ?_
      refine V_aload_n dF_chancesOf_5 rfl ?_
      refine V_getE (x := nI (mW M)) dF_chancesOf_6 flF_38 k1 rfl (cW hC hI) ?_
      refine V_icmp_ge (tgt := 35) dF_chancesOf_9 rfl (fun _ => ?_) (fun h => absurd h (not_not_intro (nI_le (Nat.le_refl _) (sm7 hI))))
      refine V_iload_n dF_chancesOf_35 rfl ?_
      exact V_iret dF_chancesOf_36 rfl rfl ⟨rfl, rfl, rfl⟩
    · skip
      refine V_iload_n dF_chancesOf_4 rfl ?_
      refine V_aload_n dF_chancesOf_5 rfl ?_
      refine V_getE (x := nI (mW M)) dF_chancesOf_6 flF_38 k1 rfl (cW hC hI) ?_
      refine V_icmp_ge (tgt := 35) dF_chancesOf_9 rfl (fun h => absurd h (nI_ge hn (sm7 hI))) (fun _ => ?_)
      refine V_iload_n dF_chancesOf_12 rfl ?_
      refine V_iload_n dF_chancesOf_13 rfl ?_
      refine V_callSN (host := "GuessFair") (as := [.int set, .int (nI n)]) (rest := []) (bs' := 0) rfl dF_chancesOf_14 cmG_hasBit stG_hasBit (by decide) rfl rfl (c_hasBit set (nI n)) (by decide) (by decide) (by decide) (Nat.le_of_ble_eq_true rfl) ?_
      rintro _ _ _ (⟨hb, rfl, rfl, rfl⟩ | ⟨hb, rfl, rfl, rfl⟩) -
      · refine V_one ?_
        refine V_if_eq (tgt := 29) dF_chancesOf_17 rfl (fun h => absurd h (by decide)) (fun _ => ?_)
        refine V_iload_n dF_chancesOf_20 rfl ?_
        refine V_aload_n dF_chancesOf_21 rfl ?_
        refine V_getR (a := 2) dF_chancesOf_22 flF_9 k1 rfl (r1_1 hR) ?_
        refine V_iload_n dF_chancesOf_25 rfl ?_
        refine V_ialdN (j := n) dF_chancesOf_26 k2 rfl (lt7 hI hn) (by decide) ?_
        refine V_topI (x' := gi M 77 n) (eC hC (lt7 hI hn)) ?_
        refine V_iadd dF_chancesOf_27 ?_
        refine V_istore_n (loc' := [(2, .int ((chS M set n) + (gi M 77 n))), (3, .int (nI n)), (0, .ref 1), (1, .int set)]) dF_chancesOf_28 (by decide) rfl ?_
        refine V_iinc (v := nI (n + 1)) (loc' := [(3, .int (nI (n + 1))), (2, .int ((chS M set n) + (gi M 77 n))), (0, .ref 1), (1, .int set)]) dF_chancesOf_29 rfl (nI_inc n) (by decide) rfl ?_
        refine V_goto (tgt := 4) dF_chancesOf_32 rfl ?_
        refine V.locs (loc' := [(3, .int (nI (n + 1))), (2, .int ((chS M set n) + (gi M 77 n))), (0, .ref 1), (1, .int set)]) [0, 1, 2, 3] rfl ?_
        refine V_eqL (loc' := [(3, .int (nI (n + 1))), (2, .int (chS M set (n + 1))), (0, .ref 1), (1, .int set)]) (by simp [chS, sumI, hb]) ?_
        exact ihn
      · refine V_one ?_
        refine V_if_eq (tgt := 29) dF_chancesOf_17 rfl (fun _ => ?_) (fun h => absurd h (by decide))
        refine V_iinc (v := nI (n + 1)) (loc' := [(3, .int (nI (n + 1))), (2, .int (chS M set n)), (0, .ref 1), (1, .int set)]) dF_chancesOf_29 rfl (nI_inc n) (by decide) rfl ?_
        refine V_goto (tgt := 4) dF_chancesOf_32 rfl ?_
        refine V.locs (loc' := [(3, .int (nI (n + 1))), (2, .int (chS M set n)), (0, .ref 1), (1, .int set)]) [0, 1, 2, 3] rfl ?_
        refine V_eqL (loc' := [(3, .int (nI (n + 1))), (2, .int (chS M set (n + 1))), (0, .ref 1), (1, .int set)]) (by simp [chS, sumI, hb]) ?_
        exact ihn
  exact lp 0 (Nat.zero_le _)
theorem c_trueInAll {l : Launch} {G : GT} {L : Nat → List Cl} {M σ : Hp} (hC : RC L M σ) (hI : Inv L M) (set : Int32) : MM l G mF_trueInAll 0 0 0 [.ref 1, .int set] KA σ (PE (some (.int (knewS M set (mE M)))) KA σ) := by
  have hR := hC.1
  refine MM.of (loc := [(0, .ref 1), (1, .int set)]) (by decide +kernel) rfl (Nat.le_of_ble_eq_true rfl) ?_
  refine V_iconst (v := 0) dF_trueInAll_0 (by decide) ?_
  refine V_istore_n (loc' := [(2, .int 0), (0, .ref 1), (1, .int set)]) dF_trueInAll_1 (by decide) rfl ?_
  refine V_iconst (v := 0) dF_trueInAll_2 (by decide) ?_
  refine V_istore_n (loc' := [(3, .int 0), (2, .int 0), (0, .ref 1), (1, .int set)]) dF_trueInAll_3 (by decide) rfl ?_
  refine V.locs (loc' := [(3, .int 0), (2, .int 0), (0, .ref 1), (1, .int set)]) [0, 1, 2, 3] rfl ?_
  refine V_eqL (loc' := [(3, .int (nI 0)), (2, .int (knewS M set 0)), (0, .ref 1), (1, .int set)]) (by first | rfl | simp) ?_
  skip
  have lp : ∀ n : Nat, n ≤ mE M → V l G mF_trueInAll (rmd 0 0 0) (KA.length + 0) 0 4 [(3, .int (nI n)), (2, .int (knewS M set n)), (0, .ref 1), (1, .int set)] [] KA σ (PE (some (.int (knewS M set (mE M)))) KA σ) := by
    refine lp_up (mE M) ?_ (fun n hn ihn => ?_)
    · skip
      refine V_iload_n dF_trueInAll_4 rfl ?_
      refine V_aload_n dF_trueInAll_5 rfl ?_
      refine V_getE (x := nI (mE M)) dF_trueInAll_6 flF_47 k1 rfl (cE hC hI) ?_
      refine V_icmp_ge (tgt := 44) dF_trueInAll_9 rfl (fun _ => ?_) (fun h => absurd h (not_not_intro (nI_le (Nat.le_refl _) (sm9 hI))))
      refine V_iload_n dF_trueInAll_44 rfl ?_
      exact V_iret dF_trueInAll_45 rfl rfl ⟨rfl, rfl, rfl⟩
    · skip
      refine V_iload_n dF_trueInAll_4 rfl ?_
      refine V_aload_n dF_trueInAll_5 rfl ?_
      refine V_getE (x := nI (mE M)) dF_trueInAll_6 flF_47 k1 rfl (cE hC hI) ?_
      refine V_icmp_ge (tgt := 44) dF_trueInAll_9 rfl (fun h => absurd h (nI_ge hn (sm9 hI))) (fun _ => ?_)
      refine V_iload_n dF_trueInAll_12 rfl ?_
      refine V_if_eq (tgt := 38) dF_trueInAll_13 rfl (fun c13 => ?_) (fun c13 => ?_)
      · skip
        refine V_iinc (v := nI (n + 1)) (loc' := [(3, .int (nI (n + 1))), (2, .int (knewS M set n)), (0, .ref 1), (1, .int set)]) dF_trueInAll_38 rfl (nI_inc n) (by decide) rfl ?_
        refine V_goto (tgt := 4) dF_trueInAll_41 rfl ?_
        refine V.locs (loc' := [(3, .int (nI (n + 1))), (2, .int (knewS M set n)), (0, .ref 1), (1, .int set)]) [0, 1, 2, 3] rfl ?_
        refine V_eqL (loc' := [(3, .int (nI (n + 1))), (2, .int (knewS M set (n + 1))), (0, .ref 1), (1, .int set)]) (by simp_all [knewS, orI]) ?_
        exact ihn
      · skip
        refine V_iload_n dF_trueInAll_16 rfl ?_
        refine V_aload_n dF_trueInAll_17 rfl ?_
        refine V_getR (a := 3) dF_trueInAll_18 flF_17 k1 rfl (r1_3 hR) ?_
        refine V_iload_n dF_trueInAll_21 rfl ?_
        refine V_aaldN (j := n) (a := 8 + 2 * n) dF_trueInAll_22 k3 rfl (lt9 hI hn) (by decide) (rE hR (lt9 hI hn)) ?_
        refine V_getE (x := gi M 80 n) dF_trueInAll_23 flF_69 (kE _ (lt9 hI hn)) rfl (eS hC (lt9 hI hn)) ?_
        refine V_iconst (v := -1) dF_trueInAll_26 (by decide) ?_
        refine V_ixor dF_trueInAll_27 ?_
        refine V_iand dF_trueInAll_28 ?_
        refine V_if_ne (tgt := 38) dF_trueInAll_29 rfl (fun c29 => ?_) (fun c29 => ?_)
        · skip
          refine V_iinc (v := nI (n + 1)) (loc' := [(3, .int (nI (n + 1))), (2, .int (knewS M set n)), (0, .ref 1), (1, .int set)]) dF_trueInAll_38 rfl (nI_inc n) (by decide) rfl ?_
          refine V_goto (tgt := 4) dF_trueInAll_41 rfl ?_
          refine V.locs (loc' := [(3, .int (nI (n + 1))), (2, .int (knewS M set n)), (0, .ref 1), (1, .int set)]) [0, 1, 2, 3] rfl ?_
          refine V_eqL (loc' := [(3, .int (nI (n + 1))), (2, .int (knewS M set (n + 1))), (0, .ref 1), (1, .int set)]) (by simp_all [knewS, orI]) ?_
          exact ihn
        · skip
          refine V_iload_n dF_trueInAll_32 rfl ?_
          refine V_iconst (v := 1) dF_trueInAll_33 (by decide) ?_
          refine V_iload_n dF_trueInAll_34 rfl ?_
          refine V_ishl dF_trueInAll_35 ?_
          refine V_ior dF_trueInAll_36 ?_
          refine V_istore_n (loc' := [(2, .int ((knewS M set n) ||| (1 <<< ((nI n) &&& 31)))), (3, .int (nI n)), (0, .ref 1), (1, .int set)]) dF_trueInAll_37 (by decide) rfl ?_
          refine V_iinc (v := nI (n + 1)) (loc' := [(3, .int (nI (n + 1))), (2, .int ((knewS M set n) ||| (1 <<< ((nI n) &&& 31)))), (0, .ref 1), (1, .int set)]) dF_trueInAll_38 rfl (nI_inc n) (by decide) rfl ?_
          refine V_goto (tgt := 4) dF_trueInAll_41 rfl ?_
          refine V.locs (loc' := [(3, .int (nI (n + 1))), (2, .int ((knewS M set n) ||| (1 <<< ((nI n) &&& 31)))), (0, .ref 1), (1, .int set)]) [0, 1, 2, 3] rfl ?_
          refine V_eqL (loc' := [(3, .int (nI (n + 1))), (2, .int (knewS M set (n + 1))), (0, .ref 1), (1, .int set)]) (by simp_all [knewS, orI]) ?_
          exact ihn
  exact lp 0 (Nat.zero_le _)
