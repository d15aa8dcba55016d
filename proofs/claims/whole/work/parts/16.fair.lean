/-! the fair: questions -/
def PF (x : Int32) (n : Nat) (kds : List Kd) (σ : Hp) : Option Value → List Kd → Hp → Prop := fun r k s => (∃ j : Nat, j < n ∧ x = nI j ∧ r = some (.ref (8 + 2 * j)) ∧ kds = k ∧ σ = s) ∨ (¬ rng x n ∧ r = some .null ∧ kds = k ∧ σ = s)
theorem lt9 {M : Hp} {L : Nat → List Cl} {n : Nat} (hI : Inv L M) (h : n < mE M) : n < 8 := by have := (iE hI).2; omega
theorem lt7 {M : Hp} {L : Nat → List Cl} {n : Nat} (hI : Inv L M) (h : n < mW M) : n < 6 := by have := (iW hI).2; omega
theorem sm9 {M : Hp} {L : Nat → List Cl} (hI : Inv L M) : mE M < 2 ^ 31 := by have := (iE hI).2; omega
theorem sm7 {M : Hp} {L : Nat → List Cl} (hI : Inv L M) : mW M < 2 ^ 31 := by have := (iW hI).2; omega
theorem c_hasWorld {l : Launch} {G : GT} {L : Nat → List Cl} {M σ : Hp} (hC : RC L M σ) (hI : Inv L M) (x : Int32) : MM l G mF_hasWorld 0 0 0 [.ref 1, .int x] KA σ (PZ (rng x (mW M)) KA σ) := by
  have hR := hC.1
  refine MM.of (loc := [(0, .ref 1), (1, .int x)]) (by decide +kernel) rfl (Nat.le_of_ble_eq_true rfl) ?_
  rcases ix_c x (mW M) (sm7 hI) with ⟨j, hj, rfl⟩ | hx
  · skip
    refine V_iload_n dF_hasWorld_0 rfl ?_
    refine V_if_lt (tgt := 16) dF_hasWorld_1 rfl (fun h => absurd h (nI_pos (Nat.lt_trans hj (sm7 hI)))) (fun _ => ?_)
    refine V_iload_n dF_hasWorld_4 rfl ?_
    refine V_aload_n dF_hasWorld_5 rfl ?_
    refine V_getE (x := nI (mW M)) dF_hasWorld_6 flF_38 k1 rfl (cW hC hI) ?_
    refine V_icmp_ge (tgt := 16) dF_hasWorld_9 rfl (fun h => absurd h (nI_ge hj (sm7 hI))) (fun _ => ?_)
    refine V_iconst (v := 1) dF_hasWorld_12 (by decide) ?_
    refine V_goto (tgt := 17) dF_hasWorld_13 rfl ?_
    exact V_zret dF_hasWorld_17 rfl rfl rfl (Or.inl ⟨rng_n hj (sm7 hI), rfl, rfl, rfl⟩)
  · skip
    refine V_iload_n dF_hasWorld_0 rfl ?_
    refine V_if_lt (tgt := 16) dF_hasWorld_1 rfl (fun c1 => ?_) (fun c1 => ?_)
    · skip
      refine V_iconst (v := 0) dF_hasWorld_16 (by decide) ?_
      exact V_zret dF_hasWorld_17 rfl rfl rfl (Or.inr ⟨hx, rfl, rfl, rfl⟩)
    · skip
      refine V_iload_n dF_hasWorld_4 rfl ?_
      refine V_aload_n dF_hasWorld_5 rfl ?_
      refine V_getE (x := nI (mW M)) dF_hasWorld_6 flF_38 k1 rfl (cW hC hI) ?_
      refine V_icmp_ge (tgt := 16) dF_hasWorld_9 rfl (fun c9 => ?_) (fun c9 => ?_)
      · skip
        refine V_iconst (v := 0) dF_hasWorld_16 (by decide) ?_
        exact V_zret dF_hasWorld_17 rfl rfl rfl (Or.inr ⟨hx, rfl, rfl, rfl⟩)
      · skip
        refine V_iconst (v := 1) dF_hasWorld_12 (by decide) ?_
        refine V_goto (tgt := 17) dF_hasWorld_13 rfl ?_
        exact V_zret dF_hasWorld_17 rfl rfl rfl (absurd ⟨Int32.not_lt.mp c1, Int32.not_le.mp c9⟩ hx)
theorem c_find {l : Launch} {G : GT} {L : Nat → List Cl} {M σ : Hp} (hC : RC L M σ) (hI : Inv L M) (x : Int32) : MM l G mF_find 0 0 0 [.ref 1, .int x] KA σ (PF x (mE M) KA σ) := by
  have hR := hC.1
  refine MM.of (loc := [(0, .ref 1), (1, .int x)]) (by decide +kernel) rfl (Nat.le_of_ble_eq_true rfl) ?_
  rcases ix_c x (mE M) (sm9 hI) with ⟨j, hj, rfl⟩ | hx
  · skip
    refine V_iload_n dF_find_0 rfl ?_
    refine V_if_lt (tgt := 21) dF_find_1 rfl (fun h => absurd h (nI_pos (Nat.lt_trans hj (sm9 hI)))) (fun _ => ?_)
    refine V_iload_n dF_find_4 rfl ?_
    refine V_aload_n dF_find_5 rfl ?_
    refine V_getE (x := nI (mE M)) dF_find_6 flF_47 k1 rfl (cE hC hI) ?_
    refine V_icmp_ge (tgt := 21) dF_find_9 rfl (fun h => absurd h (nI_ge hj (sm9 hI))) (fun _ => ?_)
    refine V_aload_n dF_find_12 rfl ?_
    refine V_getR (a := 3) dF_find_13 flF_17 k1 rfl (r1_3 hR) ?_
    refine V_iload_n dF_find_16 rfl ?_
    refine V_aaldN (j := j) (a := 8 + 2 * j) dF_find_17 k3 rfl (lt9 hI hj) (by decide) (rE hR (lt9 hI hj)) ?_
    refine V_goto (tgt := 22) dF_find_18 rfl ?_
    exact V_aret dF_find_22 rfl (by first | exact Or.inl rfl | exact Or.inr ⟨_, rfl⟩) rfl (Or.inl ⟨j, hj, rfl, rfl, rfl, rfl⟩)
  · skip
    refine V_iload_n dF_find_0 rfl ?_
    refine V_if_lt (tgt := 21) dF_find_1 rfl (fun c1 => ?_) (fun c1 => ?_)
    · skip
      refine V_null dF_find_21 ?_
      exact V_aret dF_find_22 rfl (by first | exact Or.inl rfl | exact Or.inr ⟨_, rfl⟩) rfl (Or.inr ⟨hx, rfl, rfl, rfl⟩)
    · skip
      refine V_iload_n dF_find_4 rfl ?_
      refine V_aload_n dF_find_5 rfl ?_
      refine V_getE (x := nI (mE M)) dF_find_6 flF_47 k1 rfl (cE hC hI) ?_
      refine V_icmp_ge (tgt := 21) dF_find_9 rfl (fun c9 => ?_) (fun c9 => ?_)
      · skip
        refine V_null dF_find_21 ?_
        exact V_aret dF_find_22 rfl (by first | exact Or.inl rfl | exact Or.inr ⟨_, rfl⟩) rfl (Or.inr ⟨hx, rfl, rfl, rfl⟩)
      · exact absurd ⟨Int32.not_lt.mp c1, Int32.not_le.mp c9⟩ hx --done
theorem c_allWorlds {l : Launch} {G : GT} {L : Nat → List Cl} {M σ : Hp} (hC : RC L M σ) (hI : Inv L M) : MM l G mF_allWorlds 0 0 0 [.ref 1] KA σ (PE (some (.int (allS M))) KA σ) := by
  have hR := hC.1
  refine MM.of (loc := [(0, .ref 1)]) (by decide +kernel) rfl (Nat.le_of_ble_eq_true rfl) ?_
  refine V_iconst (v := 1) dF_allWorlds_0 (by decide) ?_
  refine V_aload_n dF_allWorlds_1 rfl ?_
  refine V_getE (x := nI (mW M)) dF_allWorlds_2 flF_38 k1 rfl (cW hC hI) ?_
  refine V_ishl dF_allWorlds_5 ?_
  refine V_iconst (v := 1) dF_allWorlds_6 (by decide) ?_
  refine V_isub dF_allWorlds_7 ?_
  exact V_iret dF_allWorlds_8 rfl rfl ⟨rfl, rfl, rfl⟩
theorem c_allEnvelopes {l : Launch} {G : GT} {L : Nat → List Cl} {M σ : Hp} (hC : RC L M σ) (hI : Inv L M) : MM l G mF_allEnvelopes 0 0 0 [.ref 1] KA σ (PE (some (.int (allE M))) KA σ) := by
  have hR := hC.1
  refine MM.of (loc := [(0, .ref 1)]) (by decide +kernel) rfl (Nat.le_of_ble_eq_true rfl) ?_
  refine V_iconst (v := 1) dF_allEnvelopes_0 (by decide) ?_
  refine V_aload_n dF_allEnvelopes_1 rfl ?_
  refine V_getE (x := nI (mE M)) dF_allEnvelopes_2 flF_47 k1 rfl (cE hC hI) ?_
  refine V_ishl dF_allEnvelopes_5 ?_
  refine V_iconst (v := 1) dF_allEnvelopes_6 (by decide) ?_
  refine V_isub dF_allEnvelopes_7 ?_
  exact V_iret dF_allEnvelopes_8 rfl rfl ⟨rfl, rfl, rfl⟩
theorem c_chancesOf {l : Launch} {G : GT} {L : Nat → List Cl} {M σ : Hp} (hC : RC L M σ) (hI : Inv L M) (set : Int32) : MM l G mF_chancesOf 1 0 0 [.ref 1, .int set] KA σ (PE (some (.int (chS M set (mW M)))) KA σ) := by
  have hR := hC.1
  refine MM.of (loc := [(0, .ref 1), (1, .int set)]) (by decide +kernel) rfl (Nat.le_of_ble_eq_true rfl) ?_
  refine V_iconst (v := 0) dF_chancesOf_0 (by decide) ?_
  refine V_istore_n (loc' := [(2, .int 0), (0, .ref 1), (1, .int set)]) dF_chancesOf_1 (by decide) rfl ?_
  refine V_iconst (v := 0) dF_chancesOf_2 (by decide) ?_
  refine V_istore_n (loc' := [(3, .int 0), (2, .int 0), (0, .ref 1), (1, .int set)]) dF_chancesOf_3 (by decide) rfl ?_
  refine V.locs (loc' := [(3, .int 0), (2, .int 0), (0, .ref 1), (1, .int set)]) [0, 1, 2, 3] rfl ?_
  refine V_eqL (loc' := [(3, .int (nI 0)), (2, .int (chS M set 0)), (0, .ref 1), (1, .int set)]) ?_ ?_
  · first | rfl | simp
  skip
  have lp : ∀ n : Nat, n ≤ mW M → V l G mF_chancesOf (rmd 1 0 0) (KA.length + 0) 0 4 [(3, .int (nI n)), (2, .int (chS M set n)), (0, .ref 1), (1, .int set)] [] KA σ (PE (some (.int (chS M set (mW M)))) KA σ) := by
    refine lp_up (mW M) ?_ (fun n hn ihn => ?_)
    · skip
      refine V_iload_n dF_chancesOf_4 rfl ?_
      refine V_aload_n dF_chancesOf_5 rfl ?_
      refine V_getE (x := nI (mW M)) dF_chancesOf_6 flF_38 k1 rfl (cW hC hI) ?_
      refine V_icmp_ge (tgt := 35) dF_chancesOf_9 rfl (fun _ => ?_) (fun h => absurd h (not_not_intro (nI_le (Nat.le_refl _) (sm7 hI))))
      refine V_iload_n dF_chancesOf_35 rfl ?_
      exact V_iret dF_chancesOf_36 rfl rfl ⟨rfl, rfl, rfl⟩
    · skip
      refine V_iload_n dF_chancesOf_4 rfl ?_
      refine V_aload_n dF_chancesOf_5 rfl ?_
      refine V_getE (x := nI (mW M)) dF_chancesOf_6 flF_38 k1 rfl (cW hC hI) ?_
      refine V_icmp_ge (tgt := 35) dF_chancesOf_9 rfl (fun h => absurd h (nI_ge hn (sm7 hI))) (fun _ => ?_)
      refine V_iload_n dF_chancesOf_12 rfl ?_
      refine V_iload_n dF_chancesOf_13 rfl ?_
      refine V_callSN (host := "GuessFair") (as := [.int set, .int (nI n)]) (rest := []) (bs' := 0) rfl dF_chancesOf_14 cmG_hasBit stG_hasBit (by decide) rfl rfl (c_hasBit set (nI n)) (by decide) (by decide) (by decide) (Nat.le_of_ble_eq_true rfl) ?_
      rintro _ _ _ (⟨hb, rfl, rfl, rfl⟩ | ⟨hb, rfl, rfl, rfl⟩) -
      · refine V_one ?_
        refine V_if_eq (tgt := 29) dF_chancesOf_17 rfl (fun h => absurd h (by decide)) (fun _ => ?_)
        refine V_iload_n dF_chancesOf_20 rfl ?_
        refine V_aload_n dF_chancesOf_21 rfl ?_
        refine V_getR (a := 2) dF_chancesOf_22 flF_9 k1 rfl (r1_1 hR) ?_
        refine V_iload_n dF_chancesOf_25 rfl ?_
        refine V_ialdN (j := n) dF_chancesOf_26 k2 rfl (lt7 hI hn) (by decide) ?_
        refine V_topI (x' := gi M 77 n) (eC hC (lt7 hI hn)) ?_
        refine V_iadd dF_chancesOf_27 ?_
        refine V_istore_n (loc' := [(2, .int ((chS M set n) + (gi M 77 n))), (3, .int (nI n)), (0, .ref 1), (1, .int set)]) dF_chancesOf_28 (by decide) rfl ?_
        refine V_iinc (v := nI (n + 1)) (loc' := [(3, .int (nI (n + 1))), (2, .int ((chS M set n) + (gi M 77 n))), (0, .ref 1), (1, .int set)]) dF_chancesOf_29 rfl (nI_inc n) (by decide) rfl ?_
        refine V_goto (tgt := 4) dF_chancesOf_32 rfl ?_
        refine V.locs (loc' := [(3, .int (nI (n + 1))), (2, .int ((chS M set n) + (gi M 77 n))), (0, .ref 1), (1, .int set)]) [0, 1, 2, 3] rfl ?_
        refine V_eqL (loc' := [(3, .int (nI (n + 1))), (2, .int (chS M set (n + 1))), (0, .ref 1), (1, .int set)]) ?_ ?_
        · simp [chS, sumI, hb]
        exact ihn
      · refine V_one ?_
        refine V_if_eq (tgt := 29) dF_chancesOf_17 rfl (fun _ => ?_) (fun h => absurd h (by decide))
        refine V_iinc (v := nI (n + 1)) (loc' := [(3, .int (nI (n + 1))), (2, .int (chS M set n)), (0, .ref 1), (1, .int set)]) dF_chancesOf_29 rfl (nI_inc n) (by decide) rfl ?_
        refine V_goto (tgt := 4) dF_chancesOf_32 rfl ?_
        refine V.locs (loc' := [(3, .int (nI (n + 1))), (2, .int (chS M set n)), (0, .ref 1), (1, .int set)]) [0, 1, 2, 3] rfl ?_
        refine V_eqL (loc' := [(3, .int (nI (n + 1))), (2, .int (chS M set (n + 1))), (0, .ref 1), (1, .int set)]) ?_ ?_
        · simp [chS, sumI, hb]
        exact ihn
  exact lp 0 (Nat.zero_le _)
theorem c_trueInAll {l : Launch} {G : GT} {L : Nat → List Cl} {M σ : Hp} (hC : RC L M σ) (hI : Inv L M) (set : Int32) : MM l G mF_trueInAll 0 0 0 [.ref 1, .int set] KA σ (PE (some (.int (knewS M set (mE M)))) KA σ) := by
  have hR := hC.1
  refine MM.of (loc := [(0, .ref 1), (1, .int set)]) (by decide +kernel) rfl (Nat.le_of_ble_eq_true rfl) ?_
  refine V_iconst (v := 0) dF_trueInAll_0 (by decide) ?_
  refine V_istore_n (loc' := [(2, .int 0), (0, .ref 1), (1, .int set)]) dF_trueInAll_1 (by decide) rfl ?_
  refine V_iconst (v := 0) dF_trueInAll_2 (by decide) ?_
  refine V_istore_n (loc' := [(3, .int 0), (2, .int 0), (0, .ref 1), (1, .int set)]) dF_trueInAll_3 (by decide) rfl ?_
  refine V.locs (loc' := [(3, .int 0), (2, .int 0), (0, .ref 1), (1, .int set)]) [0, 1, 2, 3] rfl ?_
  refine V_eqL (loc' := [(3, .int (nI 0)), (2, .int (knewS M set 0)), (0, .ref 1), (1, .int set)]) ?_ ?_
  · first | rfl | simp
  skip
  have lp : ∀ n : Nat, n ≤ mE M → V l G mF_trueInAll (rmd 0 0 0) (KA.length + 0) 0 4 [(3, .int (nI n)), (2, .int (knewS M set n)), (0, .ref 1), (1, .int set)] [] KA σ (PE (some (.int (knewS M set (mE M)))) KA σ) := by
    refine lp_up (mE M) ?_ (fun n hn ihn => ?_)
    · skip
      refine V_iload_n dF_trueInAll_4 rfl ?_
      refine V_aload_n dF_trueInAll_5 rfl ?_
      refine V_getE (x := nI (mE M)) dF_trueInAll_6 flF_47 k1 rfl (cE hC hI) ?_
      refine V_icmp_ge (tgt := 44) dF_trueInAll_9 rfl (fun _ => ?_) (fun h => absurd h (not_not_intro (nI_le (Nat.le_refl _) (sm9 hI))))
      refine V_iload_n dF_trueInAll_44 rfl ?_
      exact V_iret dF_trueInAll_45 rfl rfl ⟨rfl, rfl, rfl⟩
    · skip
      refine V_iload_n dF_trueInAll_4 rfl ?_
      refine V_aload_n dF_trueInAll_5 rfl ?_
      refine V_getE (x := nI (mE M)) dF_trueInAll_6 flF_47 k1 rfl (cE hC hI) ?_
      refine V_icmp_ge (tgt := 44) dF_trueInAll_9 rfl (fun h => absurd h (nI_ge hn (sm9 hI))) (fun _ => ?_)
      refine V_iload_n dF_trueInAll_12 rfl ?_
      refine V_if_eq (tgt := 38) dF_trueInAll_13 rfl (fun c13 => ?_) (fun c13 => ?_)
      · skip
        refine V_iinc (v := nI (n + 1)) (loc' := [(3, .int (nI (n + 1))), (2, .int (knewS M set n)), (0, .ref 1), (1, .int set)]) dF_trueInAll_38 rfl (nI_inc n) (by decide) rfl ?_
        refine V_goto (tgt := 4) dF_trueInAll_41 rfl ?_
        refine V.locs (loc' := [(3, .int (nI (n + 1))), (2, .int (knewS M set n)), (0, .ref 1), (1, .int set)]) [0, 1, 2, 3] rfl ?_
        refine V_eqL (loc' := [(3, .int (nI (n + 1))), (2, .int (knewS M set (n + 1))), (0, .ref 1), (1, .int set)]) ?_ ?_
        · simp_all [knewS, orI]
        exact ihn
      · skip
        refine V_iload_n dF_trueInAll_16 rfl ?_
        refine V_aload_n dF_trueInAll_17 rfl ?_
        refine V_getR (a := 3) dF_trueInAll_18 flF_17 k1 rfl (r1_3 hR) ?_
        refine V_iload_n dF_trueInAll_21 rfl ?_
        refine V_aaldN (j := n) (a := 8 + 2 * n) dF_trueInAll_22 k3 rfl (lt9 hI hn) (by decide) (rE hR (lt9 hI hn)) ?_
        refine V_getE (x := gi M 80 n) dF_trueInAll_23 flF_69 (kE _ (lt9 hI hn)) rfl (eS hC (lt9 hI hn)) ?_
        refine V_iconst (v := -1) dF_trueInAll_26 (by decide) ?_
        refine V_ixor dF_trueInAll_27 ?_
        refine V_iand dF_trueInAll_28 ?_
        refine V_if_ne (tgt := 38) dF_trueInAll_29 rfl (fun c29 => ?_) (fun c29 => ?_)
        · skip
          refine V_iinc (v := nI (n + 1)) (loc' := [(3, .int (nI (n + 1))), (2, .int (knewS M set n)), (0, .ref 1), (1, .int set)]) dF_trueInAll_38 rfl (nI_inc n) (by decide) rfl ?_
          refine V_goto (tgt := 4) dF_trueInAll_41 rfl ?_
          refine V.locs (loc' := [(3, .int (nI (n + 1))), (2, .int (knewS M set n)), (0, .ref 1), (1, .int set)]) [0, 1, 2, 3] rfl ?_
          refine V_eqL (loc' := [(3, .int (nI (n + 1))), (2, .int (knewS M set (n + 1))), (0, .ref 1), (1, .int set)]) ?_ ?_
          · simp_all [knewS, orI]
          exact ihn
        · skip
          refine V_iload_n dF_trueInAll_32 rfl ?_
          refine V_iconst (v := 1) dF_trueInAll_33 (by decide) ?_
          refine V_iload_n dF_trueInAll_34 rfl ?_
          refine V_ishl dF_trueInAll_35 ?_
          refine V_ior dF_trueInAll_36 ?_
          refine V_istore_n (loc' := [(2, .int ((knewS M set n) ||| (1 <<< ((nI n) &&& 31)))), (3, .int (nI n)), (0, .ref 1), (1, .int set)]) dF_trueInAll_37 (by decide) rfl ?_
          refine V_iinc (v := nI (n + 1)) (loc' := [(3, .int (nI (n + 1))), (2, .int ((knewS M set n) ||| (1 <<< ((nI n) &&& 31)))), (0, .ref 1), (1, .int set)]) dF_trueInAll_38 rfl (nI_inc n) (by decide) rfl ?_
          refine V_goto (tgt := 4) dF_trueInAll_41 rfl ?_
          refine V.locs (loc' := [(3, .int (nI (n + 1))), (2, .int ((knewS M set n) ||| (1 <<< ((nI n) &&& 31)))), (0, .ref 1), (1, .int set)]) [0, 1, 2, 3] rfl ?_
          refine V_eqL (loc' := [(3, .int (nI (n + 1))), (2, .int (knewS M set (n + 1))), (0, .ref 1), (1, .int set)]) ?_ ?_
          · simp_all [knewS, orI]
          exact ihn
  exact lp 0 (Nat.zero_le _)
theorem c_othersFalseWith {l : Launch} {G : GT} {L : Nat → List Cl} {M σ : Hp} (hC : RC L M σ) (hI : Inv L M) {e : Nat} (he : e < mE M) : MM l G mF_othersFalseWith 0 0 0 [.ref 1, .ref (8 + 2 * e)] KA σ (PE (some (.int (agS M e (mE M)))) KA σ) := by
  have hR := hC.1
  refine MM.of (loc := [(0, .ref 1), (1, .ref (8 + 2 * e))]) (by decide +kernel) rfl (Nat.le_of_ble_eq_true rfl) ?_
  refine V_iconst (v := 0) dF_othersFalseWith_0 (by decide) ?_
  refine V_istore_n (loc' := [(2, .int 0), (0, .ref 1), (1, .ref (8 + 2 * e))]) dF_othersFalseWith_1 (by decide) rfl ?_
  refine V_iconst (v := 0) dF_othersFalseWith_2 (by decide) ?_
  refine V_istore_n (loc' := [(3, .int 0), (2, .int 0), (0, .ref 1), (1, .ref (8 + 2 * e))]) dF_othersFalseWith_3 (by decide) rfl ?_
  refine V.locs (loc' := [(3, .int 0), (2, .int 0), (0, .ref 1), (1, .ref (8 + 2 * e))]) [0, 1, 2, 3] rfl ?_
  refine V_eqL (loc' := [(3, .int (nI 0)), (2, .int (agS M e 0)), (0, .ref 1), (1, .ref (8 + 2 * e))]) ?_ ?_
  · first | rfl | simp
  skip
  have lp : ∀ n : Nat, n ≤ mE M → V l G mF_othersFalseWith (rmd 0 0 0) (KA.length + 0) 0 4 [(3, .int (nI n)), (2, .int (agS M e n)), (0, .ref 1), (1, .ref (8 + 2 * e))] [] KA σ (PE (some (.int (agS M e (mE M)))) KA σ) := by
    refine lp_up (mE M) ?_ (fun n hn ihn => ?_)
    · skip
      refine V_iload_n dF_othersFalseWith_4 rfl ?_
      refine V_aload_n dF_othersFalseWith_5 rfl ?_
      refine V_getE (x := nI (mE M)) dF_othersFalseWith_6 flF_47 k1 rfl (cE hC hI) ?_
      refine V_icmp_ge (tgt := 49) dF_othersFalseWith_9 rfl (fun _ => ?_) (fun h => absurd h (not_not_intro (nI_le (Nat.le_refl _) (sm9 hI))))
      refine V_iload_n dF_othersFalseWith_49 rfl ?_
      exact V_iret dF_othersFalseWith_50 rfl rfl ⟨rfl, rfl, rfl⟩
    · skip
      refine V_iload_n dF_othersFalseWith_4 rfl ?_
      refine V_aload_n dF_othersFalseWith_5 rfl ?_
      refine V_getE (x := nI (mE M)) dF_othersFalseWith_6 flF_47 k1 rfl (cE hC hI) ?_
      refine V_icmp_ge (tgt := 49) dF_othersFalseWith_9 rfl (fun h => absurd h (nI_ge hn (sm9 hI))) (fun _ => ?_)
      refine V_iload_n dF_othersFalseWith_12 rfl ?_
      refine V_aload_n dF_othersFalseWith_13 rfl ?_
      refine V_getE (x := nI e) dF_othersFalseWith_14 flF_81 (kE _ (lt9 hI he)) rfl (eN hC (lt9 hI he)) ?_
      refine V_icmp_eq (tgt := 43) dF_othersFalseWith_17 rfl (fun c17 => ?_) (fun c17 => ?_)
      · skip
        refine V_iinc (v := nI (n + 1)) (loc' := [(3, .int (nI (n + 1))), (2, .int (agS M e n)), (0, .ref 1), (1, .ref (8 + 2 * e))]) dF_othersFalseWith_43 rfl (nI_inc n) (by decide) rfl ?_
        refine V_goto (tgt := 4) dF_othersFalseWith_46 rfl ?_
        refine V.locs (loc' := [(3, .int (nI (n + 1))), (2, .int (agS M e n)), (0, .ref 1), (1, .ref (8 + 2 * e))]) [0, 1, 2, 3] rfl ?_
        refine V_eqL (loc' := [(3, .int (nI (n + 1))), (2, .int (agS M e (n + 1))), (0, .ref 1), (1, .ref (8 + 2 * e))]) ?_ ?_
        · have hq : (nI n = nI e) ↔ n = e := nI_eq (Nat.lt_trans hn (sm9 hI)) (Nat.lt_trans he (sm9 hI))
          simp_all [agS, orI]
        exact ihn
      · skip
        refine V_aload_n dF_othersFalseWith_20 rfl ?_
        refine V_getR (a := 3) dF_othersFalseWith_21 flF_17 k1 rfl (r1_3 hR) ?_
        refine V_iload_n dF_othersFalseWith_24 rfl ?_
        refine V_aaldN (j := n) (a := 8 + 2 * n) dF_othersFalseWith_25 k3 rfl (lt9 hI hn) (by decide) (rE hR (lt9 hI hn)) ?_
        refine V_getE (x := gi M 80 n) dF_othersFalseWith_26 flF_69 (kE _ (lt9 hI hn)) rfl (eS hC (lt9 hI hn)) ?_
        refine V_aload_n dF_othersFalseWith_29 rfl ?_
        refine V_getE (x := gi M 80 e) dF_othersFalseWith_30 flF_69 (kE _ (lt9 hI he)) rfl (eS hC (lt9 hI he)) ?_
        refine V_iand dF_othersFalseWith_33 ?_
        refine V_if_ne (tgt := 43) dF_othersFalseWith_34 rfl (fun c34 => ?_) (fun c34 => ?_)
        · skip
          refine V_iinc (v := nI (n + 1)) (loc' := [(3, .int (nI (n + 1))), (2, .int (agS M e n)), (0, .ref 1), (1, .ref (8 + 2 * e))]) dF_othersFalseWith_43 rfl (nI_inc n) (by decide) rfl ?_
          refine V_goto (tgt := 4) dF_othersFalseWith_46 rfl ?_
          refine V.locs (loc' := [(3, .int (nI (n + 1))), (2, .int (agS M e n)), (0, .ref 1), (1, .ref (8 + 2 * e))]) [0, 1, 2, 3] rfl ?_
          refine V_eqL (loc' := [(3, .int (nI (n + 1))), (2, .int (agS M e (n + 1))), (0, .ref 1), (1, .ref (8 + 2 * e))]) ?_ ?_
          · have hq : (nI n = nI e) ↔ n = e := nI_eq (Nat.lt_trans hn (sm9 hI)) (Nat.lt_trans he (sm9 hI))
            simp_all [agS, orI]
          exact ihn
        · skip
          refine V_iload_n dF_othersFalseWith_37 rfl ?_
          refine V_iconst (v := 1) dF_othersFalseWith_38 (by decide) ?_
          refine V_iload_n dF_othersFalseWith_39 rfl ?_
          refine V_ishl dF_othersFalseWith_40 ?_
          refine V_ior dF_othersFalseWith_41 ?_
          refine V_istore_n (loc' := [(2, .int ((agS M e n) ||| (1 <<< ((nI n) &&& 31)))), (3, .int (nI n)), (0, .ref 1), (1, .ref (8 + 2 * e))]) dF_othersFalseWith_42 (by decide) rfl ?_
          refine V_iinc (v := nI (n + 1)) (loc' := [(3, .int (nI (n + 1))), (2, .int ((agS M e n) ||| (1 <<< ((nI n) &&& 31)))), (0, .ref 1), (1, .ref (8 + 2 * e))]) dF_othersFalseWith_43 rfl (nI_inc n) (by decide) rfl ?_
          refine V_goto (tgt := 4) dF_othersFalseWith_46 rfl ?_
          refine V.locs (loc' := [(3, .int (nI (n + 1))), (2, .int ((agS M e n) ||| (1 <<< ((nI n) &&& 31)))), (0, .ref 1), (1, .ref (8 + 2 * e))]) [0, 1, 2, 3] rfl ?_
          refine V_eqL (loc' := [(3, .int (nI (n + 1))), (2, .int (agS M e (n + 1))), (0, .ref 1), (1, .ref (8 + 2 * e))]) ?_ ?_
          · have hq : (nI n = nI e) ↔ n = e := nI_eq (Nat.lt_trans hn (sm9 hI)) (Nat.lt_trans he (sm9 hI))
            simp_all [agS, orI]
          exact ihn
  exact lp 0 (Nat.zero_le _)
theorem c_pricesIn {l : Launch} {G : GT} {L : Nat → List Cl} {M σ : Hp} (hC : RC L M σ) (hI : Inv L M) (w : Nat) : MM l G mF_pricesIn 1 0 0 [.ref 1, .int (nI w)] KA σ (PE (some (.int (prS M w (mE M)))) KA σ) := by
  have hR := hC.1
  refine MM.of (loc := [(0, .ref 1), (1, .int (nI w))]) (by decide +kernel) rfl (Nat.le_of_ble_eq_true rfl) ?_
  refine V_iconst (v := 0) dF_pricesIn_0 (by decide) ?_
  refine V_istore_n (loc' := [(2, .int 0), (0, .ref 1), (1, .int (nI w))]) dF_pricesIn_1 (by decide) rfl ?_
  refine V_iconst (v := 0) dF_pricesIn_2 (by decide) ?_
  refine V_istore_n (loc' := [(3, .int 0), (2, .int 0), (0, .ref 1), (1, .int (nI w))]) dF_pricesIn_3 (by decide) rfl ?_
  refine V.locs (loc' := [(3, .int 0), (2, .int 0), (0, .ref 1), (1, .int (nI w))]) [0, 1, 2, 3] rfl ?_
  refine V_eqL (loc' := [(3, .int (nI 0)), (2, .int (prS M w 0)), (0, .ref 1), (1, .int (nI w))]) ?_ ?_
  · first | rfl | simp
  skip
  have lp : ∀ n : Nat, n ≤ mE M → V l G mF_pricesIn (rmd 1 0 0) (KA.length + 0) 0 4 [(3, .int (nI n)), (2, .int (prS M w n)), (0, .ref 1), (1, .int (nI w))] [] KA σ (PE (some (.int (prS M w (mE M)))) KA σ) := by
    refine lp_up (mE M) ?_ (fun n hn ihn => ?_)
    · skip
      refine V_iload_n dF_pricesIn_4 rfl ?_
      refine V_aload_n dF_pricesIn_5 rfl ?_
      refine V_getE (x := nI (mE M)) dF_pricesIn_6 flF_47 k1 rfl (cE hC hI) ?_
      refine V_icmp_ge (tgt := 46) dF_pricesIn_9 rfl (fun _ => ?_) (fun h => absurd h (not_not_intro (nI_le (Nat.le_refl _) (sm9 hI))))
      refine V_iload_n dF_pricesIn_46 rfl ?_
      exact V_iret dF_pricesIn_47 rfl rfl ⟨rfl, rfl, rfl⟩
    · skip
      refine V_iload_n dF_pricesIn_4 rfl ?_
      refine V_aload_n dF_pricesIn_5 rfl ?_
      refine V_getE (x := nI (mE M)) dF_pricesIn_6 flF_47 k1 rfl (cE hC hI) ?_
      refine V_icmp_ge (tgt := 46) dF_pricesIn_9 rfl (fun h => absurd h (nI_ge hn (sm9 hI))) (fun _ => ?_)
      refine V_aload_n dF_pricesIn_12 rfl ?_
      refine V_getR (a := 3) dF_pricesIn_13 flF_17 k1 rfl (r1_3 hR) ?_
      refine V_iload_n dF_pricesIn_16 rfl ?_
      refine V_aaldN (j := n) (a := 8 + 2 * n) dF_pricesIn_17 k3 rfl (lt9 hI hn) (by decide) (rE hR (lt9 hI hn)) ?_
      refine V_getE (x := gi M 80 n) dF_pricesIn_18 flF_69 (kE _ (lt9 hI hn)) rfl (eS hC (lt9 hI hn)) ?_
      refine V_iload_n dF_pricesIn_21 rfl ?_
      refine V_callSN (host := "GuessFair") (as := [.int (gi M 80 n), .int (nI w)]) (rest := []) (bs' := 0) rfl dF_pricesIn_22 cmG_hasBit stG_hasBit (by decide) rfl rfl (c_hasBit (gi M 80 n) (nI w)) (by decide) (by decide) (by decide) (Nat.le_of_ble_eq_true rfl) ?_
      rintro _ _ _ (⟨hb, rfl, rfl, rfl⟩ | ⟨hb, rfl, rfl, rfl⟩) -
      · refine V_one ?_
        refine V_if_eq (tgt := 40) dF_pricesIn_25 rfl (fun h => absurd h (by decide)) (fun _ => ?_)
        refine V_iload_n dF_pricesIn_28 rfl ?_
        refine V_aload_n dF_pricesIn_29 rfl ?_
        refine V_getR (a := 3) dF_pricesIn_30 flF_17 k1 rfl (r1_3 hR) ?_
        refine V_iload_n dF_pricesIn_33 rfl ?_
        refine V_aaldN (j := n) (a := 8 + 2 * n) dF_pricesIn_34 k3 rfl (lt9 hI hn) (by decide) (rE hR (lt9 hI hn)) ?_
        refine V_getE (x := gi M 81 n) dF_pricesIn_35 flF_72 (kE _ (lt9 hI hn)) rfl (eP hC (lt9 hI hn)) ?_
        refine V_iadd dF_pricesIn_38 ?_
        refine V_istore_n (loc' := [(2, .int ((prS M w n) + (gi M 81 n))), (3, .int (nI n)), (0, .ref 1), (1, .int (nI w))]) dF_pricesIn_39 (by decide) rfl ?_
        refine V_iinc (v := nI (n + 1)) (loc' := [(3, .int (nI (n + 1))), (2, .int ((prS M w n) + (gi M 81 n))), (0, .ref 1), (1, .int (nI w))]) dF_pricesIn_40 rfl (nI_inc n) (by decide) rfl ?_
        refine V_goto (tgt := 4) dF_pricesIn_43 rfl ?_
        refine V.locs (loc' := [(3, .int (nI (n + 1))), (2, .int ((prS M w n) + (gi M 81 n))), (0, .ref 1), (1, .int (nI w))]) [0, 1, 2, 3] rfl ?_
        refine V_eqL (loc' := [(3, .int (nI (n + 1))), (2, .int (prS M w (n + 1))), (0, .ref 1), (1, .int (nI w))]) ?_ ?_
        · simp [prS, sumI, hb]
        exact ihn
      · refine V_one ?_
        refine V_if_eq (tgt := 40) dF_pricesIn_25 rfl (fun _ => ?_) (fun h => absurd h (by decide))
        refine V_iinc (v := nI (n + 1)) (loc' := [(3, .int (nI (n + 1))), (2, .int (prS M w n)), (0, .ref 1), (1, .int (nI w))]) dF_pricesIn_40 rfl (nI_inc n) (by decide) rfl ?_
        refine V_goto (tgt := 4) dF_pricesIn_43 rfl ?_
        refine V.locs (loc' := [(3, .int (nI (n + 1))), (2, .int (prS M w n)), (0, .ref 1), (1, .int (nI w))]) [0, 1, 2, 3] rfl ?_
        refine V_eqL (loc' := [(3, .int (nI (n + 1))), (2, .int (prS M w (n + 1))), (0, .ref 1), (1, .int (nI w))]) ?_ ?_
        · simp [prS, sumI, hb]
        exact ihn
  exact lp 0 (Nat.zero_le _)
/-- the first world whose prices are most -/
def dearS (M : Hp) : Nat → Nat
  | 0 => 0
  | n + 1 => if n = 0 then 0 else if prS M (dearS M n) (mE M) < prS M n (mE M) then n else dearS M n
theorem c_dearestWorld {l : Launch} {G : GT} {L : Nat → List Cl} {M σ : Hp} (hC : RC L M σ) (hI : Inv L M) (h1 : 1 ≤ mW M) : MM l G mF_dearestWorld 2 0 0 [.ref 1] KA σ (PE (some (.int (nI (dearS M (mW M))))) KA σ) := by
  have hR := hC.1
  refine MM.of (loc := [(0, .ref 1)]) (by decide +kernel) rfl (Nat.le_of_ble_eq_true rfl) ?_
  refine V_iconst (v := 0) dF_dearestWorld_0 (by decide) ?_
  refine V_istore_n (loc' := [(1, .int 0), (0, .ref 1)]) dF_dearestWorld_1 (by decide) rfl ?_
  refine V_iconst (v := 1) dF_dearestWorld_2 (by decide) ?_
  refine V_istore_n (loc' := [(2, .int 1), (1, .int 0), (0, .ref 1)]) dF_dearestWorld_3 (by decide) rfl ?_
  refine V.locs (loc' := [(2, .int 1), (1, .int 0), (0, .ref 1)]) [0, 1, 2] rfl ?_
  refine V_eqL (loc' := [(2, .int (nI 1)), (1, .int (nI (dearS M 1))), (0, .ref 1)]) ?_ ?_
  · first | rfl | simp [dearS]
  skip
  have lp : ∀ n : Nat, n ≤ mW M → 1 ≤ n → V l G mF_dearestWorld (rmd 2 0 0) (KA.length + 0) 0 4 [(2, .int (nI n)), (1, .int (nI (dearS M n))), (0, .ref 1)] [] KA σ (PE (some (.int (nI (dearS M (mW M))))) KA σ) := by
    refine lp_up (mW M) (fun _ => ?_) (fun n hn ih h1n => ?_)
    · skip
      refine V_iload_n dF_dearestWorld_4 rfl ?_
      refine V_aload_n dF_dearestWorld_5 rfl ?_
      refine V_getE (x := nI (mW M)) dF_dearestWorld_6 flF_38 k1 rfl (cW hC hI) ?_
      refine V_icmp_ge (tgt := 33) dF_dearestWorld_9 rfl (fun _ => ?_) (fun h => absurd h (not_not_intro (nI_le (Nat.le_refl _) (sm7 hI))))
      refine V_iload_n dF_dearestWorld_33 rfl ?_
      exact V_iret dF_dearestWorld_34 rfl rfl ⟨rfl, rfl, rfl⟩
    · skip
      refine V_iload_n dF_dearestWorld_4 rfl ?_
      refine V_aload_n dF_dearestWorld_5 rfl ?_
      refine V_getE (x := nI (mW M)) dF_dearestWorld_6 flF_38 k1 rfl (cW hC hI) ?_
      refine V_icmp_ge (tgt := 33) dF_dearestWorld_9 rfl (fun h => absurd h (nI_ge hn (sm7 hI))) (fun _ => ?_)
      refine V_aload_n dF_dearestWorld_12 rfl ?_
      refine V_iload_n dF_dearestWorld_13 rfl ?_
      refine V_callV (as := [.int (nI n)]) (rest := []) (bs' := 0) rfl dF_dearestWorld_14 cmF_pricesIn cvF_pricesIn mlF_103 (Or.inl ⟨_, _, _, _, _, rfl, k1, by decide, rfl⟩) rfl rfl (c_pricesIn hC hI _) (by decide) (by decide) (by decide) (Nat.le_of_ble_eq_true rfl) ?_
      rintro _ _ _ ⟨rfl, rfl, rfl⟩ -
      refine V_one ?_
      refine V_aload_n dF_dearestWorld_17 rfl ?_
      refine V_iload_n dF_dearestWorld_18 rfl ?_
      refine V_callV (as := [.int (nI (dearS M n))]) (rest := [.int (prS M n (mE M))]) (bs' := 0) rfl dF_dearestWorld_19 cmF_pricesIn cvF_pricesIn mlF_103 (Or.inl ⟨_, _, _, _, _, rfl, k1, by decide, rfl⟩) rfl rfl (c_pricesIn hC hI _) (by decide) (by decide) (by decide) (Nat.le_of_ble_eq_true rfl) ?_
      rintro _ _ _ ⟨rfl, rfl, rfl⟩ -
      refine V_one ?_
      refine V_icmp_le (tgt := 27) dF_dearestWorld_22 rfl (fun c22 => ?_) (fun c22 => ?_)
      · skip
        refine V_iinc (v := nI (n + 1)) (loc' := [(2, .int (nI (n + 1))), (1, .int (nI (dearS M n))), (0, .ref 1)]) dF_dearestWorld_27 rfl (nI_inc n) (by decide) rfl ?_
        refine V_goto (tgt := 4) dF_dearestWorld_30 rfl ?_
        refine V.locs (loc' := [(2, .int (nI (n + 1))), (1, .int (nI (dearS M n))), (0, .ref 1)]) [0, 1, 2] rfl ?_
        refine V_eqL (loc' := [(2, .int (nI (n + 1))), (1, .int (nI (dearS M (n + 1)))), (0, .ref 1)]) ?_ ?_
        · have h0 : ¬ n = 0 := by omega
          first
          | simp only [dearS, if_neg h0, if_pos (Int32.not_le.mp c22)]
          | simp only [dearS, if_neg h0, if_neg (Int32.not_lt.mpr c22)]
        exact (ih (by omega))
      · skip
        refine V_iload_n dF_dearestWorld_25 rfl ?_
        refine V_istore_n (loc' := [(1, .int (nI n)), (2, .int (nI n)), (0, .ref 1)]) dF_dearestWorld_26 (by decide) rfl ?_
        refine V_iinc (v := nI (n + 1)) (loc' := [(2, .int (nI (n + 1))), (1, .int (nI n)), (0, .ref 1)]) dF_dearestWorld_27 rfl (nI_inc n) (by decide) rfl ?_
        refine V_goto (tgt := 4) dF_dearestWorld_30 rfl ?_
        refine V.locs (loc' := [(2, .int (nI (n + 1))), (1, .int (nI n)), (0, .ref 1)]) [0, 1, 2] rfl ?_
        refine V_eqL (loc' := [(2, .int (nI (n + 1))), (1, .int (nI (dearS M (n + 1)))), (0, .ref 1)]) ?_ ?_
        · have h0 : ¬ n = 0 := by omega
          first
          | simp only [dearS, if_neg h0, if_pos (Int32.not_le.mp c22)]
          | simp only [dearS, if_neg h0, if_neg (Int32.not_lt.mpr c22)]
        exact (ih (by omega))
  exact lp 1 h1 (Nat.le_refl _)
theorem ix3 (n c : Nat) : nI n * 3 + nI c = nI (3 * n + c) := by
  rw [show (3 : Int32) = nI 3 from rfl, pk_mul, nI_add, Nat.mul_comm]
theorem ix6 (n c : Nat) : nI n * 6 + nI c = nI (6 * n + c) := by
  rw [show (6 : Int32) = nI 6 from rfl, pk_mul, nI_add, Nat.mul_comm]
theorem c_cell4 {l : Launch} {G : GT} {σ : Hp} (hR : RF σ) {n c : Nat} (hn : n < 8) (hc : c < 3) : MM l G mW_cell 0 0 0 [.ref 4, .int (nI n), .int (nI c)] KA σ (PE (some (.int (gi σ 5 (3 * n + c)))) KA σ) := by
  refine MM.of (loc := [(0, .ref 4), (1, .int (nI n)), (2, .int (nI c))]) (by decide +kernel) rfl (Nat.le_of_ble_eq_true rfl) ?_
  refine V_iload_n dW_cell_0 rfl ?_
  refine V_iconst (v := 3) dW_cell_1 (by decide) ?_
  refine V_imul dW_cell_2 ?_
  refine V_iload_n dW_cell_3 rfl ?_
  refine V_iadd dW_cell_4 ?_
  refine V_topI (x' := nI (3 * n + c)) (ix3 n c) ?_
  refine V_istore_n (loc' := [(3, .int (nI (3 * n + c))), (0, .ref 4), (1, .int (nI n)), (2, .int (nI c))]) dW_cell_5 (by decide) rfl ?_
  refine V_iload_n dW_cell_6 rfl ?_
  refine V_if_lt (tgt := 28) dW_cell_7 rfl (fun h => absurd h (nI_pos (n := 3 * n + c) (by omega))) (fun _ => ?_)
  refine V_iload_n dW_cell_10 rfl ?_
  refine V_aload_n dW_cell_11 rfl ?_
  refine V_getR (a := 5) dW_cell_12 flW_11 k4 rfl (r4_1 hR) ?_
  refine V_alen (t0 := 0) (v := 24) dW_cell_15 k5 (by decide) rfl (by decide) ?_
  refine V_icmp_ge (tgt := 28) dW_cell_16 rfl (fun h => absurd h (nI_ge (a := 3 * n + c) (b := 24) (by omega) (by decide))) (fun _ => ?_)
  refine V_aload_n dW_cell_19 rfl ?_
  refine V_getR (a := 5) dW_cell_20 flW_11 k4 rfl (r4_1 hR) ?_
  refine V_iload_n dW_cell_23 rfl ?_
  refine V_ialdN (j := 3 * n + c) dW_cell_24 k5 rfl (by omega) (by decide) ?_
  refine V_goto (tgt := 29) dW_cell_25 rfl ?_
  exact V_iret dW_cell_29 rfl rfl ⟨rfl, rfl, rfl⟩
theorem c_cell6 {l : Launch} {G : GT} {σ : Hp} (hR : RF σ) {n c : Nat} (hn : n < 8) (hc : c < 3) : MM l G mW_cell 0 0 0 [.ref 6, .int (nI n), .int (nI c)] KA σ (PE (some (.int (gi σ 7 (3 * n + c)))) KA σ) := by
  refine MM.of (loc := [(0, .ref 6), (1, .int (nI n)), (2, .int (nI c))]) (by decide +kernel) rfl (Nat.le_of_ble_eq_true rfl) ?_
  refine V_iload_n dW_cell_0 rfl ?_
  refine V_iconst (v := 3) dW_cell_1 (by decide) ?_
  refine V_imul dW_cell_2 ?_
  refine V_iload_n dW_cell_3 rfl ?_
  refine V_iadd dW_cell_4 ?_
  refine V_topI (x' := nI (3 * n + c)) (ix3 n c) ?_
  refine V_istore_n (loc' := [(3, .int (nI (3 * n + c))), (0, .ref 6), (1, .int (nI n)), (2, .int (nI c))]) dW_cell_5 (by decide) rfl ?_
  refine V_iload_n dW_cell_6 rfl ?_
  refine V_if_lt (tgt := 28) dW_cell_7 rfl (fun h => absurd h (nI_pos (n := 3 * n + c) (by omega))) (fun _ => ?_)
  refine V_iload_n dW_cell_10 rfl ?_
  refine V_aload_n dW_cell_11 rfl ?_
  refine V_getR (a := 7) dW_cell_12 flW_11 k6 rfl (r6_1 hR) ?_
  refine V_alen (t0 := 0) (v := 24) dW_cell_15 k7 (by decide) rfl (by decide) ?_
  refine V_icmp_ge (tgt := 28) dW_cell_16 rfl (fun h => absurd h (nI_ge (a := 3 * n + c) (b := 24) (by omega) (by decide))) (fun _ => ?_)
  refine V_aload_n dW_cell_19 rfl ?_
  refine V_getR (a := 7) dW_cell_20 flW_11 k6 rfl (r6_1 hR) ?_
  refine V_iload_n dW_cell_23 rfl ?_
  refine V_ialdN (j := 3 * n + c) dW_cell_24 k7 rfl (by omega) (by decide) ?_
  refine V_goto (tgt := 29) dW_cell_25 rfl ?_
  exact V_iret dW_cell_29 rfl rfl ⟨rfl, rfl, rfl⟩
theorem iO {L : Nat → List Cl} {M : Hp} (hI : Inv L M) : gi M 76 30 = nI (cN (gi M 76 30)) ∧ cN (gi M 76 30) < 9 := hI.2.1.2.2.2.2.2.1
theorem iOk {L : Nat → List Cl} {M : Hp} (hI : Inv L M) {k : Nat} (hk : k < cN (gi M 76 30)) : isN (gi M 95 k) (mE M) ∧ isN (gi M 96 k) 2 := hI.2.1.2.2.2.2.2.2.2.2.2.1 k hk
theorem lt9o {L : Nat → List Cl} {M : Hp} (hI : Inv L M) {k : Nat} (hk : k < cN (gi M 76 30)) : k < 8 := by have := (iO hI).2; omega
theorem cO {L : Nat → List Cl} {M σ : Hp} (hC : RC L M σ) (hI : Inv L M) : gi σ 4 0 = nI (cN (gi M 76 30)) := (hC.2.1 4 0 76 30 rfl).trans (iO hI).1
theorem eO0 {L : Nat → List Cl} {M σ : Hp} (hC : RC L M σ) (hI : Inv L M) {k : Nat} (hk : k < cN (gi M 76 30)) : gi σ 5 (3 * k + 0) = nI (cN (gi M 95 k)) := (hC.2.1 5 _ _ _ (mpO k (lt9o hI hk)).1).trans (iOk hI hk).1.1
theorem eO1 {L : Nat → List Cl} {M σ : Hp} (hC : RC L M σ) (hI : Inv L M) {k : Nat} (hk : k < cN (gi M 76 30)) : gi σ 5 (3 * k + 1) = gi M 96 k := hC.2.1 5 _ _ _ (mpO k (lt9o hI hk)).2
theorem c_find1 {l : Launch} {G : GT} {L : Nat → List Cl} {M σ : Hp} (hC : RC L M σ) (hI : Inv L M) {x : Int32} (j : Nat) (hj : j < mE M) (hx : x = nI j) : MM l G mF_find 0 0 0 [.ref 1, .int x] KA σ (PE (some (.ref (8 + 2 * j))) KA σ) := by
  subst hx
  have hR := hC.1
  refine MM.of (loc := [(0, .ref 1), (1, .int (nI j))]) (by decide +kernel) rfl (Nat.le_of_ble_eq_true rfl) ?_
  refine V_iload_n dF_find_0 rfl ?_
  refine V_if_lt (tgt := 21) dF_find_1 rfl (fun h => absurd h (nI_pos (Nat.lt_trans hj (sm9 hI)))) (fun _ => ?_)
  refine V_iload_n dF_find_4 rfl ?_
  refine V_aload_n dF_find_5 rfl ?_
  refine V_getE (x := nI (mE M)) dF_find_6 flF_47 k1 rfl (cE hC hI) ?_
  refine V_icmp_ge (tgt := 21) dF_find_9 rfl (fun h => absurd h (nI_ge hj (sm9 hI))) (fun _ => ?_)
  refine V_aload_n dF_find_12 rfl ?_
  refine V_getR (a := 3) dF_find_13 flF_17 k1 rfl (r1_3 hR) ?_
  refine V_iload_n dF_find_16 rfl ?_
  refine V_aaldN (j := j) (a := 8 + 2 * j) dF_find_17 k3 rfl (lt9 hI hj) (by decide) (rE hR (lt9 hI hj)) ?_
  refine V_goto (tgt := 22) dF_find_18 rfl ?_
  exact V_aret dF_find_22 rfl (by first | exact Or.inl rfl | exact Or.inr ⟨_, rfl⟩) rfl ⟨rfl, rfl, rfl⟩
theorem c_leftWorlds {l : Launch} {G : GT} {L : Nat → List Cl} {M σ : Hp} (hC : RC L M σ) (hI : Inv L M) : MM l G mF_leftWorlds 1 0 0 [.ref 1] KA σ (PE (some (.int (leftS M))) KA σ) := by
  have hR := hC.1
  refine MM.of (loc := [(0, .ref 1)]) (by decide +kernel) rfl (Nat.le_of_ble_eq_true rfl) ?_
  refine V_aload_n dF_leftWorlds_0 rfl ?_
  refine V_callV (as := []) (rest := []) (bs' := 0) rfl dF_leftWorlds_1 cmF_allWorlds cvF_allWorlds mlF_88 (Or.inl ⟨_, _, _, _, _, rfl, k1, by decide, rfl⟩) rfl rfl (c_allWorlds hC hI) (by decide) (by decide) (by decide) (Nat.le_of_ble_eq_true rfl) ?_
  rintro _ _ _ ⟨rfl, rfl, rfl⟩ -
  refine V_one ?_
  refine V_istore_n (loc' := [(1, .int (allS M)), (0, .ref 1)]) dF_leftWorlds_4 (by decide) rfl ?_
  refine V_iconst (v := 0) dF_leftWorlds_5 (by decide) ?_
  refine V_istore_n (loc' := [(2, .int 0), (1, .int (allS M)), (0, .ref 1)]) dF_leftWorlds_6 (by decide) rfl ?_
  refine V.locs (loc' := [(2, .int 0), (1, .int (allS M)), (0, .ref 1)]) [0, 1, 2] rfl ?_
  refine V_eqL (loc' := [(2, .int (nI 0)), (1, .int (andI (allS M) (fun k => if gi M 96 k = 1 then gi M 80 (cN (gi M 95 k)) else gi M 80 (cN (gi M 95 k)) ^^^ (-1)) 0)), (0, .ref 1)]) ?_ ?_
  · first | rfl | simp [andI]
  skip
  have lp : ∀ n : Nat, n ≤ (cN (gi M 76 30)) → V l G mF_leftWorlds (rmd 1 0 0) (KA.length + 0) 0 7 [(2, .int (nI n)), (1, .int (andI (allS M) (fun k => if gi M 96 k = 1 then gi M 80 (cN (gi M 95 k)) else gi M 80 (cN (gi M 95 k)) ^^^ (-1)) n)), (0, .ref 1)] [] KA σ (PE (some (.int (leftS M))) KA σ) := by
    refine lp_up (cN (gi M 76 30)) ?_ (fun n hn ihn => ?_)
    · skip
      refine V_iload_n dF_leftWorlds_7 rfl ?_
      refine V_aload_n dF_leftWorlds_8 rfl ?_
      refine V_getR (a := 4) dF_leftWorlds_9 flF_28 k1 rfl (r1_7 hR) ?_
      refine V_getE (x := nI (cN (gi M 76 30))) dF_leftWorlds_12 flF_92 k4 rfl (cO hC hI) ?_
      refine V_icmp_ge (tgt := 71) dF_leftWorlds_15 rfl (fun _ => ?_) (fun h => absurd h (not_not_intro (nI_le (Nat.le_refl _) (Nat.lt_trans (iO hI).2 (by decide)))))
      refine V_iload_n dF_leftWorlds_71 rfl ?_
      exact V_iret dF_leftWorlds_72 rfl rfl ⟨rfl, rfl, rfl⟩
    · skip
      refine V_iload_n dF_leftWorlds_7 rfl ?_
      refine V_aload_n dF_leftWorlds_8 rfl ?_
      refine V_getR (a := 4) dF_leftWorlds_9 flF_28 k1 rfl (r1_7 hR) ?_
      refine V_getE (x := nI (cN (gi M 76 30))) dF_leftWorlds_12 flF_92 k4 rfl (cO hC hI) ?_
      refine V_icmp_ge (tgt := 71) dF_leftWorlds_15 rfl (fun h => absurd h (nI_ge hn (Nat.lt_trans (iO hI).2 (by decide)))) (fun _ => ?_)
      refine V_aload_n dF_leftWorlds_18 rfl ?_
      refine V_aload_n dF_leftWorlds_19 rfl ?_
      refine V_getR (a := 4) dF_leftWorlds_20 flF_28 k1 rfl (r1_7 hR) ?_
      refine V_iload_n dF_leftWorlds_23 rfl ?_
      refine V_iconst (v := 0) dF_leftWorlds_24 (by decide) ?_
      refine V_callV (as := [.int (nI n), .int 0]) (rest := [.ref 1]) (bs' := 0) rfl dF_leftWorlds_25 cmW_cell cvW_cell mlF_95 (Or.inl ⟨_, _, _, _, _, rfl, k4, by decide, rfl⟩) rfl rfl (c_cell4 hR (n := n) (c := 0) (lt9o hI hn) (by decide)) (by decide) (by decide) (by decide) (Nat.le_of_ble_eq_true rfl) ?_
      rintro _ _ _ ⟨rfl, rfl, rfl⟩ -
      refine V_one ?_
      refine V_topI (x' := nI (cN (gi M 95 n))) (eO0 hC hI hn) ?_
      refine V_callV (as := [.int (nI (cN (gi M 95 n)))]) (rest := []) (bs' := 0) rfl dF_leftWorlds_28 cmF_find cvF_find mlF_99 (Or.inl ⟨_, _, _, _, _, rfl, k1, by decide, rfl⟩) rfl rfl (c_find1 hC hI (x := nI (cN (gi M 95 n))) (cN (gi M 95 n)) (iOk hI hn).1.2 rfl) (by decide) (by decide) (by decide) (Nat.le_of_ble_eq_true rfl) ?_
      rintro _ _ _ ⟨rfl, rfl, rfl⟩ -
      refine V_one ?_
      refine V_astore_n (loc' := [(3, .ref (8 + 2 * (cN (gi M 95 n)))), (2, .int (nI n)), (1, .int (andI (allS M) (fun k => if gi M 96 k = 1 then gi M 80 (cN (gi M 95 k)) else gi M 80 (cN (gi M 95 k)) ^^^ (-1)) n)), (0, .ref 1)]) dF_leftWorlds_31 (by decide) rfl ?_
      refine V_aload_n dF_leftWorlds_32 rfl ?_
      refine V_ifnull dF_leftWorlds_33 ?_
      refine V_iload_n dF_leftWorlds_36 rfl ?_
      refine V_aload_n dF_leftWorlds_37 rfl ?_
      refine V_getR (a := 4) dF_leftWorlds_38 flF_28 k1 rfl (r1_7 hR) ?_
      refine V_iload_n dF_leftWorlds_41 rfl ?_
      refine V_iconst (v := 1) dF_leftWorlds_42 (by decide) ?_
      refine V_callV (as := [.int (nI n), .int 1]) (rest := [.int (andI (allS M) (fun k => if gi M 96 k = 1 then gi M 80 (cN (gi M 95 k)) else gi M 80 (cN (gi M 95 k)) ^^^ (-1)) n)]) (bs' := 0) rfl dF_leftWorlds_43 cmW_cell cvW_cell mlF_95 (Or.inl ⟨_, _, _, _, _, rfl, k4, by decide, rfl⟩) rfl rfl (c_cell4 hR (n := n) (c := 1) (lt9o hI hn) (by decide)) (by decide) (by decide) (by decide) (Nat.le_of_ble_eq_true rfl) ?_
      rintro _ _ _ ⟨rfl, rfl, rfl⟩ -
      refine V_one ?_
      refine V_topI (x' := gi M 96 n) (eO1 hC hI hn) ?_
      refine V_iconst (v := 1) dF_leftWorlds_46 (by decide) ?_
      refine V_icmp_ne (tgt := 57) dF_leftWorlds_47 rfl (fun c47 => ?_) (fun c47 => ?_)
      · skip
        refine V_aload_n dF_leftWorlds_57 rfl ?_
        refine V_getE (x := gi M 80 (cN (gi M 95 n))) dF_leftWorlds_58 flF_69 (kE _ (lt9 hI (iOk hI hn).1.2)) rfl (eS hC (lt9 hI (iOk hI hn).1.2)) ?_
        refine V_iconst (v := -1) dF_leftWorlds_61 (by decide) ?_
        refine V_ixor dF_leftWorlds_62 ?_
        refine V_iand dF_leftWorlds_63 ?_
        refine V_istore_n (loc' := [(1, .int ((andI (allS M) (fun k => if gi M 96 k = 1 then gi M 80 (cN (gi M 95 k)) else gi M 80 (cN (gi M 95 k)) ^^^ (-1)) n) &&& ((gi M 80 (cN (gi M 95 n))) ^^^ (-1)))), (3, .ref (8 + 2 * (cN (gi M 95 n)))), (2, .int (nI n)), (0, .ref 1)]) dF_leftWorlds_64 (by decide) rfl ?_
        refine V_iinc (v := nI (n + 1)) (loc' := [(2, .int (nI (n + 1))), (1, .int ((andI (allS M) (fun k => if gi M 96 k = 1 then gi M 80 (cN (gi M 95 k)) else gi M 80 (cN (gi M 95 k)) ^^^ (-1)) n) &&& ((gi M 80 (cN (gi M 95 n))) ^^^ (-1)))), (3, .ref (8 + 2 * (cN (gi M 95 n)))), (0, .ref 1)]) dF_leftWorlds_65 rfl (nI_inc n) (by decide) rfl ?_
        refine V_goto (tgt := 7) dF_leftWorlds_68 rfl ?_
        refine V.locs (loc' := [(2, .int (nI (n + 1))), (1, .int ((andI (allS M) (fun k => if gi M 96 k = 1 then gi M 80 (cN (gi M 95 k)) else gi M 80 (cN (gi M 95 k)) ^^^ (-1)) n) &&& ((gi M 80 (cN (gi M 95 n))) ^^^ (-1)))), (0, .ref 1)]) [0, 1, 3] rfl ?_
        refine V_eqL (loc' := [(2, .int (nI (n + 1))), (1, .int (andI (allS M) (fun k => if gi M 96 k = 1 then gi M 80 (cN (gi M 95 k)) else gi M 80 (cN (gi M 95 k)) ^^^ (-1)) (n + 1))), (0, .ref 1)]) ?_ ?_
        · simp_all [andI]
        exact ihn
      · skip
        refine V_aload_n dF_leftWorlds_50 rfl ?_
        refine V_getE (x := gi M 80 (cN (gi M 95 n))) dF_leftWorlds_51 flF_69 (kE _ (lt9 hI (iOk hI hn).1.2)) rfl (eS hC (lt9 hI (iOk hI hn).1.2)) ?_
        refine V_goto (tgt := 63) dF_leftWorlds_54 rfl ?_
        refine V_iand dF_leftWorlds_63 ?_
        refine V_istore_n (loc' := [(1, .int ((andI (allS M) (fun k => if gi M 96 k = 1 then gi M 80 (cN (gi M 95 k)) else gi M 80 (cN (gi M 95 k)) ^^^ (-1)) n) &&& (gi M 80 (cN (gi M 95 n))))), (3, .ref (8 + 2 * (cN (gi M 95 n)))), (2, .int (nI n)), (0, .ref 1)]) dF_leftWorlds_64 (by decide) rfl ?_
        refine V_iinc (v := nI (n + 1)) (loc' := [(2, .int (nI (n + 1))), (1, .int ((andI (allS M) (fun k => if gi M 96 k = 1 then gi M 80 (cN (gi M 95 k)) else gi M 80 (cN (gi M 95 k)) ^^^ (-1)) n) &&& (gi M 80 (cN (gi M 95 n))))), (3, .ref (8 + 2 * (cN (gi M 95 n)))), (0, .ref 1)]) dF_leftWorlds_65 rfl (nI_inc n) (by decide) rfl ?_
        refine V_goto (tgt := 7) dF_leftWorlds_68 rfl ?_
        refine V.locs (loc' := [(2, .int (nI (n + 1))), (1, .int ((andI (allS M) (fun k => if gi M 96 k = 1 then gi M 80 (cN (gi M 95 k)) else gi M 80 (cN (gi M 95 k)) ^^^ (-1)) n) &&& (gi M 80 (cN (gi M 95 n))))), (0, .ref 1)]) [0, 1, 3] rfl ?_
        refine V_eqL (loc' := [(2, .int (nI (n + 1))), (1, .int (andI (allS M) (fun k => if gi M 96 k = 1 then gi M 80 (cN (gi M 95 k)) else gi M 80 (cN (gi M 95 k)) ^^^ (-1)) (n + 1))), (0, .ref 1)]) ?_ ?_
        · simp_all [andI]
        exact ihn
  exact lp 0 (Nat.zero_le _)
