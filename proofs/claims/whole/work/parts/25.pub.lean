/-! the public methods: the fair is laid -/
def q_world (M : Hp) (x : Int32) : Int32 × Hp := if 1 ≤ x ∧ x ≤ 30 then (if mW M < 6 then (nI (mW M), si (si M 77 (mW M) x) 76 0 (nI (mW M + 1))) else (-4, M)) else (-2, M)
def q_addWorld (M : Hp) (x : Int32) : Int32 × Hp := if mW M < 6 then (nI (mW M), si (si M 77 (mW M) x) 76 0 (nI (mW M + 1))) else (-4, M)
theorem W6 {L : Nat → List Cl} {M : Hp} (hI : Inv L M) : nI (mW M) < 6 ↔ mW M < 6 := nI_ltI (b := 6) (by have := (iW hI).2; omega) (by decide)
theorem W6e {L : Nat → List Cl} {M : Hp} (hI : Inv L M) : nI (mW M) = 6 ↔ ¬ mW M < 6 := by
  have h := (iW hI).2
  rw [show (6 : Int32) = nI 6 from rfl, nI_eq (by omega) (by decide)]
  omega
theorem c_addWorld {l : Launch} {G : GT} {L : Nat → List Cl} {M σ : Hp} (hC : RC L M σ) (hI : Inv L M) (x : Int32) : MM l G mF_addWorld 0 0 0 [.ref 1, .int x] KA σ (PQ L σ (q_addWorld M x)) := by
  have hR := hC.1
  have hC0 := hC
  have hS : Sm σ σ := Sm.rfl
  refine MM.of (loc := [(0, .ref 1), (1, .int x)]) (by decide +kernel) rfl (Nat.le_of_ble_eq_true rfl) ?_
  refine V_aload_n dF_addWorld_0 rfl ?_
  refine V_getE (x := nI (mW M)) dF_addWorld_1 flF_38 k1 rfl (cW hC hI) ?_
  refine V_bipush (v := 6) dF_addWorld_4 (by decide) ?_
  refine V_icmp_lt (tgt := 12) dF_addWorld_6 rfl (fun c6 => ?_) (fun c6 => ?_)
  · skip
    have h6 : mW M < 6 := (W6 hI).mp c6
    refine V_aload_n dF_addWorld_12 rfl ?_
    refine V_getR (a := 2) dF_addWorld_13 flF_9 k1 rfl (r1_1 hR) ?_
    refine V_aload_n dF_addWorld_16 rfl ?_
    refine V_getE (x := nI (mW M)) dF_addWorld_17 flF_38 k1 rfl (cW hC hI) ?_
    refine V_iload_n dF_addWorld_20 rfl ?_
    refine V_iastN (j := mW M) dF_addWorld_21 k2 rfl (by omega) (by decide) ?_
    have hC := RC_set (k := 2) (j := mW M) (a := 77) (b := mW M) (x := x) hC (mpC _ h6) (by first | decide | omega)
    have hS := hS.set (k := 2) (j := mW M) (x := x) (by omega)
    have hR := hC.1
    refine V_aload_n dF_addWorld_22 rfl ?_
    refine V_dup dF_addWorld_23 rfl ?_
    refine V_getE (x := nI (mW M)) dF_addWorld_24 flF_38 k1 rfl ((gi_ne (by decide)).trans (cW hC0 hI)) ?_
    refine V_iconst (v := 1) dF_addWorld_27 (by decide) ?_
    refine V_iadd dF_addWorld_28 ?_
    refine V_topI (x' := nI (mW M + 1)) (nI_1 _) ?_
    refine V_putI dF_addWorld_29 flF_38 (fpF_0 _) (Or.inl rfl) k1 rfl ?_
    have hC := RC_set (k := 1) (j := 0) (a := 76) (b := 0) (x := nI (mW M + 1)) hC rfl (by first | decide | omega)
    have hS := hS.set (k := 1) (j := 0) (x := nI (mW M + 1)) (by omega)
    have hR := hC.1
    refine V_aload_n dF_addWorld_32 rfl ?_
    refine V_getE (x := nI (mW M + 1)) dF_addWorld_33 flF_38 k1 rfl gi_eq ?_
    refine V_iconst (v := 1) dF_addWorld_36 (by decide) ?_
    refine V_isub dF_addWorld_37 ?_
    refine V_topI (x' := nI (mW M)) (nI_pred _) ?_
    refine V_iret dF_addWorld_38 rfl rfl ?_
    have e : q_addWorld M x = (nI (mW M), si (si M 77 (mW M) x) 76 0 (nI (mW M + 1))) := by
      skip
      first
      | (simp only [q_addWorld, if_pos h6]; done)
      | (simp [q_addWorld, h6]; done)
      | (simp_all [q_addWorld]; done)
    rw [e]
    exact ⟨rfl, rfl, hC, hS⟩
  · skip
    have h6 : ¬ mW M < 6 := fun q => c6 ((W6 hI).mpr q)
    refine V_bipush (v := -4) dF_addWorld_9 (by decide) ?_
    refine V_iret dF_addWorld_11 rfl rfl ?_
    have e : q_addWorld M x = ((-4), M) := by
      skip
      first
      | (simp only [q_addWorld, if_neg h6]; done)
      | (simp [q_addWorld, h6]; done)
      | (simp_all [q_addWorld]; done)
    rw [e]
    exact ⟨rfl, rfl, hC, hS⟩
theorem g_world {l : Launch} {G : GT} {L : Nat → List Cl} {M σ : Hp} (hC : RC L M σ) (hI : Inv L M) (x : Int32) : MM l G mG_world 1 0 0 [.ref 0, .int x] KA σ (PQ L σ (q_world M x)) := by
  have hR := hC.1
  have hC0 := hC
  have hS : Sm σ σ := Sm.rfl
  refine MM.of (loc := [(0, .ref 0), (1, .int x)]) (by decide +kernel) rfl (Nat.le_of_ble_eq_true rfl) ?_
  refine V_iload_n dG_world_0 rfl ?_
  refine V_callS (as := [.int x]) (rest := []) (bs' := 0) rfl dG_world_1 cmG_isChance stG_isChance mlG_60 rfl rfl (c_isChance x) (by decide) (Nat.le_refl _) (by decide) (Nat.le_of_ble_eq_true rfl) ?_
  rintro _ _ _ (⟨hb1, rfl, rfl, rfl⟩ | ⟨hb1, rfl, rfl, rfl⟩) -
  · refine V_one ?_
    refine V_if_ne (tgt := 10) dG_world_4 rfl (fun _ => ?_) (fun h => absurd h (by decide))
    refine V_aload_n dG_world_10 rfl ?_
    refine V_getR (a := 1) dG_world_11 flG_12 k0 rfl (r0_0 hR) ?_
    refine V_iload_n dG_world_14 rfl ?_
    refine V_callV (as := [.int x]) (rest := []) (bs' := 0) rfl dG_world_15 cmF_addWorld cvF_addWorld mlG_64 (Or.inl ⟨_, _, _, _, _, rfl, k1, by decide, rfl⟩) rfl rfl (c_addWorld hC hI x) (by decide) (Nat.le_refl _) (by decide) (Nat.le_of_ble_eq_true rfl) ?_
    rintro _ _ s1 ⟨rfl, rfl, hC, hS1⟩ -
    refine V_one ?_
    have hS := hS.trans hS1
    refine V_iret dG_world_18 rfl rfl ?_
    have e : q_world M x = ((q_addWorld M x).1, (q_addWorld M x).2) := by
      skip
      first
      | (simp only [q_world, if_pos hb1, q_addWorld]; done)
      | (simp [q_world, hb1, q_addWorld]; done)
      | (simp_all [q_world, q_addWorld]; done)
    rw [e]
    exact ⟨rfl, rfl, hC, hS⟩
  · refine V_one ?_
    refine V_if_ne (tgt := 10) dG_world_4 rfl (fun h => absurd h (by decide)) (fun _ => ?_)
    refine V_bipush (v := -2) dG_world_7 (by decide) ?_
    refine V_iret dG_world_9 rfl rfl ?_
    have e : q_world M x = ((-2), M) := by
      skip
      first
      | (simp only [q_world, if_neg hb1, q_addWorld]; done)
      | (simp [q_world, hb1, q_addWorld]; done)
      | (simp_all [q_world, q_addWorld]; done)
    rw [e]
    exact ⟨rfl, rfl, hC, hS⟩
theorem m_world {l : Launch} {G : GT} {L : Nat → List Cl} {M σ : Hp} (hM : RM M σ) (hI : Inv L M) (x : Int32) : MM l G mM_world 1 0 0 [.ref 76, .int x] KA σ (PM σ (q_world M x)) := by
  have hR := hM.1
  have hM0 := hM
  have hS : Sc σ σ := Sc.rfl
  refine MM.of (loc := [(0, .ref 76), (1, .int x)]) (by decide +kernel) rfl (Nat.le_of_ble_eq_true rfl) ?_
  refine V_aload_n dM_world_0 rfl ?_
  refine V_iload_n dM_world_1 rfl ?_
  refine V_iconst (v := 1) dM_world_2 (by decide) ?_
  refine V_bipush (v := 30) dM_world_3 (by decide) ?_
  refine V_callV (as := [.int x, .int 1, .int 30]) (rest := []) (bs' := 0) rfl dM_world_5 cmM_in cvM_in mlM_203 (Or.inl ⟨_, _, _, _, _, rfl, k76, by decide, rfl⟩) rfl rfl (m_in x 1 30) (by decide) (Nat.le_refl _) (by decide) (Nat.le_of_ble_eq_true rfl) ?_
  rintro _ _ _ (⟨hb5, rfl, rfl, rfl⟩ | ⟨hb5, rfl, rfl, rfl⟩) -
  · refine V_one ?_
    refine V_if_ne (tgt := 14) dM_world_8 rfl (fun _ => ?_) (fun h => absurd h (by decide))
    refine V_aload_n dM_world_14 rfl ?_
    refine V_getE (x := nI (mW M)) dM_world_15 flM_7 k76 rfl ((mR hM rfl).trans (iW hI).1) ?_
    refine V_bipush (v := 6) dM_world_18 (by decide) ?_
    refine V_icmp_ne (tgt := 26) dM_world_20 rfl (fun c20 => ?_) (fun c20 => ?_)
    · skip
      have h6 : mW M < 6 := Decidable.not_not.mp (fun q => c20 ((W6e hI).mpr q))
      refine V_aload_n dM_world_26 rfl ?_
      refine V_getR (a := 77) dM_world_27 flM_22 k76 rfl (r76_4 hR) ?_
      refine V_aload_n dM_world_30 rfl ?_
      refine V_getE (x := nI (mW M)) dM_world_31 flM_7 k76 rfl ((mR hM rfl).trans (iW hI).1) ?_
      refine V_iload_n dM_world_34 rfl ?_
      refine V_iastN (j := mW M) dM_world_35 k77 rfl (by omega) (by decide) ?_
      have hM := RM_set (k := 77) (j := mW M) (x := x) hM
      have hS := hS.set (k := 77) (j := mW M) (x := x) (by omega)
      have hR := hM.1
      refine V_aload_n dM_world_36 rfl ?_
      refine V_dup dM_world_37 rfl ?_
      refine V_getE (x := nI (mW M)) dM_world_38 flM_7 k76 rfl ((gi_ne (by decide)).trans ((mR hM0 rfl).trans (iW hI).1)) ?_
      refine V_iconst (v := 1) dM_world_41 (by decide) ?_
      refine V_iadd dM_world_42 ?_
      refine V_topI (x' := nI (mW M + 1)) (nI_1 _) ?_
      refine V_putI dM_world_43 flM_7 (fpM_0 _) (Or.inl rfl) k76 rfl ?_
      have hM := RM_set (k := 76) (j := 0) (x := nI (mW M + 1)) hM
      have hS := hS.set (k := 76) (j := 0) (x := nI (mW M + 1)) (by omega)
      have hR := hM.1
      refine V_aload_n dM_world_46 rfl ?_
      refine V_getE (x := nI (mW M + 1)) dM_world_47 flM_7 k76 rfl gi_eq ?_
      refine V_iconst (v := 1) dM_world_50 (by decide) ?_
      refine V_isub dM_world_51 ?_
      refine V_topI (x' := nI (mW M)) (nI_pred _) ?_
      refine V_iret dM_world_52 rfl rfl ?_
      have e : q_world M x = (nI (mW M), si (si M 77 (mW M) x) 76 0 (nI (mW M + 1))) := by
        skip
        first
        | (simp only [q_world, if_pos hb5, if_pos h6]; done)
        | (simp [q_world, hb5, h6]; done)
        | (simp_all [q_world]; done)
      rw [e]
      exact ⟨rfl, rfl, hM, hS⟩
    · skip
      have h6 : ¬ mW M < 6 := (W6e hI).mp c20
      refine V_bipush (v := -4) dM_world_23 (by decide) ?_
      refine V_iret dM_world_25 rfl rfl ?_
      have e : q_world M x = ((-4), M) := by
        skip
        first
        | (simp only [q_world, if_pos hb5, if_neg h6]; done)
        | (simp [q_world, hb5, h6]; done)
        | (simp_all [q_world]; done)
      rw [e]
      exact ⟨rfl, rfl, hM, hS⟩
  · refine V_one ?_
    refine V_if_ne (tgt := 14) dM_world_8 rfl (fun h => absurd h (by decide)) (fun _ => ?_)
    refine V_bipush (v := -2) dM_world_11 (by decide) ?_
    refine V_iret dM_world_13 rfl rfl ?_
    have e : q_world M x = ((-2), M) := by
      skip
      first
      | (simp only [q_world, if_neg hb5]; done)
      | (simp [q_world, hb5]; done)
      | (simp_all [q_world]; done)
    rw [e]
    exact ⟨rfl, rfl, hM, hS⟩
theorem rng_N {x : Int32} {n : Nat} (h : rng x n) (hn : n < 2 ^ 31) : x = nI (cN x) ∧ cN x < n := by
  obtain ⟨j, hj, rfl⟩ := rng_x h hn
  rw [nI_cN (by omega)]
  exact ⟨rfl, hj⟩
def q_chance (M : Hp) (w x : Int32) : Int32 × Hp := if rng w (mW M) then (if 1 ≤ x ∧ x ≤ 30 then (gi M 77 (cN w), si M 77 (cN w) x) else (-2, M)) else (-1, M)
def q_of (M : Hp) (e a : Int32) : Int32 × Hp := if rng e (mE M) then (if a = 0 then (gi M 78 (cN e), M) else if a = 1 then (gi M 79 (cN e), M) else if a = 2 then (gi M 80 (cN e), M) else if a = 3 then (gi M 81 (cN e), M) else if a = 4 then (nI (mD M) - gi M 82 (cN e), M) else (-1, M)) else (-1, M)
def q_price (M : Hp) (e x : Int32) : Int32 × Hp := if rng e (mE M) then (if 0 ≤ x ∧ x ≤ 99 then (gi M 81 (cN e), si M 81 (cN e) x) else (-2, M)) else (-1, M)
def q_say (M : Hp) (e x : Int32) : Int32 × Hp := if rng e (mE M) then (if rng x (2 ^ mW M) then (gi M 80 (cN e), si M 80 (cN e) x) else (-2, M)) else (-1, M)
def q_row (M : Hp) (e d x : Int32) : Int32 × Hp := if rng e (mE M) then (if rng d 4 then (if 0 ≤ x ∧ x ≤ 9 then (if gi M 78 (cN e) = 6 then (gi M 83 (4 * cN e + cN d), si M 83 (4 * cN e + cN d) x) else (-3, M)) else (-2, M)) else (-1, M)) else (-1, M)
def q_pass (M : Hp) (x : Int32) : Int32 × Hp := if 0 ≤ x ∧ x ≤ 99 then (if nI (mD M) + x ≤ 9999 then (nI (mD M) + x, si M 76 2 (nI (mD M) + x)) else (-3, M)) else (-2, M)
theorem g_chance {l : Launch} {G : GT} {L : Nat → List Cl} {M σ : Hp} (hC : RC L M σ) (hI : Inv L M) (w x : Int32) : MM l G mG_chance 1 0 0 [.ref 0, .int w, .int x] KA σ (PQ L σ (q_chance M w x)) := by
  have hR := hC.1
  have hC0 := hC
  have hS : Sm σ σ := Sm.rfl
  refine MM.of (loc := [(0, .ref 0), (1, .int w), (2, .int x)]) (by decide +kernel) rfl (Nat.le_of_ble_eq_true rfl) ?_
  refine V_aload_n dG_chance_0 rfl ?_
  refine V_getR (a := 1) dG_chance_1 flG_12 k0 rfl (r0_0 hR) ?_
  refine V_iload_n dG_chance_4 rfl ?_
  refine V_callV (as := [.int w]) (rest := []) (bs' := 0) rfl dG_chance_5 cmF_hasWorld cvF_hasWorld mlG_68 (Or.inl ⟨_, _, _, _, _, rfl, k1, by decide, rfl⟩) rfl rfl (c_hasWorld hC hI w) (by decide) (Nat.le_refl _) (by decide) (Nat.le_of_ble_eq_true rfl) ?_
  rintro _ _ _ (⟨hb5, rfl, rfl, rfl⟩ | ⟨hb5, rfl, rfl, rfl⟩) -
  · refine V_one ?_
    refine V_if_ne (tgt := 13) dG_chance_8 rfl (fun _ => ?_) (fun h => absurd h (by decide))
    refine V_iload_n dG_chance_13 rfl ?_
    refine V_callS (as := [.int x]) (rest := []) (bs' := 0) rfl dG_chance_14 cmG_isChance stG_isChance mlG_60 rfl rfl (c_isChance x) (by decide) (Nat.le_refl _) (by decide) (Nat.le_of_ble_eq_true rfl) ?_
    rintro _ _ _ (⟨hb14, rfl, rfl, rfl⟩ | ⟨hb14, rfl, rfl, rfl⟩) -
    · refine V_one ?_
      refine V_if_ne (tgt := 23) dG_chance_17 rfl (fun _ => ?_) (fun h => absurd h (by decide))
      refine V_aload_n dG_chance_23 rfl ?_
      refine V_getR (a := 1) dG_chance_24 flG_12 k0 rfl (r0_0 hR) ?_
      refine V_getR (a := 2) dG_chance_27 flG_71 k1 rfl (r1_1 hR) ?_
      refine V_iload_n dG_chance_30 rfl ?_
      refine V_ialdN (j := cN w) dG_chance_31 k2 (rng_N hb5 (sm7 hI)).1 (by have := (rng_N hb5 (sm7 hI)).2; have := (iW hI).2; omega) (by decide) ?_
      refine V_topI (x' := gi M 77 (cN w)) (eC hC (by have := (rng_N hb5 (sm7 hI)).2; have := (iW hI).2; omega)) ?_
      refine V_istore_n (loc' := [(3, .int (gi M 77 (cN w))), (0, .ref 0), (1, .int w), (2, .int x)]) dG_chance_32 (by decide) rfl ?_
      refine V_aload_n dG_chance_33 rfl ?_
      refine V_getR (a := 1) dG_chance_34 flG_12 k0 rfl (r0_0 hR) ?_
      refine V_getR (a := 2) dG_chance_37 flG_71 k1 rfl (r1_1 hR) ?_
      refine V_iload_n dG_chance_40 rfl ?_
      refine V_iload_n dG_chance_41 rfl ?_
      refine V_iastN (j := cN w) dG_chance_42 k2 (rng_N hb5 (sm7 hI)).1 (by have := (rng_N hb5 (sm7 hI)).2; have := (iW hI).2; omega) (by decide) ?_
      have hC := RC_set (k := 2) (j := cN w) (a := 77) (b := cN w) (x := x) hC (mpC _ (by have := (rng_N hb5 (sm7 hI)).2; have := (iW hI).2; omega)) (by first | decide | omega)
      have hS := hS.set (k := 2) (j := cN w) (x := x) (by omega)
      have hR := hC.1
      refine V_iload_n dG_chance_43 rfl ?_
      refine V_iret dG_chance_44 rfl rfl ?_
      have e : q_chance M w x = (gi M 77 (cN w), si M 77 (cN w) x) := by
        skip
        first
        | (simp only [q_chance, if_pos hb5, if_pos hb14]; done)
        | (simp [q_chance, hb5, hb14]; done)
        | (simp_all [q_chance]; done)
      rw [e]
      exact ⟨rfl, rfl, hC, hS⟩
    · refine V_one ?_
      refine V_if_ne (tgt := 23) dG_chance_17 rfl (fun h => absurd h (by decide)) (fun _ => ?_)
      refine V_bipush (v := -2) dG_chance_20 (by decide) ?_
      refine V_iret dG_chance_22 rfl rfl ?_
      have e : q_chance M w x = ((-2), M) := by
        skip
        first
        | (simp only [q_chance, if_pos hb5, if_neg hb14]; done)
        | (simp [q_chance, hb5, hb14]; done)
        | (simp_all [q_chance]; done)
      rw [e]
      exact ⟨rfl, rfl, hC, hS⟩
  · refine V_one ?_
    refine V_if_ne (tgt := 13) dG_chance_8 rfl (fun h => absurd h (by decide)) (fun _ => ?_)
    refine V_iconst (v := -1) dG_chance_11 (by decide) ?_
    refine V_iret dG_chance_12 rfl rfl ?_
    have e : q_chance M w x = ((-1), M) := by
      skip
      first
      | (simp only [q_chance, if_neg hb5]; done)
      | (simp [q_chance, hb5]; done)
      | (simp_all [q_chance]; done)
    rw [e]
    exact ⟨rfl, rfl, hC, hS⟩
theorem m_chance {l : Launch} {G : GT} {L : Nat → List Cl} {M σ : Hp} (hM : RM M σ) (hI : Inv L M) (w x : Int32) : MM l G mM_chance 2 0 0 [.ref 76, .int w, .int x] KA σ (PM σ (q_chance M w x)) := by
  have hR := hM.1
  have hM0 := hM
  have hS : Sc σ σ := Sc.rfl
  refine MM.of (loc := [(0, .ref 76), (1, .int w), (2, .int x)]) (by decide +kernel) rfl (Nat.le_of_ble_eq_true rfl) ?_
  refine V_aload_n dM_chance_0 rfl ?_
  refine V_iload_n dM_chance_1 rfl ?_
  refine V_callV (as := [.int w]) (rest := []) (bs' := 0) rfl dM_chance_2 cmM_isWorld cvM_isWorld mlM_207 (Or.inl ⟨_, _, _, _, _, rfl, k76, by decide, rfl⟩) rfl rfl (m_isWorld hM hI.pw w) (by decide) (Nat.le_refl _) (by decide) (Nat.le_of_ble_eq_true rfl) ?_
  rintro _ _ _ (⟨hb2, rfl, rfl, rfl⟩ | ⟨hb2, rfl, rfl, rfl⟩) -
  · refine V_one ?_
    refine V_if_ne (tgt := 10) dM_chance_5 rfl (fun _ => ?_) (fun h => absurd h (by decide))
    refine V_aload_n dM_chance_10 rfl ?_
    refine V_iload_n dM_chance_11 rfl ?_
    refine V_iconst (v := 1) dM_chance_12 (by decide) ?_
    refine V_bipush (v := 30) dM_chance_13 (by decide) ?_
    refine V_callV (as := [.int x, .int 1, .int 30]) (rest := []) (bs' := 0) rfl dM_chance_15 cmM_in cvM_in mlM_203 (Or.inl ⟨_, _, _, _, _, rfl, k76, by decide, rfl⟩) rfl rfl (m_in x 1 30) (by decide) (Nat.le_refl _) (by decide) (Nat.le_of_ble_eq_true rfl) ?_
    rintro _ _ _ (⟨hb15, rfl, rfl, rfl⟩ | ⟨hb15, rfl, rfl, rfl⟩) -
    · refine V_one ?_
      refine V_if_ne (tgt := 24) dM_chance_18 rfl (fun _ => ?_) (fun h => absurd h (by decide))
      refine V_aload_n dM_chance_24 rfl ?_
      refine V_getR (a := 77) dM_chance_25 flM_22 k76 rfl (r76_4 hR) ?_
      refine V_iload_n dM_chance_28 rfl ?_
      refine V_ialdN (j := cN w) dM_chance_29 k77 (rng_N hb2 (sm7 hI)).1 (by have := (rng_N hb2 (sm7 hI)).2; have := (iW hI).2; omega) (by decide) ?_
      refine V_topI (x' := gi M 77 (cN w)) (mR hM rfl) ?_
      refine V_istore_n (loc' := [(3, .int (gi M 77 (cN w))), (0, .ref 76), (1, .int w), (2, .int x)]) dM_chance_30 (by decide) rfl ?_
      refine V_aload_n dM_chance_31 rfl ?_
      refine V_getR (a := 77) dM_chance_32 flM_22 k76 rfl (r76_4 hR) ?_
      refine V_iload_n dM_chance_35 rfl ?_
      refine V_iload_n dM_chance_36 rfl ?_
      refine V_iastN (j := cN w) dM_chance_37 k77 (rng_N hb2 (sm7 hI)).1 (by have := (rng_N hb2 (sm7 hI)).2; have := (iW hI).2; omega) (by decide) ?_
      have hM := RM_set (k := 77) (j := cN w) (x := x) hM
      have hS := hS.set (k := 77) (j := cN w) (x := x) (by omega)
      have hR := hM.1
      refine V_iload_n dM_chance_38 rfl ?_
      refine V_iret dM_chance_39 rfl rfl ?_
      have e : q_chance M w x = (gi M 77 (cN w), si M 77 (cN w) x) := by
        skip
        first
        | (simp only [q_chance, if_pos hb2, if_pos hb15]; done)
        | (simp [q_chance, hb2, hb15]; done)
        | (simp_all [q_chance]; done)
      rw [e]
      exact ⟨rfl, rfl, hM, hS⟩
    · refine V_one ?_
      refine V_if_ne (tgt := 24) dM_chance_18 rfl (fun h => absurd h (by decide)) (fun _ => ?_)
      refine V_bipush (v := -2) dM_chance_21 (by decide) ?_
      refine V_iret dM_chance_23 rfl rfl ?_
      have e : q_chance M w x = ((-2), M) := by
        skip
        first
        | (simp only [q_chance, if_pos hb2, if_neg hb15]; done)
        | (simp [q_chance, hb2, hb15]; done)
        | (simp_all [q_chance]; done)
      rw [e]
      exact ⟨rfl, rfl, hM, hS⟩
  · refine V_one ?_
    refine V_if_ne (tgt := 10) dM_chance_5 rfl (fun h => absurd h (by decide)) (fun _ => ?_)
    refine V_iconst (v := -1) dM_chance_8 (by decide) ?_
    refine V_iret dM_chance_9 rfl rfl ?_
    have e : q_chance M w x = ((-1), M) := by
      skip
      first
      | (simp only [q_chance, if_neg hb2]; done)
      | (simp [q_chance, hb2]; done)
      | (simp_all [q_chance]; done)
    rw [e]
    exact ⟨rfl, rfl, hM, hS⟩
theorem g_of {l : Launch} {G : GT} {L : Nat → List Cl} {M σ : Hp} (hC : RC L M σ) (hI : Inv L M) (e a : Int32) : MM l G mG_of 1 0 0 [.ref 0, .int e, .int a] KA σ (PQ L σ (q_of M e a)) := by
  have hR := hC.1
  have hC0 := hC
  have hS : Sm σ σ := Sm.rfl
  refine MM.of (loc := [(0, .ref 0), (1, .int e), (2, .int a)]) (by decide +kernel) rfl (Nat.le_of_ble_eq_true rfl) ?_
  refine V_aload_n dG_of_0 rfl ?_
  refine V_getR (a := 1) dG_of_1 flG_12 k0 rfl (r0_0 hR) ?_
  refine V_iload_n dG_of_4 rfl ?_
  refine V_callV (as := [.int e]) (rest := []) (bs' := 0) rfl dG_of_5 cmF_find cvF_find mlG_90 (Or.inl ⟨_, _, _, _, _, rfl, k1, by decide, rfl⟩) rfl rfl (c_find hC hI e) (by decide) (Nat.le_refl _) (by decide) (Nat.le_of_ble_eq_true rfl) ?_
  rintro _ _ _ (⟨j5, hj5, hx5, rfl, rfl, rfl⟩ | ⟨hb5, rfl, rfl, rfl⟩) -
  · refine V_one ?_
    have hb5 : rng e (mE M) := hx5 ▸ rng_n hj5 (sm9 hI)
    have h85 := lt9 hI hj5
    have hcn5 : cN e = j5 := by rw [hx5]; exact nI_cN (by omega)
    refine V_astore_n (loc' := [(3, .ref (8 + 2 * j5)), (0, .ref 0), (1, .int e), (2, .int a)]) dG_of_8 (by decide) rfl ?_
    refine V_aload_n dG_of_9 rfl ?_
    refine V_ifnonnull (tgt := 15) dG_of_10 rfl ?_
    refine V_iload_n dG_of_15 rfl ?_
    by_cases s16_0 : a = 0
    · skip
      refine V_tsC (tgt := 52) 0 s16_0 dG_of_16 (by decide) (by decide) rfl rfl ?_
      refine V_aload_n dG_of_52 rfl ?_
      refine V_getE (x := gi M 78 j5) dG_of_53 flG_94 (kE _ h85) rfl (eK hC h85) ?_
      refine V_iret dG_of_56 rfl rfl ?_
      have e : q_of M e a = (gi M 78 j5, M) := by
        skip
        first
        | (simp only [q_of, hcn5, if_pos hb5, if_pos s16_0]; done)
        | (simp [q_of, hb5, hcn5, s16_0]; done)
        | (simp_all [q_of]; done)
      rw [e]
      exact ⟨rfl, rfl, hC, hS⟩
    by_cases s16_1 : a = 1
    · skip
      refine V_tsC (tgt := 57) 1 s16_1 dG_of_16 (by decide) (by decide) rfl rfl ?_
      refine V_aload_n dG_of_57 rfl ?_
      refine V_getE (x := gi M 79 j5) dG_of_58 flG_99 (kE _ h85) rfl (eV hC h85) ?_
      refine V_iret dG_of_61 rfl rfl ?_
      have e : q_of M e a = (gi M 79 j5, M) := by
        skip
        first
        | (simp only [q_of, hcn5, if_pos hb5, if_pos s16_1]; done)
        | (simp [q_of, hb5, hcn5, s16_1]; done)
        | (simp_all [q_of]; done)
      rw [e]
      exact ⟨rfl, rfl, hC, hS⟩
    by_cases s16_2 : a = 2
    · skip
      refine V_tsC (tgt := 62) 2 s16_2 dG_of_16 (by decide) (by decide) rfl rfl ?_
      refine V_aload_n dG_of_62 rfl ?_
      refine V_getE (x := gi M 80 j5) dG_of_63 flG_102 (kE _ h85) rfl (eS hC h85) ?_
      refine V_iret dG_of_66 rfl rfl ?_
      have e : q_of M e a = (gi M 80 j5, M) := by
        skip
        first
        | (simp only [q_of, hcn5, if_pos hb5, if_pos s16_2]; done)
        | (simp [q_of, hb5, hcn5, s16_2]; done)
        | (simp_all [q_of]; done)
      rw [e]
      exact ⟨rfl, rfl, hC, hS⟩
    by_cases s16_3 : a = 3
    · skip
      refine V_tsC (tgt := 67) 3 s16_3 dG_of_16 (by decide) (by decide) rfl rfl ?_
      refine V_aload_n dG_of_67 rfl ?_
      refine V_getE (x := gi M 81 j5) dG_of_68 flG_105 (kE _ h85) rfl (eP hC h85) ?_
      refine V_iret dG_of_71 rfl rfl ?_
      have e : q_of M e a = (gi M 81 j5, M) := by
        skip
        first
        | (simp only [q_of, hcn5, if_pos hb5, if_pos s16_3]; done)
        | (simp [q_of, hb5, hcn5, s16_3]; done)
        | (simp_all [q_of]; done)
      rw [e]
      exact ⟨rfl, rfl, hC, hS⟩
    by_cases s16_4 : a = 4
    · skip
      refine V_tsC (tgt := 72) 4 s16_4 dG_of_16 (by decide) (by decide) rfl rfl ?_
      refine V_aload_n dG_of_72 rfl ?_
      refine V_getR (a := 1) dG_of_73 flG_12 k0 rfl (r0_0 hR) ?_
      refine V_getE (x := nI (mD M)) dG_of_76 flG_108 k1 rfl (cD hC hI) ?_
      refine V_aload_n dG_of_79 rfl ?_
      refine V_getE (x := gi M 82 j5) dG_of_80 flG_111 (kE _ h85) rfl (eB hC h85) ?_
      refine V_isub dG_of_83 ?_
      refine V_iret dG_of_84 rfl rfl ?_
      have e : q_of M e a = ((nI (mD M)) - (gi M 82 j5), M) := by
        skip
        first
        | (simp only [q_of, hcn5, if_pos hb5, if_pos s16_4]; done)
        | (simp [q_of, hb5, hcn5, s16_4]; done)
        | (simp_all [q_of]; done)
      rw [e]
      exact ⟨rfl, rfl, hC, hS⟩
    have t16_0 := lv_neT (a := 0) s16_0 (by decide)
    have t16_1 := lv_neT (a := 1) s16_1 (by decide)
    have t16_2 := lv_neT (a := 2) s16_2 (by decide)
    have t16_3 := lv_neT (a := 3) s16_3 (by decide)
    have t16_4 := lv_neT (a := 4) s16_4 (by decide)
    refine V_tsD (tgt := 85) dG_of_16 (by omega) rfl ?_
    refine V_iconst (v := -1) dG_of_85 (by decide) ?_
    refine V_iret dG_of_86 rfl rfl ?_
    have e : q_of M e a = ((-1), M) := by
      skip
      first
      | (simp only [q_of, hcn5, if_pos hb5, if_neg s16_0, if_neg s16_1, if_neg s16_2, if_neg s16_3, if_neg s16_4]; done)
      | (simp [q_of, hb5, hcn5, s16_0, s16_1, s16_2, s16_3, s16_4]; done)
      | (simp_all [q_of]; done)
    rw [e]
    exact ⟨rfl, rfl, hC, hS⟩
  · refine V_one ?_
    refine V_astore_nN (loc' := [(3, .null), (0, .ref 0), (1, .int e), (2, .int a)]) dG_of_8 (by decide) rfl ?_
    refine V_aload_nN dG_of_9 rfl ?_
    refine V_ifnonnullN dG_of_10 ?_
    refine V_iconst (v := -1) dG_of_13 (by decide) ?_
    refine V_iret dG_of_14 rfl rfl ?_
    have e : q_of M e a = ((-1), M) := by
      skip
      first
      | (simp only [q_of, if_neg hb5]; done)
      | (simp [q_of, hb5]; done)
      | (simp_all [q_of]; done)
    rw [e]
    exact ⟨rfl, rfl, hC, hS⟩
theorem m_of {l : Launch} {G : GT} {L : Nat → List Cl} {M σ : Hp} (hM : RM M σ) (hI : Inv L M) (e a : Int32) : MM l G mM_of 2 0 0 [.ref 76, .int e, .int a] KA σ (PM σ (q_of M e a)) := by
  have hR := hM.1
  have hM0 := hM
  have hS : Sc σ σ := Sc.rfl
  refine MM.of (loc := [(0, .ref 76), (1, .int e), (2, .int a)]) (by decide +kernel) rfl (Nat.le_of_ble_eq_true rfl) ?_
  refine V_aload_n dM_of_0 rfl ?_
  refine V_iload_n dM_of_1 rfl ?_
  refine V_callV (as := [.int e]) (rest := []) (bs' := 0) rfl dM_of_2 cmM_isEnvelope cvM_isEnvelope mlM_217 (Or.inl ⟨_, _, _, _, _, rfl, k76, by decide, rfl⟩) rfl rfl (m_isEnvelope hM hI.pw e) (by decide) (Nat.le_refl _) (by decide) (Nat.le_of_ble_eq_true rfl) ?_
  rintro _ _ _ (⟨hb2, rfl, rfl, rfl⟩ | ⟨hb2, rfl, rfl, rfl⟩) -
  · refine V_one ?_
    refine V_if_ne (tgt := 10) dM_of_5 rfl (fun _ => ?_) (fun h => absurd h (by decide))
    refine V_iload_n dM_of_10 rfl ?_
    by_cases s11_0 : a = 0
    · skip
      refine V_tsC (tgt := 44) 0 s11_0 dM_of_11 (by decide) (by decide) rfl rfl ?_
      refine V_aload_n dM_of_44 rfl ?_
      refine V_getR (a := 78) dM_of_45 flM_26 k76 rfl (r76_5 hR) ?_
      refine V_iload_n dM_of_48 rfl ?_
      refine V_ialdN (j := cN e) dM_of_49 k78 (rng_N hb2 (sm9 hI)).1 (by have := (rng_N hb2 (sm9 hI)).2; have := (iE hI).2; omega) (by decide) ?_
      refine V_topI (x' := gi M 78 (cN e)) (mR hM rfl) ?_
      refine V_iret dM_of_50 rfl rfl ?_
      have e : q_of M e a = (gi M 78 (cN e), M) := by
        skip
        first
        | (simp only [q_of, if_pos hb2, if_pos s11_0]; done)
        | (simp [q_of, hb2, s11_0]; done)
        | (simp_all [q_of]; done)
      rw [e]
      exact ⟨rfl, rfl, hM, hS⟩
    by_cases s11_1 : a = 1
    · skip
      refine V_tsC (tgt := 51) 1 s11_1 dM_of_11 (by decide) (by decide) rfl rfl ?_
      refine V_aload_n dM_of_51 rfl ?_
      refine V_getR (a := 79) dM_of_52 flM_29 k76 rfl (r76_6 hR) ?_
      refine V_iload_n dM_of_55 rfl ?_
      refine V_ialdN (j := cN e) dM_of_56 k79 (rng_N hb2 (sm9 hI)).1 (by have := (rng_N hb2 (sm9 hI)).2; have := (iE hI).2; omega) (by decide) ?_
      refine V_topI (x' := gi M 79 (cN e)) (mR hM rfl) ?_
      refine V_iret dM_of_57 rfl rfl ?_
      have e : q_of M e a = (gi M 79 (cN e), M) := by
        skip
        first
        | (simp only [q_of, if_pos hb2, if_pos s11_1]; done)
        | (simp [q_of, hb2, s11_1]; done)
        | (simp_all [q_of]; done)
      rw [e]
      exact ⟨rfl, rfl, hM, hS⟩
    by_cases s11_2 : a = 2
    · skip
      refine V_tsC (tgt := 58) 2 s11_2 dM_of_11 (by decide) (by decide) rfl rfl ?_
      refine V_aload_n dM_of_58 rfl ?_
      refine V_getR (a := 80) dM_of_59 flM_32 k76 rfl (r76_7 hR) ?_
      refine V_iload_n dM_of_62 rfl ?_
      refine V_ialdN (j := cN e) dM_of_63 k80 (rng_N hb2 (sm9 hI)).1 (by have := (rng_N hb2 (sm9 hI)).2; have := (iE hI).2; omega) (by decide) ?_
      refine V_topI (x' := gi M 80 (cN e)) (mR hM rfl) ?_
      refine V_iret dM_of_64 rfl rfl ?_
      have e : q_of M e a = (gi M 80 (cN e), M) := by
        skip
        first
        | (simp only [q_of, if_pos hb2, if_pos s11_2]; done)
        | (simp [q_of, hb2, s11_2]; done)
        | (simp_all [q_of]; done)
      rw [e]
      exact ⟨rfl, rfl, hM, hS⟩
    by_cases s11_3 : a = 3
    · skip
      refine V_tsC (tgt := 65) 3 s11_3 dM_of_11 (by decide) (by decide) rfl rfl ?_
      refine V_aload_n dM_of_65 rfl ?_
      refine V_getR (a := 81) dM_of_66 flM_35 k76 rfl (r76_8 hR) ?_
      refine V_iload_n dM_of_69 rfl ?_
      refine V_ialdN (j := cN e) dM_of_70 k81 (rng_N hb2 (sm9 hI)).1 (by have := (rng_N hb2 (sm9 hI)).2; have := (iE hI).2; omega) (by decide) ?_
      refine V_topI (x' := gi M 81 (cN e)) (mR hM rfl) ?_
      refine V_iret dM_of_71 rfl rfl ?_
      have e : q_of M e a = (gi M 81 (cN e), M) := by
        skip
        first
        | (simp only [q_of, if_pos hb2, if_pos s11_3]; done)
        | (simp [q_of, hb2, s11_3]; done)
        | (simp_all [q_of]; done)
      rw [e]
      exact ⟨rfl, rfl, hM, hS⟩
    by_cases s11_4 : a = 4
    · skip
      refine V_tsC (tgt := 72) 4 s11_4 dM_of_11 (by decide) (by decide) rfl rfl ?_
      refine V_aload_n dM_of_72 rfl ?_
      refine V_iload_n dM_of_73 rfl ?_
      refine V_topI (x' := nI (cN e)) (rng_N hb2 (sm9 hI)).1 ?_
      refine V_callV (as := [.int (nI (cN e))]) (rest := []) (bs' := 0) rfl dM_of_74 cmM_old cvM_old mlM_220 (Or.inl ⟨_, _, _, _, _, rfl, k76, by decide, rfl⟩) rfl rfl (m_old hM hI.pw (by have := (rng_N hb2 (sm9 hI)).2; have := (iE hI).2; omega)) (by decide) (Nat.le_refl _) (by decide) (Nat.le_of_ble_eq_true rfl) ?_
      rintro _ _ _ ⟨rfl, rfl, rfl⟩ -
      refine V_one ?_
      refine V_iret dM_of_77 rfl rfl ?_
      have e : q_of M e a = (nI (mD M) - gi M 82 (cN e), M) := by
        skip
        first
        | (simp only [q_of, if_pos hb2, if_pos s11_4]; done)
        | (simp [q_of, hb2, s11_4]; done)
        | (simp_all [q_of]; done)
      rw [e]
      exact ⟨rfl, rfl, hM, hS⟩
    have t11_0 := lv_neT (a := 0) s11_0 (by decide)
    have t11_1 := lv_neT (a := 1) s11_1 (by decide)
    have t11_2 := lv_neT (a := 2) s11_2 (by decide)
    have t11_3 := lv_neT (a := 3) s11_3 (by decide)
    have t11_4 := lv_neT (a := 4) s11_4 (by decide)
    refine V_tsD (tgt := 78) dM_of_11 (by omega) rfl ?_
    refine V_iconst (v := -1) dM_of_78 (by decide) ?_
    refine V_iret dM_of_79 rfl rfl ?_
    have e : q_of M e a = ((-1), M) := by
      skip
      first
      | (simp only [q_of, if_pos hb2, if_neg s11_0, if_neg s11_1, if_neg s11_2, if_neg s11_3, if_neg s11_4]; done)
      | (simp [q_of, hb2, s11_0, s11_1, s11_2, s11_3, s11_4]; done)
      | (simp_all [q_of]; done)
    rw [e]
    exact ⟨rfl, rfl, hM, hS⟩
  · refine V_one ?_
    refine V_if_ne (tgt := 10) dM_of_5 rfl (fun h => absurd h (by decide)) (fun _ => ?_)
    refine V_iconst (v := -1) dM_of_8 (by decide) ?_
    refine V_iret dM_of_9 rfl rfl ?_
    have e : q_of M e a = ((-1), M) := by
      skip
      first
      | (simp only [q_of, if_neg hb2]; done)
      | (simp [q_of, hb2]; done)
      | (simp_all [q_of]; done)
    rw [e]
    exact ⟨rfl, rfl, hM, hS⟩
theorem g_price {l : Launch} {G : GT} {L : Nat → List Cl} {M σ : Hp} (hC : RC L M σ) (hI : Inv L M) (e x : Int32) : MM l G mG_price 1 0 0 [.ref 0, .int e, .int x] KA σ (PQ L σ (q_price M e x)) := by
  have hR := hC.1
  have hC0 := hC
  have hS : Sm σ σ := Sm.rfl
  refine MM.of (loc := [(0, .ref 0), (1, .int e), (2, .int x)]) (by decide +kernel) rfl (Nat.le_of_ble_eq_true rfl) ?_
  refine V_aload_n dG_price_0 rfl ?_
  refine V_getR (a := 1) dG_price_1 flG_12 k0 rfl (r0_0 hR) ?_
  refine V_iload_n dG_price_4 rfl ?_
  refine V_callV (as := [.int e]) (rest := []) (bs' := 0) rfl dG_price_5 cmF_find cvF_find mlG_90 (Or.inl ⟨_, _, _, _, _, rfl, k1, by decide, rfl⟩) rfl rfl (c_find hC hI e) (by decide) (Nat.le_refl _) (by decide) (Nat.le_of_ble_eq_true rfl) ?_
  rintro _ _ _ (⟨j5, hj5, hx5, rfl, rfl, rfl⟩ | ⟨hb5, rfl, rfl, rfl⟩) -
  · refine V_one ?_
    have hb5 : rng e (mE M) := hx5 ▸ rng_n hj5 (sm9 hI)
    have h85 := lt9 hI hj5
    have hcn5 : cN e = j5 := by rw [hx5]; exact nI_cN (by omega)
    refine V_astore_n (loc' := [(3, .ref (8 + 2 * j5)), (0, .ref 0), (1, .int e), (2, .int x)]) dG_price_8 (by decide) rfl ?_
    refine V_aload_n dG_price_9 rfl ?_
    refine V_ifnonnull (tgt := 15) dG_price_10 rfl ?_
    refine V_iload_n dG_price_15 rfl ?_
    refine V_bipush (v := 99) dG_price_16 (by decide) ?_
    refine V_callS (as := [.int x, .int 99]) (rest := []) (bs' := 0) rfl dG_price_18 cmG_isUpTo stG_isUpTo mlG_75 rfl rfl (c_isUpTo x 99) (by decide) (Nat.le_refl _) (by decide) (Nat.le_of_ble_eq_true rfl) ?_
    rintro _ _ _ (⟨hb18, rfl, rfl, rfl⟩ | ⟨hb18, rfl, rfl, rfl⟩) -
    · refine V_one ?_
      refine V_if_ne (tgt := 27) dG_price_21 rfl (fun _ => ?_) (fun h => absurd h (by decide))
      refine V_aload_n dG_price_27 rfl ?_
      refine V_getE (x := gi M 81 j5) dG_price_28 flG_105 (kE _ h85) rfl (eP hC h85) ?_
      refine V_istore (loc' := [(4, .int (gi M 81 j5)), (3, .ref (8 + 2 * j5)), (0, .ref 0), (1, .int e), (2, .int x)]) dG_price_31 (by decide) rfl ?_
      refine V_aload_n dG_price_33 rfl ?_
      refine V_iload_n dG_price_34 rfl ?_
      refine V_putI dG_price_35 flG_105 (fpE_4 _) (Or.inl rfl) (kE _ h85) rfl ?_
      have hC := RC_set (k := 8 + 2 * j5) (j := 4) (a := 81) (b := j5) (x := x) hC (mpE _ h85).2.2.2.1 (by first | decide | omega)
      have hS := hS.set (k := 8 + 2 * j5) (j := 4) (x := x) (by omega)
      have hR := hC.1
      refine V_iload dG_price_38 rfl ?_
      refine V_iret dG_price_40 rfl rfl ?_
      have e : q_price M e x = (gi M 81 j5, si M 81 j5 x) := by
        skip
        first
        | (simp only [q_price, hcn5, if_pos hb5, if_pos hb18]; done)
        | (simp [q_price, hb5, hcn5, hb18]; done)
        | (simp_all [q_price]; done)
      rw [e]
      exact ⟨rfl, rfl, hC, hS⟩
    · refine V_one ?_
      refine V_if_ne (tgt := 27) dG_price_21 rfl (fun h => absurd h (by decide)) (fun _ => ?_)
      refine V_bipush (v := -2) dG_price_24 (by decide) ?_
      refine V_iret dG_price_26 rfl rfl ?_
      have e : q_price M e x = ((-2), M) := by
        skip
        first
        | (simp only [q_price, hcn5, if_pos hb5, if_neg hb18]; done)
        | (simp [q_price, hb5, hcn5, hb18]; done)
        | (simp_all [q_price]; done)
      rw [e]
      exact ⟨rfl, rfl, hC, hS⟩
  · refine V_one ?_
    refine V_astore_nN (loc' := [(3, .null), (0, .ref 0), (1, .int e), (2, .int x)]) dG_price_8 (by decide) rfl ?_
    refine V_aload_nN dG_price_9 rfl ?_
    refine V_ifnonnullN dG_price_10 ?_
    refine V_iconst (v := -1) dG_price_13 (by decide) ?_
    refine V_iret dG_price_14 rfl rfl ?_
    have e : q_price M e x = ((-1), M) := by
      skip
      first
      | (simp only [q_price, if_neg hb5]; done)
      | (simp [q_price, hb5]; done)
      | (simp_all [q_price]; done)
    rw [e]
    exact ⟨rfl, rfl, hC, hS⟩
theorem m_price {l : Launch} {G : GT} {L : Nat → List Cl} {M σ : Hp} (hM : RM M σ) (hI : Inv L M) (e x : Int32) : MM l G mM_price 2 0 0 [.ref 76, .int e, .int x] KA σ (PM σ (q_price M e x)) := by
  have hR := hM.1
  have hM0 := hM
  have hS : Sc σ σ := Sc.rfl
  refine MM.of (loc := [(0, .ref 76), (1, .int e), (2, .int x)]) (by decide +kernel) rfl (Nat.le_of_ble_eq_true rfl) ?_
  refine V_aload_n dM_price_0 rfl ?_
  refine V_iload_n dM_price_1 rfl ?_
  refine V_callV (as := [.int e]) (rest := []) (bs' := 0) rfl dM_price_2 cmM_isEnvelope cvM_isEnvelope mlM_217 (Or.inl ⟨_, _, _, _, _, rfl, k76, by decide, rfl⟩) rfl rfl (m_isEnvelope hM hI.pw e) (by decide) (Nat.le_refl _) (by decide) (Nat.le_of_ble_eq_true rfl) ?_
  rintro _ _ _ (⟨hb2, rfl, rfl, rfl⟩ | ⟨hb2, rfl, rfl, rfl⟩) -
  · refine V_one ?_
    refine V_if_ne (tgt := 10) dM_price_5 rfl (fun _ => ?_) (fun h => absurd h (by decide))
    refine V_aload_n dM_price_10 rfl ?_
    refine V_iload_n dM_price_11 rfl ?_
    refine V_callV (as := [.int x]) (rest := []) (bs' := 0) rfl dM_price_12 cmM_isPrice cvM_isPrice mlM_214 (Or.inl ⟨_, _, _, _, _, rfl, k76, by decide, rfl⟩) rfl rfl (m_isPrice hM hI.pw x) (by decide) (Nat.le_refl _) (by decide) (Nat.le_of_ble_eq_true rfl) ?_
    rintro _ _ _ (⟨hb12, rfl, rfl, rfl⟩ | ⟨hb12, rfl, rfl, rfl⟩) -
    · refine V_one ?_
      refine V_if_ne (tgt := 21) dM_price_15 rfl (fun _ => ?_) (fun h => absurd h (by decide))
      refine V_aload_n dM_price_21 rfl ?_
      refine V_getR (a := 81) dM_price_22 flM_35 k76 rfl (r76_8 hR) ?_
      refine V_iload_n dM_price_25 rfl ?_
      refine V_ialdN (j := cN e) dM_price_26 k81 (rng_N hb2 (sm9 hI)).1 (by have := (rng_N hb2 (sm9 hI)).2; have := (iE hI).2; omega) (by decide) ?_
      refine V_topI (x' := gi M 81 (cN e)) (mR hM rfl) ?_
      refine V_istore_n (loc' := [(3, .int (gi M 81 (cN e))), (0, .ref 76), (1, .int e), (2, .int x)]) dM_price_27 (by decide) rfl ?_
      refine V_aload_n dM_price_28 rfl ?_
      refine V_getR (a := 81) dM_price_29 flM_35 k76 rfl (r76_8 hR) ?_
      refine V_iload_n dM_price_32 rfl ?_
      refine V_iload_n dM_price_33 rfl ?_
      refine V_iastN (j := cN e) dM_price_34 k81 (rng_N hb2 (sm9 hI)).1 (by have := (rng_N hb2 (sm9 hI)).2; have := (iE hI).2; omega) (by decide) ?_
      have hM := RM_set (k := 81) (j := cN e) (x := x) hM
      have hS := hS.set (k := 81) (j := cN e) (x := x) (by omega)
      have hR := hM.1
      refine V_iload_n dM_price_35 rfl ?_
      refine V_iret dM_price_36 rfl rfl ?_
      have e : q_price M e x = (gi M 81 (cN e), si M 81 (cN e) x) := by
        skip
        first
        | (simp only [q_price, if_pos hb2, if_pos hb12]; done)
        | (simp [q_price, hb2, hb12]; done)
        | (simp_all [q_price]; done)
      rw [e]
      exact ⟨rfl, rfl, hM, hS⟩
    · refine V_one ?_
      refine V_if_ne (tgt := 21) dM_price_15 rfl (fun h => absurd h (by decide)) (fun _ => ?_)
      refine V_bipush (v := -2) dM_price_18 (by decide) ?_
      refine V_iret dM_price_20 rfl rfl ?_
      have e : q_price M e x = ((-2), M) := by
        skip
        first
        | (simp only [q_price, if_pos hb2, if_neg hb12]; done)
        | (simp [q_price, hb2, hb12]; done)
        | (simp_all [q_price]; done)
      rw [e]
      exact ⟨rfl, rfl, hM, hS⟩
  · refine V_one ?_
    refine V_if_ne (tgt := 10) dM_price_5 rfl (fun h => absurd h (by decide)) (fun _ => ?_)
    refine V_iconst (v := -1) dM_price_8 (by decide) ?_
    refine V_iret dM_price_9 rfl rfl ?_
    have e : q_price M e x = ((-1), M) := by
      skip
      first
      | (simp only [q_price, if_neg hb2]; done)
      | (simp [q_price, hb2]; done)
      | (simp_all [q_price]; done)
    rw [e]
    exact ⟨rfl, rfl, hM, hS⟩
theorem g_say {l : Launch} {G : GT} {L : Nat → List Cl} {M σ : Hp} (hC : RC L M σ) (hI : Inv L M) (e x : Int32) : MM l G mG_say 1 0 0 [.ref 0, .int e, .int x] KA σ (PQ L σ (q_say M e x)) := by
  have hR := hC.1
  have hC0 := hC
  have hS : Sm σ σ := Sm.rfl
  refine MM.of (loc := [(0, .ref 0), (1, .int e), (2, .int x)]) (by decide +kernel) rfl (Nat.le_of_ble_eq_true rfl) ?_
  refine V_aload_n dG_say_0 rfl ?_
  refine V_getR (a := 1) dG_say_1 flG_12 k0 rfl (r0_0 hR) ?_
  refine V_iload_n dG_say_4 rfl ?_
  refine V_callV (as := [.int e]) (rest := []) (bs' := 0) rfl dG_say_5 cmF_find cvF_find mlG_90 (Or.inl ⟨_, _, _, _, _, rfl, k1, by decide, rfl⟩) rfl rfl (c_find hC hI e) (by decide) (Nat.le_refl _) (by decide) (Nat.le_of_ble_eq_true rfl) ?_
  rintro _ _ _ (⟨j5, hj5, hx5, rfl, rfl, rfl⟩ | ⟨hb5, rfl, rfl, rfl⟩) -
  · refine V_one ?_
    have hb5 : rng e (mE M) := hx5 ▸ rng_n hj5 (sm9 hI)
    have h85 := lt9 hI hj5
    have hcn5 : cN e = j5 := by rw [hx5]; exact nI_cN (by omega)
    refine V_astore_n (loc' := [(3, .ref (8 + 2 * j5)), (0, .ref 0), (1, .int e), (2, .int x)]) dG_say_8 (by decide) rfl ?_
    refine V_aload_n dG_say_9 rfl ?_
    refine V_ifnonnull (tgt := 15) dG_say_10 rfl ?_
    refine V_iload_n dG_say_15 rfl ?_
    refine V_aload_n dG_say_16 rfl ?_
    refine V_getR (a := 1) dG_say_17 flG_12 k0 rfl (r0_0 hR) ?_
    refine V_getE (x := nI (mW M)) dG_say_20 flG_79 k1 rfl (cW hC hI) ?_
    refine V_callS (as := [.int x, .int (nI (mW M))]) (rest := []) (bs' := 0) rfl dG_say_23 cmG_isWithin stG_isWithin mlG_83 rfl rfl (c_isWithin x (nI (mW M))) (by decide) (Nat.le_refl _) (by decide) (Nat.le_of_ble_eq_true rfl) ?_
    rintro _ _ _ (⟨hy23, rfl, rfl, rfl⟩ | ⟨hy23, rfl, rfl, rfl⟩) -
    · refine V_one ?_
      have hb23 : rng x (2 ^ (mW M)) := (shr_0 x (n := (mW M)) (by have := (iW hI).2; have := (iE hI).2; omega)).mp hy23
      refine V_if_ne (tgt := 32) dG_say_26 rfl (fun _ => ?_) (fun h => absurd h (by decide))
      refine V_aload_n dG_say_32 rfl ?_
      refine V_getE (x := gi M 80 j5) dG_say_33 flG_102 (kE _ h85) rfl (eS hC h85) ?_
      refine V_istore (loc' := [(4, .int (gi M 80 j5)), (3, .ref (8 + 2 * j5)), (0, .ref 0), (1, .int e), (2, .int x)]) dG_say_36 (by decide) rfl ?_
      refine V_aload_n dG_say_38 rfl ?_
      refine V_iload_n dG_say_39 rfl ?_
      refine V_putI dG_say_40 flG_102 (fpE_3 _) (Or.inl rfl) (kE _ h85) rfl ?_
      have hC := RC_set (k := 8 + 2 * j5) (j := 3) (a := 80) (b := j5) (x := x) hC (mpE _ h85).2.2.1 (by first | decide | omega)
      have hS := hS.set (k := 8 + 2 * j5) (j := 3) (x := x) (by omega)
      have hR := hC.1
      refine V_iload dG_say_43 rfl ?_
      refine V_iret dG_say_45 rfl rfl ?_
      have e : q_say M e x = (gi M 80 j5, si M 80 j5 x) := by
        skip
        first
        | (simp only [q_say, hcn5, if_pos hb5, if_pos hb23]; done)
        | (simp [q_say, hb5, hcn5, hb23]; done)
        | (simp_all [q_say]; done)
      rw [e]
      exact ⟨rfl, rfl, hC, hS⟩
    · refine V_one ?_
      have hb23 : ¬ rng x (2 ^ (mW M)) := fun q => hy23 ((shr_0 x (n := (mW M)) (by have := (iW hI).2; have := (iE hI).2; omega)).mpr q)
      refine V_if_ne (tgt := 32) dG_say_26 rfl (fun h => absurd h (by decide)) (fun _ => ?_)
      refine V_bipush (v := -2) dG_say_29 (by decide) ?_
      refine V_iret dG_say_31 rfl rfl ?_
      have e : q_say M e x = ((-2), M) := by
        skip
        first
        | (simp only [q_say, hcn5, if_pos hb5, if_neg hb23]; done)
        | (simp [q_say, hb5, hcn5, hb23]; done)
        | (simp_all [q_say]; done)
      rw [e]
      exact ⟨rfl, rfl, hC, hS⟩
  · refine V_one ?_
    refine V_astore_nN (loc' := [(3, .null), (0, .ref 0), (1, .int e), (2, .int x)]) dG_say_8 (by decide) rfl ?_
    refine V_aload_nN dG_say_9 rfl ?_
    refine V_ifnonnullN dG_say_10 ?_
    refine V_iconst (v := -1) dG_say_13 (by decide) ?_
    refine V_iret dG_say_14 rfl rfl ?_
    have e : q_say M e x = ((-1), M) := by
      skip
      first
      | (simp only [q_say, if_neg hb5]; done)
      | (simp [q_say, hb5]; done)
      | (simp_all [q_say]; done)
    rw [e]
    exact ⟨rfl, rfl, hC, hS⟩
theorem m_say {l : Launch} {G : GT} {L : Nat → List Cl} {M σ : Hp} (hM : RM M σ) (hI : Inv L M) (e x : Int32) : MM l G mM_say 2 0 0 [.ref 76, .int e, .int x] KA σ (PM σ (q_say M e x)) := by
  have hR := hM.1
  have hM0 := hM
  have hS : Sc σ σ := Sc.rfl
  refine MM.of (loc := [(0, .ref 76), (1, .int e), (2, .int x)]) (by decide +kernel) rfl (Nat.le_of_ble_eq_true rfl) ?_
  refine V_aload_n dM_say_0 rfl ?_
  refine V_iload_n dM_say_1 rfl ?_
  refine V_callV (as := [.int e]) (rest := []) (bs' := 0) rfl dM_say_2 cmM_isEnvelope cvM_isEnvelope mlM_217 (Or.inl ⟨_, _, _, _, _, rfl, k76, by decide, rfl⟩) rfl rfl (m_isEnvelope hM hI.pw e) (by decide) (Nat.le_refl _) (by decide) (Nat.le_of_ble_eq_true rfl) ?_
  rintro _ _ _ (⟨hb2, rfl, rfl, rfl⟩ | ⟨hb2, rfl, rfl, rfl⟩) -
  · refine V_one ?_
    refine V_if_ne (tgt := 10) dM_say_5 rfl (fun _ => ?_) (fun h => absurd h (by decide))
    refine V_aload_n dM_say_10 rfl ?_
    refine V_iload_n dM_say_11 rfl ?_
    refine V_callV (as := [.int x]) (rest := []) (bs' := 0) rfl dM_say_12 cmM_isSaying cvM_isSaying mlM_211 (Or.inl ⟨_, _, _, _, _, rfl, k76, by decide, rfl⟩) rfl rfl (m_isSaying hM hI.pw x) (by decide) (Nat.le_refl _) (by decide) (Nat.le_of_ble_eq_true rfl) ?_
    rintro _ _ _ (⟨hb12, rfl, rfl, rfl⟩ | ⟨hb12, rfl, rfl, rfl⟩) -
    · refine V_one ?_
      refine V_if_ne (tgt := 21) dM_say_15 rfl (fun _ => ?_) (fun h => absurd h (by decide))
      refine V_aload_n dM_say_21 rfl ?_
      refine V_getR (a := 80) dM_say_22 flM_32 k76 rfl (r76_7 hR) ?_
      refine V_iload_n dM_say_25 rfl ?_
      refine V_ialdN (j := cN e) dM_say_26 k80 (rng_N hb2 (sm9 hI)).1 (by have := (rng_N hb2 (sm9 hI)).2; have := (iE hI).2; omega) (by decide) ?_
      refine V_topI (x' := gi M 80 (cN e)) (mR hM rfl) ?_
      refine V_istore_n (loc' := [(3, .int (gi M 80 (cN e))), (0, .ref 76), (1, .int e), (2, .int x)]) dM_say_27 (by decide) rfl ?_
      refine V_aload_n dM_say_28 rfl ?_
      refine V_getR (a := 80) dM_say_29 flM_32 k76 rfl (r76_7 hR) ?_
      refine V_iload_n dM_say_32 rfl ?_
      refine V_iload_n dM_say_33 rfl ?_
      refine V_iastN (j := cN e) dM_say_34 k80 (rng_N hb2 (sm9 hI)).1 (by have := (rng_N hb2 (sm9 hI)).2; have := (iE hI).2; omega) (by decide) ?_
      have hM := RM_set (k := 80) (j := cN e) (x := x) hM
      have hS := hS.set (k := 80) (j := cN e) (x := x) (by omega)
      have hR := hM.1
      refine V_iload_n dM_say_35 rfl ?_
      refine V_iret dM_say_36 rfl rfl ?_
      have e : q_say M e x = (gi M 80 (cN e), si M 80 (cN e) x) := by
        skip
        first
        | (simp only [q_say, if_pos hb2, if_pos hb12]; done)
        | (simp [q_say, hb2, hb12]; done)
        | (simp_all [q_say]; done)
      rw [e]
      exact ⟨rfl, rfl, hM, hS⟩
    · refine V_one ?_
      refine V_if_ne (tgt := 21) dM_say_15 rfl (fun h => absurd h (by decide)) (fun _ => ?_)
      refine V_bipush (v := -2) dM_say_18 (by decide) ?_
      refine V_iret dM_say_20 rfl rfl ?_
      have e : q_say M e x = ((-2), M) := by
        skip
        first
        | (simp only [q_say, if_pos hb2, if_neg hb12]; done)
        | (simp [q_say, hb2, hb12]; done)
        | (simp_all [q_say]; done)
      rw [e]
      exact ⟨rfl, rfl, hM, hS⟩
  · refine V_one ?_
    refine V_if_ne (tgt := 10) dM_say_5 rfl (fun h => absurd h (by decide)) (fun _ => ?_)
    refine V_iconst (v := -1) dM_say_8 (by decide) ?_
    refine V_iret dM_say_9 rfl rfl ?_
    have e : q_say M e x = ((-1), M) := by
      skip
      first
      | (simp only [q_say, if_neg hb2]; done)
      | (simp [q_say, hb2]; done)
      | (simp_all [q_say]; done)
    rw [e]
    exact ⟨rfl, rfl, hM, hS⟩
theorem g_row {l : Launch} {G : GT} {L : Nat → List Cl} {M σ : Hp} (hC : RC L M σ) (hI : Inv L M) (e d x : Int32) : MM l G mG_row 1 0 0 [.ref 0, .int e, .int d, .int x] KA σ (PQ L σ (q_row M e d x)) := by
  have hR := hC.1
  have hC0 := hC
  have hS : Sm σ σ := Sm.rfl
  refine MM.of (loc := [(0, .ref 0), (1, .int e), (2, .int d), (3, .int x)]) (by decide +kernel) rfl (Nat.le_of_ble_eq_true rfl) ?_
  refine V_aload_n dG_row_0 rfl ?_
  refine V_getR (a := 1) dG_row_1 flG_12 k0 rfl (r0_0 hR) ?_
  refine V_iload_n dG_row_4 rfl ?_
  refine V_callV (as := [.int e]) (rest := []) (bs' := 0) rfl dG_row_5 cmF_find cvF_find mlG_90 (Or.inl ⟨_, _, _, _, _, rfl, k1, by decide, rfl⟩) rfl rfl (c_find hC hI e) (by decide) (Nat.le_refl _) (by decide) (Nat.le_of_ble_eq_true rfl) ?_
  rintro _ _ _ (⟨j5, hj5, hx5, rfl, rfl, rfl⟩ | ⟨hb5, rfl, rfl, rfl⟩) -
  · refine V_one ?_
    have hb5 : rng e (mE M) := hx5 ▸ rng_n hj5 (sm9 hI)
    have h85 := lt9 hI hj5
    have hcn5 : cN e = j5 := by rw [hx5]; exact nI_cN (by omega)
    refine V_astore (loc' := [(4, .ref (8 + 2 * j5)), (0, .ref 0), (1, .int e), (2, .int d), (3, .int x)]) dG_row_8 (by decide) rfl ?_
    refine V_aload dG_row_10 rfl ?_
    refine V_ifnull dG_row_12 ?_
    refine V_iload_n dG_row_15 rfl ?_
    refine V_if_lt (tgt := 24) dG_row_16 rfl (fun c16 => ?_) (fun c16 => ?_)
    · skip
      have hb16 : ¬ rng d 4 := fun q => Int32.not_lt.mpr q.1 c16
      refine V_iconst (v := -1) dG_row_24 (by decide) ?_
      refine V_iret dG_row_25 rfl rfl ?_
      have e : q_row M e d x = ((-1), M) := by
        skip
        first
        | (simp only [q_row, hcn5, if_pos hb5, if_neg hb16]; done)
        | (simp [q_row, hb5, hcn5, hb16]; done)
        | (simp_all [q_row]; done)
      rw [e]
      exact ⟨rfl, rfl, hC, hS⟩
    · skip
      refine V_iload_n dG_row_19 rfl ?_
      refine V_iconst (v := 4) dG_row_20 (by decide) ?_
      refine V_icmp_lt (tgt := 26) dG_row_21 rfl (fun c21 => ?_) (fun c21 => ?_)
      · skip
        have hb21 : rng d 4 := ⟨Int32.not_lt.mp c16, c21⟩
        refine V_iload_n dG_row_26 rfl ?_
        refine V_bipush (v := 9) dG_row_27 (by decide) ?_
        refine V_callS (as := [.int x, .int 9]) (rest := []) (bs' := 0) rfl dG_row_29 cmG_isUpTo stG_isUpTo mlG_75 rfl rfl (c_isUpTo x 9) (by decide) (Nat.le_refl _) (by decide) (Nat.le_of_ble_eq_true rfl) ?_
        rintro _ _ _ (⟨hb29, rfl, rfl, rfl⟩ | ⟨hb29, rfl, rfl, rfl⟩) -
        · refine V_one ?_
          refine V_if_ne (tgt := 38) dG_row_32 rfl (fun _ => ?_) (fun h => absurd h (by decide))
          refine V_aload dG_row_38 rfl ?_
          refine V_getE (x := gi M 78 j5) dG_row_40 flG_94 (kE _ h85) rfl (eK hC h85) ?_
          refine V_bipush (v := 6) dG_row_43 (by decide) ?_
          refine V_icmp_eq (tgt := 51) dG_row_45 rfl (fun c45 => ?_) (fun c45 => ?_)
          · skip
            refine V_aload dG_row_51 rfl ?_
            refine V_getR (a := 9 + 2 * j5) dG_row_53 flG_114 (kE _ h85) rfl (rEr hR h85) ?_
            refine V_iload_n dG_row_56 rfl ?_
            refine V_ialdN (j := cN d) dG_row_57 (kEr _ h85) (rng_N hb21 (by decide)).1 (rng_N hb21 (by decide)).2 (by decide) ?_
            refine V_topI (x' := gi M 83 (4 * j5 + cN d)) (eR hC h85 (rng_N hb21 (by decide)).2) ?_
            refine V_istore (loc' := [(5, .int (gi M 83 (4 * j5 + cN d))), (4, .ref (8 + 2 * j5)), (0, .ref 0), (1, .int e), (2, .int d), (3, .int x)]) dG_row_58 (by decide) rfl ?_
            refine V_aload dG_row_60 rfl ?_
            refine V_getR (a := 9 + 2 * j5) dG_row_62 flG_114 (kE _ h85) rfl (rEr hR h85) ?_
            refine V_iload_n dG_row_65 rfl ?_
            refine V_iload_n dG_row_66 rfl ?_
            refine V_iastN (j := cN d) dG_row_67 (kEr _ h85) (rng_N hb21 (by decide)).1 (rng_N hb21 (by decide)).2 (by decide) ?_
            have hC := RC_set (k := 9 + 2 * j5) (j := cN d) (a := 83) (b := 4 * j5 + cN d) (x := x) hC (mpR _ h85 _ (rng_N hb21 (by decide)).2) (by first | decide | omega)
            have hS := hS.set (k := 9 + 2 * j5) (j := cN d) (x := x) (by omega)
            have hR := hC.1
            refine V_iload dG_row_68 rfl ?_
            refine V_iret dG_row_70 rfl rfl ?_
            have e : q_row M e d x = (gi M 83 (4 * j5 + cN d), si M 83 (4 * j5 + cN d) x) := by
              skip
              first
              | (simp only [q_row, hcn5, if_pos hb5, if_neg c16, if_pos hb21, if_pos hb29, if_pos c45]; done)
              | (simp [q_row, hb5, hcn5, c16, hb21, hb29, c45]; done)
              | (simp_all [q_row]; done)
            rw [e]
            exact ⟨rfl, rfl, hC, hS⟩
          · skip
            refine V_bipush (v := -3) dG_row_48 (by decide) ?_
            refine V_iret dG_row_50 rfl rfl ?_
            have e : q_row M e d x = ((-3), M) := by
              skip
              first
              | (simp only [q_row, hcn5, if_pos hb5, if_neg c16, if_pos hb21, if_pos hb29, if_neg c45]; done)
              | (simp [q_row, hb5, hcn5, c16, hb21, hb29, c45]; done)
              | (simp_all [q_row]; done)
            rw [e]
            exact ⟨rfl, rfl, hC, hS⟩
        · refine V_one ?_
          refine V_if_ne (tgt := 38) dG_row_32 rfl (fun h => absurd h (by decide)) (fun _ => ?_)
          refine V_bipush (v := -2) dG_row_35 (by decide) ?_
          refine V_iret dG_row_37 rfl rfl ?_
          have e : q_row M e d x = ((-2), M) := by
            skip
            first
            | (simp only [q_row, hcn5, if_pos hb5, if_neg c16, if_pos hb21, if_neg hb29]; done)
            | (simp [q_row, hb5, hcn5, c16, hb21, hb29]; done)
            | (simp_all [q_row]; done)
          rw [e]
          exact ⟨rfl, rfl, hC, hS⟩
      · skip
        have hb21 : ¬ rng d 4 := fun q => c21 q.2
        refine V_iconst (v := -1) dG_row_24 (by decide) ?_
        refine V_iret dG_row_25 rfl rfl ?_
        have e : q_row M e d x = ((-1), M) := by
          skip
          first
          | (simp only [q_row, hcn5, if_pos hb5, if_neg c16, if_neg hb21]; done)
          | (simp [q_row, hb5, hcn5, c16, hb21]; done)
          | (simp_all [q_row]; done)
        rw [e]
        exact ⟨rfl, rfl, hC, hS⟩
  · refine V_one ?_
    refine V_astoreN (loc' := [(4, .null), (0, .ref 0), (1, .int e), (2, .int d), (3, .int x)]) dG_row_8 (by decide) rfl ?_
    refine V_aloadN dG_row_10 rfl ?_
    refine V_ifnullN (tgt := 24) dG_row_12 rfl ?_
    refine V_iconst (v := -1) dG_row_24 (by decide) ?_
    refine V_iret dG_row_25 rfl rfl ?_
    have e : q_row M e d x = ((-1), M) := by
      skip
      first
      | (simp only [q_row, if_neg hb5]; done)
      | (simp [q_row, hb5]; done)
      | (simp_all [q_row]; done)
    rw [e]
    exact ⟨rfl, rfl, hC, hS⟩
theorem ix4 (a b : Int32) {i j : Nat} (ha : a = nI i) (hb : b = nI j) : 4 * a + b = nI (4 * i + j) := by
  rw [ha, hb, show (4 : Int32) = nI 4 from rfl, pk_mul, nI_add]
theorem m_row {l : Launch} {G : GT} {L : Nat → List Cl} {M σ : Hp} (hM : RM M σ) (hI : Inv L M) (e d x : Int32) : MM l G mM_row 2 0 0 [.ref 76, .int e, .int d, .int x] KA σ (PM σ (q_row M e d x)) := by
  have hR := hM.1
  have hM0 := hM
  have hS : Sc σ σ := Sc.rfl
  refine MM.of (loc := [(0, .ref 76), (1, .int e), (2, .int d), (3, .int x)]) (by decide +kernel) rfl (Nat.le_of_ble_eq_true rfl) ?_
  refine V_aload_n dM_row_0 rfl ?_
  refine V_iload_n dM_row_1 rfl ?_
  refine V_callV (as := [.int e]) (rest := []) (bs' := 0) rfl dM_row_2 cmM_isEnvelope cvM_isEnvelope mlM_217 (Or.inl ⟨_, _, _, _, _, rfl, k76, by decide, rfl⟩) rfl rfl (m_isEnvelope hM hI.pw e) (by decide) (Nat.le_refl _) (by decide) (Nat.le_of_ble_eq_true rfl) ?_
  rintro _ _ _ (⟨hb2, rfl, rfl, rfl⟩ | ⟨hb2, rfl, rfl, rfl⟩) -
  · refine V_one ?_
    refine V_if_eq (tgt := 18) dM_row_5 rfl (fun h => absurd h (by decide)) (fun _ => ?_)
    refine V_aload_n dM_row_8 rfl ?_
    refine V_iload_n dM_row_9 rfl ?_
    refine V_iconst (v := 0) dM_row_10 (by decide) ?_
    refine V_iconst (v := 3) dM_row_11 (by decide) ?_
    refine V_callV (as := [.int d, .int 0, .int 3]) (rest := []) (bs' := 0) rfl dM_row_12 cmM_in cvM_in mlM_203 (Or.inl ⟨_, _, _, _, _, rfl, k76, by decide, rfl⟩) rfl rfl (m_in d 0 3) (by decide) (Nat.le_refl _) (by decide) (Nat.le_of_ble_eq_true rfl) ?_
    rintro _ _ _ (⟨hy12, rfl, rfl, rfl⟩ | ⟨hy12, rfl, rfl, rfl⟩) -
    · refine V_one ?_
      have hb12 : rng d 4 := (le_pred d (n := 4) (by decide)).mp hy12
      refine V_if_ne (tgt := 20) dM_row_15 rfl (fun _ => ?_) (fun h => absurd h (by decide))
      refine V_aload_n dM_row_20 rfl ?_
      refine V_iload_n dM_row_21 rfl ?_
      refine V_iconst (v := 0) dM_row_22 (by decide) ?_
      refine V_bipush (v := 9) dM_row_23 (by decide) ?_
      refine V_callV (as := [.int x, .int 0, .int 9]) (rest := []) (bs' := 0) rfl dM_row_25 cmM_in cvM_in mlM_203 (Or.inl ⟨_, _, _, _, _, rfl, k76, by decide, rfl⟩) rfl rfl (m_in x 0 9) (by decide) (Nat.le_refl _) (by decide) (Nat.le_of_ble_eq_true rfl) ?_
      rintro _ _ _ (⟨hb25, rfl, rfl, rfl⟩ | ⟨hb25, rfl, rfl, rfl⟩) -
      · refine V_one ?_
        refine V_if_ne (tgt := 34) dM_row_28 rfl (fun _ => ?_) (fun h => absurd h (by decide))
        refine V_aload_n dM_row_34 rfl ?_
        refine V_getR (a := 78) dM_row_35 flM_26 k76 rfl (r76_5 hR) ?_
        refine V_iload_n dM_row_38 rfl ?_
        refine V_ialdN (j := cN e) dM_row_39 k78 (rng_N hb2 (sm9 hI)).1 (by have := (rng_N hb2 (sm9 hI)).2; have := (iE hI).2; omega) (by decide) ?_
        refine V_topI (x' := gi M 78 (cN e)) (mR hM rfl) ?_
        refine V_bipush (v := 6) dM_row_40 (by decide) ?_
        refine V_icmp_eq (tgt := 48) dM_row_42 rfl (fun c42 => ?_) (fun c42 => ?_)
        · skip
          refine V_aload_n dM_row_48 rfl ?_
          refine V_getR (a := 83) dM_row_49 flM_41 k76 rfl (r76_10 hR) ?_
          refine V_iconst (v := 4) dM_row_52 (by decide) ?_
          refine V_iload_n dM_row_53 rfl ?_
          refine V_imul dM_row_54 ?_
          refine V_iload_n dM_row_55 rfl ?_
          refine V_iadd dM_row_56 ?_
          refine V_ialdN (j := 4 * cN e + cN d) dM_row_57 k83 (ix4 e d (rng_N hb2 (sm9 hI)).1 (rng_N hb12 (by decide)).1) (by have := (rng_N hb2 (sm9 hI)).2; have := (iE hI).2; have := (rng_N hb12 (by decide)).2; omega) (by decide) ?_
          refine V_topI (x' := gi M 83 (4 * cN e + cN d)) (mR hM rfl) ?_
          refine V_istore (loc' := [(4, .int (gi M 83 (4 * cN e + cN d))), (0, .ref 76), (1, .int e), (2, .int d), (3, .int x)]) dM_row_58 (by decide) rfl ?_
          refine V_aload_n dM_row_60 rfl ?_
          refine V_getR (a := 83) dM_row_61 flM_41 k76 rfl (r76_10 hR) ?_
          refine V_iconst (v := 4) dM_row_64 (by decide) ?_
          refine V_iload_n dM_row_65 rfl ?_
          refine V_imul dM_row_66 ?_
          refine V_iload_n dM_row_67 rfl ?_
          refine V_iadd dM_row_68 ?_
          refine V_iload_n dM_row_69 rfl ?_
          refine V_iastN (j := 4 * cN e + cN d) dM_row_70 k83 (ix4 e d (rng_N hb2 (sm9 hI)).1 (rng_N hb12 (by decide)).1) (by have := (rng_N hb2 (sm9 hI)).2; have := (iE hI).2; have := (rng_N hb12 (by decide)).2; omega) (by decide) ?_
          have hM := RM_set (k := 83) (j := 4 * cN e + cN d) (x := x) hM
          have hS := hS.set (k := 83) (j := 4 * cN e + cN d) (x := x) (by omega)
          have hR := hM.1
          refine V_iload dM_row_71 rfl ?_
          refine V_iret dM_row_73 rfl rfl ?_
          have e : q_row M e d x = (gi M 83 (4 * cN e + cN d), si M 83 (4 * cN e + cN d) x) := by
            skip
            first
            | (simp only [q_row, if_pos hb2, if_pos hb12, if_pos hb25, if_pos c42]; done)
            | (simp [q_row, hb2, hb12, hb25, c42]; done)
            | (simp_all [q_row]; done)
          rw [e]
          exact ⟨rfl, rfl, hM, hS⟩
        · skip
          refine V_bipush (v := -3) dM_row_45 (by decide) ?_
          refine V_iret dM_row_47 rfl rfl ?_
          have e : q_row M e d x = ((-3), M) := by
            skip
            first
            | (simp only [q_row, if_pos hb2, if_pos hb12, if_pos hb25, if_neg c42]; done)
            | (simp [q_row, hb2, hb12, hb25, c42]; done)
            | (simp_all [q_row]; done)
          rw [e]
          exact ⟨rfl, rfl, hM, hS⟩
      · refine V_one ?_
        refine V_if_ne (tgt := 34) dM_row_28 rfl (fun h => absurd h (by decide)) (fun _ => ?_)
        refine V_bipush (v := -2) dM_row_31 (by decide) ?_
        refine V_iret dM_row_33 rfl rfl ?_
        have e : q_row M e d x = ((-2), M) := by
          skip
          first
          | (simp only [q_row, if_pos hb2, if_pos hb12, if_neg hb25]; done)
          | (simp [q_row, hb2, hb12, hb25]; done)
          | (simp_all [q_row]; done)
        rw [e]
        exact ⟨rfl, rfl, hM, hS⟩
    · refine V_one ?_
      have hb12 : ¬ rng d 4 := fun q => hy12 ((le_pred d (n := 4) (by decide)).mpr q)
      refine V_if_ne (tgt := 20) dM_row_15 rfl (fun h => absurd h (by decide)) (fun _ => ?_)
      refine V_iconst (v := -1) dM_row_18 (by decide) ?_
      refine V_iret dM_row_19 rfl rfl ?_
      have e : q_row M e d x = ((-1), M) := by
        skip
        first
        | (simp only [q_row, if_pos hb2, if_neg hb12]; done)
        | (simp [q_row, hb2, hb12]; done)
        | (simp_all [q_row]; done)
      rw [e]
      exact ⟨rfl, rfl, hM, hS⟩
  · refine V_one ?_
    refine V_if_eq (tgt := 18) dM_row_5 rfl (fun _ => ?_) (fun h => absurd h (by decide))
    refine V_iconst (v := -1) dM_row_18 (by decide) ?_
    refine V_iret dM_row_19 rfl rfl ?_
    have e : q_row M e d x = ((-1), M) := by
      skip
      first
      | (simp only [q_row, if_neg hb2]; done)
      | (simp [q_row, hb2]; done)
      | (simp_all [q_row]; done)
    rw [e]
    exact ⟨rfl, rfl, hM, hS⟩
theorem g_pass {l : Launch} {G : GT} {L : Nat → List Cl} {M σ : Hp} (hC : RC L M σ) (hI : Inv L M) (x : Int32) : MM l G mG_pass 1 0 0 [.ref 0, .int x] KA σ (PQ L σ (q_pass M x)) := by
  have hR := hC.1
  have hC0 := hC
  have hS : Sm σ σ := Sm.rfl
  refine MM.of (loc := [(0, .ref 0), (1, .int x)]) (by decide +kernel) rfl (Nat.le_of_ble_eq_true rfl) ?_
  refine V_iload_n dG_pass_0 rfl ?_
  refine V_bipush (v := 99) dG_pass_1 (by decide) ?_
  refine V_callS (as := [.int x, .int 99]) (rest := []) (bs' := 0) rfl dG_pass_3 cmG_isUpTo stG_isUpTo mlG_75 rfl rfl (c_isUpTo x 99) (by decide) (Nat.le_refl _) (by decide) (Nat.le_of_ble_eq_true rfl) ?_
  rintro _ _ _ (⟨hb3, rfl, rfl, rfl⟩ | ⟨hb3, rfl, rfl, rfl⟩) -
  · refine V_one ?_
    refine V_if_ne (tgt := 12) dG_pass_6 rfl (fun _ => ?_) (fun h => absurd h (by decide))
    refine V_aload_n dG_pass_12 rfl ?_
    refine V_getR (a := 1) dG_pass_13 flG_12 k0 rfl (r0_0 hR) ?_
    refine V_getE (x := nI (mD M)) dG_pass_16 flG_108 k1 rfl (cD hC hI) ?_
    refine V_iload_n dG_pass_19 rfl ?_
    refine V_iadd dG_pass_20 ?_
    refine V_sipush (v := 9999) dG_pass_21 (by decide) ?_
    refine V_icmp_le (tgt := 30) dG_pass_24 rfl (fun c24 => ?_) (fun c24 => ?_)
    · skip
      refine V_aload_n dG_pass_30 rfl ?_
      refine V_getR (a := 1) dG_pass_31 flG_12 k0 rfl (r0_0 hR) ?_
      refine V_dup dG_pass_34 rfl ?_
      refine V_getE (x := nI (mD M)) dG_pass_35 flG_108 k1 rfl (cD hC hI) ?_
      refine V_iload_n dG_pass_38 rfl ?_
      refine V_iadd dG_pass_39 ?_
      refine V_putI dG_pass_40 flG_108 (fpF_4 _) (Or.inl rfl) k1 rfl ?_
      have hC := RC_set (k := 1) (j := 4) (a := 76) (b := 2) (x := (nI (mD M)) + x) hC rfl (by first | decide | omega)
      have hS := hS.set (k := 1) (j := 4) (x := (nI (mD M)) + x) (by omega)
      have hR := hC.1
      refine V_aload_n dG_pass_43 rfl ?_
      refine V_getR (a := 1) dG_pass_44 flG_12 k0 rfl (r0_0 hR) ?_
      refine V_getE (x := nI (mD M) + x) dG_pass_47 flG_108 k1 rfl gi_eq ?_
      refine V_iret dG_pass_50 rfl rfl ?_
      have e : q_pass M x = (nI (mD M) + x, si M 76 2 ((nI (mD M)) + x)) := by
        skip
        first
        | (simp only [q_pass, if_pos hb3, if_pos c24]; done)
        | (simp [q_pass, hb3, c24]; done)
        | (simp_all [q_pass]; done)
      rw [e]
      exact ⟨rfl, rfl, hC, hS⟩
    · skip
      refine V_bipush (v := -3) dG_pass_27 (by decide) ?_
      refine V_iret dG_pass_29 rfl rfl ?_
      have e : q_pass M x = ((-3), M) := by
        skip
        first
        | (simp only [q_pass, if_pos hb3, if_neg c24]; done)
        | (simp [q_pass, hb3, c24]; done)
        | (simp_all [q_pass]; done)
      rw [e]
      exact ⟨rfl, rfl, hC, hS⟩
  · refine V_one ?_
    refine V_if_ne (tgt := 12) dG_pass_6 rfl (fun h => absurd h (by decide)) (fun _ => ?_)
    refine V_bipush (v := -2) dG_pass_9 (by decide) ?_
    refine V_iret dG_pass_11 rfl rfl ?_
    have e : q_pass M x = ((-2), M) := by
      skip
      first
      | (simp only [q_pass, if_neg hb3]; done)
      | (simp [q_pass, hb3]; done)
      | (simp_all [q_pass]; done)
    rw [e]
    exact ⟨rfl, rfl, hC, hS⟩
theorem m_pass {l : Launch} {G : GT} {L : Nat → List Cl} {M σ : Hp} (hM : RM M σ) (hI : Inv L M) (x : Int32) : MM l G mM_pass 1 0 0 [.ref 76, .int x] KA σ (PM σ (q_pass M x)) := by
  have hR := hM.1
  have hM0 := hM
  have hS : Sc σ σ := Sc.rfl
  refine MM.of (loc := [(0, .ref 76), (1, .int x)]) (by decide +kernel) rfl (Nat.le_of_ble_eq_true rfl) ?_
  refine V_aload_n dM_pass_0 rfl ?_
  refine V_iload_n dM_pass_1 rfl ?_
  refine V_iconst (v := 0) dM_pass_2 (by decide) ?_
  refine V_bipush (v := 99) dM_pass_3 (by decide) ?_
  refine V_callV (as := [.int x, .int 0, .int 99]) (rest := []) (bs' := 0) rfl dM_pass_5 cmM_in cvM_in mlM_203 (Or.inl ⟨_, _, _, _, _, rfl, k76, by decide, rfl⟩) rfl rfl (m_in x 0 99) (by decide) (Nat.le_refl _) (by decide) (Nat.le_of_ble_eq_true rfl) ?_
  rintro _ _ _ (⟨hb5, rfl, rfl, rfl⟩ | ⟨hb5, rfl, rfl, rfl⟩) -
  · refine V_one ?_
    refine V_if_ne (tgt := 14) dM_pass_8 rfl (fun _ => ?_) (fun h => absurd h (by decide))
    refine V_aload_n dM_pass_14 rfl ?_
    refine V_getE (x := nI (mD M)) dM_pass_15 flM_16 k76 rfl ((mR hM rfl).trans (iD hI).1) ?_
    refine V_iload_n dM_pass_18 rfl ?_
    refine V_iadd dM_pass_19 ?_
    refine V_sipush (v := 9999) dM_pass_20 (by decide) ?_
    refine V_icmp_le (tgt := 29) dM_pass_23 rfl (fun c23 => ?_) (fun c23 => ?_)
    · skip
      refine V_aload_n dM_pass_29 rfl ?_
      refine V_dup dM_pass_30 rfl ?_
      refine V_getE (x := nI (mD M)) dM_pass_31 flM_16 k76 rfl ((mR hM rfl).trans (iD hI).1) ?_
      refine V_iload_n dM_pass_34 rfl ?_
      refine V_iadd dM_pass_35 ?_
      refine V_putI dM_pass_36 flM_16 (fpM_2 _) (Or.inl rfl) k76 rfl ?_
      have hM := RM_set (k := 76) (j := 2) (x := (nI (mD M)) + x) hM
      have hS := hS.set (k := 76) (j := 2) (x := (nI (mD M)) + x) (by omega)
      have hR := hM.1
      refine V_aload_n dM_pass_39 rfl ?_
      refine V_getE (x := nI (mD M) + x) dM_pass_40 flM_16 k76 rfl gi_eq ?_
      refine V_iret dM_pass_43 rfl rfl ?_
      have e : q_pass M x = (nI (mD M) + x, si M 76 2 ((nI (mD M)) + x)) := by
        skip
        first
        | (simp only [q_pass, if_pos hb5, if_pos c23]; done)
        | (simp [q_pass, hb5, c23]; done)
        | (simp_all [q_pass]; done)
      rw [e]
      exact ⟨rfl, rfl, hM, hS⟩
    · skip
      refine V_bipush (v := -3) dM_pass_26 (by decide) ?_
      refine V_iret dM_pass_28 rfl rfl ?_
      have e : q_pass M x = ((-3), M) := by
        skip
        first
        | (simp only [q_pass, if_pos hb5, if_neg c23]; done)
        | (simp [q_pass, hb5, c23]; done)
        | (simp_all [q_pass]; done)
      rw [e]
      exact ⟨rfl, rfl, hM, hS⟩
  · refine V_one ?_
    refine V_if_ne (tgt := 14) dM_pass_8 rfl (fun h => absurd h (by decide)) (fun _ => ?_)
    refine V_bipush (v := -2) dM_pass_11 (by decide) ?_
    refine V_iret dM_pass_13 rfl rfl ?_
    have e : q_pass M x = ((-2), M) := by
      skip
      first
      | (simp only [q_pass, if_neg hb5]; done)
      | (simp [q_pass, hb5]; done)
      | (simp_all [q_pass]; done)
    rw [e]
    exact ⟨rfl, rfl, hM, hS⟩
