/-! the public methods: the fair is laid -/
def q_world (M : Hp) (x : Int32) : Int32 × Hp := if 1 ≤ x ∧ x ≤ 30 then (if mW M < 6 then (nI (mW M), si (si M 77 (mW M) x) 76 0 (nI (mW M + 1))) else (-4, M)) else (-2, M)
def q_addWorld (M : Hp) (x : Int32) : Int32 × Hp := if mW M < 6 then (nI (mW M), si (si M 77 (mW M) x) 76 0 (nI (mW M + 1))) else (-4, M)
theorem W6 {L : Nat → List Cl} {M : Hp} (hI : Inv L M) : nI (mW M) < 6 ↔ mW M < 6 := nI_ltI (b := 6) (by have := (iW hI).2; omega) (by decide)
theorem W6e {L : Nat → List Cl} {M : Hp} (hI : Inv L M) : nI (mW M) = 6 ↔ ¬ mW M < 6 := by
  have h := (iW hI).2
  rw [show (6 : Int32) = nI 6 from rfl, nI_eq (by omega) (by decide)]
  omega
theorem c_addWorld {l : Launch} {G : GT} {L : Nat → List Cl} {M σ : Hp} (hC : RC L M σ) (hI : Inv L M) (x : Int32) : MM l G mF_addWorld 0 0 0 [.ref 1, .int x] KA σ (PQ L σ (q_addWorld M x)) := by
  have hR := hC.1
  have hC0 := hC
  have hS : Sm σ σ := Sm.rfl
  refine MM.of (loc := [(0, .ref 1), (1, .int x)]) (by decide +kernel) rfl (Nat.le_of_ble_eq_true rfl) ?_
  refine V_aload_n dF_addWorld_0 rfl ?_
  refine V_getE (x := nI (mW M)) dF_addWorld_1 flF_38 k1 rfl (cW hC hI) ?_
  refine V_bipush (v := 6) dF_addWorld_4 (by decide) ?_
  refine V_icmp_lt (tgt := 12) dF_addWorld_6 rfl (fun c6 => ?_) (fun c6 => ?_)
  · skip
    have h6 : mW M < 6 := (W6 hI).mp c6
    refine V_aload_n dF_addWorld_12 rfl ?_
    refine V_getR (a := 2) dF_addWorld_13 flF_9 k1 rfl (r1_1 hR) ?_
    refine V_aload_n dF_addWorld_16 rfl ?_
    refine V_getE (x := nI (mW M)) dF_addWorld_17 flF_38 k1 rfl (cW hC hI) ?_
    refine V_iload_n dF_addWorld_20 rfl ?_
    refine V_iastN (j := mW M) dF_addWorld_21 k2 rfl (by omega) (by decide) ?_
    have hC := RC_set (k := 2) (j := mW M) (a := 77) (b := mW M) (x := x) hC (mpC _ h6) (by first | decide | omega)
    have hS := hS.set (k := 2) (j := mW M) (x := x) (by omega)
    have hR := hC.1
    refine V_aload_n dF_addWorld_22 rfl ?_
    refine V_dup dF_addWorld_23 rfl ?_
    refine V_getE (x := nI (mW M)) dF_addWorld_24 flF_38 k1 rfl ((gi_ne (by decide)).trans (cW hC0 hI)) ?_
    refine V_iconst (v := 1) dF_addWorld_27 (by decide) ?_
    refine V_iadd dF_addWorld_28 ?_
    refine V_topI (x' := nI (mW M + 1)) (nI_1 _) ?_
    refine V_putI dF_addWorld_29 flF_38 (fpF_0 _) (Or.inl rfl) k1 rfl ?_
    have hC := RC_set (k := 1) (j := 0) (a := 76) (b := 0) (x := nI (mW M + 1)) hC rfl (by first | decide | omega)
    have hS := hS.set (k := 1) (j := 0) (x := nI (mW M + 1)) (by omega)
    have hR := hC.1
    refine V_aload_n dF_addWorld_32 rfl ?_
    refine V_getE (x := nI (mW M + 1)) dF_addWorld_33 flF_38 k1 rfl gi_eq ?_
    refine V_iconst (v := 1) dF_addWorld_36 (by decide) ?_
    refine V_isub dF_addWorld_37 ?_
    refine V_topI (x' := nI (mW M)) (nI_pred _) ?_
    refine V_iret dF_addWorld_38 rfl rfl ?_
    have e : q_addWorld M x = (nI (mW M), si (si M 77 (mW M) x) 76 0 (nI (mW M + 1))) := by
      skip
      first
      | (simp only [q_addWorld, if_pos h6]; done)
      | (simp [q_addWorld, h6]; done)
      | (simp_all [q_addWorld]; done)
    rw [e]
    exact ⟨rfl, rfl, hC, hS⟩
  · skip
    have h6 : ¬ mW M < 6 := fun q => c6 ((W6 hI).mpr q)
    refine V_bipush (v := -4) dF_addWorld_9 (by decide) ?_
    refine V_iret dF_addWorld_11 rfl rfl ?_
    have e : q_addWorld M x = ((-4), M) := by
      skip
      first
      | (simp only [q_addWorld, if_neg h6]; done)
      | (simp [q_addWorld, h6]; done)
      | (simp_all [q_addWorld]; done)
    rw [e]
    exact ⟨rfl, rfl, hC, hS⟩
theorem g_world {l : Launch} {G : GT} {L : Nat → List Cl} {M σ : Hp} (hC : RC L M σ) (hI : Inv L M) (x : Int32) : MM l G mG_world 1 0 0 [.ref 0, .int x] KA σ (PQ L σ (q_world M x)) := by
  have hR := hC.1
  have hC0 := hC
  have hS : Sm σ σ := Sm.rfl
  refine MM.of (loc := [(0, .ref 0), (1, .int x)]) (by decide +kernel) rfl (Nat.le_of_ble_eq_true rfl) ?_
  refine V_iload_n dG_world_0 rfl ?_
  refine V_callS (as := [.int x]) (rest := []) (bs' := 0) rfl dG_world_1 cmG_isChance stG_isChance mlG_60 rfl rfl (c_isChance x) (by decide) (Nat.le_refl _) (by decide) (Nat.le_of_ble_eq_true rfl) ?_
  rintro _ _ _ (⟨hb1, rfl, rfl, rfl⟩ | ⟨hb1, rfl, rfl, rfl⟩) -
  · refine V_one ?_
    refine V_if_ne (tgt := 10) dG_world_4 rfl (fun _ => ?_) (fun h => absurd h (by decide))
    refine V_aload_n dG_world_10 rfl ?_
    refine V_getR (a := 1) dG_world_11 flG_12 k0 rfl (r0_0 hR) ?_
    refine V_iload_n dG_world_14 rfl ?_
    refine V_callV (as := [.int x]) (rest := []) (bs' := 0) rfl dG_world_15 cmF_addWorld cvF_addWorld mlG_64 (Or.inl ⟨_, _, _, _, _, rfl, k1, by decide, rfl⟩) rfl rfl (c_addWorld hC hI x) (by decide) (Nat.le_refl _) (by decide) (Nat.le_of_ble_eq_true rfl) ?_
    rintro _ _ s1 ⟨rfl, rfl, hC, hS1⟩ -
    refine V_one ?_
    have hS := hS.trans hS1
    refine V_iret dG_world_18 rfl rfl ?_
    have e : q_world M x = ((q_addWorld M x).1, (q_addWorld M x).2) := by
      skip
      first
      | (simp only [q_world, if_pos hb1, q_addWorld]; done)
      | (simp [q_world, hb1, q_addWorld]; done)
      | (simp_all [q_world, q_addWorld]; done)
    rw [e]
    exact ⟨rfl, rfl, hC, hS⟩
  · refine V_one ?_
    refine V_if_ne (tgt := 10) dG_world_4 rfl (fun h => absurd h (by decide)) (fun _ => ?_)
    refine V_bipush (v := -2) dG_world_7 (by decide) ?_
    refine V_iret dG_world_9 rfl rfl ?_
    have e : q_world M x = ((-2), M) := by
      skip
      first
      | (simp only [q_world, if_neg hb1, q_addWorld]; done)
      | (simp [q_world, hb1, q_addWorld]; done)
      | (simp_all [q_world, q_addWorld]; done)
    rw [e]
    exact ⟨rfl, rfl, hC, hS⟩
theorem m_world {l : Launch} {G : GT} {L : Nat → List Cl} {M σ : Hp} (hM : RM M σ) (hI : Inv L M) (x : Int32) : MM l G mM_world 1 0 0 [.ref 76, .int x] KA σ (PM σ (q_world M x)) := by
  have hR := hM.1
  have hM0 := hM
  have hS : Sc σ σ := Sc.rfl
  refine MM.of (loc := [(0, .ref 76), (1, .int x)]) (by decide +kernel) rfl (Nat.le_of_ble_eq_true rfl) ?_
  refine V_aload_n dM_world_0 rfl ?_
  refine V_iload_n dM_world_1 rfl ?_
  refine V_iconst (v := 1) dM_world_2 (by decide) ?_
  refine V_bipush (v := 30) dM_world_3 (by decide) ?_
  refine V_callV (as := [.int x, .int 1, .int 30]) (rest := []) (bs' := 0) rfl dM_world_5 cmM_in cvM_in mlM_203 (Or.inl ⟨_, _, _, _, _, rfl, k76, by decide, rfl⟩) rfl rfl (m_in x 1 30) (by decide) (Nat.le_refl _) (by decide) (Nat.le_of_ble_eq_true rfl) ?_
  rintro _ _ _ (⟨hb5, rfl, rfl, rfl⟩ | ⟨hb5, rfl, rfl, rfl⟩) -
  · refine V_one ?_
    refine V_if_ne (tgt := 14) dM_world_8 rfl (fun _ => ?_) (fun h => absurd h (by decide))
    refine V_aload_n dM_world_14 rfl ?_
    refine V_getE (x := nI (mW M)) dM_world_15 flM_7 k76 rfl ((mR hM rfl).trans (iW hI).1) ?_
    refine V_bipush (v := 6) dM_world_18 (by decide) ?_
    refine V_icmp_ne (tgt := 26) dM_world_20 rfl (fun c20 => ?_) (fun c20 => ?_)
    · skip
      have h6 : mW M < 6 := Decidable.not_not.mp (fun q => c20 ((W6e hI).mpr q))
      refine V_aload_n dM_world_26 rfl ?_
      refine V_getR (a := 77) dM_world_27 flM_22 k76 rfl (r76_4 hR) ?_
      refine V_aload_n dM_world_30 rfl ?_
      refine V_getE (x := nI (mW M)) dM_world_31 flM_7 k76 rfl ((mR hM rfl).trans (iW hI).1) ?_
      refine V_iload_n dM_world_34 rfl ?_
      refine V_iastN (j := mW M) dM_world_35 k77 rfl (by omega) (by decide) ?_
      have hM := RM_set (k := 77) (j := mW M) (x := x) hM
      have hS := hS.set (k := 77) (j := mW M) (x := x) (by omega)
      have hR := hM.1
      refine V_aload_n dM_world_36 rfl ?_
      refine V_dup dM_world_37 rfl ?_
      refine V_getE (x := nI (mW M)) dM_world_38 flM_7 k76 rfl ((gi_ne (by decide)).trans ((mR hM0 rfl).trans (iW hI).1)) ?_
      refine V_iconst (v := 1) dM_world_41 (by decide) ?_
      refine V_iadd dM_world_42 ?_
      refine V_topI (x' := nI (mW M + 1)) (nI_1 _) ?_
      refine V_putI dM_world_43 flM_7 (fpM_0 _) (Or.inl rfl) k76 rfl ?_
      have hM := RM_set (k := 76) (j := 0) (x := nI (mW M + 1)) hM
      have hS := hS.set (k := 76) (j := 0) (x := nI (mW M + 1)) (by omega)
      have hR := hM.1
      refine V_aload_n dM_world_46 rfl ?_
      refine V_getE (x := nI (mW M + 1)) dM_world_47 flM_7 k76 rfl gi_eq ?_
      refine V_iconst (v := 1) dM_world_50 (by decide) ?_
      refine V_isub dM_world_51 ?_
      refine V_topI (x' := nI (mW M)) (nI_pred _) ?_
      refine V_iret dM_world_52 rfl rfl ?_
      have e : q_world M x = (nI (mW M), si (si M 77 (mW M) x) 76 0 (nI (mW M + 1))) := by
        skip
        first
        | (simp only [q_world, if_pos hb5, if_pos h6]; done)
        | (simp [q_world, hb5, h6]; done)
        | (simp_all [q_world]; done)
      rw [e]
      exact ⟨rfl, rfl, hM, hS⟩
    · skip
      have h6 : ¬ mW M < 6 := (W6e hI).mp c20
      refine V_bipush (v := -4) dM_world_23 (by decide) ?_
      refine V_iret dM_world_25 rfl rfl ?_
      have e : q_world M x = ((-4), M) := by
        skip
        first
        | (simp only [q_world, if_pos hb5, if_neg h6]; done)
        | (simp [q_world, hb5, h6]; done)
        | (simp_all [q_world]; done)
      rw [e]
      exact ⟨rfl, rfl, hM, hS⟩
  · refine V_one ?_
    refine V_if_ne (tgt := 14) dM_world_8 rfl (fun h => absurd h (by decide)) (fun _ => ?_)
    refine V_bipush (v := -2) dM_world_11 (by decide) ?_
    refine V_iret dM_world_13 rfl rfl ?_
    have e : q_world M x = ((-2), M) := by
      skip
      first
      | (simp only [q_world, if_neg hb5]; done)
      | (simp [q_world, hb5]; done)
      | (simp_all [q_world]; done)
    rw [e]
    exact ⟨rfl, rfl, hM, hS⟩
