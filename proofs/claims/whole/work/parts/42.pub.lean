/-! the public methods: feed, count, trace; the acts' leaves -/
def mF (M : Hp) : Nat := cN (gi M 76 13)
theorem iF {L : Nat → List Cl} {M : Hp} (hI : Inv L M) : gi M 76 13 = nI (mF M) ∧ mF M < 101 := hI.2.2.2.2.1
theorem mpX : ∀ j : Nat, j < 100 → mp 48 j = some (84, j) := by decide
theorem mpY : ∀ j : Nat, j < 20 → mp 65 j = some (112, j) := by decide
def q_feed (M : Hp) (x : Int32) : Int32 × Hp := if 0 ≤ x ∧ x ≤ 127 then (if mF M < 100 then (nI (mF M + 1), si (si M 84 (mF M) x) 76 13 (nI (mF M + 1))) else (-4, M)) else (-2, M)
def q_addSign (M : Hp) (x : Int32) : Int32 × Hp := if mF M < 100 then (nI (mF M + 1), si (si M 84 (mF M) x) 76 13 (nI (mF M + 1))) else (-4, M)
def q_count (M : Hp) (x : Int32) : Int32 × Hp := if x = 0 then (nI (mE M), M) else if x = 1 then (nI (mW M), M) else if x = 2 then (gi M 76 11, M) else if x = 3 then (gi M 76 30, M) else if x = 4 then (gi M 76 33, M) else if x = 5 then (gi M 76 13, M) else if x = 6 then (gi M 76 57, M) else (-2, M)
def q_trace (M : Hp) (x : Int32) : Int32 × Hp := if rng x 20 ∧ x < gi M 76 57 then (gi M 112 (cN x), M) else (-1, M)
theorem c_addSign {l : Launch} {G : GT} {L : Nat → List Cl} {M σ : Hp} (hC : RC L M σ) (hI : Inv L M) (x : Int32) : MM l G mL_addSign 0 0 0 [.ref 47, .int x] KA σ (PQ L σ (q_addSign M x)) := by
  have hR := hC.1
  have hC0 := hC
  have hS : Sm σ σ := Sm.rfl
  refine MM.of (loc := [(0, .ref 47), (1, .int x)]) (by decide +kernel) rfl (Nat.le_of_ble_eq_true rfl) ?_
  refine V_aload_n dL_addSign_0 rfl ?_
  refine V_getE (x := nI (mF M)) dL_addSign_1 flL_35 k47 rfl ((hC.2.1 47 1 76 13 rfl).trans (iF hI).1) ?_
  refine V_bipush (v := 100) dL_addSign_4 (by decide) ?_
  refine V_icmp_lt (tgt := 12) dL_addSign_6 rfl (fun c6 => ?_) (fun c6 => ?_)
  · skip
    have h6 : mF M < 100 := (nI_ltI (b := 100) (by have := (iF hI).2; omega) (by decide)).mp c6
    refine V_aload_n dL_addSign_12 rfl ?_
    refine V_getR (a := 48) dL_addSign_13 flL_9 k47 rfl (r47_0 hR) ?_
    refine V_aload_n dL_addSign_16 rfl ?_
    refine V_getE (x := nI (mF M)) dL_addSign_17 flL_35 k47 rfl ((hC.2.1 47 1 76 13 rfl).trans (iF hI).1) ?_
    refine V_iload_n dL_addSign_20 rfl ?_
    refine V_iastN (j := mF M) dL_addSign_21 k48 rfl (by omega) (by decide) ?_
    have hC := RC_set (k := 48) (j := mF M) (a := 84) (b := mF M) (x := x) hC (mpX _ h6) (by first | decide | omega)
    have hS := hS.set (k := 48) (j := mF M) (x := x) (by omega)
    have hR := hC.1
    refine V_aload_n dL_addSign_22 rfl ?_
    refine V_dup dL_addSign_23 rfl ?_
    refine V_getE (x := nI (mF M)) dL_addSign_24 flL_35 k47 rfl ((gi_ne (by decide)).trans ((hC0.2.1 47 1 76 13 rfl).trans (iF hI).1)) ?_
    refine V_iconst (v := 1) dL_addSign_27 (by decide) ?_
    refine V_iadd dL_addSign_28 ?_
    refine V_topI (x' := nI (mF M + 1)) (nI_1 _) ?_
    refine V_putI dL_addSign_29 flL_35 (fpL_1 _) (Or.inl rfl) k47 rfl ?_
    have hC := RC_set (k := 47) (j := 1) (a := 76) (b := 13) (x := nI (mF M + 1)) hC rfl (by first | decide | omega)
    have hS := hS.set (k := 47) (j := 1) (x := nI (mF M + 1)) (by omega)
    have hR := hC.1
    refine V_aload_n dL_addSign_32 rfl ?_
    refine V_getE (x := nI (mF M + 1)) dL_addSign_33 flL_35 k47 rfl gi_eq ?_
    refine V_iret dL_addSign_36 rfl rfl ?_
    have e : q_addSign M x = (nI (mF M + 1), si (si M 84 (mF M) x) 76 13 (nI (mF M + 1))) := by
      skip
      first
      | (simp only [q_addSign, if_pos h6]; done)
      | (simp [q_addSign, h6]; done)
      | (simp_all [q_addSign]; done)
    rw [e]
    exact ⟨rfl, rfl, hC, hS⟩
  · skip
    have h6 : ¬ mF M < 100 := fun q => c6 ((nI_ltI (b := 100) (by have := (iF hI).2; omega) (by decide)).mpr q)
    refine V_bipush (v := -4) dL_addSign_9 (by decide) ?_
    refine V_iret dL_addSign_11 rfl rfl ?_
    have e : q_addSign M x = ((-4), M) := by
      skip
      first
      | (simp only [q_addSign, if_neg h6]; done)
      | (simp [q_addSign, h6]; done)
      | (simp_all [q_addSign]; done)
    rw [e]
    exact ⟨rfl, rfl, hC, hS⟩
theorem g_feed {l : Launch} {G : GT} {L : Nat → List Cl} {M σ : Hp} (hC : RC L M σ) (hI : Inv L M) (x : Int32) : MM l G mG_feed 1 0 0 [.ref 0, .int x] KA σ (PQ L σ (q_feed M x)) := by
  have hR := hC.1
  have hC0 := hC
  have hS : Sm σ σ := Sm.rfl
  refine MM.of (loc := [(0, .ref 0), (1, .int x)]) (by decide +kernel) rfl (Nat.le_of_ble_eq_true rfl) ?_
  refine V_iload_n dG_feed_0 rfl ?_
  refine V_bipush (v := 127) dG_feed_1 (by decide) ?_
  refine V_callS (as := [.int x, .int 127]) (rest := []) (bs' := 0) rfl dG_feed_3 cmG_isUpTo stG_isUpTo mlG_75 rfl rfl (c_isUpTo x 127) (by decide) (Nat.le_refl _) (by decide) (Nat.le_of_ble_eq_true rfl) ?_
  rintro _ _ _ (⟨hb3, rfl, rfl, rfl⟩ | ⟨hb3, rfl, rfl, rfl⟩) -
  · refine V_one ?_
    refine V_if_ne (tgt := 12) dG_feed_6 rfl (fun _ => ?_) (fun h => absurd h (by decide))
    refine V_aload_n dG_feed_12 rfl ?_
    refine V_getR (a := 47) dG_feed_13 flG_24 k0 rfl (r0_3 hR) ?_
    refine V_iload_n dG_feed_16 rfl ?_
    refine V_callV (as := [.int x]) (rest := []) (bs' := 0) rfl dG_feed_17 cmL_addSign cvL_addSign mlG_117 (Or.inl ⟨_, _, _, _, _, rfl, k47, by decide, rfl⟩) rfl rfl (c_addSign hC hI x) (by decide) (Nat.le_refl _) (by decide) (Nat.le_of_ble_eq_true rfl) ?_
    rintro _ _ s1 ⟨rfl, rfl, hC, hS1⟩ -
    refine V_one ?_
    have hS := hS.trans hS1
    refine V_iret dG_feed_20 rfl rfl ?_
    have e : q_feed M x = ((q_addSign M x).1, (q_addSign M x).2) := by
      skip
      first
      | (simp only [q_feed, if_pos hb3, q_addSign]; done)
      | (simp [q_feed, hb3, q_addSign]; done)
      | (simp_all [q_feed, q_addSign]; done)
    rw [e]
    exact ⟨rfl, rfl, hC, hS⟩
  · refine V_one ?_
    refine V_if_ne (tgt := 12) dG_feed_6 rfl (fun h => absurd h (by decide)) (fun _ => ?_)
    refine V_bipush (v := -2) dG_feed_9 (by decide) ?_
    refine V_iret dG_feed_11 rfl rfl ?_
    have e : q_feed M x = ((-2), M) := by
      skip
      first
      | (simp only [q_feed, if_neg hb3, q_addSign]; done)
      | (simp [q_feed, hb3, q_addSign]; done)
      | (simp_all [q_feed, q_addSign]; done)
    rw [e]
    exact ⟨rfl, rfl, hC, hS⟩
theorem m_feed {l : Launch} {G : GT} {L : Nat → List Cl} {M σ : Hp} (hM : RM M σ) (hI : Inv L M) (x : Int32) : MM l G mM_feed 2 0 0 [.ref 76, .int x] KA σ (PM σ (q_feed M x)) := by
  have hR := hM.1
  have hM0 := hM
  have hS : Sc σ σ := Sc.rfl
  refine MM.of (loc := [(0, .ref 76), (1, .int x)]) (by decide +kernel) rfl (Nat.le_of_ble_eq_true rfl) ?_
  refine V_aload_n dM_feed_0 rfl ?_
  refine V_iload_n dM_feed_1 rfl ?_
  refine V_iconst (v := 0) dM_feed_2 (by decide) ?_
  refine V_bipush (v := 127) dM_feed_3 (by decide) ?_
  refine V_callV (as := [.int x, .int 0, .int 127]) (rest := []) (bs' := 0) rfl dM_feed_5 cmM_in cvM_in mlM_203 (Or.inl ⟨_, _, _, _, _, rfl, k76, by decide, rfl⟩) rfl rfl (m_in x 0 127) (by decide) (Nat.le_refl _) (by decide) (Nat.le_of_ble_eq_true rfl) ?_
  rintro _ _ _ (⟨hb5, rfl, rfl, rfl⟩ | ⟨hb5, rfl, rfl, rfl⟩) -
  · refine V_one ?_
    refine V_if_ne (tgt := 14) dM_feed_8 rfl (fun _ => ?_) (fun h => absurd h (by decide))
    refine V_aload_n dM_feed_14 rfl ?_
    refine V_getE (x := nI (mF M)) dM_feed_15 flM_50 k76 rfl ((mR hM rfl).trans (iF hI).1) ?_
    refine V_bipush (v := 100) dM_feed_18 (by decide) ?_
    refine V_icmp_ne (tgt := 26) dM_feed_20 rfl (fun c20 => ?_) (fun c20 => ?_)
    · skip
      have h20 : mF M < 100 := by have h9 := (iF hI).2; have : ¬ mF M = 100 := fun q => c20 (by rw [q]; rfl); omega
      refine V_aload_n dM_feed_26 rfl ?_
      refine V_getR (a := 84) dM_feed_27 flM_59 k76 rfl (r76_16 hR) ?_
      refine V_aload_n dM_feed_30 rfl ?_
      refine V_getE (x := nI (mF M)) dM_feed_31 flM_50 k76 rfl ((mR hM rfl).trans (iF hI).1) ?_
      refine V_iload_n dM_feed_34 rfl ?_
      refine V_iastN (j := mF M) dM_feed_35 k84 rfl (by omega) (by decide) ?_
      have hM := RM_set (k := 84) (j := mF M) (x := x) hM
      have hS := hS.set (k := 84) (j := mF M) (x := x) (by omega)
      have hR := hM.1
      refine V_aload_n dM_feed_36 rfl ?_
      refine V_dup dM_feed_37 rfl ?_
      refine V_getE (x := nI (mF M)) dM_feed_38 flM_50 k76 rfl ((gi_ne (by decide)).trans ((mR hM0 rfl).trans (iF hI).1)) ?_
      refine V_iconst (v := 1) dM_feed_41 (by decide) ?_
      refine V_iadd dM_feed_42 ?_
      refine V_topI (x' := nI (mF M + 1)) (nI_1 _) ?_
      refine V_putI dM_feed_43 flM_50 (fpM_13 _) (Or.inl rfl) k76 rfl ?_
      have hM := RM_set (k := 76) (j := 13) (x := nI (mF M + 1)) hM
      have hS := hS.set (k := 76) (j := 13) (x := nI (mF M + 1)) (by omega)
      have hR := hM.1
      refine V_aload_n dM_feed_46 rfl ?_
      refine V_getE (x := nI (mF M + 1)) dM_feed_47 flM_50 k76 rfl gi_eq ?_
      refine V_iret dM_feed_50 rfl rfl ?_
      have e : q_feed M x = (nI (mF M + 1), si (si M 84 (mF M) x) 76 13 (nI (mF M + 1))) := by
        skip
        first
        | (simp only [q_feed, if_pos hb5, if_pos h20]; done)
        | (simp [q_feed, hb5, h20]; done)
        | (simp_all [q_feed]; done)
      rw [e]
      exact ⟨rfl, rfl, hM, hS⟩
    · skip
      have h20 : ¬ mF M < 100 := by have := (nI_eq (b := 100) (by have := (iF hI).2; omega) (by decide)).mp c20; omega
      refine V_bipush (v := -4) dM_feed_23 (by decide) ?_
      refine V_iret dM_feed_25 rfl rfl ?_
      have e : q_feed M x = ((-4), M) := by
        skip
        first
        | (simp only [q_feed, if_pos hb5, if_neg h20]; done)
        | (simp [q_feed, hb5, h20]; done)
        | (simp_all [q_feed]; done)
      rw [e]
      exact ⟨rfl, rfl, hM, hS⟩
  · refine V_one ?_
    refine V_if_ne (tgt := 14) dM_feed_8 rfl (fun h => absurd h (by decide)) (fun _ => ?_)
    refine V_bipush (v := -2) dM_feed_11 (by decide) ?_
    refine V_iret dM_feed_13 rfl rfl ?_
    have e : q_feed M x = ((-2), M) := by
      skip
      first
      | (simp only [q_feed, if_neg hb5]; done)
      | (simp [q_feed, hb5]; done)
      | (simp_all [q_feed]; done)
    rw [e]
    exact ⟨rfl, rfl, hM, hS⟩
theorem g_count {l : Launch} {G : GT} {L : Nat → List Cl} {M σ : Hp} (hC : RC L M σ) (hI : Inv L M) (x : Int32) : MM l G mG_count 1 0 0 [.ref 0, .int x] KA σ (PQ L σ (q_count M x)) := by
  have hR := hC.1
  have hC0 := hC
  have hS : Sm σ σ := Sm.rfl
  refine MM.of (loc := [(0, .ref 0), (1, .int x)]) (by decide +kernel) rfl (Nat.le_of_ble_eq_true rfl) ?_
  refine V_iload_n dG_count_0 rfl ?_
  by_cases s1_0 : x = 0
  · skip
    refine V_tsC (tgt := 44) 0 s1_0 dG_count_1 (by decide) (by decide) rfl rfl ?_
    refine V_aload_n dG_count_44 rfl ?_
    refine V_getR (a := 1) dG_count_45 flG_12 k0 rfl (r0_0 hR) ?_
    refine V_getE (x := nI (mE M)) dG_count_48 flG_164 k1 rfl (cE hC hI) ?_
    refine V_iret dG_count_51 rfl rfl ?_
    have e : q_count M x = (nI (mE M), M) := by
      skip
      first
      | (simp only [q_count, if_pos s1_0]; done)
      | (simp [q_count, s1_0]; done)
      | (simp_all [q_count]; done)
    rw [e]
    exact ⟨rfl, rfl, hC, hS⟩
  by_cases s1_1 : x = 1
  · skip
    refine V_tsC (tgt := 52) 1 s1_1 dG_count_1 (by decide) (by decide) rfl rfl ?_
    refine V_aload_n dG_count_52 rfl ?_
    refine V_getR (a := 1) dG_count_53 flG_12 k0 rfl (r0_0 hR) ?_
    refine V_getE (x := nI (mW M)) dG_count_56 flG_79 k1 rfl (cW hC hI) ?_
    refine V_iret dG_count_59 rfl rfl ?_
    have e : q_count M x = (nI (mW M), M) := by
      skip
      first
      | (simp only [q_count, if_neg s1_0, if_pos s1_1]; done)
      | (simp [q_count, s1_0, s1_1]; done)
      | (simp_all [q_count]; done)
    rw [e]
    exact ⟨rfl, rfl, hC, hS⟩
  by_cases s1_2 : x = 2
  · skip
    refine V_tsC (tgt := 60) 2 s1_2 dG_count_1 (by decide) (by decide) rfl rfl ?_
    refine V_aload_n dG_count_60 rfl ?_
    refine V_getR (a := 47) dG_count_61 flG_24 k0 rfl (r0_3 hR) ?_
    refine V_getE (x := gi M 76 11) dG_count_64 flG_279 k47 rfl (hC.2.1 47 2 76 11 rfl) ?_
    refine V_iret dG_count_67 rfl rfl ?_
    have e : q_count M x = (gi M 76 11, M) := by
      skip
      first
      | (simp only [q_count, if_neg s1_0, if_neg s1_1, if_pos s1_2]; done)
      | (simp [q_count, s1_0, s1_1, s1_2]; done)
      | (simp_all [q_count]; done)
    rw [e]
    exact ⟨rfl, rfl, hC, hS⟩
  by_cases s1_3 : x = 3
  · skip
    refine V_tsC (tgt := 68) 3 s1_3 dG_count_1 (by decide) (by decide) rfl rfl ?_
    refine V_aload_n dG_count_68 rfl ?_
    refine V_getR (a := 1) dG_count_69 flG_12 k0 rfl (r0_0 hR) ?_
    refine V_getR (a := 4) dG_count_72 flG_177 k1 rfl (r1_7 hR) ?_
    refine V_getE (x := gi M 76 30) dG_count_75 flG_282 k4 rfl (hC.2.1 4 0 76 30 rfl) ?_
    refine V_iret dG_count_78 rfl rfl ?_
    have e : q_count M x = (gi M 76 30, M) := by
      skip
      first
      | (simp only [q_count, if_neg s1_0, if_neg s1_1, if_neg s1_2, if_pos s1_3]; done)
      | (simp [q_count, s1_0, s1_1, s1_2, s1_3]; done)
      | (simp_all [q_count]; done)
    rw [e]
    exact ⟨rfl, rfl, hC, hS⟩
  by_cases s1_4 : x = 4
  · skip
    refine V_tsC (tgt := 79) 4 s1_4 dG_count_1 (by decide) (by decide) rfl rfl ?_
    refine V_aload_n dG_count_79 rfl ?_
    refine V_getR (a := 1) dG_count_80 flG_12 k0 rfl (r0_0 hR) ?_
    refine V_getR (a := 6) dG_count_83 flG_233 k1 rfl (r1_8 hR) ?_
    refine V_getE (x := gi M 76 33) dG_count_86 flG_282 k6 rfl (hC.2.1 6 0 76 33 rfl) ?_
    refine V_iret dG_count_89 rfl rfl ?_
    have e : q_count M x = (gi M 76 33, M) := by
      skip
      first
      | (simp only [q_count, if_neg s1_0, if_neg s1_1, if_neg s1_2, if_neg s1_3, if_pos s1_4]; done)
      | (simp [q_count, s1_0, s1_1, s1_2, s1_3, s1_4]; done)
      | (simp_all [q_count]; done)
    rw [e]
    exact ⟨rfl, rfl, hC, hS⟩
  by_cases s1_5 : x = 5
  · skip
    refine V_tsC (tgt := 90) 5 s1_5 dG_count_1 (by decide) (by decide) rfl rfl ?_
    refine V_aload_n dG_count_90 rfl ?_
    refine V_getR (a := 47) dG_count_91 flG_24 k0 rfl (r0_3 hR) ?_
    refine V_getE (x := gi M 76 13) dG_count_94 flG_285 k47 rfl (hC.2.1 47 1 76 13 rfl) ?_
    refine V_iret dG_count_97 rfl rfl ?_
    have e : q_count M x = (gi M 76 13, M) := by
      skip
      first
      | (simp only [q_count, if_neg s1_0, if_neg s1_1, if_neg s1_2, if_neg s1_3, if_neg s1_4, if_pos s1_5]; done)
      | (simp [q_count, s1_0, s1_1, s1_2, s1_3, s1_4, s1_5]; done)
      | (simp_all [q_count]; done)
    rw [e]
    exact ⟨rfl, rfl, hC, hS⟩
  by_cases s1_6 : x = 6
  · skip
    refine V_tsC (tgt := 98) 6 s1_6 dG_count_1 (by decide) (by decide) rfl rfl ?_
    refine V_aload_n dG_count_98 rfl ?_
    refine V_getR (a := 64) dG_count_99 flG_49 k0 rfl (r0_6 hR) ?_
    refine V_getE (x := gi M 76 57) dG_count_102 flG_288 k64 rfl (hC.2.1 64 0 76 57 rfl) ?_
    refine V_iret dG_count_105 rfl rfl ?_
    have e : q_count M x = (gi M 76 57, M) := by
      skip
      first
      | (simp only [q_count, if_neg s1_0, if_neg s1_1, if_neg s1_2, if_neg s1_3, if_neg s1_4, if_neg s1_5, if_pos s1_6]; done)
      | (simp [q_count, s1_0, s1_1, s1_2, s1_3, s1_4, s1_5, s1_6]; done)
      | (simp_all [q_count]; done)
    rw [e]
    exact ⟨rfl, rfl, hC, hS⟩
  have t1_0 := lv_neT (a := 0) s1_0 (by decide)
  have t1_1 := lv_neT (a := 1) s1_1 (by decide)
  have t1_2 := lv_neT (a := 2) s1_2 (by decide)
  have t1_3 := lv_neT (a := 3) s1_3 (by decide)
  have t1_4 := lv_neT (a := 4) s1_4 (by decide)
  have t1_5 := lv_neT (a := 5) s1_5 (by decide)
  have t1_6 := lv_neT (a := 6) s1_6 (by decide)
  refine V_tsD (tgt := 106) dG_count_1 (by omega) rfl ?_
  refine V_bipush (v := -2) dG_count_106 (by decide) ?_
  refine V_iret dG_count_108 rfl rfl ?_
  have e : q_count M x = ((-2), M) := by
    skip
    first
    | (simp only [q_count, if_neg s1_0, if_neg s1_1, if_neg s1_2, if_neg s1_3, if_neg s1_4, if_neg s1_5, if_neg s1_6]; done)
    | (simp [q_count, s1_0, s1_1, s1_2, s1_3, s1_4, s1_5, s1_6]; done)
    | (simp_all [q_count]; done)
  rw [e]
  exact ⟨rfl, rfl, hC, hS⟩
theorem m_count {l : Launch} {G : GT} {L : Nat → List Cl} {M σ : Hp} (hM : RM M σ) (hI : Inv L M) (x : Int32) : MM l G mM_count 1 0 0 [.ref 76, .int x] KA σ (PM σ (q_count M x)) := by
  have hR := hM.1
  have hM0 := hM
  have hS : Sc σ σ := Sc.rfl
  refine MM.of (loc := [(0, .ref 76), (1, .int x)]) (by decide +kernel) rfl (Nat.le_of_ble_eq_true rfl) ?_
  refine V_iload_n dM_count_0 rfl ?_
  by_cases s1_0 : x = 0
  · skip
    refine V_tsC (tgt := 44) 0 s1_0 dM_count_1 (by decide) (by decide) rfl rfl ?_
    refine V_aload_n dM_count_44 rfl ?_
    refine V_getE (x := nI (mE M)) dM_count_45 flM_13 k76 rfl ((mR hM rfl).trans (iE hI).1) ?_
    refine V_iret dM_count_48 rfl rfl ?_
    have e : q_count M x = (nI (mE M), M) := by
      skip
      first
      | (simp only [q_count, if_pos s1_0]; done)
      | (simp [q_count, s1_0]; done)
      | (simp_all [q_count]; done)
    rw [e]
    exact ⟨rfl, rfl, hM, hS⟩
  by_cases s1_1 : x = 1
  · skip
    refine V_tsC (tgt := 49) 1 s1_1 dM_count_1 (by decide) (by decide) rfl rfl ?_
    refine V_aload_n dM_count_49 rfl ?_
    refine V_getE (x := nI (mW M)) dM_count_50 flM_7 k76 rfl ((mR hM rfl).trans (iW hI).1) ?_
    refine V_iret dM_count_53 rfl rfl ?_
    have e : q_count M x = (nI (mW M), M) := by
      skip
      first
      | (simp only [q_count, if_neg s1_0, if_pos s1_1]; done)
      | (simp [q_count, s1_0, s1_1]; done)
      | (simp_all [q_count]; done)
    rw [e]
    exact ⟨rfl, rfl, hM, hS⟩
  by_cases s1_2 : x = 2
  · skip
    refine V_tsC (tgt := 54) 2 s1_2 dM_count_1 (by decide) (by decide) rfl rfl ?_
    refine V_aload_n dM_count_54 rfl ?_
    refine V_getE (x := gi M 76 11) dM_count_55 flM_44 k76 rfl (mR hM rfl) ?_
    refine V_iret dM_count_58 rfl rfl ?_
    have e : q_count M x = (gi M 76 11, M) := by
      skip
      first
      | (simp only [q_count, if_neg s1_0, if_neg s1_1, if_pos s1_2]; done)
      | (simp [q_count, s1_0, s1_1, s1_2]; done)
      | (simp_all [q_count]; done)
    rw [e]
    exact ⟨rfl, rfl, hM, hS⟩
  by_cases s1_3 : x = 3
  · skip
    refine V_tsC (tgt := 59) 3 s1_3 dM_count_1 (by decide) (by decide) rfl rfl ?_
    refine V_aload_n dM_count_59 rfl ?_
    refine V_getE (x := gi M 76 30) dM_count_60 flM_102 k76 rfl (mR hM rfl) ?_
    refine V_iret dM_count_63 rfl rfl ?_
    have e : q_count M x = (gi M 76 30, M) := by
      skip
      first
      | (simp only [q_count, if_neg s1_0, if_neg s1_1, if_neg s1_2, if_pos s1_3]; done)
      | (simp [q_count, s1_0, s1_1, s1_2, s1_3]; done)
      | (simp_all [q_count]; done)
    rw [e]
    exact ⟨rfl, rfl, hM, hS⟩
  by_cases s1_4 : x = 4
  · skip
    refine V_tsC (tgt := 64) 4 s1_4 dM_count_1 (by decide) (by decide) rfl rfl ?_
    refine V_aload_n dM_count_64 rfl ?_
    refine V_getE (x := gi M 76 33) dM_count_65 flM_111 k76 rfl (mR hM rfl) ?_
    refine V_iret dM_count_68 rfl rfl ?_
    have e : q_count M x = (gi M 76 33, M) := by
      skip
      first
      | (simp only [q_count, if_neg s1_0, if_neg s1_1, if_neg s1_2, if_neg s1_3, if_pos s1_4]; done)
      | (simp [q_count, s1_0, s1_1, s1_2, s1_3, s1_4]; done)
      | (simp_all [q_count]; done)
    rw [e]
    exact ⟨rfl, rfl, hM, hS⟩
  by_cases s1_5 : x = 5
  · skip
    refine V_tsC (tgt := 69) 5 s1_5 dM_count_1 (by decide) (by decide) rfl rfl ?_
    refine V_aload_n dM_count_69 rfl ?_
    refine V_getE (x := gi M 76 13) dM_count_70 flM_50 k76 rfl (mR hM rfl) ?_
    refine V_iret dM_count_73 rfl rfl ?_
    have e : q_count M x = (gi M 76 13, M) := by
      skip
      first
      | (simp only [q_count, if_neg s1_0, if_neg s1_1, if_neg s1_2, if_neg s1_3, if_neg s1_4, if_pos s1_5]; done)
      | (simp [q_count, s1_0, s1_1, s1_2, s1_3, s1_4, s1_5]; done)
      | (simp_all [q_count]; done)
    rw [e]
    exact ⟨rfl, rfl, hM, hS⟩
  by_cases s1_6 : x = 6
  · skip
    refine V_tsC (tgt := 74) 6 s1_6 dM_count_1 (by decide) (by decide) rfl rfl ?_
    refine V_aload_n dM_count_74 rfl ?_
    refine V_getE (x := gi M 76 57) dM_count_75 flM_184 k76 rfl (mR hM rfl) ?_
    refine V_iret dM_count_78 rfl rfl ?_
    have e : q_count M x = (gi M 76 57, M) := by
      skip
      first
      | (simp only [q_count, if_neg s1_0, if_neg s1_1, if_neg s1_2, if_neg s1_3, if_neg s1_4, if_neg s1_5, if_pos s1_6]; done)
      | (simp [q_count, s1_0, s1_1, s1_2, s1_3, s1_4, s1_5, s1_6]; done)
      | (simp_all [q_count]; done)
    rw [e]
    exact ⟨rfl, rfl, hM, hS⟩
  have t1_0 := lv_neT (a := 0) s1_0 (by decide)
  have t1_1 := lv_neT (a := 1) s1_1 (by decide)
  have t1_2 := lv_neT (a := 2) s1_2 (by decide)
  have t1_3 := lv_neT (a := 3) s1_3 (by decide)
  have t1_4 := lv_neT (a := 4) s1_4 (by decide)
  have t1_5 := lv_neT (a := 5) s1_5 (by decide)
  have t1_6 := lv_neT (a := 6) s1_6 (by decide)
  refine V_tsD (tgt := 79) dM_count_1 (by omega) rfl ?_
  refine V_bipush (v := -2) dM_count_79 (by decide) ?_
  refine V_iret dM_count_81 rfl rfl ?_
  have e : q_count M x = ((-2), M) := by
    skip
    first
    | (simp only [q_count, if_neg s1_0, if_neg s1_1, if_neg s1_2, if_neg s1_3, if_neg s1_4, if_neg s1_5, if_neg s1_6]; done)
    | (simp [q_count, s1_0, s1_1, s1_2, s1_3, s1_4, s1_5, s1_6]; done)
    | (simp_all [q_count]; done)
  rw [e]
  exact ⟨rfl, rfl, hM, hS⟩
def q_traced (M : Hp) (x : Int32) : Int32 := if rng x 20 ∧ x < gi M 76 57 then gi M 112 (cN x) else -1
theorem q_trace_e (M : Hp) (x : Int32) : q_trace M x = (q_traced M x, M) := by
  unfold q_trace q_traced
  split <;> rfl
theorem c_traced {l : Launch} {G : GT} {L : Nat → List Cl} {M σ : Hp} (hC : RC L M σ) (hI : Inv L M) (x : Int32) : MM l G mA_traced 0 0 0 [.ref 64, .int x] KA σ (PE (some (.int (q_traced M x))) KA σ) := by
  have hR := hC.1
  refine MM.of (loc := [(0, .ref 64), (1, .int x)]) (by decide +kernel) rfl (Nat.le_of_ble_eq_true rfl) ?_
  refine V_iload_n dA_traced_0 rfl ?_
  refine V_if_lt (tgt := 27) dA_traced_1 rfl (fun c1 => ?_) (fun c1 => ?_)
  · skip
    refine V_iconst (v := -1) dA_traced_27 (by decide) ?_
    refine V_iret dA_traced_28 rfl rfl ?_
    have e : q_traced M x = -1 := if_neg (fun q => Int32.not_lt.mpr q.1.1 c1)
    rw [e]
    exact ⟨rfl, rfl, rfl⟩
  · skip
    refine V_iload_n dA_traced_4 rfl ?_
    refine V_aload_n dA_traced_5 rfl ?_
    refine V_getE (x := gi M 76 57) dA_traced_6 flA_15 k64 rfl (hC.2.1 64 0 76 57 rfl) ?_
    refine V_icmp_ge (tgt := 27) dA_traced_9 rfl (fun c9 => ?_) (fun c9 => ?_)
    · skip
      refine V_iconst (v := -1) dA_traced_27 (by decide) ?_
      refine V_iret dA_traced_28 rfl rfl ?_
      have e : q_traced M x = -1 := if_neg (fun q => Int32.not_le.mpr q.2 c9)
      rw [e]
      exact ⟨rfl, rfl, rfl⟩
    · skip
      refine V_iload_n dA_traced_12 rfl ?_
      refine V_bipush (v := 20) dA_traced_13 (by decide) ?_
      refine V_icmp_ge (tgt := 27) dA_traced_15 rfl (fun c15 => ?_) (fun c15 => ?_)
      · skip
        refine V_iconst (v := -1) dA_traced_27 (by decide) ?_
        refine V_iret dA_traced_28 rfl rfl ?_
        have e : q_traced M x = -1 := if_neg (fun q => Int32.not_le.mpr q.1.2 c15)
        rw [e]
        exact ⟨rfl, rfl, rfl⟩
      · skip
        have hx20 : rng x 20 := ⟨Int32.not_lt.mp c1, Int32.not_le.mp c15⟩
        refine V_aload_n dA_traced_18 rfl ?_
        refine V_getR (a := 65) dA_traced_19 flA_9 k64 rfl (r64_1 hR) ?_
        refine V_iload_n dA_traced_22 rfl ?_
        refine V_ialdN (j := cN x) dA_traced_23 k65 (rng_N hx20 (by decide)).1 (rng_N hx20 (by decide)).2 (by decide) ?_
        refine V_topI (x' := gi M 112 (cN x)) (hC.2.1 _ _ _ _ (mpY _ (rng_N hx20 (by decide)).2)) ?_
        refine V_goto (tgt := 28) dA_traced_24 rfl ?_
        refine V_iret dA_traced_28 rfl rfl ?_
        have e : q_traced M x = gi M 112 (cN x) := if_pos ⟨hx20, Int32.not_le.mp c9⟩
        rw [e]
        exact ⟨rfl, rfl, rfl⟩
theorem g_trace {l : Launch} {G : GT} {L : Nat → List Cl} {M σ : Hp} (hC : RC L M σ) (hI : Inv L M) (x : Int32) : MM l G mG_trace 1 0 0 [.ref 0, .int x] KA σ (PQ L σ (q_trace M x)) := by
  have hR := hC.1
  have hC0 := hC
  have hS : Sm σ σ := Sm.rfl
  refine MM.of (loc := [(0, .ref 0), (1, .int x)]) (by decide +kernel) rfl (Nat.le_of_ble_eq_true rfl) ?_
  refine V_aload_n dG_trace_0 rfl ?_
  refine V_getR (a := 64) dG_trace_1 flG_49 k0 rfl (r0_6 hR) ?_
  refine V_iload_n dG_trace_4 rfl ?_
  refine V_callV (as := [.int x]) (rest := []) (bs' := 0) rfl dG_trace_5 cmA_traced cvA_traced mlG_273 (Or.inl ⟨_, _, _, _, _, rfl, k64, by decide, rfl⟩) rfl rfl (c_traced hC hI x) (by decide) (Nat.le_refl _) (by decide) (Nat.le_of_ble_eq_true rfl) ?_
  rintro _ _ _ ⟨rfl, rfl, rfl⟩ -
  refine V_one ?_
  refine V_iret dG_trace_8 rfl rfl ?_
  rw [q_trace_e]
  exact ⟨rfl, rfl, hC, hS⟩
theorem m_trace {l : Launch} {G : GT} {L : Nat → List Cl} {M σ : Hp} (hM : RM M σ) (hI : Inv L M) (x : Int32) : MM l G mM_trace 1 0 0 [.ref 76, .int x] KA σ (PM σ (q_trace M x)) := by
  have hR := hM.1
  have hM0 := hM
  have hS : Sc σ σ := Sc.rfl
  refine MM.of (loc := [(0, .ref 76), (1, .int x)]) (by decide +kernel) rfl (Nat.le_of_ble_eq_true rfl) ?_
  refine V_aload_n dM_trace_0 rfl ?_
  refine V_iload_n dM_trace_1 rfl ?_
  refine V_iconst (v := 0) dM_trace_2 (by decide) ?_
  refine V_bipush (v := 19) dM_trace_3 (by decide) ?_
  refine V_callV (as := [.int x, .int 0, .int 19]) (rest := []) (bs' := 0) rfl dM_trace_5 cmM_in cvM_in mlM_203 (Or.inl ⟨_, _, _, _, _, rfl, k76, by decide, rfl⟩) rfl rfl (m_in x 0 19) (by decide) (Nat.le_refl _) (by decide) (Nat.le_of_ble_eq_true rfl) ?_
  rintro _ _ _ (⟨hy5, rfl, rfl, rfl⟩ | ⟨hy5, rfl, rfl, rfl⟩) -
  · refine V_one ?_
    have hb5 : rng x 20 := (le_pred x (n := 20) (by decide)).mp hy5
    refine V_if_eq (tgt := 28) dM_trace_8 rfl (fun h => absurd h (by decide)) (fun _ => ?_)
    refine V_iload_n dM_trace_11 rfl ?_
    refine V_aload_n dM_trace_12 rfl ?_
    refine V_getE (x := gi M 76 57) dM_trace_13 flM_184 k76 rfl (mR hM rfl) ?_
    refine V_icmp_ge (tgt := 28) dM_trace_16 rfl (fun c16 => ?_) (fun c16 => ?_)
    · skip
      refine V_iconst (v := -1) dM_trace_28 (by decide) ?_
      refine V_iret dM_trace_29 rfl rfl ?_
      rw [show q_trace M x = (-1, M) from if_neg (fun q => Int32.not_le.mpr q.2 c16)]
      exact ⟨rfl, rfl, hM, hS⟩
    · skip
      refine V_aload_n dM_trace_19 rfl ?_
      refine V_getR (a := 112) dM_trace_20 flM_187 k76 rfl (r76_58 hR) ?_
      refine V_iload_n dM_trace_23 rfl ?_
      refine V_ialdN (j := cN x) dM_trace_24 k112 (rng_N hb5 (by decide)).1 (by have := (rng_N hb5 (by decide)).2; omega) (by decide) ?_
      refine V_topI (x' := gi M 112 (cN x)) (mR hM rfl) ?_
      refine V_goto (tgt := 29) dM_trace_25 rfl ?_
      refine V_iret dM_trace_29 rfl rfl ?_
      rw [show q_trace M x = (gi M 112 (cN x), M) from if_pos ⟨hb5, Int32.not_le.mp c16⟩]
      exact ⟨rfl, rfl, hM, hS⟩
  · refine V_one ?_
    have hb5 : ¬ rng x 20 := fun q => hy5 ((le_pred x (n := 20) (by decide)).mpr q)
    refine V_if_eq (tgt := 28) dM_trace_8 rfl (fun _ => ?_) (fun h => absurd h (by decide))
    refine V_iconst (v := -1) dM_trace_28 (by decide) ?_
    refine V_iret dM_trace_29 rfl rfl ?_
    rw [show q_trace M x = (-1, M) from if_neg (fun q => hb5 q.1)]
    exact ⟨rfl, rfl, hM, hS⟩
theorem Iq_feed {L : Nat → List Cl} {M : Hp} (hI : Inv L M) (x : Int32) : Inv L (q_feed M x).2 := by
  unfold q_feed
  split
  · next h =>
    split
    · next h6 =>
      have hx : isN x 128 := isN_le (n := 127) rfl (by decide) h
      obtain ⟨a1, a2, a3, a4, a5, a6, a7, a8, a9, a10⟩ := hI
      have g : ∀ k j, ¬ (k = 84 ∨ (k = 76 ∧ j = 13)) → gi (si (si M 84 (mF M) x) 76 13 (nI (mF M + 1))) k j = gi M k j := by
        intro k j hk
        have e1 : ¬ (k = 76 ∧ j = 13) := fun q => hk (Or.inr q)
        have e2 : k ≠ 84 := fun q => hk (Or.inl q)
        have g1 : gi (si (si M 84 (mF M) x) 76 13 (nI (mF M + 1))) k j = gi (si M 84 (mF M) x) k j := by simp only [gi, si, if_neg e1]
        rw [g1, gi_ne e2]
      refine ⟨a1, a2, a3, ?_, isN_of rfl (show mF M + 1 < 101 by omega) (by decide), fun j hj => ?_, a7, a8, a9, a10⟩
      · intro f hf hf'
        obtain ⟨h1, h2, h3⟩ := a4 f hf hf'
        exact ⟨h1, h2, h3⟩
      · by_cases e : j = mF M
        · subst e
          have g1 : gi (si (si M 84 (mF M) x) 76 13 (nI (mF M + 1))) 84 (mF M) = x := (gi_ne (by decide)).trans gi_eq
          rw [g1]
          exact hx
        · have g1 : gi (si (si M 84 (mF M) x) 76 13 (nI (mF M + 1))) 84 j = gi M 84 j := (gi_ne (by decide)).trans (gi_nj e)
          rw [g1]
          exact a6 j hj
    · exact hI
  · exact hI
