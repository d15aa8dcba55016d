/-! the public methods: envelope, best, when, hedge -/
theorem g_envelope {l : Launch} {G : GT} {L : Nat → List Cl} {M σ : Hp} (hC : RC L M σ) (hI : Inv L M) (k v z pr : Int32) : MM l G mG_envelope 1 0 0 [.ref 0, .int k, .int v, .int z, .int pr] KA σ (PQ L σ (q_envelope M k v z pr)) := by
  have hR := hC.1
  have hC0 := hC
  have hS : Sm σ σ := Sm.rfl
  refine MM.of (loc := [(0, .ref 0), (1, .int k), (2, .int v), (3, .int z), (4, .int pr)]) (by decide +kernel) rfl (Nat.le_of_ble_eq_true rfl) ?_
  refine V_iload_n dG_envelope_0 rfl ?_
  refine V_bipush (v := 6) dG_envelope_1 (by decide) ?_
  refine V_callS (as := [.int k, .int 6]) (rest := []) (bs' := 0) rfl dG_envelope_3 cmG_isUpTo stG_isUpTo mlG_75 rfl rfl (c_isUpTo k 6) (by decide) (Nat.le_refl _) (by decide) (Nat.le_of_ble_eq_true rfl) ?_
  rintro _ _ _ (⟨hb3, rfl, rfl, rfl⟩ | ⟨hb3, rfl, rfl, rfl⟩) -
  · refine V_one ?_
    refine V_if_ne (tgt := 11) dG_envelope_6 rfl (fun _ => ?_) (fun h => absurd h (by decide))
    refine V_iload_n dG_envelope_11 rfl ?_
    refine V_bipush (v := 9) dG_envelope_12 (by decide) ?_
    refine V_callS (as := [.int v, .int 9]) (rest := []) (bs' := 0) rfl dG_envelope_14 cmG_isUpTo stG_isUpTo mlG_75 rfl rfl (c_isUpTo v 9) (by decide) (Nat.le_refl _) (by decide) (Nat.le_of_ble_eq_true rfl) ?_
    rintro _ _ _ (⟨hb14, rfl, rfl, rfl⟩ | ⟨hb14, rfl, rfl, rfl⟩) -
    · refine V_one ?_
      refine V_if_eq (tgt := 44) dG_envelope_17 rfl (fun h => absurd h (by decide)) (fun _ => ?_)
      refine V_iload_n dG_envelope_20 rfl ?_
      refine V_aload_n dG_envelope_21 rfl ?_
      refine V_getR (a := 1) dG_envelope_22 flG_12 k0 rfl (r0_0 hR) ?_
      refine V_getE (x := nI (mW M)) dG_envelope_25 flG_79 k1 rfl (cW hC hI) ?_
      refine V_callS (as := [.int z, .int (nI (mW M))]) (rest := []) (bs' := 0) rfl dG_envelope_28 cmG_isWithin stG_isWithin mlG_83 rfl rfl (c_isWithin z (nI (mW M))) (by decide) (Nat.le_refl _) (by decide) (Nat.le_of_ble_eq_true rfl) ?_
      rintro _ _ _ (⟨hy28, rfl, rfl, rfl⟩ | ⟨hy28, rfl, rfl, rfl⟩) -
      · refine V_one ?_
        have hb28 : rng z (2 ^ (mW M)) := (shr_0 z (n := (mW M)) (by have := (iW hI).2; have := (iE hI).2; omega)).mp hy28
        refine V_if_eq (tgt := 44) dG_envelope_31 rfl (fun h => absurd h (by decide)) (fun _ => ?_)
        refine V_iload dG_envelope_34 rfl ?_
        refine V_bipush (v := 99) dG_envelope_36 (by decide) ?_
        refine V_callS (as := [.int pr, .int 99]) (rest := []) (bs' := 0) rfl dG_envelope_38 cmG_isUpTo stG_isUpTo mlG_75 rfl rfl (c_isUpTo pr 99) (by decide) (Nat.le_refl _) (by decide) (Nat.le_of_ble_eq_true rfl) ?_
        rintro _ _ _ (⟨hb38, rfl, rfl, rfl⟩ | ⟨hb38, rfl, rfl, rfl⟩) -
        · refine V_one ?_
          refine V_if_ne (tgt := 47) dG_envelope_41 rfl (fun _ => ?_) (fun h => absurd h (by decide))
          refine V_aload_n dG_envelope_47 rfl ?_
          refine V_getR (a := 1) dG_envelope_48 flG_12 k0 rfl (r0_0 hR) ?_
          refine V_iload_n dG_envelope_51 rfl ?_
          refine V_iload_n dG_envelope_52 rfl ?_
          refine V_iload_n dG_envelope_53 rfl ?_
          refine V_iload dG_envelope_54 rfl ?_
          refine V_callV (as := [.int k, .int v, .int z, .int pr]) (rest := []) (bs' := 0) rfl dG_envelope_56 cmF_addEnvelope cvF_addEnvelope mlG_86 (Or.inl ⟨_, _, _, _, _, rfl, k1, by decide, rfl⟩) rfl rfl (c_addEnvelope hC hI k v z pr) (by decide) (Nat.le_refl _) (by decide) (Nat.le_of_ble_eq_true rfl) ?_
          rintro _ _ s1 ⟨rfl, rfl, hC, hS1⟩ -
          refine V_one ?_
          have hS := hS.trans hS1
          refine V_iret dG_envelope_59 rfl rfl ?_
          have e : q_envelope M k v z pr = ((q_addEnv M k v z pr).1, (q_addEnv M k v z pr).2) := by
            skip
            first
            | (simp only [q_envelope, if_pos hb3, if_pos hb14, if_pos hb28, if_pos hb38]; done)
            | (simp [q_envelope, hb3, hb14, hb28, hb38]; done)
            | (simp_all [q_envelope]; done)
          rw [e]
          exact ⟨rfl, rfl, hC, hS⟩
        · refine V_one ?_
          refine V_if_ne (tgt := 47) dG_envelope_41 rfl (fun h => absurd h (by decide)) (fun _ => ?_)
          refine V_bipush (v := -2) dG_envelope_44 (by decide) ?_
          refine V_iret dG_envelope_46 rfl rfl ?_
          have e : q_envelope M k v z pr = ((-2), M) := by
            skip
            first
            | (simp only [q_envelope, if_pos hb3, if_pos hb14, if_pos hb28, if_neg hb38]; done)
            | (simp [q_envelope, hb3, hb14, hb28, hb38]; done)
            | (simp_all [q_envelope]; done)
          rw [e]
          exact ⟨rfl, rfl, hC, hS⟩
      · refine V_one ?_
        have hb28 : ¬ rng z (2 ^ (mW M)) := fun q => hy28 ((shr_0 z (n := (mW M)) (by have := (iW hI).2; have := (iE hI).2; omega)).mpr q)
        refine V_if_eq (tgt := 44) dG_envelope_31 rfl (fun _ => ?_) (fun h => absurd h (by decide))
        refine V_bipush (v := -2) dG_envelope_44 (by decide) ?_
        refine V_iret dG_envelope_46 rfl rfl ?_
        have e : q_envelope M k v z pr = ((-2), M) := by
          skip
          first
          | (simp only [q_envelope, if_pos hb3, if_pos hb14, if_neg hb28]; done)
          | (simp [q_envelope, hb3, hb14, hb28]; done)
          | (simp_all [q_envelope]; done)
        rw [e]
        exact ⟨rfl, rfl, hC, hS⟩
    · refine V_one ?_
      refine V_if_eq (tgt := 44) dG_envelope_17 rfl (fun _ => ?_) (fun h => absurd h (by decide))
      refine V_bipush (v := -2) dG_envelope_44 (by decide) ?_
      refine V_iret dG_envelope_46 rfl rfl ?_
      have e : q_envelope M k v z pr = ((-2), M) := by
        skip
        first
        | (simp only [q_envelope, if_pos hb3, if_neg hb14]; done)
        | (simp [q_envelope, hb3, hb14]; done)
        | (simp_all [q_envelope]; done)
      rw [e]
      exact ⟨rfl, rfl, hC, hS⟩
  · refine V_one ?_
    refine V_if_ne (tgt := 11) dG_envelope_6 rfl (fun h => absurd h (by decide)) (fun _ => ?_)
    refine V_iconst (v := -1) dG_envelope_9 (by decide) ?_
    refine V_iret dG_envelope_10 rfl rfl ?_
    have e : q_envelope M k v z pr = ((-1), M) := by
      skip
      first
      | (simp only [q_envelope, if_neg hb3]; done)
      | (simp [q_envelope, hb3]; done)
      | (simp_all [q_envelope]; done)
    rw [e]
    exact ⟨rfl, rfl, hC, hS⟩
theorem m_envelope {l : Launch} {G : GT} {L : Nat → List Cl} {M σ : Hp} (hM : RM M σ) (hI : Inv L M) (k v z pr : Int32) : MM l G mM_envelope 2 0 0 [.ref 76, .int k, .int v, .int z, .int pr] KA σ (PM σ (q_envelope M k v z pr)) := by
  have hR := hM.1
  have hM0 := hM
  have hS : Sc σ σ := Sc.rfl
  refine MM.of (loc := [(0, .ref 76), (1, .int k), (2, .int v), (3, .int z), (4, .int pr)]) (by decide +kernel) rfl (Nat.le_of_ble_eq_true rfl) ?_
  refine V_aload_n dM_envelope_0 rfl ?_
  refine V_iload_n dM_envelope_1 rfl ?_
  refine V_iconst (v := 0) dM_envelope_2 (by decide) ?_
  refine V_bipush (v := 6) dM_envelope_3 (by decide) ?_
  refine V_callV (as := [.int k, .int 0, .int 6]) (rest := []) (bs' := 0) rfl dM_envelope_5 cmM_in cvM_in mlM_203 (Or.inl ⟨_, _, _, _, _, rfl, k76, by decide, rfl⟩) rfl rfl (m_in k 0 6) (by decide) (Nat.le_refl _) (by decide) (Nat.le_of_ble_eq_true rfl) ?_
  rintro _ _ _ (⟨hb5, rfl, rfl, rfl⟩ | ⟨hb5, rfl, rfl, rfl⟩) -
  · refine V_one ?_
    refine V_if_ne (tgt := 13) dM_envelope_8 rfl (fun _ => ?_) (fun h => absurd h (by decide))
    refine V_aload_n dM_envelope_13 rfl ?_
    refine V_iload_n dM_envelope_14 rfl ?_
    refine V_iconst (v := 0) dM_envelope_15 (by decide) ?_
    refine V_bipush (v := 9) dM_envelope_16 (by decide) ?_
    refine V_callV (as := [.int v, .int 0, .int 9]) (rest := []) (bs' := 0) rfl dM_envelope_18 cmM_in cvM_in mlM_203 (Or.inl ⟨_, _, _, _, _, rfl, k76, by decide, rfl⟩) rfl rfl (m_in v 0 9) (by decide) (Nat.le_refl _) (by decide) (Nat.le_of_ble_eq_true rfl) ?_
    rintro _ _ _ (⟨hb18, rfl, rfl, rfl⟩ | ⟨hb18, rfl, rfl, rfl⟩) -
    · refine V_one ?_
      refine V_if_eq (tgt := 41) dM_envelope_21 rfl (fun h => absurd h (by decide)) (fun _ => ?_)
      refine V_aload_n dM_envelope_24 rfl ?_
      refine V_iload_n dM_envelope_25 rfl ?_
      refine V_callV (as := [.int z]) (rest := []) (bs' := 0) rfl dM_envelope_26 cmM_isSaying cvM_isSaying mlM_211 (Or.inl ⟨_, _, _, _, _, rfl, k76, by decide, rfl⟩) rfl rfl (m_isSaying hM hI.pw z) (by decide) (Nat.le_refl _) (by decide) (Nat.le_of_ble_eq_true rfl) ?_
      rintro _ _ _ (⟨hb26, rfl, rfl, rfl⟩ | ⟨hb26, rfl, rfl, rfl⟩) -
      · refine V_one ?_
        refine V_if_eq (tgt := 41) dM_envelope_29 rfl (fun h => absurd h (by decide)) (fun _ => ?_)
        refine V_aload_n dM_envelope_32 rfl ?_
        refine V_iload dM_envelope_33 rfl ?_
        refine V_callV (as := [.int pr]) (rest := []) (bs' := 0) rfl dM_envelope_35 cmM_isPrice cvM_isPrice mlM_214 (Or.inl ⟨_, _, _, _, _, rfl, k76, by decide, rfl⟩) rfl rfl (m_isPrice hM hI.pw pr) (by decide) (Nat.le_refl _) (by decide) (Nat.le_of_ble_eq_true rfl) ?_
        rintro _ _ _ (⟨hb35, rfl, rfl, rfl⟩ | ⟨hb35, rfl, rfl, rfl⟩) -
        · refine V_one ?_
          refine V_if_ne (tgt := 44) dM_envelope_38 rfl (fun _ => ?_) (fun h => absurd h (by decide))
          refine V_aload_n dM_envelope_44 rfl ?_
          refine V_getE (x := nI (mE M)) dM_envelope_45 flM_13 k76 rfl ((mR hM rfl).trans (iE hI).1) ?_
          refine V_bipush (v := 8) dM_envelope_48 (by decide) ?_
          refine V_icmp_ne (tgt := 56) dM_envelope_50 rfl (fun c50 => ?_) (fun c50 => ?_)
          · skip
            have h48 : mE M < 8 := by have h9 := (iE hI).2; have : ¬ mE M = 8 := fun q => c50 (by rw [q]; rfl); omega
            refine V_aload_n dM_envelope_56 rfl ?_
            refine V_getR (a := 78) dM_envelope_57 flM_26 k76 rfl (r76_5 hR) ?_
            refine V_aload_n dM_envelope_60 rfl ?_
            refine V_getE (x := nI (mE M)) dM_envelope_61 flM_13 k76 rfl ((mR hM rfl).trans (iE hI).1) ?_
            refine V_iload_n dM_envelope_64 rfl ?_
            refine V_iastN (j := mE M) dM_envelope_65 k78 rfl h48 (by decide) ?_
            have hM := RM_set (k := 78) (j := mE M) (x := k) hM
            have hS := hS.set (k := 78) (j := mE M) (x := k) (by omega)
            have hR := hM.1
            refine V_aload_n dM_envelope_66 rfl ?_
            refine V_getR (a := 79) dM_envelope_67 flM_29 k76 rfl (r76_6 hR) ?_
            refine V_aload_n dM_envelope_70 rfl ?_
            refine V_getE (x := nI (mE M)) dM_envelope_71 flM_13 k76 rfl ((mR hM rfl).trans (iE hI).1) ?_
            refine V_iload_n dM_envelope_74 rfl ?_
            refine V_iastN (j := mE M) dM_envelope_75 k79 rfl h48 (by decide) ?_
            have hM := RM_set (k := 79) (j := mE M) (x := v) hM
            have hS := hS.set (k := 79) (j := mE M) (x := v) (by omega)
            have hR := hM.1
            refine V_aload_n dM_envelope_76 rfl ?_
            refine V_getR (a := 80) dM_envelope_77 flM_32 k76 rfl (r76_7 hR) ?_
            refine V_aload_n dM_envelope_80 rfl ?_
            refine V_getE (x := nI (mE M)) dM_envelope_81 flM_13 k76 rfl ((mR hM rfl).trans (iE hI).1) ?_
            refine V_iload_n dM_envelope_84 rfl ?_
            refine V_iastN (j := mE M) dM_envelope_85 k80 rfl h48 (by decide) ?_
            have hM := RM_set (k := 80) (j := mE M) (x := z) hM
            have hS := hS.set (k := 80) (j := mE M) (x := z) (by omega)
            have hR := hM.1
            refine V_aload_n dM_envelope_86 rfl ?_
            refine V_getR (a := 81) dM_envelope_87 flM_35 k76 rfl (r76_8 hR) ?_
            refine V_aload_n dM_envelope_90 rfl ?_
            refine V_getE (x := nI (mE M)) dM_envelope_91 flM_13 k76 rfl ((mR hM rfl).trans (iE hI).1) ?_
            refine V_iload dM_envelope_94 rfl ?_
            refine V_iastN (j := mE M) dM_envelope_96 k81 rfl h48 (by decide) ?_
            have hM := RM_set (k := 81) (j := mE M) (x := pr) hM
            have hS := hS.set (k := 81) (j := mE M) (x := pr) (by omega)
            have hR := hM.1
            refine V_aload_n dM_envelope_97 rfl ?_
            refine V_getR (a := 82) dM_envelope_98 flM_38 k76 rfl (r76_9 hR) ?_
            refine V_aload_n dM_envelope_101 rfl ?_
            refine V_getE (x := nI (mE M)) dM_envelope_102 flM_13 k76 rfl ((mR hM rfl).trans (iE hI).1) ?_
            refine V_aload_n dM_envelope_105 rfl ?_
            refine V_getE (x := nI (mD M)) dM_envelope_106 flM_16 k76 rfl ((mR hM rfl).trans (iD hI).1) ?_
            refine V_iastN (j := mE M) dM_envelope_109 k82 rfl h48 (by decide) ?_
            have hM := RM_set (k := 82) (j := mE M) (x := nI (mD M)) hM
            have hS := hS.set (k := 82) (j := mE M) (x := nI (mD M)) (by omega)
            have hR := hM.1
            refine V_iconst (v := 0) dM_envelope_110 (by decide) ?_
            refine V_istore (loc' := [(5, .int 0), (0, .ref 76), (1, .int k), (2, .int v), (3, .int z), (4, .int pr)]) dM_envelope_111 (by decide) rfl ?_
            refine V_iload dM_envelope_113 rfl ?_
            refine V_iconst (v := 4) dM_envelope_115 (by decide) ?_
            refine V_icmp_ge (tgt := 140) dM_envelope_116 rfl (fun h => absurd h (by decide)) (fun _ => ?_)
            refine V_aload_n dM_envelope_119 rfl ?_
            refine V_getR (a := 83) dM_envelope_120 flM_41 k76 rfl (r76_10 hR) ?_
            refine V_iconst (v := 4) dM_envelope_123 (by decide) ?_
            refine V_aload_n dM_envelope_124 rfl ?_
            refine V_getE (x := nI (mE M)) dM_envelope_125 flM_13 k76 rfl ((mR hM rfl).trans (iE hI).1) ?_
            refine V_imul dM_envelope_128 ?_
            refine V_iload dM_envelope_129 rfl ?_
            refine V_iadd dM_envelope_131 ?_
            refine V_iconst (v := 0) dM_envelope_132 (by decide) ?_
            refine V_iastN (j := 4 * mE M + 0) dM_envelope_133 k83 (by rw [show (4 : Int32) = nI 4 from rfl, pk_mul]; exact nI_add _ 0) (by omega) (by decide) ?_
            have hM := RM_set (k := 83) (j := 4 * mE M + 0) (x := 0) hM
            have hS := hS.set (k := 83) (j := 4 * mE M + 0) (x := 0) (by omega)
            have hR := hM.1
            refine V_iinc (v := 1) (loc' := [(5, .int 1), (0, .ref 76), (1, .int k), (2, .int v), (3, .int z), (4, .int pr)]) dM_envelope_134 rfl (by rfl) (by decide) rfl ?_
            refine V_goto (tgt := 113) dM_envelope_137 rfl ?_
            refine V_iload dM_envelope_113 rfl ?_
            refine V_iconst (v := 4) dM_envelope_115 (by decide) ?_
            refine V_icmp_ge (tgt := 140) dM_envelope_116 rfl (fun h => absurd h (by decide)) (fun _ => ?_)
            refine V_aload_n dM_envelope_119 rfl ?_
            refine V_getR (a := 83) dM_envelope_120 flM_41 k76 rfl (r76_10 hR) ?_
            refine V_iconst (v := 4) dM_envelope_123 (by decide) ?_
            refine V_aload_n dM_envelope_124 rfl ?_
            refine V_getE (x := nI (mE M)) dM_envelope_125 flM_13 k76 rfl ((mR hM rfl).trans (iE hI).1) ?_
            refine V_imul dM_envelope_128 ?_
            refine V_iload dM_envelope_129 rfl ?_
            refine V_iadd dM_envelope_131 ?_
            refine V_iconst (v := 0) dM_envelope_132 (by decide) ?_
            refine V_iastN (j := 4 * mE M + 1) dM_envelope_133 k83 (by rw [show (4 : Int32) = nI 4 from rfl, pk_mul]; exact nI_add _ 1) (by omega) (by decide) ?_
            have hM := RM_set (k := 83) (j := 4 * mE M + 1) (x := 0) hM
            have hS := hS.set (k := 83) (j := 4 * mE M + 1) (x := 0) (by omega)
            have hR := hM.1
            refine V_iinc (v := 2) (loc' := [(5, .int 2), (0, .ref 76), (1, .int k), (2, .int v), (3, .int z), (4, .int pr)]) dM_envelope_134 rfl (by rfl) (by decide) rfl ?_
            refine V_goto (tgt := 113) dM_envelope_137 rfl ?_
            refine V_iload dM_envelope_113 rfl ?_
            refine V_iconst (v := 4) dM_envelope_115 (by decide) ?_
            refine V_icmp_ge (tgt := 140) dM_envelope_116 rfl (fun h => absurd h (by decide)) (fun _ => ?_)
            refine V_aload_n dM_envelope_119 rfl ?_
            refine V_getR (a := 83) dM_envelope_120 flM_41 k76 rfl (r76_10 hR) ?_
            refine V_iconst (v := 4) dM_envelope_123 (by decide) ?_
            refine V_aload_n dM_envelope_124 rfl ?_
            refine V_getE (x := nI (mE M)) dM_envelope_125 flM_13 k76 rfl ((mR hM rfl).trans (iE hI).1) ?_
            refine V_imul dM_envelope_128 ?_
            refine V_iload dM_envelope_129 rfl ?_
            refine V_iadd dM_envelope_131 ?_
            refine V_iconst (v := 0) dM_envelope_132 (by decide) ?_
            refine V_iastN (j := 4 * mE M + 2) dM_envelope_133 k83 (by rw [show (4 : Int32) = nI 4 from rfl, pk_mul]; exact nI_add _ 2) (by omega) (by decide) ?_
            have hM := RM_set (k := 83) (j := 4 * mE M + 2) (x := 0) hM
            have hS := hS.set (k := 83) (j := 4 * mE M + 2) (x := 0) (by omega)
            have hR := hM.1
            refine V_iinc (v := 3) (loc' := [(5, .int 3), (0, .ref 76), (1, .int k), (2, .int v), (3, .int z), (4, .int pr)]) dM_envelope_134 rfl (by rfl) (by decide) rfl ?_
            refine V_goto (tgt := 113) dM_envelope_137 rfl ?_
            refine V_iload dM_envelope_113 rfl ?_
            refine V_iconst (v := 4) dM_envelope_115 (by decide) ?_
            refine V_icmp_ge (tgt := 140) dM_envelope_116 rfl (fun h => absurd h (by decide)) (fun _ => ?_)
            refine V_aload_n dM_envelope_119 rfl ?_
            refine V_getR (a := 83) dM_envelope_120 flM_41 k76 rfl (r76_10 hR) ?_
            refine V_iconst (v := 4) dM_envelope_123 (by decide) ?_
            refine V_aload_n dM_envelope_124 rfl ?_
            refine V_getE (x := nI (mE M)) dM_envelope_125 flM_13 k76 rfl ((mR hM rfl).trans (iE hI).1) ?_
            refine V_imul dM_envelope_128 ?_
            refine V_iload dM_envelope_129 rfl ?_
            refine V_iadd dM_envelope_131 ?_
            refine V_iconst (v := 0) dM_envelope_132 (by decide) ?_
            refine V_iastN (j := 4 * mE M + 3) dM_envelope_133 k83 (by rw [show (4 : Int32) = nI 4 from rfl, pk_mul]; exact nI_add _ 3) (by omega) (by decide) ?_
            have hM := RM_set (k := 83) (j := 4 * mE M + 3) (x := 0) hM
            have hS := hS.set (k := 83) (j := 4 * mE M + 3) (x := 0) (by omega)
            have hR := hM.1
            refine V_iinc (v := 4) (loc' := [(5, .int 4), (0, .ref 76), (1, .int k), (2, .int v), (3, .int z), (4, .int pr)]) dM_envelope_134 rfl (by rfl) (by decide) rfl ?_
            refine V_goto (tgt := 113) dM_envelope_137 rfl ?_
            refine V_iload dM_envelope_113 rfl ?_
            refine V_iconst (v := 4) dM_envelope_115 (by decide) ?_
            refine V_icmp_ge (tgt := 140) dM_envelope_116 rfl (fun _ => ?_) (fun h => absurd h (by decide))
            refine V_aload_n dM_envelope_140 rfl ?_
            refine V_dup dM_envelope_141 rfl ?_
            refine V_getE (x := nI (mE M)) dM_envelope_142 flM_13 k76 rfl ((mR hM rfl).trans (iE hI).1) ?_
            refine V_iconst (v := 1) dM_envelope_145 (by decide) ?_
            refine V_iadd dM_envelope_146 ?_
            refine V_topI (x' := nI (mE M + 1)) (nI_1 _) ?_
            refine V_putI dM_envelope_147 flM_13 (fpM_1 _) (Or.inl rfl) k76 rfl ?_
            have hM := RM_set (k := 76) (j := 1) (x := nI (mE M + 1)) hM
            have hS := hS.set (k := 76) (j := 1) (x := nI (mE M + 1)) (by omega)
            have hR := hM.1
            refine V_aload_n dM_envelope_150 rfl ?_
            refine V_getE (x := nI (mE M + 1)) dM_envelope_151 flM_13 k76 rfl gi_eq ?_
            refine V_iconst (v := 1) dM_envelope_154 (by decide) ?_
            refine V_isub dM_envelope_155 ?_
            refine V_topI (x' := nI (mE M)) (nI_pred _) ?_
            refine V_iret dM_envelope_156 rfl rfl ?_
            have e : q_envelope M k v z pr = (nI (mE M), si (si (si (si (si (si (si (si (si (si M 78 (mE M) k) 79 (mE M) v) 80 (mE M) z) 81 (mE M) pr) 82 (mE M) (nI (mD M))) 83 (4 * mE M + 0) 0) 83 (4 * mE M + 1) 0) 83 (4 * mE M + 2) 0) 83 (4 * mE M + 3) 0) 76 1 (nI (mE M + 1))) := by
              skip
              first
              | (simp only [q_envelope, if_pos hb5, if_pos hb18, if_pos hb26, if_pos hb35, if_pos h48, q_addEnv, n_env]; done)
              | (simp [q_envelope, hb5, hb18, hb26, hb35, h48, q_addEnv, n_env]; done)
              | (simp_all [q_envelope, q_addEnv, n_env]; done)
            rw [e]
            exact ⟨rfl, rfl, hM, hS⟩
          · skip
            have h48 : ¬ mE M < 8 := by have := (nI_eq (b := 8) (sm9 hI) (by decide)).mp c50; omega
            refine V_bipush (v := -4) dM_envelope_53 (by decide) ?_
            refine V_iret dM_envelope_55 rfl rfl ?_
            have e : q_envelope M k v z pr = ((-4), M) := by
              skip
              first
              | (simp only [q_envelope, if_pos hb5, if_pos hb18, if_pos hb26, if_pos hb35, if_neg h48, q_addEnv, n_env]; done)
              | (simp [q_envelope, hb5, hb18, hb26, hb35, h48, q_addEnv, n_env]; done)
              | (simp_all [q_envelope, q_addEnv, n_env]; done)
            rw [e]
            exact ⟨rfl, rfl, hM, hS⟩
        · refine V_one ?_
          refine V_if_ne (tgt := 44) dM_envelope_38 rfl (fun h => absurd h (by decide)) (fun _ => ?_)
          refine V_bipush (v := -2) dM_envelope_41 (by decide) ?_
          refine V_iret dM_envelope_43 rfl rfl ?_
          have e : q_envelope M k v z pr = ((-2), M) := by
            skip
            first
            | (simp only [q_envelope, if_pos hb5, if_pos hb18, if_pos hb26, if_neg hb35, q_addEnv, n_env]; done)
            | (simp [q_envelope, hb5, hb18, hb26, hb35, q_addEnv, n_env]; done)
            | (simp_all [q_envelope, q_addEnv, n_env]; done)
          rw [e]
          exact ⟨rfl, rfl, hM, hS⟩
      · refine V_one ?_
        refine V_if_eq (tgt := 41) dM_envelope_29 rfl (fun _ => ?_) (fun h => absurd h (by decide))
        refine V_bipush (v := -2) dM_envelope_41 (by decide) ?_
        refine V_iret dM_envelope_43 rfl rfl ?_
        have e : q_envelope M k v z pr = ((-2), M) := by
          skip
          first
          | (simp only [q_envelope, if_pos hb5, if_pos hb18, if_neg hb26, q_addEnv, n_env]; done)
          | (simp [q_envelope, hb5, hb18, hb26, q_addEnv, n_env]; done)
          | (simp_all [q_envelope, q_addEnv, n_env]; done)
        rw [e]
        exact ⟨rfl, rfl, hM, hS⟩
    · refine V_one ?_
      refine V_if_eq (tgt := 41) dM_envelope_21 rfl (fun _ => ?_) (fun h => absurd h (by decide))
      refine V_bipush (v := -2) dM_envelope_41 (by decide) ?_
      refine V_iret dM_envelope_43 rfl rfl ?_
      have e : q_envelope M k v z pr = ((-2), M) := by
        skip
        first
        | (simp only [q_envelope, if_pos hb5, if_neg hb18, q_addEnv, n_env]; done)
        | (simp [q_envelope, hb5, hb18, q_addEnv, n_env]; done)
        | (simp_all [q_envelope, q_addEnv, n_env]; done)
      rw [e]
      exact ⟨rfl, rfl, hM, hS⟩
  · refine V_one ?_
    refine V_if_ne (tgt := 13) dM_envelope_8 rfl (fun h => absurd h (by decide)) (fun _ => ?_)
    refine V_iconst (v := -1) dM_envelope_11 (by decide) ?_
    refine V_iret dM_envelope_12 rfl rfl ?_
    have e : q_envelope M k v z pr = ((-1), M) := by
      skip
      first
      | (simp only [q_envelope, if_neg hb5, q_addEnv, n_env]; done)
      | (simp [q_envelope, hb5, q_addEnv, n_env]; done)
      | (simp_all [q_envelope, q_addEnv, n_env]; done)
    rw [e]
    exact ⟨rfl, rfl, hM, hS⟩
