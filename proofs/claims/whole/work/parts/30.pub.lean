/-! the public methods: questions, the second object -/
theorem m_pay {l : Launch} {G : GT} {L : Nat → List Cl} {M σ : Hp} (hM : RM M σ) (hI : Inv L M) (e w : Int32) : MM l G mM_pay 6 0 0 [.ref 76, .int e, .int w] KA σ (PM σ (q_pay L M e w)) := by
  have hR := hM.1
  have hM0 := hM
  have hS : Sc σ σ := Sc.rfl
  refine MM.of (loc := [(0, .ref 76), (1, .int e), (2, .int w)]) (by decide +kernel) rfl (Nat.le_of_ble_eq_true rfl) ?_
  refine V_aload_n dM_pay_0 rfl ?_
  refine V_iload_n dM_pay_1 rfl ?_
  refine V_callV (as := [.int e]) (rest := []) (bs' := 0) rfl dM_pay_2 cmM_isEnvelope cvM_isEnvelope mlM_217 (Or.inl ⟨_, _, _, _, _, rfl, k76, by decide, rfl⟩) rfl rfl (m_isEnvelope hM hI.pw e) (by decide) (Nat.le_refl _) (by decide) (Nat.le_of_ble_eq_true rfl) ?_
  rintro _ _ _ (⟨hb2, rfl, rfl, rfl⟩ | ⟨hb2, rfl, rfl, rfl⟩) -
  · refine V_one ?_
    refine V_if_eq (tgt := 25) dM_pay_5 rfl (fun h => absurd h (by decide)) (fun _ => ?_)
    refine V_aload_n dM_pay_8 rfl ?_
    refine V_iload_n dM_pay_9 rfl ?_
    refine V_callV (as := [.int w]) (rest := []) (bs' := 0) rfl dM_pay_10 cmM_isWorld cvM_isWorld mlM_207 (Or.inl ⟨_, _, _, _, _, rfl, k76, by decide, rfl⟩) rfl rfl (m_isWorld hM hI.pw w) (by decide) (Nat.le_refl _) (by decide) (Nat.le_of_ble_eq_true rfl) ?_
    rintro _ _ _ (⟨hb10, rfl, rfl, rfl⟩ | ⟨hb10, rfl, rfl, rfl⟩) -
    · refine V_one ?_
      refine V_if_eq (tgt := 25) dM_pay_13 rfl (fun h => absurd h (by decide)) (fun _ => ?_)
      refine V_aload_n dM_pay_16 rfl ?_
      refine V_iload_n dM_pay_17 rfl ?_
      refine V_topI (x' := nI (cN e)) (rng_N hb2 (sm9 hI)).1 ?_
      refine V_iload_n dM_pay_18 rfl ?_
      refine V_topI (x' := nI (cN w)) (rng_N hb10 (sm7 hI)).1 ?_
      refine V_callV (as := [.int (nI (cN e)), .int (nI (cN w))]) (rest := []) (bs' := 0) rfl dM_pay_19 cmM_payOf cvM_payOf mlM_311 (Or.inl ⟨_, _, _, _, _, rfl, k76, by decide, rfl⟩) rfl rfl (m_payOf hM hI.pw (lt9 hI (rng_N hb2 (sm9 hI)).2) (rng_N hb10 (sm7 hI)).2 (hI.ps (rng_N hb2 (sm9 hI)).2) (by have := (iD hI).2; omega)) (by decide) (Nat.le_refl _) (by decide) (Nat.le_of_ble_eq_true rfl) ?_
      rintro _ _ s1 ⟨rfl, rfl, hF1⟩ -
      refine V_one ?_
      have hM := hF1.rm hM
      have hS := hS.trans hF1.sc
      have hR := hM.1
      refine V_goto (tgt := 26) dM_pay_22 rfl ?_
      refine V_iret dM_pay_26 rfl rfl ?_
      have e : q_pay L M e w = (payS L M (cN e) (cN w), M) := by
        skip
        first
        | (simp only [q_pay, if_pos hb2, if_pos hb10]; done)
        | (simp [q_pay, hb2, hb10]; done)
        | (simp_all [q_pay]; done)
      rw [e]
      exact ⟨rfl, rfl, hM, hS⟩
    · refine V_one ?_
      refine V_if_eq (tgt := 25) dM_pay_13 rfl (fun _ => ?_) (fun h => absurd h (by decide))
      refine V_iconst (v := -1) dM_pay_25 (by decide) ?_
      refine V_iret dM_pay_26 rfl rfl ?_
      have e : q_pay L M e w = ((-1), M) := by
        skip
        first
        | (simp only [q_pay, if_pos hb2, if_neg hb10]; done)
        | (simp [q_pay, hb2, hb10]; done)
        | (simp_all [q_pay]; done)
      rw [e]
      exact ⟨rfl, rfl, hM, hS⟩
  · refine V_one ?_
    refine V_if_eq (tgt := 25) dM_pay_5 rfl (fun _ => ?_) (fun h => absurd h (by decide))
    refine V_iconst (v := -1) dM_pay_25 (by decide) ?_
    refine V_iret dM_pay_26 rfl rfl ?_
    have e : q_pay L M e w = ((-1), M) := by
      skip
      first
      | (simp only [q_pay, if_neg hb2]; done)
      | (simp [q_pay, hb2]; done)
      | (simp_all [q_pay]; done)
    rw [e]
    exact ⟨rfl, rfl, hM, hS⟩
theorem m_mean {l : Launch} {G : GT} {L : Nat → List Cl} {M σ : Hp} (hM : RM M σ) (hI : Inv L M) (e x : Int32) : MM l G mM_mean 7 0 0 [.ref 76, .int e, .int x] KA σ (PMl σ (q_mean L M e x)) := by
  have hR := hM.1
  have hM0 := hM
  have hS : Sc σ σ := Sc.rfl
  refine MM.of (loc := [(0, .ref 76), (1, .int e), (2, .int x)]) (by decide +kernel) rfl (Nat.le_of_ble_eq_true rfl) ?_
  refine V_aload_n dM_mean_0 rfl ?_
  refine V_iload_n dM_mean_1 rfl ?_
  refine V_callV (as := [.int e]) (rest := []) (bs' := 0) rfl dM_mean_2 cmM_isEnvelope cvM_isEnvelope mlM_217 (Or.inl ⟨_, _, _, _, _, rfl, k76, by decide, rfl⟩) rfl rfl (m_isEnvelope hM hI.pw e) (by decide) (Nat.le_refl _) (by decide) (Nat.le_of_ble_eq_true rfl) ?_
  rintro _ _ _ (⟨hb2, rfl, rfl, rfl⟩ | ⟨hb2, rfl, rfl, rfl⟩) -
  · refine V_one ?_
    refine V_if_eq (tgt := 25) dM_mean_5 rfl (fun h => absurd h (by decide)) (fun _ => ?_)
    refine V_aload_n dM_mean_8 rfl ?_
    refine V_iload_n dM_mean_9 rfl ?_
    refine V_iconst (v := 0) dM_mean_10 (by decide) ?_
    refine V_iconst (v := 1) dM_mean_11 (by decide) ?_
    refine V_callV (as := [.int x, .int 0, .int 1]) (rest := []) (bs' := 0) rfl dM_mean_12 cmM_in cvM_in mlM_203 (Or.inl ⟨_, _, _, _, _, rfl, k76, by decide, rfl⟩) rfl rfl (m_in x 0 1) (by decide) (Nat.le_refl _) (by decide) (Nat.le_of_ble_eq_true rfl) ?_
    rintro _ _ _ (⟨hb12, rfl, rfl, rfl⟩ | ⟨hb12, rfl, rfl, rfl⟩) -
    · refine V_one ?_
      refine V_if_eq (tgt := 25) dM_mean_15 rfl (fun h => absurd h (by decide)) (fun _ => ?_)
      refine V_aload_n dM_mean_18 rfl ?_
      refine V_getE (x := nI (mW M)) dM_mean_19 flM_7 k76 rfl ((mR hM rfl).trans (iW hI).1) ?_
      refine V_if_ne (tgt := 31) dM_mean_22 rfl (fun c22 => ?_) (fun c22 => ?_)
      · skip
        have hz22 : ¬ chS M (allS M) (mW M) = 0 := all_pos hI (Nat.pos_of_ne_zero (fun q => c22 (by rw [q]; rfl)))
        refine V_aload_n dM_mean_31 rfl ?_
        refine V_aload_n dM_mean_32 rfl ?_
        refine V_iload_n dM_mean_33 rfl ?_
        refine V_topI (x' := nI (cN e)) (rng_N hb2 (sm9 hI)).1 ?_
        refine V_callV (as := [.int (nI (cN e))]) (rest := [.ref 76]) (bs' := 0) rfl dM_mean_34 cmM_weighed cvM_weighed mlM_326 (Or.inl ⟨_, _, _, _, _, rfl, k76, by decide, rfl⟩) rfl rfl (m_weighed hM hI.pw (lt9 hI (rng_N hb2 (sm9 hI)).2) (hI.ps (rng_N hb2 (sm9 hI)).2) (by have := (iD hI).2; omega)) (by decide) (Nat.le_refl _) (by decide) (Nat.le_of_ble_eq_true rfl) ?_
        rintro _ _ s1 ⟨rfl, rfl, hF1⟩ -
        refine V_one ?_
        have hM := hF1.rm hM
        have hS := hS.trans hF1.sc
        have hR := hM.1
        refine V_aload_n dM_mean_37 rfl ?_
        refine V_aload_n dM_mean_38 rfl ?_
        refine V_callV (as := []) (rest := [.ref 76, .int (wS L M (cN e) (gi M 80 (cN e)) (mD M) (mW M)), .ref 76]) (bs' := 0) rfl dM_mean_39 cmM_all cvM_all mlM_314 (Or.inl ⟨_, _, _, _, _, rfl, k76, by decide, rfl⟩) rfl rfl (m_all hM hI) (by decide) (Nat.le_refl _) (by decide) (Nat.le_of_ble_eq_true rfl) ?_
        rintro _ _ _ ⟨rfl, rfl, rfl⟩ -
        refine V_one ?_
        refine V_callV (as := [.int (allS M)]) (rest := [.int (wS L M (cN e) (gi M 80 (cN e)) (mD M) (mW M)), .ref 76]) (bs' := 0) rfl dM_mean_42 cmM_chances cvM_chances mlM_317 (Or.inl ⟨_, _, _, _, _, rfl, k76, by decide, rfl⟩) rfl rfl (m_chances hM hI (allS M)) (by decide) (Nat.le_refl _) (by decide) (Nat.le_of_ble_eq_true rfl) ?_
        rintro _ _ _ ⟨rfl, rfl, rfl⟩ -
        refine V_one ?_
        refine V_iload_n dM_mean_45 rfl ?_
        refine V_callV (as := [.int (wS L M (cN e) (gi M 80 (cN e)) (mD M) (mW M)), .int (chS M (allS M) (mW M)), .int x]) (rest := []) (bs' := 0) rfl dM_mean_46 cmM_lowest cvM_lowest mlM_329 (Or.inl ⟨_, _, _, _, _, rfl, k76, by decide, rfl⟩) rfl rfl (m_frac x (wS_b hI (rng_N hb2 (sm9 hI)).2) (chS_b hI _) (by decide) (by decide) hb12 hz22) (by decide) (Nat.le_refl _) (by decide) (Nat.le_of_ble_eq_true rfl) ?_
        rintro _ _ _ ⟨rfl, rfl, rfl⟩ -
        refine V_one ?_
        refine V_lret dM_mean_49 rfl rfl ?_
        have e : q_mean L M e x = (frX (wS L M (cN e) (gi M 80 (cN e)) (mD M) (mW M)) (chS M (allS M) (mW M)) x, M) := by
          skip
          first
          | (simp only [q_mean, if_pos hb2, if_pos hb12, if_neg hz22, frX]; done)
          | (simp [q_mean, hb2, hb12, hz22, frX]; done)
          | (simp_all [q_mean, frX]; done)
        rw [e]
        exact ⟨rfl, rfl, hM, hS⟩
      · skip
        have hz22 : chS M (allS M) (mW M) = 0 := by rw [(nI_eq (b := 0) (sm7 hI) (by decide)).mp c22]; rfl
        refine V_ldc2 dM_mean_25 klM_324 ?_
        refine V_goto (tgt := 49) dM_mean_28 rfl ?_
        refine V_lret dM_mean_49 rfl rfl ?_
        have e : q_mean L M e x = ((-9223372036854775808), M) := by
          skip
          first
          | (simp only [q_mean, if_pos hb2, if_pos hb12, if_pos hz22, frX]; done)
          | (simp [q_mean, hb2, hb12, hz22, frX]; done)
          | (simp_all [q_mean, frX]; done)
        rw [e]
        exact ⟨rfl, rfl, hM, hS⟩
    · refine V_one ?_
      refine V_if_eq (tgt := 25) dM_mean_15 rfl (fun _ => ?_) (fun h => absurd h (by decide))
      refine V_ldc2 dM_mean_25 klM_324 ?_
      refine V_goto (tgt := 49) dM_mean_28 rfl ?_
      refine V_lret dM_mean_49 rfl rfl ?_
      have e : q_mean L M e x = ((-9223372036854775808), M) := by
        skip
        first
        | (simp only [q_mean, if_pos hb2, if_neg hb12, frX]; done)
        | (simp [q_mean, hb2, hb12, frX]; done)
        | (simp_all [q_mean, frX]; done)
      rw [e]
      exact ⟨rfl, rfl, hM, hS⟩
  · refine V_one ?_
    refine V_if_eq (tgt := 25) dM_mean_5 rfl (fun _ => ?_) (fun h => absurd h (by decide))
    refine V_ldc2 dM_mean_25 klM_324 ?_
    refine V_goto (tgt := 49) dM_mean_28 rfl ?_
    refine V_lret dM_mean_49 rfl rfl ?_
    have e : q_mean L M e x = ((-9223372036854775808), M) := by
      skip
      first
      | (simp only [q_mean, if_neg hb2, frX]; done)
      | (simp [q_mean, hb2, frX]; done)
      | (simp_all [q_mean, frX]; done)
    rw [e]
    exact ⟨rfl, rfl, hM, hS⟩
theorem m_gain {l : Launch} {G : GT} {L : Nat → List Cl} {M σ : Hp} (hM : RM M σ) (hI : Inv L M) (x w : Int32) : MM l G mM_gain 7 0 0 [.ref 76, .int x, .int w] KA σ (PM σ (q_gain L M x w)) := by
  have hR := hM.1
  have hM0 := hM
  have hS : Sc σ σ := Sc.rfl
  refine MM.of (loc := [(0, .ref 76), (1, .int x), (2, .int w)]) (by decide +kernel) rfl (Nat.le_of_ble_eq_true rfl) ?_
  refine V_aload_n dM_gain_0 rfl ?_
  refine V_iload_n dM_gain_1 rfl ?_
  refine V_callV (as := [.int w]) (rest := []) (bs' := 0) rfl dM_gain_2 cmM_isWorld cvM_isWorld mlM_207 (Or.inl ⟨_, _, _, _, _, rfl, k76, by decide, rfl⟩) rfl rfl (m_isWorld hM hI.pw w) (by decide) (Nat.le_refl _) (by decide) (Nat.le_of_ble_eq_true rfl) ?_
  rintro _ _ _ (⟨hb2, rfl, rfl, rfl⟩ | ⟨hb2, rfl, rfl, rfl⟩) -
  · refine V_one ?_
    refine V_if_ne (tgt := 12) dM_gain_5 rfl (fun _ => ?_) (fun h => absurd h (by decide))
    refine V_aload_n dM_gain_12 rfl ?_
    refine V_iload_n dM_gain_13 rfl ?_
    refine V_callV (as := [.int x]) (rest := []) (bs' := 0) rfl dM_gain_14 cmM_isSet cvM_isSet mlM_337 (Or.inl ⟨_, _, _, _, _, rfl, k76, by decide, rfl⟩) rfl rfl (m_isSet hM hI.pw x) (by decide) (Nat.le_refl _) (by decide) (Nat.le_of_ble_eq_true rfl) ?_
    rintro _ _ _ (⟨hb14, rfl, rfl, rfl⟩ | ⟨hb14, rfl, rfl, rfl⟩) -
    · refine V_one ?_
      refine V_if_ne (tgt := 24) dM_gain_17 rfl (fun _ => ?_) (fun h => absurd h (by decide))
      refine V_aload_n dM_gain_24 rfl ?_
      refine V_callV (as := []) (rest := []) (bs' := 0) rfl dM_gain_25 cmM_layPays cvM_layPays mlM_341 (Or.inl ⟨_, _, _, _, _, rfl, k76, by decide, rfl⟩) rfl rfl (m_layPays hM hI) (by decide) (Nat.le_refl _) (by decide) (Nat.le_of_ble_eq_true rfl) ?_
      rintro _ _ s1 ⟨rfl, rfl, hF1, hQ⟩ -
      refine V_non ?_
      have hM := hF1.rm hM
      have hS := hS.trans hF1.sc
      have hR := hM.1
      refine V_aload_n dM_gain_28 rfl ?_
      refine V_iload_n dM_gain_29 rfl ?_
      refine V_iload_n dM_gain_30 rfl ?_
      refine V_topI (x' := nI (cN w)) (rng_N hb2 (sm7 hI)).1 ?_
      refine V_callV (as := [.int x, .int (nI (cN w))]) (rest := []) (bs' := 0) rfl dM_gain_31 cmM_gainOf cvM_gainOf mlM_333 (Or.inl ⟨_, _, _, _, _, rfl, k76, by decide, rfl⟩) rfl rfl (m_gainOf hM hI hQ x (rng_N hb2 (sm7 hI)).2) (by decide) (Nat.le_refl _) (by decide) (Nat.le_of_ble_eq_true rfl) ?_
      rintro _ _ _ ⟨rfl, rfl, rfl⟩ -
      refine V_one ?_
      refine V_iret dM_gain_34 rfl rfl ?_
      have e : q_gain L M x w = (gnS L M x (cN w) (mE M), M) := by
        skip
        first
        | (simp only [q_gain, if_pos hb2, if_pos hb14]; done)
        | (simp [q_gain, hb2, hb14]; done)
        | (simp_all [q_gain]; done)
      rw [e]
      exact ⟨rfl, rfl, hM, hS⟩
    · refine V_one ?_
      refine V_if_ne (tgt := 24) dM_gain_17 rfl (fun h => absurd h (by decide)) (fun _ => ?_)
      refine V_ldcw dM_gain_20 kcM_340 ?_
      refine V_iret dM_gain_23 rfl rfl ?_
      have e : q_gain L M x w = ((-100002), M) := by
        skip
        first
        | (simp only [q_gain, if_pos hb2, if_neg hb14]; done)
        | (simp [q_gain, hb2, hb14]; done)
        | (simp_all [q_gain]; done)
      rw [e]
      exact ⟨rfl, rfl, hM, hS⟩
  · refine V_one ?_
    refine V_if_ne (tgt := 12) dM_gain_5 rfl (fun h => absurd h (by decide)) (fun _ => ?_)
    refine V_ldcw dM_gain_8 kcM_336 ?_
    refine V_iret dM_gain_11 rfl rfl ?_
    have e : q_gain L M x w = ((-100001), M) := by
      skip
      first
      | (simp only [q_gain, if_neg hb2]; done)
      | (simp [q_gain, hb2]; done)
      | (simp_all [q_gain]; done)
    rw [e]
    exact ⟨rfl, rfl, hM, hS⟩
theorem m_least {l : Launch} {G : GT} {L : Nat → List Cl} {M σ : Hp} (hM : RM M σ) (hI : Inv L M) (x : Int32) : MM l G mM_least 7 0 0 [.ref 76, .int x] KA σ (PM σ (q_least L M x)) := by
  have hR := hM.1
  have hM0 := hM
  have hS : Sc σ σ := Sc.rfl
  refine MM.of (loc := [(0, .ref 76), (1, .int x)]) (by decide +kernel) rfl (Nat.le_of_ble_eq_true rfl) ?_
  refine V_aload_n dM_least_0 rfl ?_
  refine V_iload_n dM_least_1 rfl ?_
  refine V_callV (as := [.int x]) (rest := []) (bs' := 0) rfl dM_least_2 cmM_isSet cvM_isSet mlM_337 (Or.inl ⟨_, _, _, _, _, rfl, k76, by decide, rfl⟩) rfl rfl (m_isSet hM hI.pw x) (by decide) (Nat.le_refl _) (by decide) (Nat.le_of_ble_eq_true rfl) ?_
  rintro _ _ _ (⟨hb2, rfl, rfl, rfl⟩ | ⟨hb2, rfl, rfl, rfl⟩) -
  · refine V_one ?_
    refine V_if_ne (tgt := 12) dM_least_5 rfl (fun _ => ?_) (fun h => absurd h (by decide))
    refine V_aload_n dM_least_12 rfl ?_
    refine V_callV (as := []) (rest := []) (bs' := 0) rfl dM_least_13 cmM_layPays cvM_layPays mlM_341 (Or.inl ⟨_, _, _, _, _, rfl, k76, by decide, rfl⟩) rfl rfl (m_layPays hM hI) (by decide) (Nat.le_refl _) (by decide) (Nat.le_of_ble_eq_true rfl) ?_
    rintro _ _ s1 ⟨rfl, rfl, hF1, hQ⟩ -
    refine V_non ?_
    have hM := hF1.rm hM
    have hS := hS.trans hF1.sc
    have hR := hM.1
    refine V_aload_n dM_least_16 rfl ?_
    refine V_iload_n dM_least_17 rfl ?_
    refine V_callV (as := [.int x]) (rest := []) (bs' := 0) rfl dM_least_18 cmM_leastOf cvM_leastOf mlM_344 (Or.inl ⟨_, _, _, _, _, rfl, k76, by decide, rfl⟩) rfl rfl (m_leastOf hM hI hQ x) (by decide) (Nat.le_refl _) (by decide) (Nat.le_of_ble_eq_true rfl) ?_
    rintro _ _ _ ⟨rfl, rfl, rfl⟩ -
    refine V_one ?_
    refine V_iret dM_least_21 rfl rfl ?_
    have e : q_least L M x = (lstS L M x, M) := by
      skip
      first
      | (simp only [q_least, if_pos hb2]; done)
      | (simp [q_least, hb2]; done)
      | (simp_all [q_least]; done)
    rw [e]
    exact ⟨rfl, rfl, hM, hS⟩
  · refine V_one ?_
    refine V_if_ne (tgt := 12) dM_least_5 rfl (fun h => absurd h (by decide)) (fun _ => ?_)
    refine V_ldcw dM_least_8 kcM_340 ?_
    refine V_iret dM_least_11 rfl rfl ?_
    have e : q_least L M x = ((-100002), M) := by
      skip
      first
      | (simp only [q_least, if_neg hb2]; done)
      | (simp [q_least, hb2]; done)
      | (simp_all [q_least]; done)
    rw [e]
    exact ⟨rfl, rfl, hM, hS⟩
theorem m_left {l : Launch} {G : GT} {L : Nat → List Cl} {M σ : Hp} (hM : RM M σ) (hI : Inv L M) : MM l G mM_left 2 0 0 [.ref 76] KA σ (PM σ (q_left M)) := by
  have hR := hM.1
  have hM0 := hM
  have hS : Sc σ σ := Sc.rfl
  refine MM.of (loc := [(0, .ref 76)]) (by decide +kernel) rfl (Nat.le_of_ble_eq_true rfl) ?_
  refine V_aload_n dM_left_0 rfl ?_
  refine V_callV (as := []) (rest := []) (bs' := 0) rfl dM_left_1 cmM_leftNow cvM_leftNow mlM_347 (Or.inl ⟨_, _, _, _, _, rfl, k76, by decide, rfl⟩) rfl rfl (m_leftNow hM hI) (by decide) (Nat.le_refl _) (by decide) (Nat.le_of_ble_eq_true rfl) ?_
  rintro _ _ _ ⟨rfl, rfl, rfl⟩ -
  refine V_one ?_
  refine V_iret dM_left_4 rfl rfl ?_
  have e : q_left M = (leftS M, M) := by
    skip
    first
    | (simp only [q_left]; done)
    | (simp [q_left]; done)
    | (simp_all [q_left]; done)
  rw [e]
  exact ⟨rfl, rfl, hM, hS⟩
theorem m_odds {l : Launch} {G : GT} {L : Nat → List Cl} {M σ : Hp} (hM : RM M σ) (hI : Inv L M) (e x : Int32) : MM l G mM_odds 2 0 0 [.ref 76, .int e, .int x] KA σ (PMl σ (q_odds M e x)) := by
  have hR := hM.1
  have hM0 := hM
  have hS : Sc σ σ := Sc.rfl
  refine MM.of (loc := [(0, .ref 76), (1, .int e), (2, .int x)]) (by decide +kernel) rfl (Nat.le_of_ble_eq_true rfl) ?_
  refine V_aload_n dM_odds_0 rfl ?_
  refine V_iload_n dM_odds_1 rfl ?_
  refine V_callV (as := [.int e]) (rest := []) (bs' := 0) rfl dM_odds_2 cmM_isEnvelope cvM_isEnvelope mlM_217 (Or.inl ⟨_, _, _, _, _, rfl, k76, by decide, rfl⟩) rfl rfl (m_isEnvelope hM hI.pw e) (by decide) (Nat.le_refl _) (by decide) (Nat.le_of_ble_eq_true rfl) ?_
  rintro _ _ _ (⟨hb2, rfl, rfl, rfl⟩ | ⟨hb2, rfl, rfl, rfl⟩) -
  · refine V_one ?_
    refine V_if_eq (tgt := 18) dM_odds_5 rfl (fun h => absurd h (by decide)) (fun _ => ?_)
    refine V_aload_n dM_odds_8 rfl ?_
    refine V_iload_n dM_odds_9 rfl ?_
    refine V_iconst (v := 0) dM_odds_10 (by decide) ?_
    refine V_iconst (v := 1) dM_odds_11 (by decide) ?_
    refine V_callV (as := [.int x, .int 0, .int 1]) (rest := []) (bs' := 0) rfl dM_odds_12 cmM_in cvM_in mlM_203 (Or.inl ⟨_, _, _, _, _, rfl, k76, by decide, rfl⟩) rfl rfl (m_in x 0 1) (by decide) (Nat.le_refl _) (by decide) (Nat.le_of_ble_eq_true rfl) ?_
    rintro _ _ _ (⟨hb12, rfl, rfl, rfl⟩ | ⟨hb12, rfl, rfl, rfl⟩) -
    · refine V_one ?_
      refine V_if_ne (tgt := 22) dM_odds_15 rfl (fun _ => ?_) (fun h => absurd h (by decide))
      refine V_aload_n dM_odds_22 rfl ?_
      refine V_callV (as := []) (rest := []) (bs' := 0) rfl dM_odds_23 cmM_leftNow cvM_leftNow mlM_347 (Or.inl ⟨_, _, _, _, _, rfl, k76, by decide, rfl⟩) rfl rfl (m_leftNow hM hI) (by decide) (Nat.le_refl _) (by decide) (Nat.le_of_ble_eq_true rfl) ?_
      rintro _ _ _ ⟨rfl, rfl, rfl⟩ -
      refine V_one ?_
      refine V_istore_n (loc' := [(3, .int (leftS M)), (0, .ref 76), (1, .int e), (2, .int x)]) dM_odds_26 (by decide) rfl ?_
      refine V_iload_n dM_odds_27 rfl ?_
      refine V_if_ne (tgt := 37) dM_odds_28 rfl (fun c28 => ?_) (fun c28 => ?_)
      · skip
        have hz28 : ¬ chS M (leftS M) (mW M) = 0 := (left_bit hI c28).elim (fun w h => chS_pos hI h.1 h.2)
        refine V_aload_n dM_odds_37 rfl ?_
        refine V_aload_n dM_odds_38 rfl ?_
        refine V_iload_n dM_odds_39 rfl ?_
        refine V_aload_n dM_odds_40 rfl ?_
        refine V_getR (a := 80) dM_odds_41 flM_32 k76 rfl (r76_7 hR) ?_
        refine V_iload_n dM_odds_44 rfl ?_
        refine V_ialdN (j := cN e) dM_odds_45 k80 (rng_N hb2 (sm9 hI)).1 (by have := (rng_N hb2 (sm9 hI)).2; have := (iE hI).2; omega) (by decide) ?_
        refine V_topI (x' := gi M 80 (cN e)) (mR hM rfl) ?_
        refine V_iand dM_odds_46 ?_
        refine V_callV (as := [.int ((leftS M) &&& (gi M 80 (cN e)))]) (rest := [.ref 76]) (bs' := 0) rfl dM_odds_47 cmM_chances cvM_chances mlM_317 (Or.inl ⟨_, _, _, _, _, rfl, k76, by decide, rfl⟩) rfl rfl (m_chances hM hI ((leftS M) &&& (gi M 80 (cN e)))) (by decide) (Nat.le_refl _) (by decide) (Nat.le_of_ble_eq_true rfl) ?_
        rintro _ _ _ ⟨rfl, rfl, rfl⟩ -
        refine V_one ?_
        refine V_aload_n dM_odds_50 rfl ?_
        refine V_iload_n dM_odds_51 rfl ?_
        refine V_callV (as := [.int (leftS M)]) (rest := [.int (chS M ((leftS M) &&& (gi M 80 (cN e))) (mW M)), .ref 76]) (bs' := 0) rfl dM_odds_52 cmM_chances cvM_chances mlM_317 (Or.inl ⟨_, _, _, _, _, rfl, k76, by decide, rfl⟩) rfl rfl (m_chances hM hI (leftS M)) (by decide) (Nat.le_refl _) (by decide) (Nat.le_of_ble_eq_true rfl) ?_
        rintro _ _ _ ⟨rfl, rfl, rfl⟩ -
        refine V_one ?_
        refine V_iload_n dM_odds_55 rfl ?_
        refine V_callV (as := [.int (chS M ((leftS M) &&& (gi M 80 (cN e))) (mW M)), .int (chS M (leftS M) (mW M)), .int x]) (rest := []) (bs' := 0) rfl dM_odds_56 cmM_lowest cvM_lowest mlM_329 (Or.inl ⟨_, _, _, _, _, rfl, k76, by decide, rfl⟩) rfl rfl (m_frac x (chS_b hI _) (chS_b hI _) (by decide) (by decide) hb12 hz28) (by decide) (Nat.le_refl _) (by decide) (Nat.le_of_ble_eq_true rfl) ?_
        rintro _ _ _ ⟨rfl, rfl, rfl⟩ -
        refine V_one ?_
        refine V_lret dM_odds_59 rfl rfl ?_
        have e : q_odds M e x = (frX (chS M ((leftS M) &&& (gi M 80 (cN e))) (mW M)) (chS M (leftS M) (mW M)) x, M) := by
          skip
          first
          | (simp only [q_odds, if_pos hb2, if_pos hb12, if_neg hz28, frX]; done)
          | (simp [q_odds, hb2, hb12, hz28, frX]; done)
          | (simp_all [q_odds, frX]; done)
        rw [e]
        exact ⟨rfl, rfl, hM, hS⟩
      · skip
        have hz28 : chS M (leftS M) (mW M) = 0 := by rw [c28]; exact chS_0 _ (by have := (iW hI).2; omega)
        refine V_ldc2 dM_odds_31 klM_324 ?_
        refine V_goto (tgt := 59) dM_odds_34 rfl ?_
        refine V_lret dM_odds_59 rfl rfl ?_
        have e : q_odds M e x = ((-9223372036854775808), M) := by
          skip
          first
          | (simp only [q_odds, if_pos hb2, if_pos hb12, if_pos hz28, frX]; done)
          | (simp [q_odds, hb2, hb12, hz28, frX]; done)
          | (simp_all [q_odds, frX]; done)
        rw [e]
        exact ⟨rfl, rfl, hM, hS⟩
    · refine V_one ?_
      refine V_if_ne (tgt := 22) dM_odds_15 rfl (fun h => absurd h (by decide)) (fun _ => ?_)
      refine V_ldc2 dM_odds_18 klM_324 ?_
      refine V_lret dM_odds_21 rfl rfl ?_
      have e : q_odds M e x = ((-9223372036854775808), M) := by
        skip
        first
        | (simp only [q_odds, if_pos hb2, if_neg hb12, frX]; done)
        | (simp [q_odds, hb2, hb12, frX]; done)
        | (simp_all [q_odds, frX]; done)
      rw [e]
      exact ⟨rfl, rfl, hM, hS⟩
  · refine V_one ?_
    refine V_if_eq (tgt := 18) dM_odds_5 rfl (fun _ => ?_) (fun h => absurd h (by decide))
    refine V_ldc2 dM_odds_18 klM_324 ?_
    refine V_lret dM_odds_21 rfl rfl ?_
    have e : q_odds M e x = ((-9223372036854775808), M) := by
      skip
      first
      | (simp only [q_odds, if_neg hb2, frX]; done)
      | (simp [q_odds, hb2, frX]; done)
      | (simp_all [q_odds, frX]; done)
    rw [e]
    exact ⟨rfl, rfl, hM, hS⟩
theorem m_knew {l : Launch} {G : GT} {L : Nat → List Cl} {M σ : Hp} (hM : RM M σ) (hI : Inv L M) : MM l G mM_knew 2 0 0 [.ref 76] KA σ (PM σ (q_knew M)) := by
  have hR := hM.1
  have hM0 := hM
  have hS : Sc σ σ := Sc.rfl
  refine MM.of (loc := [(0, .ref 76)]) (by decide +kernel) rfl (Nat.le_of_ble_eq_true rfl) ?_
  refine V_aload_n dM_knew_0 rfl ?_
  refine V_callV (as := []) (rest := []) (bs' := 0) rfl dM_knew_1 cmM_leftNow cvM_leftNow mlM_347 (Or.inl ⟨_, _, _, _, _, rfl, k76, by decide, rfl⟩) rfl rfl (m_leftNow hM hI) (by decide) (Nat.le_refl _) (by decide) (Nat.le_of_ble_eq_true rfl) ?_
  rintro _ _ _ ⟨rfl, rfl, rfl⟩ -
  refine V_one ?_
  refine V_istore_n (loc' := [(1, .int (leftS M)), (0, .ref 76)]) dM_knew_4 (by decide) rfl ?_
  refine V_iconst (v := 0) dM_knew_5 (by decide) ?_
  refine V_istore_n (loc' := [(2, .int 0), (1, .int (leftS M)), (0, .ref 76)]) dM_knew_6 (by decide) rfl ?_
  refine V_iconst (v := 0) dM_knew_7 (by decide) ?_
  refine V_istore_n (loc' := [(3, .int 0), (2, .int 0), (1, .int (leftS M)), (0, .ref 76)]) dM_knew_8 (by decide) rfl ?_
  refine V.locs (loc' := [(3, .int 0), (2, .int 0), (1, .int (leftS M)), (0, .ref 76)]) [0, 1, 2, 3] rfl ?_
  refine V_eqL (loc' := [(3, .int (nI 0)), (2, .int (knewS M (leftS M) 0)), (1, .int (leftS M)), (0, .ref 76)]) ?_ ?_
  · first | rfl | simp
  have lp : ∀ n : Nat, n ≤ (mE M) → ∀ s : Hp, RM M s → Sc σ s → V l G mM_knew (rmd 2 0 0) (KA.length + 0) 0 9 [(3, .int (nI n)), (2, .int (knewS M (leftS M) n)), (1, .int (leftS M)), (0, .ref 76)] [] KA s (PM σ (q_knew M)) := by
    refine lp_up (mE M) ?_ (fun n hn ihn => ?_)
    · skip
      intro s hM hS
      have hR := hM.1
      refine V_iload_n dM_knew_9 rfl ?_
      refine V_aload_n dM_knew_10 rfl ?_
      refine V_getE (x := nI (mE M)) dM_knew_11 flM_13 k76 rfl ((mR hM rfl).trans (iE hI).1) ?_
      refine V_icmp_ge (tgt := 50) dM_knew_14 rfl (fun _ => ?_) (fun h => absurd h (not_not_intro (nI_le (Nat.le_refl _) (sm9 hI))))
      refine V_iload_n dM_knew_50 rfl ?_
      refine V_iret dM_knew_51 rfl rfl ?_
      have e : q_knew M = (knewS M (leftS M) (mE M), M) := by
        skip
        first
        | (simp only [q_knew]; done)
        | (simp [q_knew]; done)
        | (simp_all [q_knew]; done)
      rw [e]
      exact ⟨rfl, rfl, hM, hS⟩
    · skip
      intro s hM hS
      have hR := hM.1
      refine V_iload_n dM_knew_9 rfl ?_
      refine V_aload_n dM_knew_10 rfl ?_
      refine V_getE (x := nI (mE M)) dM_knew_11 flM_13 k76 rfl ((mR hM rfl).trans (iE hI).1) ?_
      refine V_icmp_ge (tgt := 50) dM_knew_14 rfl (fun h => absurd h (nI_ge hn (sm9 hI))) (fun _ => ?_)
      refine V_iload_n dM_knew_17 rfl ?_
      refine V_iload_n dM_knew_18 rfl ?_
      refine V_if_eq (tgt := 41) dM_knew_19 rfl (fun c19 => ?_) (fun c19 => ?_)
      · skip
        refine V_iconst (v := 0) dM_knew_41 (by decide) ?_
        refine V_ior dM_knew_42 ?_
        refine V_istore_n (loc' := [(2, .int ((knewS M (leftS M) n) ||| 0)), (3, .int (nI n)), (1, .int (leftS M)), (0, .ref 76)]) dM_knew_43 (by decide) rfl ?_
        refine V_iinc (v := nI (n + 1)) (loc' := [(3, .int (nI (n + 1))), (2, .int ((knewS M (leftS M) n) ||| 0)), (1, .int (leftS M)), (0, .ref 76)]) dM_knew_44 rfl (nI_inc n) (by decide) rfl ?_
        refine V_goto (tgt := 9) dM_knew_47 rfl ?_
        refine V.locs (loc' := [(3, .int (nI (n + 1))), (2, .int ((knewS M (leftS M) n) ||| 0)), (1, .int (leftS M)), (0, .ref 76)]) [0, 1, 2, 3] rfl ?_
        refine V_eqL (loc' := [(3, .int (nI (n + 1))), (2, .int (knewS M (leftS M) (n + 1))), (1, .int (leftS M)), (0, .ref 76)]) ?_ ?_
        · simp_all [knewS, orI]
        exact (ihn _ hM hS)
      · skip
        refine V_iload_n dM_knew_22 rfl ?_
        refine V_aload_n dM_knew_23 rfl ?_
        refine V_getR (a := 80) dM_knew_24 flM_32 k76 rfl (r76_7 hR) ?_
        refine V_iload_n dM_knew_27 rfl ?_
        refine V_ialdN (j := n) dM_knew_28 k80 rfl (lt9 hI hn) (by decide) ?_
        refine V_topI (x' := gi M 80 n) (mR hM rfl) ?_
        refine V_iconst (v := -1) dM_knew_29 (by decide) ?_
        refine V_ixor dM_knew_30 ?_
        refine V_iand dM_knew_31 ?_
        refine V_if_ne (tgt := 41) dM_knew_32 rfl (fun c32 => ?_) (fun c32 => ?_)
        · skip
          refine V_iconst (v := 0) dM_knew_41 (by decide) ?_
          refine V_ior dM_knew_42 ?_
          refine V_istore_n (loc' := [(2, .int ((knewS M (leftS M) n) ||| 0)), (3, .int (nI n)), (1, .int (leftS M)), (0, .ref 76)]) dM_knew_43 (by decide) rfl ?_
          refine V_iinc (v := nI (n + 1)) (loc' := [(3, .int (nI (n + 1))), (2, .int ((knewS M (leftS M) n) ||| 0)), (1, .int (leftS M)), (0, .ref 76)]) dM_knew_44 rfl (nI_inc n) (by decide) rfl ?_
          refine V_goto (tgt := 9) dM_knew_47 rfl ?_
          refine V.locs (loc' := [(3, .int (nI (n + 1))), (2, .int ((knewS M (leftS M) n) ||| 0)), (1, .int (leftS M)), (0, .ref 76)]) [0, 1, 2, 3] rfl ?_
          refine V_eqL (loc' := [(3, .int (nI (n + 1))), (2, .int (knewS M (leftS M) (n + 1))), (1, .int (leftS M)), (0, .ref 76)]) ?_ ?_
          · simp_all [knewS, orI]
          exact (ihn _ hM hS)
        · skip
          refine V_iconst (v := 1) dM_knew_35 (by decide) ?_
          refine V_iload_n dM_knew_36 rfl ?_
          refine V_ishl dM_knew_37 ?_
          refine V_goto (tgt := 42) dM_knew_38 rfl ?_
          refine V_ior dM_knew_42 ?_
          refine V_istore_n (loc' := [(2, .int ((knewS M (leftS M) n) ||| (1 <<< ((nI n) &&& 31)))), (3, .int (nI n)), (1, .int (leftS M)), (0, .ref 76)]) dM_knew_43 (by decide) rfl ?_
          refine V_iinc (v := nI (n + 1)) (loc' := [(3, .int (nI (n + 1))), (2, .int ((knewS M (leftS M) n) ||| (1 <<< ((nI n) &&& 31)))), (1, .int (leftS M)), (0, .ref 76)]) dM_knew_44 rfl (nI_inc n) (by decide) rfl ?_
          refine V_goto (tgt := 9) dM_knew_47 rfl ?_
          refine V.locs (loc' := [(3, .int (nI (n + 1))), (2, .int ((knewS M (leftS M) n) ||| (1 <<< ((nI n) &&& 31)))), (1, .int (leftS M)), (0, .ref 76)]) [0, 1, 2, 3] rfl ?_
          refine V_eqL (loc' := [(3, .int (nI (n + 1))), (2, .int (knewS M (leftS M) (n + 1))), (1, .int (leftS M)), (0, .ref 76)]) ?_ ?_
          · simp_all [knewS, orI]
          exact (ihn _ hM hS)
  exact lp 0 (Nat.zero_le _) _ hM hS
theorem m_safest {l : Launch} {G : GT} {L : Nat → List Cl} {M σ : Hp} (hM : RM M σ) (hI : Inv L M) (x : Int32) : MM l G mM_safest 7 0 0 [.ref 76, .int x] KA σ (PM σ (q_safest L M x)) := by
  have hR := hM.1
  have hM0 := hM
  have hS : Sc σ σ := Sc.rfl
  refine MM.of (loc := [(0, .ref 76), (1, .int x)]) (by decide +kernel) rfl (Nat.le_of_ble_eq_true rfl) ?_
  refine V_aload_n dM_safest_0 rfl ?_
  refine V_iload_n dM_safest_1 rfl ?_
  refine V_iconst (v := 0) dM_safest_2 (by decide) ?_
  refine V_iconst (v := 1) dM_safest_3 (by decide) ?_
  refine V_callV (as := [.int x, .int 0, .int 1]) (rest := []) (bs' := 0) rfl dM_safest_4 cmM_in cvM_in mlM_203 (Or.inl ⟨_, _, _, _, _, rfl, k76, by decide, rfl⟩) rfl rfl (m_in x 0 1) (by decide) (Nat.le_refl _) (by decide) (Nat.le_of_ble_eq_true rfl) ?_
  rintro _ _ _ (⟨hb4, rfl, rfl, rfl⟩ | ⟨hb4, rfl, rfl, rfl⟩) -
  · refine V_one ?_
    refine V_if_ne (tgt := 14) dM_safest_7 rfl (fun _ => ?_) (fun h => absurd h (by decide))
    refine V_aload_n dM_safest_14 rfl ?_
    refine V_callV (as := []) (rest := []) (bs' := 0) rfl dM_safest_15 cmM_layPays cvM_layPays mlM_341 (Or.inl ⟨_, _, _, _, _, rfl, k76, by decide, rfl⟩) rfl rfl (m_layPays hM hI) (by decide) (Nat.le_refl _) (by decide) (Nat.le_of_ble_eq_true rfl) ?_
    rintro _ _ s1 ⟨rfl, rfl, hF1, hQ⟩ -
    refine V_non ?_
    have hM := hF1.rm hM
    have hS := hS.trans hF1.sc
    have hR := hM.1
    refine V_iconst (v := 0) dM_safest_18 (by decide) ?_
    refine V_istore_n (loc' := [(2, .int 0), (0, .ref 76), (1, .int x)]) dM_safest_19 (by decide) rfl ?_
    refine V_iconst (v := 0) dM_safest_20 (by decide) ?_
    refine V_istore_n (loc' := [(3, .int 0), (2, .int 0), (0, .ref 76), (1, .int x)]) dM_safest_21 (by decide) rfl ?_
    refine V_iconst (v := 1) dM_safest_22 (by decide) ?_
    refine V_istore (loc' := [(4, .int 1), (3, .int 0), (2, .int 0), (0, .ref 76), (1, .int x)]) dM_safest_23 (by decide) rfl ?_
    refine V.locs (loc' := [(4, .int 1), (3, .int 0), (2, .int 0), (0, .ref 76), (1, .int x)]) [0, 1, 2, 3, 4] rfl ?_
    refine V_eqL (loc' := [(4, .int (nI 1)), (3, .int (lstS L M (nI (amx (fun k => lstS L M (nI k)) 1)))), (2, .int (nI (amx (fun k => lstS L M (nI k)) 1))), (0, .ref 76), (1, .int x)]) ?_ ?_
    · rw [show amx (fun k => lstS L M (nI k)) 1 = 0 from rfl, lst0 (by have := (iE hI).2; omega)]; rfl
    have lp : ∀ n : Nat, n ≤ 2 ^ mE M → 1 ≤ n → ∀ s : Hp, RM M s → Sc σ s → GP L M s (mE M) 0 → V l G mM_safest (rmd 7 0 0) (KA.length + 0) 0 25 [(4, .int (nI n)), (3, .int (lstS L M (nI (amx (fun k => lstS L M (nI k)) n)))), (2, .int (nI (amx (fun k => lstS L M (nI k)) n))), (0, .ref 76), (1, .int x)] [] KA s (PM σ (q_safest L M x)) := by
      refine lp_up (2 ^ mE M) ?_ (fun n hn ihn => ?_)
      · skip
        intro h1n
        intro s hM hS hQ
        have hR := hM.1
        refine V_iload dM_safest_25 rfl ?_
        refine V_iconst (v := 1) dM_safest_27 (by decide) ?_
        refine V_aload_n dM_safest_28 rfl ?_
        refine V_getE (x := nI (mE M)) dM_safest_29 flM_13 k76 rfl ((mR hM rfl).trans (iE hI).1) ?_
        refine V_ishl dM_safest_32 ?_
        refine V_topI (x' := nI (2 ^ mE M)) (sh1 _ (iE hI).2) ?_
        refine V_icmp_ge (tgt := 65) dM_safest_33 rfl (fun _ => ?_) (fun h => absurd h (not_not_intro (nI_le (Nat.le_refl _) (by have := pwE hI; omega))))
        refine V_iload_n dM_safest_65 rfl ?_
        refine V_if_ne (tgt := 73) dM_safest_66 rfl (fun c66 => ?_) (fun c66 => ?_)
        · skip
          refine V_iload_n dM_safest_73 rfl ?_
          refine V_iret dM_safest_74 rfl rfl ?_
          have e : q_safest L M x = (lstS L M (nI (amx (fun k => lstS L M (nI k)) (2 ^ mE M))), M) := by
            skip
            first
            | (simp only [q_safest, if_pos hb4, if_neg c66]; done)
            | (simp [q_safest, hb4, c66]; done)
            | (simp_all [q_safest]; done)
          rw [e]
          exact ⟨rfl, rfl, hM, hS⟩
        · skip
          refine V_iload_n dM_safest_69 rfl ?_
          refine V_goto (tgt := 74) dM_safest_70 rfl ?_
          refine V_iret dM_safest_74 rfl rfl ?_
          have e : q_safest L M x = (nI (amx (fun k => lstS L M (nI k)) (2 ^ mE M)), M) := by
            skip
            first
            | (simp only [q_safest, if_pos hb4, if_pos c66]; done)
            | (simp [q_safest, hb4, c66]; done)
            | (simp_all [q_safest]; done)
          rw [e]
          exact ⟨rfl, rfl, hM, hS⟩
      · skip
        intro h1n
        intro s hM hS hQ
        have hR := hM.1
        refine V_iload dM_safest_25 rfl ?_
        refine V_iconst (v := 1) dM_safest_27 (by decide) ?_
        refine V_aload_n dM_safest_28 rfl ?_
        refine V_getE (x := nI (mE M)) dM_safest_29 flM_13 k76 rfl ((mR hM rfl).trans (iE hI).1) ?_
        refine V_ishl dM_safest_32 ?_
        refine V_topI (x' := nI (2 ^ mE M)) (sh1 _ (iE hI).2) ?_
        refine V_icmp_ge (tgt := 65) dM_safest_33 rfl (fun h => absurd h (nI_ge hn (by have := pwE hI; omega))) (fun _ => ?_)
        refine V_aload_n dM_safest_36 rfl ?_
        refine V_iload dM_safest_37 rfl ?_
        refine V_callV (as := [.int (nI n)]) (rest := []) (bs' := 0) rfl dM_safest_39 cmM_leastOf cvM_leastOf mlM_344 (Or.inl ⟨_, _, _, _, _, rfl, k76, by decide, rfl⟩) rfl rfl (m_leastOf hM hI hQ (nI n)) (by decide) (Nat.le_refl _) (by decide) (Nat.le_of_ble_eq_true rfl) ?_
        rintro _ _ _ ⟨rfl, rfl, rfl⟩ -
        refine V_one ?_
        refine V_istore (loc' := [(5, .int (lstS L M (nI n))), (4, .int (nI n)), (3, .int (lstS L M (nI (amx (fun k => lstS L M (nI k)) n)))), (2, .int (nI (amx (fun k => lstS L M (nI k)) n))), (0, .ref 76), (1, .int x)]) dM_safest_42 (by decide) rfl ?_
        refine V_iload dM_safest_44 rfl ?_
        refine V_iload_n dM_safest_46 rfl ?_
        refine V_icmp_gt (tgt := 53) dM_safest_47 rfl (fun c47 => ?_) (fun c47 => ?_)
        · skip
          refine V_iload dM_safest_53 rfl ?_
          refine V_istore_n (loc' := [(2, .int (nI n)), (5, .int (lstS L M (nI n))), (4, .int (nI n)), (3, .int (lstS L M (nI (amx (fun k => lstS L M (nI k)) n)))), (0, .ref 76), (1, .int x)]) dM_safest_55 (by decide) rfl ?_
          refine V_iload dM_safest_56 rfl ?_
          refine V_istore_n (loc' := [(3, .int (lstS L M (nI n))), (2, .int (nI n)), (5, .int (lstS L M (nI n))), (4, .int (nI n)), (0, .ref 76), (1, .int x)]) dM_safest_58 (by decide) rfl ?_
          refine V_iinc (v := nI (n + 1)) (loc' := [(4, .int (nI (n + 1))), (3, .int (lstS L M (nI n))), (2, .int (nI n)), (5, .int (lstS L M (nI n))), (0, .ref 76), (1, .int x)]) dM_safest_59 rfl (nI_inc n) (by decide) rfl ?_
          refine V_goto (tgt := 25) dM_safest_62 rfl ?_
          refine V.locs (loc' := [(4, .int (nI (n + 1))), (3, .int (lstS L M (nI n))), (2, .int (nI n)), (0, .ref 76), (1, .int x)]) [0, 1, 2, 4, 5] rfl ?_
          refine V_eqL (loc' := [(4, .int (nI (n + 1))), (3, .int (lstS L M (nI (amx (fun k => lstS L M (nI k)) (n + 1))))), (2, .int (nI (amx (fun k => lstS L M (nI k)) (n + 1)))), (0, .ref 76), (1, .int x)]) ?_ ?_
          · have h0 : ¬ n = 0 := by omega
            first
            | (simp only [amx, if_neg h0, if_pos c47]; done)
            | (simp only [amx, if_neg h0, if_neg c47]; done)
            | (simp only [amx, if_neg h0, if_pos (Int32.not_le.mp c47)]; done)
            | (simp only [amx, if_neg h0, if_neg (Int32.not_lt.mpr c47)]; done)
          exact (ihn (by omega) _ hM hS hQ)
        · skip
          refine V_goto (tgt := 59) dM_safest_50 rfl ?_
          refine V_iinc (v := nI (n + 1)) (loc' := [(4, .int (nI (n + 1))), (5, .int (lstS L M (nI n))), (3, .int (lstS L M (nI (amx (fun k => lstS L M (nI k)) n)))), (2, .int (nI (amx (fun k => lstS L M (nI k)) n))), (0, .ref 76), (1, .int x)]) dM_safest_59 rfl (nI_inc n) (by decide) rfl ?_
          refine V_goto (tgt := 25) dM_safest_62 rfl ?_
          refine V.locs (loc' := [(4, .int (nI (n + 1))), (3, .int (lstS L M (nI (amx (fun k => lstS L M (nI k)) n)))), (2, .int (nI (amx (fun k => lstS L M (nI k)) n))), (0, .ref 76), (1, .int x)]) [0, 2, 3, 4, 5] rfl ?_
          refine V_eqL (loc' := [(4, .int (nI (n + 1))), (3, .int (lstS L M (nI (amx (fun k => lstS L M (nI k)) (n + 1))))), (2, .int (nI (amx (fun k => lstS L M (nI k)) (n + 1)))), (0, .ref 76), (1, .int x)]) ?_ ?_
          · have h0 : ¬ n = 0 := by omega
            first
            | (simp only [amx, if_neg h0, if_pos c47]; done)
            | (simp only [amx, if_neg h0, if_neg c47]; done)
            | (simp only [amx, if_neg h0, if_pos (Int32.not_le.mp c47)]; done)
            | (simp only [amx, if_neg h0, if_neg (Int32.not_lt.mpr c47)]; done)
          exact (ihn (by omega) _ hM hS hQ)
    exact lp 1 (pw1 _) (Nat.le_refl _)  _ hM hS hQ
  · refine V_one ?_
    refine V_if_ne (tgt := 14) dM_safest_7 rfl (fun h => absurd h (by decide)) (fun _ => ?_)
    refine V_ldcw dM_safest_10 kcM_336 ?_
    refine V_iret dM_safest_13 rfl rfl ?_
    have e : q_safest L M x = ((-100001), M) := by
      skip
      first
      | (simp only [q_safest, if_neg hb4]; done)
      | (simp [q_safest, hb4]; done)
      | (simp_all [q_safest]; done)
    rw [e]
    exact ⟨rfl, rfl, hM, hS⟩
theorem m_sure {l : Launch} {G : GT} {L : Nat → List Cl} {M σ : Hp} (hM : RM M σ) (hI : Inv L M) : MM l G mM_sure 7 0 0 [.ref 76] KA σ (PM σ (q_sure L M)) := by
  have hR := hM.1
  have hM0 := hM
  have hS : Sc σ σ := Sc.rfl
  refine MM.of (loc := [(0, .ref 76)]) (by decide +kernel) rfl (Nat.le_of_ble_eq_true rfl) ?_
  refine V_aload_n dM_sure_0 rfl ?_
  refine V_callV (as := []) (rest := []) (bs' := 0) rfl dM_sure_1 cmM_layPays cvM_layPays mlM_341 (Or.inl ⟨_, _, _, _, _, rfl, k76, by decide, rfl⟩) rfl rfl (m_layPays hM hI) (by decide) (Nat.le_refl _) (by decide) (Nat.le_of_ble_eq_true rfl) ?_
  rintro _ _ s1 ⟨rfl, rfl, hF1, hQ⟩ -
  refine V_non ?_
  have hM := hF1.rm hM
  have hS := hS.trans hF1.sc
  have hR := hM.1
  refine V_iconst (v := 1) dM_sure_4 (by decide) ?_
  refine V_istore_n (loc' := [(1, .int 1), (0, .ref 76)]) dM_sure_5 (by decide) rfl ?_
  refine V.locs (loc' := [(1, .int 1), (0, .ref 76)]) [0, 1] rfl ?_
  refine V_eqL (loc' := [(1, .int (nI 1)), (0, .ref 76)]) ?_ ?_
  · first | rfl | simp
  have lp : ∀ n : Nat, n ≤ 2 ^ mE M → 1 ≤ n → firstN (fun k => decide (1 ≤ k) && decide (¬ lstS L M (nI k) ≤ 0)) n = n → ∀ s : Hp, RM M s → Sc σ s → GP L M s (mE M) 0 → V l G mM_sure (rmd 7 0 0) (KA.length + 0) 0 6 [(1, .int (nI n)), (0, .ref 76)] [] KA s (PM σ (q_sure L M)) := by
    refine lp_up (2 ^ mE M) ?_ (fun n hn ihn => ?_)
    · skip
      intro h1n hN
      intro s hM hS hQ
      have hR := hM.1
      refine V_iload_n dM_sure_6 rfl ?_
      refine V_iconst (v := 1) dM_sure_7 (by decide) ?_
      refine V_aload_n dM_sure_8 rfl ?_
      refine V_getE (x := nI (mE M)) dM_sure_9 flM_13 k76 rfl ((mR hM rfl).trans (iE hI).1) ?_
      refine V_ishl dM_sure_12 ?_
      refine V_topI (x' := nI (2 ^ mE M)) (sh1 _ (iE hI).2) ?_
      refine V_icmp_ge (tgt := 32) dM_sure_13 rfl (fun _ => ?_) (fun h => absurd h (not_not_intro (nI_le (Nat.le_refl _) (by have := pwE hI; omega))))
      refine V_iconst (v := 0) dM_sure_32 (by decide) ?_
      exact V_iret dM_sure_33 rfl rfl ⟨by rw [q_sure, hN, if_neg (by omega)], rfl, hM, hS⟩
    · skip
      intro h1n hN
      intro s hM hS hQ
      have hR := hM.1
      refine V_iload_n dM_sure_6 rfl ?_
      refine V_iconst (v := 1) dM_sure_7 (by decide) ?_
      refine V_aload_n dM_sure_8 rfl ?_
      refine V_getE (x := nI (mE M)) dM_sure_9 flM_13 k76 rfl ((mR hM rfl).trans (iE hI).1) ?_
      refine V_ishl dM_sure_12 ?_
      refine V_topI (x' := nI (2 ^ mE M)) (sh1 _ (iE hI).2) ?_
      refine V_icmp_ge (tgt := 32) dM_sure_13 rfl (fun h => absurd h (nI_ge hn (by have := pwE hI; omega))) (fun _ => ?_)
      refine V_aload_n dM_sure_16 rfl ?_
      refine V_iload_n dM_sure_17 rfl ?_
      refine V_callV (as := [.int (nI n)]) (rest := []) (bs' := 0) rfl dM_sure_18 cmM_leastOf cvM_leastOf mlM_344 (Or.inl ⟨_, _, _, _, _, rfl, k76, by decide, rfl⟩) rfl rfl (m_leastOf hM hI hQ (nI n)) (by decide) (Nat.le_refl _) (by decide) (Nat.le_of_ble_eq_true rfl) ?_
      rintro _ _ _ ⟨rfl, rfl, rfl⟩ -
      refine V_one ?_
      refine V_if_le (tgt := 26) dM_sure_21 rfl (fun c21 => ?_) (fun c21 => ?_)
      · skip
        refine V_iinc (v := nI (n + 1)) (loc' := [(1, .int (nI (n + 1))), (0, .ref 76)]) dM_sure_26 rfl (nI_inc n) (by decide) rfl ?_
        refine V_goto (tgt := 6) dM_sure_29 rfl ?_
        refine V.locs (loc' := [(1, .int (nI (n + 1))), (0, .ref 76)]) [0, 1] rfl ?_
        exact (ihn (by omega) (firstN_s hN (by simp only [decide_eq_true h1n, Bool.true_and]; exact decide_eq_false (not_not_intro c21))) _ hM hS hQ)
      · skip
        refine V_iload_n dM_sure_24 rfl ?_
        exact V_iret dM_sure_25 rfl rfl ⟨by rw [q_sure, firstN_t hN (by simp [h1n, c21]) _ hn, if_pos hn], rfl, hM, hS⟩
  exact lp 1 (pw1 _) (Nat.le_refl _) rfl  _ hM hS hQ
theorem m_against {l : Launch} {G : GT} {L : Nat → List Cl} {M σ : Hp} (hM : RM M σ) (hI : Inv L M) (e : Int32) : MM l G mM_against 2 0 0 [.ref 76, .int e] KA σ (PM σ (q_against M e)) := by
  have hR := hM.1
  have hM0 := hM
  have hS : Sc σ σ := Sc.rfl
  refine MM.of (loc := [(0, .ref 76), (1, .int e)]) (by decide +kernel) rfl (Nat.le_of_ble_eq_true rfl) ?_
  refine V_aload_n dM_against_0 rfl ?_
  refine V_iload_n dM_against_1 rfl ?_
  refine V_callV (as := [.int e]) (rest := []) (bs' := 0) rfl dM_against_2 cmM_isEnvelope cvM_isEnvelope mlM_217 (Or.inl ⟨_, _, _, _, _, rfl, k76, by decide, rfl⟩) rfl rfl (m_isEnvelope hM hI.pw e) (by decide) (Nat.le_refl _) (by decide) (Nat.le_of_ble_eq_true rfl) ?_
  rintro _ _ _ (⟨hb2, rfl, rfl, rfl⟩ | ⟨hb2, rfl, rfl, rfl⟩) -
  · refine V_one ?_
    refine V_if_ne (tgt := 10) dM_against_5 rfl (fun _ => ?_) (fun h => absurd h (by decide))
    refine V_iconst (v := 0) dM_against_10 (by decide) ?_
    refine V_istore_n (loc' := [(2, .int 0), (0, .ref 76), (1, .int e)]) dM_against_11 (by decide) rfl ?_
    refine V_iconst (v := 0) dM_against_12 (by decide) ?_
    refine V_istore_n (loc' := [(3, .int 0), (2, .int 0), (0, .ref 76), (1, .int e)]) dM_against_13 (by decide) rfl ?_
    refine V.locs (loc' := [(3, .int 0), (2, .int 0), (0, .ref 76), (1, .int e)]) [0, 1, 2, 3] rfl ?_
    refine V_eqL (loc' := [(3, .int (nI 0)), (2, .int (agS M (cN e) 0)), (0, .ref 76), (1, .int e)]) ?_ ?_
    · first | rfl | simp
    have lp : ∀ n : Nat, n ≤ (mE M) → ∀ s : Hp, RM M s → Sc σ s → V l G mM_against (rmd 2 0 0) (KA.length + 0) 0 14 [(3, .int (nI n)), (2, .int (agS M (cN e) n)), (0, .ref 76), (1, .int e)] [] KA s (PM σ (q_against M e)) := by
      refine lp_up (mE M) ?_ (fun n hn ihn => ?_)
      · skip
        intro s hM hS
        have hR := hM.1
        refine V_iload_n dM_against_14 rfl ?_
        refine V_aload_n dM_against_15 rfl ?_
        refine V_getE (x := nI (mE M)) dM_against_16 flM_13 k76 rfl ((mR hM rfl).trans (iE hI).1) ?_
        refine V_icmp_ge (tgt := 59) dM_against_19 rfl (fun _ => ?_) (fun h => absurd h (not_not_intro (nI_le (Nat.le_refl _) (sm9 hI))))
        refine V_iload_n dM_against_59 rfl ?_
        refine V_iret dM_against_60 rfl rfl ?_
        have e : q_against M e = (agS M (cN e) (mE M), M) := by
          skip
          first
          | (simp only [q_against, if_pos hb2]; done)
          | (simp [q_against, hb2]; done)
          | (simp_all [q_against]; done)
        rw [e]
        exact ⟨rfl, rfl, hM, hS⟩
      · skip
        intro s hM hS
        have hR := hM.1
        refine V_iload_n dM_against_14 rfl ?_
        refine V_aload_n dM_against_15 rfl ?_
        refine V_getE (x := nI (mE M)) dM_against_16 flM_13 k76 rfl ((mR hM rfl).trans (iE hI).1) ?_
        refine V_icmp_ge (tgt := 59) dM_against_19 rfl (fun h => absurd h (nI_ge hn (sm9 hI))) (fun _ => ?_)
        refine V_iload_n dM_against_22 rfl ?_
        refine V_iload_n dM_against_23 rfl ?_
        refine V_iload_n dM_against_24 rfl ?_
        refine V_icmp_eq (tgt := 50) dM_against_25 rfl (fun c25 => ?_) (fun c25 => ?_)
        · skip
          have h25 : n = cN e := by have q := c25; rw [(rng_N hb2 (sm9 hI)).1] at q; exact (nI_eq (by have := (iE hI).2; omega) (by have := (rng_N hb2 (sm9 hI)).2; have := (iE hI).2; omega)).mp q
          refine V_iconst (v := 0) dM_against_50 (by decide) ?_
          refine V_ior dM_against_51 ?_
          refine V_istore_n (loc' := [(2, .int ((agS M (cN e) n) ||| 0)), (3, .int (nI n)), (0, .ref 76), (1, .int e)]) dM_against_52 (by decide) rfl ?_
          refine V_iinc (v := nI (n + 1)) (loc' := [(3, .int (nI (n + 1))), (2, .int ((agS M (cN e) n) ||| 0)), (0, .ref 76), (1, .int e)]) dM_against_53 rfl (nI_inc n) (by decide) rfl ?_
          refine V_goto (tgt := 14) dM_against_56 rfl ?_
          refine V.locs (loc' := [(3, .int (nI (n + 1))), (2, .int ((agS M (cN e) n) ||| 0)), (0, .ref 76), (1, .int e)]) [0, 1, 2, 3] rfl ?_
          refine V_eqL (loc' := [(3, .int (nI (n + 1))), (2, .int (agS M (cN e) (n + 1))), (0, .ref 76), (1, .int e)]) ?_ ?_
          · simp_all [agS, orI]
          exact (ihn _ hM hS)
        · skip
          have h25 : ¬ n = cN e := fun q => c25 (by rw [q]; exact (rng_N hb2 (sm9 hI)).1.symm)
          refine V_aload_n dM_against_28 rfl ?_
          refine V_getR (a := 80) dM_against_29 flM_32 k76 rfl (r76_7 hR) ?_
          refine V_iload_n dM_against_32 rfl ?_
          refine V_ialdN (j := n) dM_against_33 k80 rfl (lt9 hI hn) (by decide) ?_
          refine V_topI (x' := gi M 80 n) (mR hM rfl) ?_
          refine V_aload_n dM_against_34 rfl ?_
          refine V_getR (a := 80) dM_against_35 flM_32 k76 rfl (r76_7 hR) ?_
          refine V_iload_n dM_against_38 rfl ?_
          refine V_ialdN (j := cN e) dM_against_39 k80 (rng_N hb2 (sm9 hI)).1 (by have := (rng_N hb2 (sm9 hI)).2; have := (iE hI).2; omega) (by decide) ?_
          refine V_topI (x' := gi M 80 (cN e)) (mR hM rfl) ?_
          refine V_iand dM_against_40 ?_
          refine V_if_ne (tgt := 50) dM_against_41 rfl (fun c41 => ?_) (fun c41 => ?_)
          · skip
            refine V_iconst (v := 0) dM_against_50 (by decide) ?_
            refine V_ior dM_against_51 ?_
            refine V_istore_n (loc' := [(2, .int ((agS M (cN e) n) ||| 0)), (3, .int (nI n)), (0, .ref 76), (1, .int e)]) dM_against_52 (by decide) rfl ?_
            refine V_iinc (v := nI (n + 1)) (loc' := [(3, .int (nI (n + 1))), (2, .int ((agS M (cN e) n) ||| 0)), (0, .ref 76), (1, .int e)]) dM_against_53 rfl (nI_inc n) (by decide) rfl ?_
            refine V_goto (tgt := 14) dM_against_56 rfl ?_
            refine V.locs (loc' := [(3, .int (nI (n + 1))), (2, .int ((agS M (cN e) n) ||| 0)), (0, .ref 76), (1, .int e)]) [0, 1, 2, 3] rfl ?_
            refine V_eqL (loc' := [(3, .int (nI (n + 1))), (2, .int (agS M (cN e) (n + 1))), (0, .ref 76), (1, .int e)]) ?_ ?_
            · simp_all [agS, orI]
            exact (ihn _ hM hS)
          · skip
            refine V_iconst (v := 1) dM_against_44 (by decide) ?_
            refine V_iload_n dM_against_45 rfl ?_
            refine V_ishl dM_against_46 ?_
            refine V_goto (tgt := 51) dM_against_47 rfl ?_
            refine V_ior dM_against_51 ?_
            refine V_istore_n (loc' := [(2, .int ((agS M (cN e) n) ||| (1 <<< ((nI n) &&& 31)))), (3, .int (nI n)), (0, .ref 76), (1, .int e)]) dM_against_52 (by decide) rfl ?_
            refine V_iinc (v := nI (n + 1)) (loc' := [(3, .int (nI (n + 1))), (2, .int ((agS M (cN e) n) ||| (1 <<< ((nI n) &&& 31)))), (0, .ref 76), (1, .int e)]) dM_against_53 rfl (nI_inc n) (by decide) rfl ?_
            refine V_goto (tgt := 14) dM_against_56 rfl ?_
            refine V.locs (loc' := [(3, .int (nI (n + 1))), (2, .int ((agS M (cN e) n) ||| (1 <<< ((nI n) &&& 31)))), (0, .ref 76), (1, .int e)]) [0, 1, 2, 3] rfl ?_
            refine V_eqL (loc' := [(3, .int (nI (n + 1))), (2, .int (agS M (cN e) (n + 1))), (0, .ref 76), (1, .int e)]) ?_ ?_
            · simp_all [agS, orI]
            exact (ihn _ hM hS)
    exact lp 0 (Nat.zero_le _) _ hM hS
  · refine V_one ?_
    refine V_if_ne (tgt := 10) dM_against_5 rfl (fun h => absurd h (by decide)) (fun _ => ?_)
    refine V_iconst (v := -1) dM_against_8 (by decide) ?_
    refine V_iret dM_against_9 rfl rfl ?_
    have e : q_against M e = ((-1), M) := by
      skip
      first
      | (simp only [q_against, if_neg hb2]; done)
      | (simp [q_against, hb2]; done)
      | (simp_all [q_against]; done)
    rw [e]
    exact ⟨rfl, rfl, hM, hS⟩
theorem m_cheap {l : Launch} {G : GT} {L : Nat → List Cl} {M σ : Hp} (hM : RM M σ) (hI : Inv L M) : MM l G mM_cheap 7 0 0 [.ref 76] KA σ (PM σ (q_cheap L M)) := by
  have hR := hM.1
  have hM0 := hM
  have hS : Sc σ σ := Sc.rfl
  refine MM.of (loc := [(0, .ref 76)]) (by decide +kernel) rfl (Nat.le_of_ble_eq_true rfl) ?_
  refine V_iconst (v := 0) dM_cheap_0 (by decide) ?_
  refine V_istore_n (loc' := [(1, .int 0), (0, .ref 76)]) dM_cheap_1 (by decide) rfl ?_
  refine V_iconst (v := 0) dM_cheap_2 (by decide) ?_
  refine V_istore_n (loc' := [(2, .int 0), (1, .int 0), (0, .ref 76)]) dM_cheap_3 (by decide) rfl ?_
  refine V.locs (loc' := [(2, .int 0), (1, .int 0), (0, .ref 76)]) [0, 1, 2] rfl ?_
  refine V_eqL (loc' := [(2, .int (nI 0)), (1, .int (bmS L M 0)), (0, .ref 76)]) ?_ ?_
  · first | rfl | simp
  have lp : ∀ n : Nat, n ≤ (mE M) → ∀ s : Hp, RM M s → Sc σ s → V l G mM_cheap (rmd 7 0 0) (KA.length + 0) 0 4 [(2, .int (nI n)), (1, .int (bmS L M n)), (0, .ref 76)] [] KA s (PM σ (q_cheap L M)) := by
    refine lp_up (mE M) ?_ (fun n hn ihn => ?_)
    · skip
      intro s hM hS
      have hR := hM.1
      refine V_iload_n dM_cheap_4 rfl ?_
      refine V_aload_n dM_cheap_5 rfl ?_
      refine V_getE (x := nI (mE M)) dM_cheap_6 flM_13 k76 rfl ((mR hM rfl).trans (iE hI).1) ?_
      refine V_icmp_ge (tgt := 51) dM_cheap_9 rfl (fun _ => ?_) (fun h => absurd h (not_not_intro (nI_le (Nat.le_refl _) (sm9 hI))))
      refine V_iload_n dM_cheap_51 rfl ?_
      refine V_iret dM_cheap_52 rfl rfl ?_
      have e : q_cheap L M = (bmS L M (mE M), M) := by
        skip
        first
        | (simp only [q_cheap]; done)
        | (simp [q_cheap]; done)
        | (simp_all [q_cheap]; done)
      rw [e]
      exact ⟨rfl, rfl, hM, hS⟩
    · skip
      intro s hM hS
      have hR := hM.1
      refine V_iload_n dM_cheap_4 rfl ?_
      refine V_aload_n dM_cheap_5 rfl ?_
      refine V_getE (x := nI (mE M)) dM_cheap_6 flM_13 k76 rfl ((mR hM rfl).trans (iE hI).1) ?_
      refine V_icmp_ge (tgt := 51) dM_cheap_9 rfl (fun h => absurd h (nI_ge hn (sm9 hI))) (fun _ => ?_)
      refine V_iload_n dM_cheap_12 rfl ?_
      refine V_aload_n dM_cheap_13 rfl ?_
      refine V_getR (a := 81) dM_cheap_14 flM_35 k76 rfl (r76_8 hR) ?_
      refine V_iload_n dM_cheap_17 rfl ?_
      refine V_ialdN (j := n) dM_cheap_18 k81 rfl (lt9 hI hn) (by decide) ?_
      refine V_topI (x' := gi M 81 n) (mR hM rfl) ?_
      refine V_aload_n dM_cheap_19 rfl ?_
      refine V_aload_n dM_cheap_20 rfl ?_
      refine V_callV (as := []) (rest := [.ref 76, .int (gi M 81 n), .int (bmS L M n)]) (bs' := 0) rfl dM_cheap_21 cmM_all cvM_all mlM_314 (Or.inl ⟨_, _, _, _, _, rfl, k76, by decide, rfl⟩) rfl rfl (m_all hM hI) (by decide) (Nat.le_refl _) (by decide) (Nat.le_of_ble_eq_true rfl) ?_
      rintro _ _ _ ⟨rfl, rfl, rfl⟩ -
      refine V_one ?_
      refine V_callV (as := [.int (allS M)]) (rest := [.int (gi M 81 n), .int (bmS L M n)]) (bs' := 0) rfl dM_cheap_24 cmM_chances cvM_chances mlM_317 (Or.inl ⟨_, _, _, _, _, rfl, k76, by decide, rfl⟩) rfl rfl (m_chances hM hI (allS M)) (by decide) (Nat.le_refl _) (by decide) (Nat.le_of_ble_eq_true rfl) ?_
      rintro _ _ _ ⟨rfl, rfl, rfl⟩ -
      refine V_one ?_
      refine V_imul dM_cheap_27 ?_
      refine V_aload_n dM_cheap_28 rfl ?_
      refine V_iload_n dM_cheap_29 rfl ?_
      refine V_callV (as := [.int (nI n)]) (rest := [.int ((gi M 81 n) * (chS M (allS M) (mW M))), .int (bmS L M n)]) (bs' := 0) rfl dM_cheap_30 cmM_weighed cvM_weighed mlM_326 (Or.inl ⟨_, _, _, _, _, rfl, k76, by decide, rfl⟩) rfl rfl (m_weighed hM hI.pw (lt9 hI hn) (hI.ps hn) (by have := (iD hI).2; omega)) (by decide) (Nat.le_refl _) (by decide) (Nat.le_of_ble_eq_true rfl) ?_
      rintro _ _ s1 ⟨rfl, rfl, hF1⟩ -
      refine V_one ?_
      have hM := hF1.rm hM
      have hS := hS.trans hF1.sc
      have hR := hM.1
      refine V_icmp_ge (tgt := 42) dM_cheap_33 rfl (fun c33 => ?_) (fun c33 => ?_)
      · skip
        refine V_iconst (v := 0) dM_cheap_42 (by decide) ?_
        refine V_ior dM_cheap_43 ?_
        refine V_istore_n (loc' := [(1, .int ((bmS L M n) ||| 0)), (2, .int (nI n)), (0, .ref 76)]) dM_cheap_44 (by decide) rfl ?_
        refine V_iinc (v := nI (n + 1)) (loc' := [(2, .int (nI (n + 1))), (1, .int ((bmS L M n) ||| 0)), (0, .ref 76)]) dM_cheap_45 rfl (nI_inc n) (by decide) rfl ?_
        refine V_goto (tgt := 4) dM_cheap_48 rfl ?_
        refine V.locs (loc' := [(2, .int (nI (n + 1))), (1, .int ((bmS L M n) ||| 0)), (0, .ref 76)]) [0, 1, 2] rfl ?_
        refine V_eqL (loc' := [(2, .int (nI (n + 1))), (1, .int (bmS L M (n + 1))), (0, .ref 76)]) ?_ ?_
        · first
          | (simp only [bmS, orI, if_pos (Int32.not_le.mp c33)]; done)
          | (simp [bmS, orI, Int32.not_lt.mpr c33]; done)
        exact (ihn _ hM hS)
      · skip
        refine V_iconst (v := 1) dM_cheap_36 (by decide) ?_
        refine V_iload_n dM_cheap_37 rfl ?_
        refine V_ishl dM_cheap_38 ?_
        refine V_goto (tgt := 43) dM_cheap_39 rfl ?_
        refine V_ior dM_cheap_43 ?_
        refine V_istore_n (loc' := [(1, .int ((bmS L M n) ||| (1 <<< ((nI n) &&& 31)))), (2, .int (nI n)), (0, .ref 76)]) dM_cheap_44 (by decide) rfl ?_
        refine V_iinc (v := nI (n + 1)) (loc' := [(2, .int (nI (n + 1))), (1, .int ((bmS L M n) ||| (1 <<< ((nI n) &&& 31)))), (0, .ref 76)]) dM_cheap_45 rfl (nI_inc n) (by decide) rfl ?_
        refine V_goto (tgt := 4) dM_cheap_48 rfl ?_
        refine V.locs (loc' := [(2, .int (nI (n + 1))), (1, .int ((bmS L M n) ||| (1 <<< ((nI n) &&& 31)))), (0, .ref 76)]) [0, 1, 2] rfl ?_
        refine V_eqL (loc' := [(2, .int (nI (n + 1))), (1, .int (bmS L M (n + 1))), (0, .ref 76)]) ?_ ?_
        · first
          | (simp only [bmS, orI, if_pos (Int32.not_le.mp c33)]; done)
          | (simp [bmS, orI, Int32.not_lt.mpr c33]; done)
        exact (ihn _ hM hS)
  exact lp 0 (Nat.zero_le _) _ hM hS
theorem m_burnt {l : Launch} {G : GT} {L : Nat → List Cl} {M σ : Hp} (hM : RM M σ) (hI : Inv L M) (e : Int32) : MM l G mM_burnt 7 0 0 [.ref 76, .int e] KA σ (PM σ (q_burnt L M e)) := by
  have hR := hM.1
  have hM0 := hM
  have hS : Sc σ σ := Sc.rfl
  refine MM.of (loc := [(0, .ref 76), (1, .int e)]) (by decide +kernel) rfl (Nat.le_of_ble_eq_true rfl) ?_
  refine V_aload_n dM_burnt_0 rfl ?_
  refine V_iload_n dM_burnt_1 rfl ?_
  refine V_callV (as := [.int e]) (rest := []) (bs' := 0) rfl dM_burnt_2 cmM_isEnvelope cvM_isEnvelope mlM_217 (Or.inl ⟨_, _, _, _, _, rfl, k76, by decide, rfl⟩) rfl rfl (m_isEnvelope hM hI.pw e) (by decide) (Nat.le_refl _) (by decide) (Nat.le_of_ble_eq_true rfl) ?_
  rintro _ _ _ (⟨hb2, rfl, rfl, rfl⟩ | ⟨hb2, rfl, rfl, rfl⟩) -
  · refine V_one ?_
    refine V_if_ne (tgt := 12) dM_burnt_5 rfl (fun _ => ?_) (fun h => absurd h (by decide))
    refine V_aload_n dM_burnt_12 rfl ?_
    refine V_callV (as := []) (rest := []) (bs' := 0) rfl dM_burnt_13 cmM_layPays cvM_layPays mlM_341 (Or.inl ⟨_, _, _, _, _, rfl, k76, by decide, rfl⟩) rfl rfl (m_layPays hM hI) (by decide) (Nat.le_refl _) (by decide) (Nat.le_of_ble_eq_true rfl) ?_
    rintro _ _ s1 ⟨rfl, rfl, hF1, hQ⟩ -
    refine V_non ?_
    have hM := hF1.rm hM
    have hS := hS.trans hF1.sc
    have hR := hM.1
    refine V_iconst (v := 1) dM_burnt_16 (by decide) ?_
    refine V_aload_n dM_burnt_17 rfl ?_
    refine V_getE (x := nI (mE M)) dM_burnt_18 flM_13 k76 rfl ((mR hM rfl).trans (iE hI).1) ?_
    refine V_ishl dM_burnt_21 ?_
    refine V_iconst (v := 1) dM_burnt_22 (by decide) ?_
    refine V_isub dM_burnt_23 ?_
    refine V_topI (x' := allE M) rfl ?_
    refine V_istore_n (loc' := [(2, .int (allE M)), (0, .ref 76), (1, .int e)]) dM_burnt_24 (by decide) rfl ?_
    refine V_aload_n dM_burnt_25 rfl ?_
    refine V_iload_n dM_burnt_26 rfl ?_
    refine V_iconst (v := 1) dM_burnt_27 (by decide) ?_
    refine V_iload_n dM_burnt_28 rfl ?_
    refine V_ishl dM_burnt_29 ?_
    refine V_iconst (v := -1) dM_burnt_30 (by decide) ?_
    refine V_ixor dM_burnt_31 ?_
    refine V_iand dM_burnt_32 ?_
    refine V_callV (as := [.int ((allE M) &&& ((1 <<< (e &&& 31)) ^^^ (-1)))]) (rest := []) (bs' := 0) rfl dM_burnt_33 cmM_leastOf cvM_leastOf mlM_344 (Or.inl ⟨_, _, _, _, _, rfl, k76, by decide, rfl⟩) rfl rfl (m_leastOf hM hI hQ ((allE M) &&& ((1 <<< (e &&& 31)) ^^^ (-1)))) (by decide) (Nat.le_refl _) (by decide) (Nat.le_of_ble_eq_true rfl) ?_
    rintro _ _ _ ⟨rfl, rfl, rfl⟩ -
    refine V_one ?_
    refine V_aload_n dM_burnt_36 rfl ?_
    refine V_iload_n dM_burnt_37 rfl ?_
    refine V_callV (as := [.int (allE M)]) (rest := [.int (lstS L M ((allE M) &&& ((1 <<< (e &&& 31)) ^^^ (-1))))]) (bs' := 0) rfl dM_burnt_38 cmM_leastOf cvM_leastOf mlM_344 (Or.inl ⟨_, _, _, _, _, rfl, k76, by decide, rfl⟩) rfl rfl (m_leastOf hM hI hQ (allE M)) (by decide) (Nat.le_refl _) (by decide) (Nat.le_of_ble_eq_true rfl) ?_
    rintro _ _ _ ⟨rfl, rfl, rfl⟩ -
    refine V_one ?_
    refine V_isub dM_burnt_41 ?_
    refine V_iret dM_burnt_42 rfl rfl ?_
    have e : q_burnt L M e = ((lstS L M ((allE M) &&& ((1 <<< (e &&& 31)) ^^^ (-1)))) - (lstS L M (allE M)), M) := by
      skip
      first
      | (simp only [q_burnt, if_pos hb2]; done)
      | (simp [q_burnt, hb2]; done)
      | (simp_all [q_burnt]; done)
    rw [e]
    exact ⟨rfl, rfl, hM, hS⟩
  · refine V_one ?_
    refine V_if_ne (tgt := 12) dM_burnt_5 rfl (fun h => absurd h (by decide)) (fun _ => ?_)
    refine V_ldcw dM_burnt_8 kcM_336 ?_
    refine V_iret dM_burnt_11 rfl rfl ?_
    have e : q_burnt L M e = ((-100001), M) := by
      skip
      first
      | (simp only [q_burnt, if_neg hb2]; done)
      | (simp [q_burnt, hb2]; done)
      | (simp_all [q_burnt]; done)
    rw [e]
    exact ⟨rfl, rfl, hM, hS⟩
