/-! the tapes, on -/
theorem sort_i {L : Nat → List Cl} {M : Hp} (hI : Inv L M) {t : Nat} (h : t < 6) : 0 ≤ gi M 113 t ↔ ¬ gi M 113 t = -1 := by
  rcases (iT hI h).2 with q | q
  · rw [q.1]
    decide
  · constructor
    · intro a b
      rw [b] at a
      exact absurd a (by decide)
    · intro _
      rw [q.1]
      exact nI_pos' (by have := q.2; omega)
theorem no_place {L : Nat → List Cl} {M : Hp} (hI : Inv L M) {t : Nat} (h : t < 6) (hs : gi M 113 t = -1) (i : Int32) : ¬ rng i (cN (gi M 114 t)) := by
  rcases (iT hI h).2 with q | q
  · rw [q.2]
    intro z
    exact absurd (Int32.lt_of_le_of_lt z.1 z.2) (by decide)
  · rw [hs] at q
    exact absurd q.1 (by decide)
def stB (M : Hp) (t : Nat) (i : Int32) (n : Nat) : Bool := decide (¬ rng (i + nI n) (cN (gi M 114 t))) || decide (¬ lg_cmp (gl M 115 (60 * t + cN (i + nI n))) (gi M 81 n).toInt64 = 0)
def jdV (M : Hp) (t : Nat) (i : Int32) : Int32 := if firstN (stB M t i) (mE M) < mE M then (if rng (i + nI (firstN (stB M t i) (mE M))) (cN (gi M 114 t)) then nI (firstN (stB M t i) (mE M)) else 100 + nI (firstN (stB M t i) (mE M))) else -5
def q_judge (M : Hp) (t i : Int32) : Int32 × Hp := if rng t 6 then (if ¬ gi M 113 (cN t) = -1 ∧ ¬ gi M 113 (cN t) = 3 then (-12, M) else (jdV M (cN t) i, M)) else (-1, M)
theorem stB_1 {M : Hp} {t n : Nat} {i : Int32} (h : ¬ rng (i + nI n) (cN (gi M 114 t))) : stB M t i n = true := by
  unfold stB
  rw [decide_eq_true h, Bool.true_or]
theorem stB_2 {M : Hp} {t n : Nat} {i : Int32} (h : ¬ lg_cmp (gl M 115 (60 * t + cN (i + nI n))) (gi M 81 n).toInt64 = 0) : stB M t i n = true := by
  unfold stB
  rw [decide_eq_true h, Bool.or_true]
theorem stB_0 {M : Hp} {t n : Nat} {i : Int32} (h1 : rng (i + nI n) (cN (gi M 114 t))) (h : lg_cmp (gl M 115 (60 * t + cN (i + nI n))) (gi M 81 n).toInt64 = 0) : stB M t i n = false := by
  unfold stB
  rw [decide_eq_false (not_not_intro h1), decide_eq_false (not_not_intro h)]
  rfl
theorem jd_1 {M : Hp} {t n : Nat} {i : Int32} (hN : firstN (stB M t i) n = n) (hn : n < mE M) (h : ¬ rng (i + nI n) (cN (gi M 114 t))) : jdV M t i = 100 + nI n := by
  unfold jdV
  rw [firstN_t hN (stB_1 h) _ hn, if_pos hn, if_neg h]
theorem jd_2 {M : Hp} {t n : Nat} {i : Int32} (hN : firstN (stB M t i) n = n) (hn : n < mE M) (h1 : rng (i + nI n) (cN (gi M 114 t))) (h : ¬ lg_cmp (gl M 115 (60 * t + cN (i + nI n))) (gi M 81 n).toInt64 = 0) : jdV M t i = nI n := by
  unfold jdV
  rw [firstN_t hN (stB_2 h) _ hn, if_pos hn, if_pos h1]
theorem jd_0 {M : Hp} {t : Nat} {i : Int32} (hN : firstN (stB M t i) (mE M) = mE M) : jdV M t i = -5 := by
  unfold jdV
  rw [hN, if_neg (by omega)]
theorem ix60 {t i : Int32} {a b : Nat} (ht : t = nI a) (hi : i = nI b) : 60 * t + i = nI (60 * a + b) := by
  rw [ht, hi, show (60 : Int32) = nI 60 from rfl, pk_mul, nI_add]
theorem m_item {l : Launch} {G : GT} {L : Nat → List Cl} {M σ : Hp} (hM : RM M σ) (hI : Inv L M) (t i : Int32) (v : Int64) : MM l G mM_item 2 0 0 [.ref 76, .int t, .int i, .long v] KA σ (PM σ (q_item M t i v)) := by
  have hR := hM.1
  have hM0 := hM
  have hS : Sc σ σ := Sc.rfl
  refine MM.of (loc := [(0, .ref 76), (1, .int t), (2, .int i), (3, .long v)]) (by decide +kernel) rfl (Nat.le_of_ble_eq_true rfl) ?_
  refine V_aload_n dM_item_0 rfl ?_
  refine V_iload_n dM_item_1 rfl ?_
  refine V_callV (as := [.int t]) (rest := []) (bs' := 0) rfl dM_item_2 cmM_isTape cvM_isTape mlM_353 (Or.inl ⟨_, _, _, _, _, rfl, k76, by decide, rfl⟩) rfl rfl (m_isTape hM hI t) (by decide) (Nat.le_refl _) (by decide) (Nat.le_of_ble_eq_true rfl) ?_
  rintro _ _ _ (⟨hb2, rfl, rfl, rfl⟩ | ⟨hb2, rfl, rfl, rfl⟩) -
  · refine V_one ?_
    refine V_if_ne (tgt := 10) dM_item_5 rfl (fun _ => ?_) (fun h => absurd h (by decide))
    refine V_aload_n dM_item_10 rfl ?_
    refine V_getR (a := 113) dM_item_11 flM_190 k76 rfl (r76_59 hR) ?_
    refine V_iload_n dM_item_14 rfl ?_
    refine V_ialdN (j := cN t) dM_item_15 k113 (rng_N hb2 (by decide)).1 (rng_N hb2 (by decide)).2 (by decide) ?_
    refine V_topI (x' := gi M 113 (cN t)) (mR hM rfl) ?_
    refine V_if_ge (tgt := 22) dM_item_16 rfl (fun c16 => ?_) (fun c16 => ?_)
    · skip
      have h16 : ¬ gi M 113 (cN t) = -1 := (sort_i hI (rng_N hb2 (by decide)).2).mp c16
      refine V_aload_n dM_item_22 rfl ?_
      refine V_iload_n dM_item_23 rfl ?_
      refine V_iconst (v := 0) dM_item_24 (by decide) ?_
      refine V_aload_n dM_item_25 rfl ?_
      refine V_getR (a := 114) dM_item_26 flM_193 k76 rfl (r76_60 hR) ?_
      refine V_iload_n dM_item_29 rfl ?_
      refine V_ialdN (j := cN t) dM_item_30 k114 (rng_N hb2 (by decide)).1 (rng_N hb2 (by decide)).2 (by decide) ?_
      refine V_topI (x' := nI (cN (gi M 114 (cN t)))) ((mR hM rfl).trans (iT hI (rng_N hb2 (by decide)).2).1.1) ?_
      refine V_iconst (v := 1) dM_item_31 (by decide) ?_
      refine V_isub dM_item_32 ?_
      refine V_callV (as := [.int i, .int 0, .int ((nI (cN (gi M 114 (cN t)))) - 1)]) (rest := []) (bs' := 0) rfl dM_item_33 cmM_in cvM_in mlM_203 (Or.inl ⟨_, _, _, _, _, rfl, k76, by decide, rfl⟩) rfl rfl (m_in i 0 (nI (cN (gi M 114 (cN t))) - 1)) (by decide) (Nat.le_refl _) (by decide) (Nat.le_of_ble_eq_true rfl) ?_
      rintro _ _ _ (⟨hy33, rfl, rfl, rfl⟩ | ⟨hy33, rfl, rfl, rfl⟩) -
      · refine V_one ?_
        have hb33 : rng i (cN (gi M 114 (cN t))) := (le_pred i (by have := (iT hI (rng_N hb2 (by decide)).2).1.2; omega)).mp hy33
        refine V_if_ne (tgt := 42) dM_item_36 rfl (fun _ => ?_) (fun h => absurd h (by decide))
        refine V_aload_n dM_item_42 rfl ?_
        refine V_getR (a := 115) dM_item_43 flM_196 k76 rfl (r76_61 hR) ?_
        refine V_bipush (v := 60) dM_item_46 (by decide) ?_
        refine V_iload_n dM_item_48 rfl ?_
        refine V_imul dM_item_49 ?_
        refine V_iload_n dM_item_50 rfl ?_
        refine V_iadd dM_item_51 ?_
        refine V_aload_n dM_item_52 rfl ?_
        refine V_aload_n dM_item_53 rfl ?_
        refine V_getR (a := 113) dM_item_54 flM_190 k76 rfl (r76_59 hR) ?_
        refine V_iload_n dM_item_57 rfl ?_
        refine V_ialdN (j := cN t) dM_item_58 k113 (rng_N hb2 (by decide)).1 (rng_N hb2 (by decide)).2 (by decide) ?_
        refine V_topI (x' := gi M 113 (cN t)) (mR hM rfl) ?_
        refine V_lload_n dM_item_59 rfl ?_
        refine V_callV (as := [.int (gi M 113 (cN t)), .long v]) (rest := [.int ((60 * t) + i), .ref 115]) (bs' := 0) rfl dM_item_60 cmM_narrow cvM_narrow mlM_380 (Or.inl ⟨_, _, _, _, _, rfl, k76, by decide, rfl⟩) rfl rfl (m_narrow (gi M 113 (cN t)) v) (by decide) (Nat.le_refl _) (by decide) (Nat.le_of_ble_eq_true rfl) ?_
        rintro _ _ _ ⟨rfl, rfl, rfl⟩ -
        refine V_one ?_
        refine V_lastN (j := 60 * cN t + cN i) dM_item_63 k115 (ix60 (rng_N hb2 (by decide)).1 (rng_N hb33 (by have := (iT hI (rng_N hb2 (by decide)).2).1.2; omega)).1) (by have := (rng_N hb2 (by decide)).2; have := (rng_N hb33 (by have := (iT hI (rng_N hb2 (by decide)).2).1.2; omega)).2; have := (iT hI (rng_N hb2 (by decide)).2).1.2; omega) (by decide) ?_
        have hM := RM_sl (k := 115) (j := 60 * cN t + cN i) (x := cutS (gi M 113 (cN t)) v) hM
        have hS := hS.setl (k := 115) (j := 60 * cN t + cN i) (x := cutS (gi M 113 (cN t)) v) (by decide)
        have hR := hM.1
        refine V_iconst (v := 1) dM_item_64 (by decide) ?_
        refine V_iret dM_item_65 rfl rfl ?_
        have e : q_item M t i v = (1, sl M 115 (60 * cN t + cN i) (cutS (gi M 113 (cN t)) v)) := by
          skip
          first
          | (simp only [q_item, if_pos hb2, if_neg h16, if_pos hb33]; done)
          | (simp [q_item, hb2, h16, hb33]; done)
          | (simp_all [q_item]; done)
        rw [e]
        exact ⟨rfl, rfl, hM, hS⟩
      · refine V_one ?_
        have hb33 : ¬ rng i (cN (gi M 114 (cN t))) := fun q => hy33 ((le_pred i (by have := (iT hI (rng_N hb2 (by decide)).2).1.2; omega)).mpr q)
        refine V_if_ne (tgt := 42) dM_item_36 rfl (fun h => absurd h (by decide)) (fun _ => ?_)
        refine V_bipush (v := -13) dM_item_39 (by decide) ?_
        refine V_iret dM_item_41 rfl rfl ?_
        have e : q_item M t i v = ((-13), M) := by
          skip
          first
          | (simp only [q_item, if_pos hb2, if_neg h16, if_neg hb33]; done)
          | (simp [q_item, hb2, h16, hb33]; done)
          | (simp_all [q_item]; done)
        rw [e]
        exact ⟨rfl, rfl, hM, hS⟩
    · skip
      have h16 : gi M 113 (cN t) = -1 := Decidable.not_not.mp (fun q => c16 ((sort_i hI (rng_N hb2 (by decide)).2).mpr q))
      refine V_bipush (v := -11) dM_item_19 (by decide) ?_
      refine V_iret dM_item_21 rfl rfl ?_
      have e : q_item M t i v = ((-11), M) := by
        skip
        first
        | (simp only [q_item, if_pos hb2, if_pos h16]; done)
        | (simp [q_item, hb2, h16]; done)
        | (simp_all [q_item]; done)
      rw [e]
      exact ⟨rfl, rfl, hM, hS⟩
  · refine V_one ?_
    refine V_if_ne (tgt := 10) dM_item_5 rfl (fun h => absurd h (by decide)) (fun _ => ?_)
    refine V_iconst (v := -1) dM_item_8 (by decide) ?_
    refine V_iret dM_item_9 rfl rfl ?_
    have e : q_item M t i v = ((-1), M) := by
      skip
      first
      | (simp only [q_item, if_neg hb2]; done)
      | (simp [q_item, hb2]; done)
      | (simp_all [q_item]; done)
    rw [e]
    exact ⟨rfl, rfl, hM, hS⟩
theorem np_if {L : Nat → List Cl} {M : Hp} (hI : Inv L M) {t : Nat} (h : t < 6) {α : Type} {a b : α} {i : Int32} (hs : gi M 113 t = -1) : (if rng i (cN (gi M 114 t)) then a else b) = b := if_neg (no_place hI h hs i)
theorem m_read {l : Launch} {G : GT} {L : Nat → List Cl} {M σ : Hp} (hM : RM M σ) (hI : Inv L M) (t i : Int32) : MM l G mM_read 2 0 0 [.ref 76, .int t, .int i] KA σ (PMl σ (q_read M t i)) := by
  have hR := hM.1
  have hM0 := hM
  have hS : Sc σ σ := Sc.rfl
  refine MM.of (loc := [(0, .ref 76), (1, .int t), (2, .int i)]) (by decide +kernel) rfl (Nat.le_of_ble_eq_true rfl) ?_
  refine V_aload_n dM_read_0 rfl ?_
  refine V_iload_n dM_read_1 rfl ?_
  refine V_callV (as := [.int t]) (rest := []) (bs' := 0) rfl dM_read_2 cmM_isTape cvM_isTape mlM_353 (Or.inl ⟨_, _, _, _, _, rfl, k76, by decide, rfl⟩) rfl rfl (m_isTape hM hI t) (by decide) (Nat.le_refl _) (by decide) (Nat.le_of_ble_eq_true rfl) ?_
  rintro _ _ _ (⟨hb2, rfl, rfl, rfl⟩ | ⟨hb2, rfl, rfl, rfl⟩) -
  · refine V_one ?_
    refine V_if_eq (tgt := 34) dM_read_5 rfl (fun h => absurd h (by decide)) (fun _ => ?_)
    refine V_aload_n dM_read_8 rfl ?_
    refine V_getR (a := 113) dM_read_9 flM_190 k76 rfl (r76_59 hR) ?_
    refine V_iload_n dM_read_12 rfl ?_
    refine V_ialdN (j := cN t) dM_read_13 k113 (rng_N hb2 (by decide)).1 (rng_N hb2 (by decide)).2 (by decide) ?_
    refine V_topI (x' := gi M 113 (cN t)) (mR hM rfl) ?_
    refine V_if_lt (tgt := 34) dM_read_14 rfl (fun c14 => ?_) (fun c14 => ?_)
    · skip
      have h14 : gi M 113 (cN t) = -1 := Decidable.not_not.mp (fun q => Int32.not_lt.mpr ((sort_i hI (rng_N hb2 (by decide)).2).mpr q) c14)
      refine V_ldc2 dM_read_34 klM_324 ?_
      refine V_goto (tgt := 51) dM_read_37 rfl ?_
      refine V_lret dM_read_51 rfl rfl ?_
      have e : q_read M t i = ((-9223372036854775808), M) := by
        simp only [q_read, if_pos hb2, np_if hI (rng_N hb2 (by decide)).2 h14]
      rw [e]
      exact ⟨rfl, rfl, hM, hS⟩
    · skip
      have h14 : ¬ gi M 113 (cN t) = -1 := (sort_i hI (rng_N hb2 (by decide)).2).mp (Int32.not_lt.mp c14)
      refine V_aload_n dM_read_17 rfl ?_
      refine V_iload_n dM_read_18 rfl ?_
      refine V_iconst (v := 0) dM_read_19 (by decide) ?_
      refine V_aload_n dM_read_20 rfl ?_
      refine V_getR (a := 114) dM_read_21 flM_193 k76 rfl (r76_60 hR) ?_
      refine V_iload_n dM_read_24 rfl ?_
      refine V_ialdN (j := cN t) dM_read_25 k114 (rng_N hb2 (by decide)).1 (rng_N hb2 (by decide)).2 (by decide) ?_
      refine V_topI (x' := nI (cN (gi M 114 (cN t)))) ((mR hM rfl).trans (iT hI (rng_N hb2 (by decide)).2).1.1) ?_
      refine V_iconst (v := 1) dM_read_26 (by decide) ?_
      refine V_isub dM_read_27 ?_
      refine V_callV (as := [.int i, .int 0, .int ((nI (cN (gi M 114 (cN t)))) - 1)]) (rest := []) (bs' := 0) rfl dM_read_28 cmM_in cvM_in mlM_203 (Or.inl ⟨_, _, _, _, _, rfl, k76, by decide, rfl⟩) rfl rfl (m_in i 0 (nI (cN (gi M 114 (cN t))) - 1)) (by decide) (Nat.le_refl _) (by decide) (Nat.le_of_ble_eq_true rfl) ?_
      rintro _ _ _ (⟨hy28, rfl, rfl, rfl⟩ | ⟨hy28, rfl, rfl, rfl⟩) -
      · refine V_one ?_
        have hb28 : rng i (cN (gi M 114 (cN t))) := (le_pred i (by have := (iT hI (rng_N hb2 (by decide)).2).1.2; omega)).mp hy28
        refine V_if_ne (tgt := 40) dM_read_31 rfl (fun _ => ?_) (fun h => absurd h (by decide))
        refine V_aload_n dM_read_40 rfl ?_
        refine V_getR (a := 115) dM_read_41 flM_196 k76 rfl (r76_61 hR) ?_
        refine V_bipush (v := 60) dM_read_44 (by decide) ?_
        refine V_iload_n dM_read_46 rfl ?_
        refine V_imul dM_read_47 ?_
        refine V_iload_n dM_read_48 rfl ?_
        refine V_iadd dM_read_49 ?_
        refine V_laldN (j := 60 * cN t + cN i) dM_read_50 k115 (ix60 (rng_N hb2 (by decide)).1 (rng_N hb28 (by have := (iT hI (rng_N hb2 (by decide)).2).1.2; omega)).1) (by have := (rng_N hb2 (by decide)).2; have := (rng_N hb28 (by have := (iT hI (rng_N hb2 (by decide)).2).1.2; omega)).2; have := (iT hI (rng_N hb2 (by decide)).2).1.2; omega) (by decide) ?_
        refine V_topL (x' := gl M 115 (60 * cN t + cN i)) (mRl hM rfl) ?_
        refine V_lret dM_read_51 rfl rfl ?_
        have e : q_read M t i = (gl M 115 (60 * cN t + cN i), M) := by
          simp only [q_read, if_pos hb2, if_pos hb28]
        rw [e]
        exact ⟨rfl, rfl, hM, hS⟩
      · refine V_one ?_
        have hb28 : ¬ rng i (cN (gi M 114 (cN t))) := fun q => hy28 ((le_pred i (by have := (iT hI (rng_N hb2 (by decide)).2).1.2; omega)).mpr q)
        refine V_if_ne (tgt := 40) dM_read_31 rfl (fun h => absurd h (by decide)) (fun _ => ?_)
        refine V_ldc2 dM_read_34 klM_324 ?_
        refine V_goto (tgt := 51) dM_read_37 rfl ?_
        refine V_lret dM_read_51 rfl rfl ?_
        have e : q_read M t i = ((-9223372036854775808), M) := by
          simp only [q_read, if_pos hb2, if_neg hb28]
        rw [e]
        exact ⟨rfl, rfl, hM, hS⟩
  · refine V_one ?_
    refine V_if_eq (tgt := 34) dM_read_5 rfl (fun _ => ?_) (fun h => absurd h (by decide))
    refine V_ldc2 dM_read_34 klM_324 ?_
    refine V_goto (tgt := 51) dM_read_37 rfl ?_
    refine V_lret dM_read_51 rfl rfl ?_
    have e : q_read M t i = ((-9223372036854775808), M) := by
      simp only [q_read, if_neg hb2]
    rw [e]
    exact ⟨rfl, rfl, hM, hS⟩
theorem km1 {k : Int32} (h : -1 ≤ k ∧ k ≤ 4) : k = -1 ∨ (0 ≤ k ∧ k ≤ 4) := by
  by_cases h0 : 0 ≤ k
  · exact Or.inr ⟨h0, h.2⟩
  · refine Or.inl (Int32.le_antisymm ?_ h.1)
    rw [Int32.le_iff_toInt_le] at h0 ⊢
    have e : (-1 : Int32).toInt = -1 := rfl
    have e0 : (0 : Int32).toInt = 0 := rfl
    omega
theorem km2 {k : Int32} (h : ¬ (-1 ≤ k ∧ k ≤ 4)) : ¬ k = -1 ∧ ¬ (0 ≤ k ∧ k ≤ 4) := by
  refine ⟨fun q => h (by rw [q]; decide), fun q => h ⟨Int32.le_trans (by decide) q.1, q.2⟩⟩
theorem tp_a {M : Hp} {t k n : Int32} (h : rng t 6) (hk : k = -1) : q_tape M t k n = (1, zN (si (si M 113 (cN t) k) 114 (cN t) 0) (cN t) 60) := by
  subst hk
  simp only [q_tape, if_pos h, if_true]
theorem tp_b {M : Hp} {t k n : Int32} (h : rng t 6) (h0 : ¬ k = -1) (hk : 0 ≤ k ∧ k ≤ 4) (h1 : n ≤ 60) (h2 : 0 ≤ n) : q_tape M t k n = (1, zN (si (si M 113 (cN t) k) 114 (cN t) n) (cN t) 60) := by
  simp only [q_tape, if_pos h, if_neg h0, if_pos hk, if_pos h1, if_pos h2]
theorem tp_c {M : Hp} {t k n : Int32} (h : rng t 6) (h0 : ¬ k = -1) (hk : 0 ≤ k ∧ k ≤ 4) (h1 : n ≤ 60) (h2 : ¬ 0 ≤ n) : q_tape M t k n = (-14, M) := by
  simp only [q_tape, if_pos h, if_neg h0, if_pos hk, if_pos h1, if_neg h2]
theorem tp_d {M : Hp} {t k n : Int32} (h : rng t 6) (h0 : ¬ k = -1) (hk : ¬ (0 ≤ k ∧ k ≤ 4) ∨ ¬ n ≤ 60) : q_tape M t k n = (-2, M) := by
  by_cases q : 0 ≤ k ∧ k ≤ 4
  · simp only [q_tape, if_pos h, if_neg h0, if_pos q, if_neg (hk.resolve_left (not_not_intro q))]
  · simp only [q_tape, if_pos h, if_neg h0, if_neg q]
theorem tp_e {M : Hp} {t k n : Int32} (h : ¬ rng t 6) : q_tape M t k n = (-1, M) := by
  simp only [q_tape, if_neg h]
theorem k0n {k : Int32} (h : 0 ≤ k) : ¬ k = -1 := fun q => absurd (q ▸ h) (by decide)
theorem m_tape {l : Launch} {G : GT} {L : Nat → List Cl} {M σ : Hp} (hM : RM M σ) (hI : Inv L M) (t k n : Int32) : MM l G mM_tape 2 0 0 [.ref 76, .int t, .int k, .int n] KA σ (PM σ (q_tape M t k n)) := by
  have hR := hM.1
  have hM0 := hM
  have hS : Sc σ σ := Sc.rfl
  refine MM.of (loc := [(0, .ref 76), (1, .int t), (2, .int k), (3, .int n)]) (by decide +kernel) rfl (Nat.le_of_ble_eq_true rfl) ?_
  refine V_aload_n dM_tape_0 rfl ?_
  refine V_iload_n dM_tape_1 rfl ?_
  refine V_callV (as := [.int t]) (rest := []) (bs' := 0) rfl dM_tape_2 cmM_isTape cvM_isTape mlM_353 (Or.inl ⟨_, _, _, _, _, rfl, k76, by decide, rfl⟩) rfl rfl (m_isTape hM hI t) (by decide) (Nat.le_refl _) (by decide) (Nat.le_of_ble_eq_true rfl) ?_
  rintro _ _ _ (⟨hb2, rfl, rfl, rfl⟩ | ⟨hb2, rfl, rfl, rfl⟩) -
  · refine V_one ?_
    refine V_if_ne (tgt := 10) dM_tape_5 rfl (fun _ => ?_) (fun h => absurd h (by decide))
    refine V_aload_n dM_tape_10 rfl ?_
    refine V_iload_n dM_tape_11 rfl ?_
    refine V_iconst (v := -1) dM_tape_12 (by decide) ?_
    refine V_iconst (v := 4) dM_tape_13 (by decide) ?_
    refine V_callV (as := [.int k, .int (-1), .int 4]) (rest := []) (bs' := 0) rfl dM_tape_14 cmM_in cvM_in mlM_203 (Or.inl ⟨_, _, _, _, _, rfl, k76, by decide, rfl⟩) rfl rfl (m_in k (-1) 4) (by decide) (Nat.le_refl _) (by decide) (Nat.le_of_ble_eq_true rfl) ?_
    rintro _ _ _ (⟨hk14, rfl, rfl, rfl⟩ | ⟨hk14, rfl, rfl, rfl⟩) -
    · refine V_one ?_
      refine V_if_eq (tgt := 30) dM_tape_17 rfl (fun h => absurd h (by decide)) (fun _ => ?_)
      refine V_iload_n dM_tape_20 rfl ?_
      refine V_if_lt (tgt := 33) dM_tape_21 rfl (fun c21 => ?_) (fun c21 => ?_)
      · skip
        refine V_iload_n dM_tape_33 rfl ?_
        refine V_if_lt (tgt := 44) dM_tape_34 rfl (fun _ => ?_) (fun h => absurd h (not_not_intro c21))
        refine V_aload_n dM_tape_44 rfl ?_
        refine V_getR (a := 113) dM_tape_45 flM_190 k76 rfl (r76_59 hR) ?_
        refine V_iload_n dM_tape_48 rfl ?_
        refine V_iload_n dM_tape_49 rfl ?_
        refine V_iastN (j := cN t) dM_tape_50 k113 (rng_N hb2 (by decide)).1 (rng_N hb2 (by decide)).2 (by decide) ?_
        have hM := RM_set (k := 113) (j := cN t) (x := k) hM
        have hS := hS.set (k := 113) (j := cN t) (x := k) (by omega)
        have hR := hM.1
        refine V_aload_n dM_tape_51 rfl ?_
        refine V_getR (a := 114) dM_tape_52 flM_193 k76 rfl (r76_60 hR) ?_
        refine V_iload_n dM_tape_55 rfl ?_
        refine V_iload_n dM_tape_56 rfl ?_
        refine V_if_ge (tgt := 64) dM_tape_57 rfl (fun h => absurd h (fun q => Int32.not_lt.mpr q c21)) (fun _ => ?_)
        refine V_iconst (v := 0) dM_tape_60 (by decide) ?_
        refine V_goto (tgt := 65) dM_tape_61 rfl ?_
        refine V_iastN (j := cN t) dM_tape_65 k114 (rng_N hb2 (by decide)).1 (rng_N hb2 (by decide)).2 (by decide) ?_
        have hM := RM_set (k := 114) (j := cN t) (x := 0) hM
        have hS := hS.set (k := 114) (j := cN t) (x := 0) (by omega)
        have hR := hM.1
        refine V_iconst (v := 0) dM_tape_66 (by decide) ?_
        refine V_istore (loc' := [(4, .int 0), (0, .ref 76), (1, .int t), (2, .int k), (3, .int n)]) dM_tape_67 (by decide) rfl ?_
        refine V.locs (loc' := [(4, .int 0), (0, .ref 76), (1, .int t), (2, .int k), (3, .int n)]) [0, 1, 2, 3, 4] rfl ?_
        refine V_eqL (loc' := [(4, .int (nI 0)), (0, .ref 76), (1, .int t), (2, .int k), (3, .int n)]) ?_ ?_
        · rfl
        have lp : ∀ i : Nat, i ≤ 60 → ∀ s : Hp, RM (zN (si (si M 113 (cN t) k) 114 (cN t) 0) (cN t) i) s → Sc σ s → V l G mM_tape (rmd 2 0 0) (KA.length + 0) 0 69 [(4, .int (nI i)), (0, .ref 76), (1, .int t), (2, .int k), (3, .int n)] [] KA s (PM σ (q_tape M t k n)) := by
          refine lp_up 60 ?_ (fun i hi ihi => ?_)
          · skip
            intro s hM hS
            have hR := hM.1
            refine V_iload dM_tape_69 rfl ?_
            refine V_bipush (v := 60) dM_tape_71 (by decide) ?_
            refine V_icmp_ge (tgt := 95) dM_tape_73 rfl (fun _ => ?_) (fun h => absurd h (not_not_intro (nI_le (a := 60) (b := 60) (by decide) (by decide))))
            refine V_iconst (v := 1) dM_tape_95 (by decide) ?_
            refine V_iret dM_tape_96 rfl rfl ?_
            rw [tp_a hb2 ((km1 hk14).resolve_right (fun q => Int32.not_lt.mpr q.1 c21))]
            exact ⟨rfl, rfl, hM, hS⟩
          · skip
            intro s hM hS
            have hR := hM.1
            refine V_iload dM_tape_69 rfl ?_
            refine V_bipush (v := 60) dM_tape_71 (by decide) ?_
            refine V_icmp_ge (tgt := 95) dM_tape_73 rfl (fun h => absurd h (nI_ge (a := i) (b := 60) hi (by decide))) (fun _ => ?_)
            refine V_aload_n dM_tape_76 rfl ?_
            refine V_getR (a := 115) dM_tape_77 flM_196 k76 rfl (r76_61 hR) ?_
            refine V_bipush (v := 60) dM_tape_80 (by decide) ?_
            refine V_iload_n dM_tape_82 rfl ?_
            refine V_imul dM_tape_83 ?_
            refine V_iload dM_tape_84 rfl ?_
            refine V_iadd dM_tape_86 ?_
            refine V_lconst (v := 0) dM_tape_87 (by decide) ?_
            refine V_lastN (j := 60 * cN t + i) dM_tape_88 k115 (ix60 (rng_N hb2 (by decide)).1 rfl) (by have := (rng_N hb2 (by decide)).2; omega) (by decide) ?_
            have hM : RM (zN (si (si M 113 (cN t) k) 114 (cN t) 0) (cN t) (i + 1)) (sl s 115 (60 * cN t + i) 0) := RM_sl (k := 115) (j := 60 * cN t + i) (x := 0) hM
            have hS := hS.setl (k := 115) (j := 60 * cN t + i) (x := 0) (by decide)
            refine V_iinc (v := nI (i + 1)) (loc' := [(4, .int (nI (i + 1))), (0, .ref 76), (1, .int t), (2, .int k), (3, .int n)]) dM_tape_89 rfl (nI_inc i) (by decide) rfl ?_
            refine V_goto (tgt := 69) dM_tape_92 rfl ?_
            refine V.locs (loc' := [(4, .int (nI (i + 1))), (0, .ref 76), (1, .int t), (2, .int k), (3, .int n)]) [0, 1, 2, 3, 4] rfl ?_
            exact (ihi _ hM hS)
        exact lp 0 (Nat.zero_le _) _ hM hS
      · skip
        refine V_iload_n dM_tape_24 rfl ?_
        refine V_bipush (v := 60) dM_tape_25 (by decide) ?_
        refine V_icmp_le (tgt := 33) dM_tape_27 rfl (fun c27 => ?_) (fun c27 => ?_)
        · skip
          refine V_iload_n dM_tape_33 rfl ?_
          refine V_if_lt (tgt := 44) dM_tape_34 rfl (fun h => absurd h c21) (fun _ => ?_)
          refine V_iload_n dM_tape_37 rfl ?_
          refine V_if_ge (tgt := 44) dM_tape_38 rfl (fun c38 => ?_) (fun c38 => ?_)
          · skip
            refine V_aload_n dM_tape_44 rfl ?_
            refine V_getR (a := 113) dM_tape_45 flM_190 k76 rfl (r76_59 hR) ?_
            refine V_iload_n dM_tape_48 rfl ?_
            refine V_iload_n dM_tape_49 rfl ?_
            refine V_iastN (j := cN t) dM_tape_50 k113 (rng_N hb2 (by decide)).1 (rng_N hb2 (by decide)).2 (by decide) ?_
            have hM := RM_set (k := 113) (j := cN t) (x := k) hM
            have hS := hS.set (k := 113) (j := cN t) (x := k) (by omega)
            have hR := hM.1
            refine V_aload_n dM_tape_51 rfl ?_
            refine V_getR (a := 114) dM_tape_52 flM_193 k76 rfl (r76_60 hR) ?_
            refine V_iload_n dM_tape_55 rfl ?_
            refine V_iload_n dM_tape_56 rfl ?_
            refine V_if_ge (tgt := 64) dM_tape_57 rfl (fun _ => ?_) (fun h => absurd h (not_not_intro (Int32.not_lt.mp c21)))
            refine V_iload_n dM_tape_64 rfl ?_
            refine V_iastN (j := cN t) dM_tape_65 k114 (rng_N hb2 (by decide)).1 (rng_N hb2 (by decide)).2 (by decide) ?_
            have hM := RM_set (k := 114) (j := cN t) (x := n) hM
            have hS := hS.set (k := 114) (j := cN t) (x := n) (by omega)
            have hR := hM.1
            refine V_iconst (v := 0) dM_tape_66 (by decide) ?_
            refine V_istore (loc' := [(4, .int 0), (0, .ref 76), (1, .int t), (2, .int k), (3, .int n)]) dM_tape_67 (by decide) rfl ?_
            refine V.locs (loc' := [(4, .int 0), (0, .ref 76), (1, .int t), (2, .int k), (3, .int n)]) [0, 1, 2, 3, 4] rfl ?_
            refine V_eqL (loc' := [(4, .int (nI 0)), (0, .ref 76), (1, .int t), (2, .int k), (3, .int n)]) ?_ ?_
            · rfl
            have lp : ∀ i : Nat, i ≤ 60 → ∀ s : Hp, RM (zN (si (si M 113 (cN t) k) 114 (cN t) n) (cN t) i) s → Sc σ s → V l G mM_tape (rmd 2 0 0) (KA.length + 0) 0 69 [(4, .int (nI i)), (0, .ref 76), (1, .int t), (2, .int k), (3, .int n)] [] KA s (PM σ (q_tape M t k n)) := by
              refine lp_up 60 ?_ (fun i hi ihi => ?_)
              · skip
                intro s hM hS
                have hR := hM.1
                refine V_iload dM_tape_69 rfl ?_
                refine V_bipush (v := 60) dM_tape_71 (by decide) ?_
                refine V_icmp_ge (tgt := 95) dM_tape_73 rfl (fun _ => ?_) (fun h => absurd h (not_not_intro (nI_le (a := 60) (b := 60) (by decide) (by decide))))
                refine V_iconst (v := 1) dM_tape_95 (by decide) ?_
                refine V_iret dM_tape_96 rfl rfl ?_
                rw [tp_b hb2 (k0n (Int32.not_lt.mp c21)) ⟨Int32.not_lt.mp c21, hk14.2⟩ c27 c38]
                exact ⟨rfl, rfl, hM, hS⟩
              · skip
                intro s hM hS
                have hR := hM.1
                refine V_iload dM_tape_69 rfl ?_
                refine V_bipush (v := 60) dM_tape_71 (by decide) ?_
                refine V_icmp_ge (tgt := 95) dM_tape_73 rfl (fun h => absurd h (nI_ge (a := i) (b := 60) hi (by decide))) (fun _ => ?_)
                refine V_aload_n dM_tape_76 rfl ?_
                refine V_getR (a := 115) dM_tape_77 flM_196 k76 rfl (r76_61 hR) ?_
                refine V_bipush (v := 60) dM_tape_80 (by decide) ?_
                refine V_iload_n dM_tape_82 rfl ?_
                refine V_imul dM_tape_83 ?_
                refine V_iload dM_tape_84 rfl ?_
                refine V_iadd dM_tape_86 ?_
                refine V_lconst (v := 0) dM_tape_87 (by decide) ?_
                refine V_lastN (j := 60 * cN t + i) dM_tape_88 k115 (ix60 (rng_N hb2 (by decide)).1 rfl) (by have := (rng_N hb2 (by decide)).2; omega) (by decide) ?_
                have hM : RM (zN (si (si M 113 (cN t) k) 114 (cN t) n) (cN t) (i + 1)) (sl s 115 (60 * cN t + i) 0) := RM_sl (k := 115) (j := 60 * cN t + i) (x := 0) hM
                have hS := hS.setl (k := 115) (j := 60 * cN t + i) (x := 0) (by decide)
                refine V_iinc (v := nI (i + 1)) (loc' := [(4, .int (nI (i + 1))), (0, .ref 76), (1, .int t), (2, .int k), (3, .int n)]) dM_tape_89 rfl (nI_inc i) (by decide) rfl ?_
                refine V_goto (tgt := 69) dM_tape_92 rfl ?_
                refine V.locs (loc' := [(4, .int (nI (i + 1))), (0, .ref 76), (1, .int t), (2, .int k), (3, .int n)]) [0, 1, 2, 3, 4] rfl ?_
                exact (ihi _ hM hS)
            exact lp 0 (Nat.zero_le _) _ hM hS
          · skip
            refine V_bipush (v := -14) dM_tape_41 (by decide) ?_
            refine V_iret dM_tape_43 rfl rfl ?_
            rw [tp_c hb2 (k0n (Int32.not_lt.mp c21)) ⟨Int32.not_lt.mp c21, hk14.2⟩ c27 c38]
            exact ⟨rfl, rfl, hM, hS⟩
        · skip
          refine V_bipush (v := -2) dM_tape_30 (by decide) ?_
          refine V_iret dM_tape_32 rfl rfl ?_
          rw [tp_d hb2 (k0n (Int32.not_lt.mp c21)) (Or.inr c27)]
          exact ⟨rfl, rfl, hM, hS⟩
    · refine V_one ?_
      refine V_if_eq (tgt := 30) dM_tape_17 rfl (fun _ => ?_) (fun h => absurd h (by decide))
      refine V_bipush (v := -2) dM_tape_30 (by decide) ?_
      refine V_iret dM_tape_32 rfl rfl ?_
      rw [tp_d hb2 (km2 hk14).1 (Or.inl (km2 hk14).2)]
      exact ⟨rfl, rfl, hM, hS⟩
  · refine V_one ?_
    refine V_if_ne (tgt := 10) dM_tape_5 rfl (fun h => absurd h (by decide)) (fun _ => ?_)
    refine V_iconst (v := -1) dM_tape_8 (by decide) ?_
    refine V_iret dM_tape_9 rfl rfl ?_
    rw [tp_e hb2]
    exact ⟨rfl, rfl, hM, hS⟩
