/-! the public methods: told, open, book, looked -/
def tdW (M : Hp) (x : Int32) : Prop := isN x (10 + mW M) ∧ 10 ≤ cN x
theorem td_m (x : Int32) {n : Nat} (hn : n < 100) : (10 ≤ x ∧ x ≤ 9 + nI n) ↔ (isN x (10 + n) ∧ 10 ≤ cN x) := by
  rw [show (9 : Int32) + nI n = nI (9 + n) from nI_add 9 n]
  constructor
  · rintro ⟨h1, h2⟩
    have h0 : ¬ x < 0 := Int32.not_lt.mpr (Int32.le_trans (by decide) h1)
    obtain ⟨j, hj, rfl⟩ := nI_of h0
    rw [nI_leI hj (by omega)] at h2
    have h3 := (nI_leI (a := 10) (by decide) hj).mp h1
    refine ⟨isN_of rfl (by omega) (by omega), ?_⟩
    rw [nI_cN hj]
    exact h3
  · rintro ⟨⟨h1, h2⟩, h3⟩
    rw [h1]
    exact ⟨nI_le (a := 10) h3 (by omega), nI_le (by omega) (by omega)⟩
theorem td_c (x : Int32) {n : Nat} (hn : n < 100) (hx : ¬ x < 10) : rng (x - 10) n ↔ (isN x (10 + n) ∧ 10 ≤ cN x) := by
  have h0 : ¬ x < 0 := fun q => hx (Int32.lt_trans q (by decide))
  obtain ⟨j, hj, rfl⟩ := nI_of h0
  have h1 : 10 ≤ j := by
    apply Nat.le_of_not_lt
    intro q
    exact hx ((nI_ltI (b := 10) hj (by decide)).mpr q)
  rw [show nI j - 10 = nI (j - 10) from pk_sub (b := 10) h1]
  unfold rng
  rw [nI_ltI (by omega) (by omega), nI_cN hj]
  constructor
  · rintro ⟨_, q⟩
    exact ⟨isN_of rfl (by omega) (by omega), h1⟩
  · rintro ⟨q, _⟩
    have := q.2
    rw [nI_cN hj] at this
    exact ⟨nI_pos' (by omega), by omega⟩
theorem td_s {M : Hp} {x : Int32} (h : tdW M x) (h6 : mW M < 7) : x - 10 = nI (cN x - 10) ∧ cN x - 10 < mW M := by
  obtain ⟨⟨h1, h2⟩, h3⟩ := h
  refine ⟨?_, by omega⟩
  rw [show x - 10 = nI (cN x) - 10 from congrArg (· - 10) h1]
  exact pk_sub (b := 10) h3
theorem td_n {M : Hp} {x : Int32} (h : x < 10) : ¬ tdW M x := by
  rintro ⟨⟨h1, h2⟩, h3⟩
  rw [h1] at h
  exact absurd ((nI_ltI (b := 10) (by
    unfold cN at *
    have := x.toNatClampNeg_lt
    omega) (by decide)).mp h) (by omega)
def q_told (L : Nat → List Cl) (M : Hp) (x : Int32) : Int32 × Hp := if (x = nI (cN x) ∧ cN x < 10 + mW M) ∧ 10 ≤ cN x then (gi M 77 (cN x - 10), M) else if x = 0 then (nI (mD M), M) else if x = 1 then (gi M 76 3, M) else if x = 2 then (bsS L M (gi M 76 12), M) else if x = 3 then (chS M (allS M) (mW M), M) else (-1, M)
def mO (M : Hp) : Nat := cN (gi M 76 30)
def q_add4 (M : Hp) (e x : Int32) : Int32 × Hp := if mO M < 8 then (nI (mO M + 1), si (si (si M 95 (mO M) e) 96 (mO M) x) 76 30 (nI (mO M + 1))) else (-4, M)
def q_add6 (M : Hp) (e w y : Int32) : Int32 × Hp := if mB M < 8 then (nI (mB M + 1), si (si (si (si M 97 (mB M) e) 98 (mB M) w) 99 (mB M) y) 76 33 (nI (mB M + 1))) else (-4, M)
def q_open (M : Hp) (e x : Int32) : Int32 × Hp := if e = -1 then (0, si M 76 30 0) else if rng e (mE M) then q_add4 M e x else (-1, M)
def q_book (M : Hp) (e w y : Int32) : Int32 × Hp := if e = -1 then (0, si M 76 33 0) else if rng e (mE M) then (if rng w (mW M) then (if 0 ≤ y ∧ y ≤ 9999 then q_add6 M e w y else (-2, M)) else (-1, M)) else (-1, M)
def q_looked (L : Nat → List Cl) (M : Hp) : Int32 × Hp := (if firstN (loB L M) (mB M) < mB M then nI (firstN (loB L M) (mB M)) else -5, M)
theorem mp5_2 : ∀ n : Nat, n < 8 → mp 5 (3 * n + 2) = none := by decide
theorem RC_scr {L : Nat → List Cl} {M σ : Hp} {k j : Nat} {x : Int32} (hC : RC L M σ) (h : mp k j = none) (h2 : k < 8) : RC L M (si σ k j x) := by
  obtain ⟨h1, hd, h3, h4, h5⟩ := hC
  refine ⟨h1, fun k' j' a' b' h' => ?_, fun n hn => ⟨(gi_ne (by omega)).trans (h3 n hn).1, (gi_ne (by omega)).trans (h3 n hn).2⟩, h4, fun f hf hf' => ?_⟩
  · have e : ¬ (k' = k ∧ j' = j) := by
      rintro ⟨rfl, rfl⟩
      rw [h] at h'
      cases h'
    have g1 : gi (si σ k j x) k' j' = gi σ k' j' := by simp only [gi, si, if_neg e]
    rw [g1]
    exact hd k' j' a' b' h'
  · obtain ⟨g1, ops, g2, g3, g4, g5⟩ := h5 f hf hf'
    exact ⟨(gi_ne (by omega)).trans g1, ops, g2, (gi_ne (by omega)).trans g3, fun j op hj => ⟨(gi_ne (by omega)).trans (g4 j op hj).1, (g4 j op hj).2⟩, g5⟩
theorem g_told {l : Launch} {G : GT} {L : Nat → List Cl} {M σ : Hp} (hC : RC L M σ) (hI : Inv L M) (x : Int32) : MM l G mG_told 2 0 0 [.ref 0, .int x] KA σ (PQ L σ (q_told L M x)) := by
  have hR := hC.1
  have hC0 := hC
  have hS : Sm σ σ := Sm.rfl
  refine MM.of (loc := [(0, .ref 0), (1, .int x)]) (by decide +kernel) rfl (Nat.le_of_ble_eq_true rfl) ?_
  refine V_iload_n dG_told_0 rfl ?_
  refine V_bipush (v := 10) dG_told_1 (by decide) ?_
  refine V_icmp_lt (tgt := 33) dG_told_3 rfl (fun c3 => ?_) (fun c3 => ?_)
  · skip
    have h3 : ¬ ((x = nI (cN x) ∧ cN x < 10 + mW M) ∧ 10 ≤ cN x) := td_n (M := M) c3
    refine V_iload_n dG_told_33 rfl ?_
    by_cases s34_0 : x = 0
    · skip
      refine V_tsC (tgt := 64) 0 s34_0 dG_told_34 (by decide) (by decide) rfl rfl ?_
      refine V_aload_n dG_told_64 rfl ?_
      refine V_getR (a := 1) dG_told_65 flG_12 k0 rfl (r0_0 hR) ?_
      refine V_getE (x := nI (mD M)) dG_told_68 flG_108 k1 rfl (cD hC hI) ?_
      refine V_iret dG_told_71 rfl rfl ?_
      have e : q_told L M x = (nI (mD M), M) := by
        skip
        first
        | (simp only [q_told, if_neg h3, if_pos s34_0]; done)
        | (simp [q_told, h3, s34_0]; done)
        | (simp_all [q_told]; done)
      rw [e]
      exact ⟨rfl, rfl, hC, hS⟩
    by_cases s34_1 : x = 1
    · skip
      refine V_tsC (tgt := 72) 1 s34_1 dG_told_34 (by decide) (by decide) rfl rfl ?_
      refine V_aload_n dG_told_72 rfl ?_
      refine V_getR (a := 1) dG_told_73 flG_12 k0 rfl (r0_0 hR) ?_
      refine V_getE (x := gi M 76 3) dG_told_76 flG_127 k1 rfl (hC.2.1 1 5 76 3 rfl) ?_
      refine V_iret dG_told_79 rfl rfl ?_
      have e : q_told L M x = (gi M 76 3, M) := by
        skip
        first
        | (simp only [q_told, if_neg h3, if_neg s34_0, if_pos s34_1]; done)
        | (simp [q_told, h3, s34_0, s34_1]; done)
        | (simp_all [q_told]; done)
      rw [e]
      exact ⟨rfl, rfl, hC, hS⟩
    by_cases s34_2 : x = 2
    · skip
      refine V_tsC (tgt := 80) 2 s34_2 dG_told_34 (by decide) (by decide) rfl rfl ?_
      refine V_aload_n dG_told_80 rfl ?_
      refine V_getR (a := 47) dG_told_81 flG_24 k0 rfl (r0_3 hR) ?_
      refine V_aload_n dG_told_84 rfl ?_
      refine V_getR (a := 1) dG_told_85 flG_12 k0 rfl (r0_0 hR) ?_
      refine V_getE (x := gi M 76 12) dG_told_88 flG_124 k1 rfl (hC.2.1 1 6 76 12 rfl) ?_
      refine V_callV (as := [.int (gi M 76 12)]) (rest := []) (bs' := 0) rfl dG_told_91 cmL_baseOf cvL_baseOf mlG_130 (Or.inl ⟨_, _, _, _, _, rfl, k47, by decide, rfl⟩) rfl rfl (c_baseOf hC hI (gi M 76 12)) (by decide) (Nat.le_refl _) (by decide) (Nat.le_of_ble_eq_true rfl) ?_
      rintro _ _ _ ⟨rfl, rfl, rfl⟩ -
      refine V_one ?_
      refine V_iret dG_told_94 rfl rfl ?_
      have e : q_told L M x = (bsS L M (gi M 76 12), M) := by
        skip
        first
        | (simp only [q_told, if_neg h3, if_neg s34_0, if_neg s34_1, if_pos s34_2]; done)
        | (simp [q_told, h3, s34_0, s34_1, s34_2]; done)
        | (simp_all [q_told]; done)
      rw [e]
      exact ⟨rfl, rfl, hC, hS⟩
    by_cases s34_3 : x = 3
    · skip
      refine V_tsC (tgt := 95) 3 s34_3 dG_told_34 (by decide) (by decide) rfl rfl ?_
      refine V_aload_n dG_told_95 rfl ?_
      refine V_getR (a := 1) dG_told_96 flG_12 k0 rfl (r0_0 hR) ?_
      refine V_aload_n dG_told_99 rfl ?_
      refine V_getR (a := 1) dG_told_100 flG_12 k0 rfl (r0_0 hR) ?_
      refine V_callV (as := []) (rest := [.ref 1]) (bs' := 0) rfl dG_told_103 cmF_allWorlds cvF_allWorlds mlG_133 (Or.inl ⟨_, _, _, _, _, rfl, k1, by decide, rfl⟩) rfl rfl (c_allWorlds hC hI) (by decide) (Nat.le_refl _) (by decide) (Nat.le_of_ble_eq_true rfl) ?_
      rintro _ _ _ ⟨rfl, rfl, rfl⟩ -
      refine V_one ?_
      refine V_callV (as := [.int (allS M)]) (rest := []) (bs' := 0) rfl dG_told_106 cmF_chancesOf cvF_chancesOf mlG_136 (Or.inl ⟨_, _, _, _, _, rfl, k1, by decide, rfl⟩) rfl rfl (c_chancesOf hC hI (allS M)) (by decide) (Nat.le_refl _) (by decide) (Nat.le_of_ble_eq_true rfl) ?_
      rintro _ _ _ ⟨rfl, rfl, rfl⟩ -
      refine V_one ?_
      refine V_iret dG_told_109 rfl rfl ?_
      have e : q_told L M x = (chS M (allS M) (mW M), M) := by
        skip
        first
        | (simp only [q_told, if_neg h3, if_neg s34_0, if_neg s34_1, if_neg s34_2, if_pos s34_3]; done)
        | (simp [q_told, h3, s34_0, s34_1, s34_2, s34_3]; done)
        | (simp_all [q_told]; done)
      rw [e]
      exact ⟨rfl, rfl, hC, hS⟩
    have t34_0 := lv_neT (a := 0) s34_0 (by decide)
    have t34_1 := lv_neT (a := 1) s34_1 (by decide)
    have t34_2 := lv_neT (a := 2) s34_2 (by decide)
    have t34_3 := lv_neT (a := 3) s34_3 (by decide)
    refine V_tsD (tgt := 110) dG_told_34 (by omega) rfl ?_
    refine V_iconst (v := -1) dG_told_110 (by decide) ?_
    refine V_iret dG_told_111 rfl rfl ?_
    have e : q_told L M x = ((-1), M) := by
      skip
      first
      | (simp only [q_told, if_neg h3, if_neg s34_0, if_neg s34_1, if_neg s34_2, if_neg s34_3]; done)
      | (simp [q_told, h3, s34_0, s34_1, s34_2, s34_3]; done)
      | (simp_all [q_told]; done)
    rw [e]
    exact ⟨rfl, rfl, hC, hS⟩
  · skip
    have h3 : True := trivial
    refine V_aload_n dG_told_6 rfl ?_
    refine V_getR (a := 1) dG_told_7 flG_12 k0 rfl (r0_0 hR) ?_
    refine V_iload_n dG_told_10 rfl ?_
    refine V_bipush (v := 10) dG_told_11 (by decide) ?_
    refine V_isub dG_told_13 ?_
    refine V_callV (as := [.int (x - 10)]) (rest := []) (bs' := 0) rfl dG_told_14 cmF_hasWorld cvF_hasWorld mlG_68 (Or.inl ⟨_, _, _, _, _, rfl, k1, by decide, rfl⟩) rfl rfl (c_hasWorld hC hI (x - 10)) (by decide) (Nat.le_refl _) (by decide) (Nat.le_of_ble_eq_true rfl) ?_
    rintro _ _ _ (⟨hy14, rfl, rfl, rfl⟩ | ⟨hy14, rfl, rfl, rfl⟩) -
    · refine V_one ?_
      have hb14 : ((x = nI (cN x) ∧ cN x < 10 + mW M) ∧ 10 ≤ cN x) := (td_c x (by have := (iW hI).2; omega) c3).mp hy14
      refine V_if_eq (tgt := 33) dG_told_17 rfl (fun h => absurd h (by decide)) (fun _ => ?_)
      refine V_aload_n dG_told_20 rfl ?_
      refine V_getR (a := 1) dG_told_21 flG_12 k0 rfl (r0_0 hR) ?_
      refine V_getR (a := 2) dG_told_24 flG_71 k1 rfl (r1_1 hR) ?_
      refine V_iload_n dG_told_27 rfl ?_
      refine V_bipush (v := 10) dG_told_28 (by decide) ?_
      refine V_isub dG_told_30 ?_
      refine V_ialdN (j := cN x - 10) dG_told_31 k2 (td_s (M := M) hb14 (iW hI).2).1 (by have := (td_s (M := M) hb14 (iW hI).2).2; have := (iW hI).2; omega) (by decide) ?_
      refine V_topI (x' := gi M 77 (cN x - 10)) (eC hC (by have := (td_s (M := M) hb14 (iW hI).2).2; have := (iW hI).2; omega)) ?_
      refine V_iret dG_told_32 rfl rfl ?_
      have e : q_told L M x = (gi M 77 (cN x - 10), M) := by
        skip
        first
        | (simp only [q_told, if_pos h3, if_pos hb14]; done)
        | (simp [q_told, h3, hb14]; done)
        | (simp_all [q_told]; done)
      rw [e]
      exact ⟨rfl, rfl, hC, hS⟩
    · refine V_one ?_
      have hb14 : ¬ ((x = nI (cN x) ∧ cN x < 10 + mW M) ∧ 10 ≤ cN x) := fun q => hy14 ((td_c x (by have := (iW hI).2; omega) c3).mpr q)
      refine V_if_eq (tgt := 33) dG_told_17 rfl (fun _ => ?_) (fun h => absurd h (by decide))
      refine V_iload_n dG_told_33 rfl ?_
      by_cases s34_0 : x = 0
      · skip
        refine V_tsC (tgt := 64) 0 s34_0 dG_told_34 (by decide) (by decide) rfl rfl ?_
        refine V_aload_n dG_told_64 rfl ?_
        refine V_getR (a := 1) dG_told_65 flG_12 k0 rfl (r0_0 hR) ?_
        refine V_getE (x := nI (mD M)) dG_told_68 flG_108 k1 rfl (cD hC hI) ?_
        refine V_iret dG_told_71 rfl rfl ?_
        have e : q_told L M x = (nI (mD M), M) := by
          skip
          first
          | (simp only [q_told, if_pos h3, if_neg hb14, if_pos s34_0]; done)
          | (simp [q_told, h3, hb14, s34_0]; done)
          | (simp_all [q_told]; done)
        rw [e]
        exact ⟨rfl, rfl, hC, hS⟩
      by_cases s34_1 : x = 1
      · skip
        refine V_tsC (tgt := 72) 1 s34_1 dG_told_34 (by decide) (by decide) rfl rfl ?_
        refine V_aload_n dG_told_72 rfl ?_
        refine V_getR (a := 1) dG_told_73 flG_12 k0 rfl (r0_0 hR) ?_
        refine V_getE (x := gi M 76 3) dG_told_76 flG_127 k1 rfl (hC.2.1 1 5 76 3 rfl) ?_
        refine V_iret dG_told_79 rfl rfl ?_
        have e : q_told L M x = (gi M 76 3, M) := by
          skip
          first
          | (simp only [q_told, if_pos h3, if_neg hb14, if_neg s34_0, if_pos s34_1]; done)
          | (simp [q_told, h3, hb14, s34_0, s34_1]; done)
          | (simp_all [q_told]; done)
        rw [e]
        exact ⟨rfl, rfl, hC, hS⟩
      by_cases s34_2 : x = 2
      · skip
        refine V_tsC (tgt := 80) 2 s34_2 dG_told_34 (by decide) (by decide) rfl rfl ?_
        refine V_aload_n dG_told_80 rfl ?_
        refine V_getR (a := 47) dG_told_81 flG_24 k0 rfl (r0_3 hR) ?_
        refine V_aload_n dG_told_84 rfl ?_
        refine V_getR (a := 1) dG_told_85 flG_12 k0 rfl (r0_0 hR) ?_
        refine V_getE (x := gi M 76 12) dG_told_88 flG_124 k1 rfl (hC.2.1 1 6 76 12 rfl) ?_
        refine V_callV (as := [.int (gi M 76 12)]) (rest := []) (bs' := 0) rfl dG_told_91 cmL_baseOf cvL_baseOf mlG_130 (Or.inl ⟨_, _, _, _, _, rfl, k47, by decide, rfl⟩) rfl rfl (c_baseOf hC hI (gi M 76 12)) (by decide) (Nat.le_refl _) (by decide) (Nat.le_of_ble_eq_true rfl) ?_
        rintro _ _ _ ⟨rfl, rfl, rfl⟩ -
        refine V_one ?_
        refine V_iret dG_told_94 rfl rfl ?_
        have e : q_told L M x = (bsS L M (gi M 76 12), M) := by
          skip
          first
          | (simp only [q_told, if_pos h3, if_neg hb14, if_neg s34_0, if_neg s34_1, if_pos s34_2]; done)
          | (simp [q_told, h3, hb14, s34_0, s34_1, s34_2]; done)
          | (simp_all [q_told]; done)
        rw [e]
        exact ⟨rfl, rfl, hC, hS⟩
      by_cases s34_3 : x = 3
      · skip
        refine V_tsC (tgt := 95) 3 s34_3 dG_told_34 (by decide) (by decide) rfl rfl ?_
        refine V_aload_n dG_told_95 rfl ?_
        refine V_getR (a := 1) dG_told_96 flG_12 k0 rfl (r0_0 hR) ?_
        refine V_aload_n dG_told_99 rfl ?_
        refine V_getR (a := 1) dG_told_100 flG_12 k0 rfl (r0_0 hR) ?_
        refine V_callV (as := []) (rest := [.ref 1]) (bs' := 0) rfl dG_told_103 cmF_allWorlds cvF_allWorlds mlG_133 (Or.inl ⟨_, _, _, _, _, rfl, k1, by decide, rfl⟩) rfl rfl (c_allWorlds hC hI) (by decide) (Nat.le_refl _) (by decide) (Nat.le_of_ble_eq_true rfl) ?_
        rintro _ _ _ ⟨rfl, rfl, rfl⟩ -
        refine V_one ?_
        refine V_callV (as := [.int (allS M)]) (rest := []) (bs' := 0) rfl dG_told_106 cmF_chancesOf cvF_chancesOf mlG_136 (Or.inl ⟨_, _, _, _, _, rfl, k1, by decide, rfl⟩) rfl rfl (c_chancesOf hC hI (allS M)) (by decide) (Nat.le_refl _) (by decide) (Nat.le_of_ble_eq_true rfl) ?_
        rintro _ _ _ ⟨rfl, rfl, rfl⟩ -
        refine V_one ?_
        refine V_iret dG_told_109 rfl rfl ?_
        have e : q_told L M x = (chS M (allS M) (mW M), M) := by
          skip
          first
          | (simp only [q_told, if_pos h3, if_neg hb14, if_neg s34_0, if_neg s34_1, if_neg s34_2, if_pos s34_3]; done)
          | (simp [q_told, h3, hb14, s34_0, s34_1, s34_2, s34_3]; done)
          | (simp_all [q_told]; done)
        rw [e]
        exact ⟨rfl, rfl, hC, hS⟩
      have t34_0 := lv_neT (a := 0) s34_0 (by decide)
      have t34_1 := lv_neT (a := 1) s34_1 (by decide)
      have t34_2 := lv_neT (a := 2) s34_2 (by decide)
      have t34_3 := lv_neT (a := 3) s34_3 (by decide)
      refine V_tsD (tgt := 110) dG_told_34 (by omega) rfl ?_
      refine V_iconst (v := -1) dG_told_110 (by decide) ?_
      refine V_iret dG_told_111 rfl rfl ?_
      have e : q_told L M x = ((-1), M) := by
        skip
        first
        | (simp only [q_told, if_pos h3, if_neg hb14, if_neg s34_0, if_neg s34_1, if_neg s34_2, if_neg s34_3]; done)
        | (simp [q_told, h3, hb14, s34_0, s34_1, s34_2, s34_3]; done)
        | (simp_all [q_told]; done)
      rw [e]
      exact ⟨rfl, rfl, hC, hS⟩
theorem m_told {l : Launch} {G : GT} {L : Nat → List Cl} {M σ : Hp} (hM : RM M σ) (hI : Inv L M) (x : Int32) : MM l G mM_told 2 0 0 [.ref 76, .int x] KA σ (PM σ (q_told L M x)) := by
  have hR := hM.1
  have hM0 := hM
  have hS : Sc σ σ := Sc.rfl
  refine MM.of (loc := [(0, .ref 76), (1, .int x)]) (by decide +kernel) rfl (Nat.le_of_ble_eq_true rfl) ?_
  refine V_aload_n dM_told_0 rfl ?_
  refine V_iload_n dM_told_1 rfl ?_
  refine V_bipush (v := 10) dM_told_2 (by decide) ?_
  refine V_bipush (v := 9) dM_told_4 (by decide) ?_
  refine V_aload_n dM_told_6 rfl ?_
  refine V_getE (x := nI (mW M)) dM_told_7 flM_7 k76 rfl ((mR hM rfl).trans (iW hI).1) ?_
  refine V_iadd dM_told_10 ?_
  refine V_callV (as := [.int x, .int 10, .int (9 + (nI (mW M)))]) (rest := []) (bs' := 0) rfl dM_told_11 cmM_in cvM_in mlM_203 (Or.inl ⟨_, _, _, _, _, rfl, k76, by decide, rfl⟩) rfl rfl (m_in x 10 (9 + nI (mW M))) (by decide) (Nat.le_refl _) (by decide) (Nat.le_of_ble_eq_true rfl) ?_
  rintro _ _ _ (⟨hy11, rfl, rfl, rfl⟩ | ⟨hy11, rfl, rfl, rfl⟩) -
  · refine V_one ?_
    have hb11 : ((x = nI (cN x) ∧ cN x < 10 + mW M) ∧ 10 ≤ cN x) := (td_m x (by have := (iW hI).2; omega)).mp hy11
    refine V_if_eq (tgt := 27) dM_told_14 rfl (fun h => absurd h (by decide)) (fun _ => ?_)
    refine V_aload_n dM_told_17 rfl ?_
    refine V_getR (a := 77) dM_told_18 flM_22 k76 rfl (r76_4 hR) ?_
    refine V_iload_n dM_told_21 rfl ?_
    refine V_bipush (v := 10) dM_told_22 (by decide) ?_
    refine V_isub dM_told_24 ?_
    refine V_ialdN (j := cN x - 10) dM_told_25 k77 (td_s (M := M) hb11 (iW hI).2).1 (by have := (td_s (M := M) hb11 (iW hI).2).2; have := (iW hI).2; omega) (by decide) ?_
    refine V_topI (x' := gi M 77 (cN x - 10)) (mR hM rfl) ?_
    refine V_iret dM_told_26 rfl rfl ?_
    have e : q_told L M x = (gi M 77 (cN x - 10), M) := by
      skip
      first
      | (simp only [q_told, if_pos hb11]; done)
      | (simp [q_told, hb11]; done)
      | (simp_all [q_told]; done)
    rw [e]
    exact ⟨rfl, rfl, hM, hS⟩
  · refine V_one ?_
    have hb11 : ¬ ((x = nI (cN x) ∧ cN x < 10 + mW M) ∧ 10 ≤ cN x) := fun q => hy11 ((td_m x (by have := (iW hI).2; omega)).mpr q)
    refine V_if_eq (tgt := 27) dM_told_14 rfl (fun _ => ?_) (fun h => absurd h (by decide))
    refine V_iload_n dM_told_27 rfl ?_
    by_cases s28_0 : x = 0
    · skip
      refine V_tsC (tgt := 60) 0 s28_0 dM_told_28 (by decide) (by decide) rfl rfl ?_
      refine V_aload_n dM_told_60 rfl ?_
      refine V_getE (x := nI (mD M)) dM_told_61 flM_16 k76 rfl ((mR hM rfl).trans (iD hI).1) ?_
      refine V_iret dM_told_64 rfl rfl ?_
      have e : q_told L M x = (nI (mD M), M) := by
        skip
        first
        | (simp only [q_told, if_neg hb11, if_pos s28_0]; done)
        | (simp [q_told, hb11, s28_0]; done)
        | (simp_all [q_told]; done)
      rw [e]
      exact ⟨rfl, rfl, hM, hS⟩
    by_cases s28_1 : x = 1
    · skip
      refine V_tsC (tgt := 65) 1 s28_1 dM_told_28 (by decide) (by decide) rfl rfl ?_
      refine V_aload_n dM_told_65 rfl ?_
      refine V_getE (x := gi M 76 3) dM_told_66 flM_19 k76 rfl (mR hM rfl) ?_
      refine V_iret dM_told_69 rfl rfl ?_
      have e : q_told L M x = (gi M 76 3, M) := by
        skip
        first
        | (simp only [q_told, if_neg hb11, if_neg s28_0, if_pos s28_1]; done)
        | (simp [q_told, hb11, s28_0, s28_1]; done)
        | (simp_all [q_told]; done)
      rw [e]
      exact ⟨rfl, rfl, hM, hS⟩
    by_cases s28_2 : x = 2
    · skip
      refine V_tsC (tgt := 70) 2 s28_2 dM_told_28 (by decide) (by decide) rfl rfl ?_
      refine V_aload_n dM_told_70 rfl ?_
      refine V_callV (as := []) (rest := []) (bs' := 0) rfl dM_told_71 cmM_base cvM_base mlM_295 (Or.inl ⟨_, _, _, _, _, rfl, k76, by decide, rfl⟩) rfl rfl (m_base hM hI.pw) (by decide) (Nat.le_refl _) (by decide) (Nat.le_of_ble_eq_true rfl) ?_
      rintro _ _ _ ⟨rfl, rfl, rfl⟩ -
      refine V_one ?_
      refine V_iret dM_told_74 rfl rfl ?_
      have e : q_told L M x = (bsS L M (gi M 76 12), M) := by
        skip
        first
        | (simp only [q_told, if_neg hb11, if_neg s28_0, if_neg s28_1, if_pos s28_2]; done)
        | (simp [q_told, hb11, s28_0, s28_1, s28_2]; done)
        | (simp_all [q_told]; done)
      rw [e]
      exact ⟨rfl, rfl, hM, hS⟩
    by_cases s28_3 : x = 3
    · skip
      refine V_tsC (tgt := 75) 3 s28_3 dM_told_28 (by decide) (by decide) rfl rfl ?_
      refine V_aload_n dM_told_75 rfl ?_
      refine V_aload_n dM_told_76 rfl ?_
      refine V_callV (as := []) (rest := [.ref 76]) (bs' := 0) rfl dM_told_77 cmM_all cvM_all mlM_314 (Or.inl ⟨_, _, _, _, _, rfl, k76, by decide, rfl⟩) rfl rfl (m_all hM hI) (by decide) (Nat.le_refl _) (by decide) (Nat.le_of_ble_eq_true rfl) ?_
      rintro _ _ _ ⟨rfl, rfl, rfl⟩ -
      refine V_one ?_
      refine V_callV (as := [.int (allS M)]) (rest := []) (bs' := 0) rfl dM_told_80 cmM_chances cvM_chances mlM_317 (Or.inl ⟨_, _, _, _, _, rfl, k76, by decide, rfl⟩) rfl rfl (m_chances hM hI (allS M)) (by decide) (Nat.le_refl _) (by decide) (Nat.le_of_ble_eq_true rfl) ?_
      rintro _ _ _ ⟨rfl, rfl, rfl⟩ -
      refine V_one ?_
      refine V_iret dM_told_83 rfl rfl ?_
      have e : q_told L M x = (chS M (allS M) (mW M), M) := by
        skip
        first
        | (simp only [q_told, if_neg hb11, if_neg s28_0, if_neg s28_1, if_neg s28_2, if_pos s28_3]; done)
        | (simp [q_told, hb11, s28_0, s28_1, s28_2, s28_3]; done)
        | (simp_all [q_told]; done)
      rw [e]
      exact ⟨rfl, rfl, hM, hS⟩
    have t28_0 := lv_neT (a := 0) s28_0 (by decide)
    have t28_1 := lv_neT (a := 1) s28_1 (by decide)
    have t28_2 := lv_neT (a := 2) s28_2 (by decide)
    have t28_3 := lv_neT (a := 3) s28_3 (by decide)
    refine V_tsD (tgt := 84) dM_told_28 (by omega) rfl ?_
    refine V_iconst (v := -1) dM_told_84 (by decide) ?_
    refine V_iret dM_told_85 rfl rfl ?_
    have e : q_told L M x = ((-1), M) := by
      skip
      first
      | (simp only [q_told, if_neg hb11, if_neg s28_0, if_neg s28_1, if_neg s28_2, if_neg s28_3]; done)
      | (simp [q_told, hb11, s28_0, s28_1, s28_2, s28_3]; done)
      | (simp_all [q_told]; done)
    rw [e]
    exact ⟨rfl, rfl, hM, hS⟩
theorem c_add4 {l : Launch} {G : GT} {L : Nat → List Cl} {M σ : Hp} (hC : RC L M σ) (hI : Inv L M) (e x y : Int32) : MM l G mW_add 0 0 0 [.ref 4, .int e, .int x, .int y] KA σ (PQ L σ (q_add4 M e x)) := by
  have hR := hC.1
  have hC0 := hC
  have hS : Sm σ σ := Sm.rfl
  refine MM.of (loc := [(0, .ref 4), (1, .int e), (2, .int x), (3, .int y)]) (by decide +kernel) rfl (Nat.le_of_ble_eq_true rfl) ?_
  refine V_aload_n dW_add_0 rfl ?_
  refine V_getE (x := nI (mO M)) dW_add_1 flW_15 k4 rfl ((hC.2.1 4 0 76 30 rfl).trans (iOn hI).1) ?_
  refine V_bipush (v := 8) dW_add_4 (by decide) ?_
  refine V_icmp_lt (tgt := 12) dW_add_6 rfl (fun c6 => ?_) (fun c6 => ?_)
  · skip
    have h6 : mO M < 8 := (nI_ltI (b := 8) (by have := (iOn hI).2; have := (iB hI).2; unfold mO mB at *; omega) (by decide)).mp c6
    refine V_aload_n dW_add_12 rfl ?_
    refine V_getE (x := nI (mO M)) dW_add_13 flW_15 k4 rfl ((hC.2.1 4 0 76 30 rfl).trans (iOn hI).1) ?_
    refine V_iconst (v := 3) dW_add_16 (by decide) ?_
    refine V_imul dW_add_17 ?_
    refine V_topI (x' := nI (3 * mO M)) (by rw [show (3 : Int32) = nI 3 from rfl, pk_mul, Nat.mul_comm]) ?_
    refine V_istore (loc' := [(4, .int (nI (3 * mO M))), (0, .ref 4), (1, .int e), (2, .int x), (3, .int y)]) dW_add_18 (by decide) rfl ?_
    refine V_aload_n dW_add_20 rfl ?_
    refine V_getR (a := 5) dW_add_21 flW_11 k4 rfl (r4_1 hR) ?_
    refine V_iload dW_add_24 rfl ?_
    refine V_iload_n dW_add_26 rfl ?_
    refine V_iastN (j := 3 * mO M) dW_add_27 k5 rfl (by omega) (by decide) ?_
    have hC := RC_set (k := 5) (j := 3 * mO M) (a := 95) (b := mO M) (x := e) hC (mpO _ h6).1 (by first | decide | omega)
    have hS := hS.set (k := 5) (j := 3 * mO M) (x := e) (by omega)
    have hR := hC.1
    refine V_aload_n dW_add_28 rfl ?_
    refine V_getR (a := 5) dW_add_29 flW_11 k4 rfl (r4_1 hR) ?_
    refine V_iload dW_add_32 rfl ?_
    refine V_iconst (v := 1) dW_add_34 (by decide) ?_
    refine V_iadd dW_add_35 ?_
    refine V_iload_n dW_add_36 rfl ?_
    refine V_iastN (j := 3 * mO M + 1) dW_add_37 k5 (nI_add _ 1) (by omega) (by decide) ?_
    have hC := RC_set (k := 5) (j := 3 * mO M + 1) (a := 96) (b := mO M) (x := x) hC (mpO _ h6).2 (by first | decide | omega)
    have hS := hS.set (k := 5) (j := 3 * mO M + 1) (x := x) (by omega)
    have hR := hC.1
    refine V_aload_n dW_add_38 rfl ?_
    refine V_getR (a := 5) dW_add_39 flW_11 k4 rfl (r4_1 hR) ?_
    refine V_iload dW_add_42 rfl ?_
    refine V_iconst (v := 2) dW_add_44 (by decide) ?_
    refine V_iadd dW_add_45 ?_
    refine V_iload_n dW_add_46 rfl ?_
    refine V_iastN (j := 3 * mO M + 2) dW_add_47 k5 (nI_add _ 2) (by omega) (by decide) ?_
    have hC := RC_scr (k := 5) (j := 3 * mO M + 2) (x := y) hC (mp5_2 _ h6) (by decide)
    have hS := hS.set (k := 5) (j := 3 * mO M + 2) (x := y) (by decide)
    have hR := hC.1
    refine V_aload_n dW_add_48 rfl ?_
    refine V_dup dW_add_49 rfl ?_
    refine V_getE (x := nI (mO M)) dW_add_50 flW_15 k4 rfl (by rw [gi_ne (by decide), gi_ne (by decide), gi_ne (by decide)]; exact ((hC0.2.1 4 0 76 30 rfl).trans (iOn hI).1)) ?_
    refine V_iconst (v := 1) dW_add_53 (by decide) ?_
    refine V_iadd dW_add_54 ?_
    refine V_topI (x' := nI (mO M + 1)) (nI_1 _) ?_
    refine V_putI dW_add_55 flW_15 (fpW_0 _) (Or.inl rfl) k4 rfl ?_
    have hC := RC_set (k := 4) (j := 0) (a := 76) (b := 30) (x := nI (mO M + 1)) hC rfl (by first | decide | omega)
    have hS := hS.set (k := 4) (j := 0) (x := nI (mO M + 1)) (by omega)
    have hR := hC.1
    refine V_aload_n dW_add_58 rfl ?_
    refine V_getE (x := nI (mO M + 1)) dW_add_59 flW_15 k4 rfl gi_eq ?_
    refine V_iret dW_add_62 rfl rfl ?_
    have e : q_add4 M e x = (nI (mO M + 1), si (si (si M 95 (mO M) e) 96 (mO M) x) 76 30 (nI (mO M + 1))) := by
      skip
      first
      | (simp only [q_add4, if_pos h6]; done)
      | (simp [q_add4, h6]; done)
      | (simp_all [q_add4]; done)
    rw [e]
    exact ⟨rfl, rfl, hC, hS⟩
  · skip
    have h6 : ¬ mO M < 8 := fun q => c6 ((nI_ltI (b := 8) (by have := (iOn hI).2; have := (iB hI).2; unfold mO mB at *; omega) (by decide)).mpr q)
    refine V_bipush (v := -4) dW_add_9 (by decide) ?_
    refine V_iret dW_add_11 rfl rfl ?_
    have e : q_add4 M e x = ((-4), M) := by
      skip
      first
      | (simp only [q_add4, if_neg h6]; done)
      | (simp [q_add4, h6]; done)
      | (simp_all [q_add4]; done)
    rw [e]
    exact ⟨rfl, rfl, hC, hS⟩
theorem c_add6 {l : Launch} {G : GT} {L : Nat → List Cl} {M σ : Hp} (hC : RC L M σ) (hI : Inv L M) (e w y : Int32) : MM l G mW_add 0 0 0 [.ref 6, .int e, .int w, .int y] KA σ (PQ L σ (q_add6 M e w y)) := by
  have hR := hC.1
  have hC0 := hC
  have hS : Sm σ σ := Sm.rfl
  refine MM.of (loc := [(0, .ref 6), (1, .int e), (2, .int w), (3, .int y)]) (by decide +kernel) rfl (Nat.le_of_ble_eq_true rfl) ?_
  refine V_aload_n dW_add_0 rfl ?_
  refine V_getE (x := nI (mB M)) dW_add_1 flW_15 k6 rfl ((hC.2.1 6 0 76 33 rfl).trans (iB hI).1) ?_
  refine V_bipush (v := 8) dW_add_4 (by decide) ?_
  refine V_icmp_lt (tgt := 12) dW_add_6 rfl (fun c6 => ?_) (fun c6 => ?_)
  · skip
    have h6 : mB M < 8 := (nI_ltI (b := 8) (by have := (iOn hI).2; have := (iB hI).2; unfold mO mB at *; omega) (by decide)).mp c6
    refine V_aload_n dW_add_12 rfl ?_
    refine V_getE (x := nI (mB M)) dW_add_13 flW_15 k6 rfl ((hC.2.1 6 0 76 33 rfl).trans (iB hI).1) ?_
    refine V_iconst (v := 3) dW_add_16 (by decide) ?_
    refine V_imul dW_add_17 ?_
    refine V_topI (x' := nI (3 * mB M)) (by rw [show (3 : Int32) = nI 3 from rfl, pk_mul, Nat.mul_comm]) ?_
    refine V_istore (loc' := [(4, .int (nI (3 * mB M))), (0, .ref 6), (1, .int e), (2, .int w), (3, .int y)]) dW_add_18 (by decide) rfl ?_
    refine V_aload_n dW_add_20 rfl ?_
    refine V_getR (a := 7) dW_add_21 flW_11 k6 rfl (r6_1 hR) ?_
    refine V_iload dW_add_24 rfl ?_
    refine V_iload_n dW_add_26 rfl ?_
    refine V_iastN (j := 3 * mB M) dW_add_27 k7 rfl (by omega) (by decide) ?_
    have hC := RC_set (k := 7) (j := 3 * mB M) (a := 97) (b := mB M) (x := e) hC (mpB _ h6).1 (by first | decide | omega)
    have hS := hS.set (k := 7) (j := 3 * mB M) (x := e) (by omega)
    have hR := hC.1
    refine V_aload_n dW_add_28 rfl ?_
    refine V_getR (a := 7) dW_add_29 flW_11 k6 rfl (r6_1 hR) ?_
    refine V_iload dW_add_32 rfl ?_
    refine V_iconst (v := 1) dW_add_34 (by decide) ?_
    refine V_iadd dW_add_35 ?_
    refine V_iload_n dW_add_36 rfl ?_
    refine V_iastN (j := 3 * mB M + 1) dW_add_37 k7 (nI_add _ 1) (by omega) (by decide) ?_
    have hC := RC_set (k := 7) (j := 3 * mB M + 1) (a := 98) (b := mB M) (x := w) hC (mpB _ h6).2.1 (by first | decide | omega)
    have hS := hS.set (k := 7) (j := 3 * mB M + 1) (x := w) (by omega)
    have hR := hC.1
    refine V_aload_n dW_add_38 rfl ?_
    refine V_getR (a := 7) dW_add_39 flW_11 k6 rfl (r6_1 hR) ?_
    refine V_iload dW_add_42 rfl ?_
    refine V_iconst (v := 2) dW_add_44 (by decide) ?_
    refine V_iadd dW_add_45 ?_
    refine V_iload_n dW_add_46 rfl ?_
    refine V_iastN (j := 3 * mB M + 2) dW_add_47 k7 (nI_add _ 2) (by omega) (by decide) ?_
    have hC := RC_set (k := 7) (j := 3 * mB M + 2) (a := 99) (b := mB M) (x := y) hC (mpB _ h6).2.2 (by first | decide | omega)
    have hS := hS.set (k := 7) (j := 3 * mB M + 2) (x := y) (by omega)
    have hR := hC.1
    refine V_aload_n dW_add_48 rfl ?_
    refine V_dup dW_add_49 rfl ?_
    refine V_getE (x := nI (mB M)) dW_add_50 flW_15 k6 rfl (by rw [gi_ne (by decide), gi_ne (by decide), gi_ne (by decide)]; exact ((hC0.2.1 6 0 76 33 rfl).trans (iB hI).1)) ?_
    refine V_iconst (v := 1) dW_add_53 (by decide) ?_
    refine V_iadd dW_add_54 ?_
    refine V_topI (x' := nI (mB M + 1)) (nI_1 _) ?_
    refine V_putI dW_add_55 flW_15 (fpW_0 _) (Or.inl rfl) k6 rfl ?_
    have hC := RC_set (k := 6) (j := 0) (a := 76) (b := 33) (x := nI (mB M + 1)) hC rfl (by first | decide | omega)
    have hS := hS.set (k := 6) (j := 0) (x := nI (mB M + 1)) (by omega)
    have hR := hC.1
    refine V_aload_n dW_add_58 rfl ?_
    refine V_getE (x := nI (mB M + 1)) dW_add_59 flW_15 k6 rfl gi_eq ?_
    refine V_iret dW_add_62 rfl rfl ?_
    have e : q_add6 M e w y = (nI (mB M + 1), si (si (si (si M 97 (mB M) e) 98 (mB M) w) 99 (mB M) y) 76 33 (nI (mB M + 1))) := by
      skip
      first
      | (simp only [q_add6, if_pos h6]; done)
      | (simp [q_add6, h6]; done)
      | (simp_all [q_add6]; done)
    rw [e]
    exact ⟨rfl, rfl, hC, hS⟩
  · skip
    have h6 : ¬ mB M < 8 := fun q => c6 ((nI_ltI (b := 8) (by have := (iOn hI).2; have := (iB hI).2; unfold mO mB at *; omega) (by decide)).mpr q)
    refine V_bipush (v := -4) dW_add_9 (by decide) ?_
    refine V_iret dW_add_11 rfl rfl ?_
    have e : q_add6 M e w y = ((-4), M) := by
      skip
      first
      | (simp only [q_add6, if_neg h6]; done)
      | (simp [q_add6, h6]; done)
      | (simp_all [q_add6]; done)
    rw [e]
    exact ⟨rfl, rfl, hC, hS⟩
theorem c_empty4 {l : Launch} {G : GT} {L : Nat → List Cl} {M σ : Hp} (hC : RC L M σ) (hI : Inv L M) : MM l G mW_empty 0 0 0 [.ref 4] KA σ (PQ L σ (0, si M 76 30 0)) := by
  have hR := hC.1
  have hC0 := hC
  have hS : Sm σ σ := Sm.rfl
  refine MM.of (loc := [(0, .ref 4)]) (by decide +kernel) rfl (Nat.le_of_ble_eq_true rfl) ?_
  refine V_aload_n dW_empty_0 rfl ?_
  refine V_iconst (v := 0) dW_empty_1 (by decide) ?_
  refine V_putI dW_empty_2 flW_15 (fpW_0 _) (Or.inl rfl) k4 rfl ?_
  have hC := RC_set (k := 4) (j := 0) (a := 76) (b := 30) (x := 0) hC rfl (by first | decide | omega)
  have hS := hS.set (k := 4) (j := 0) (x := 0) (by omega)
  have hR := hC.1
  refine V_aload_n dW_empty_5 rfl ?_
  refine V_getE (x := 0) dW_empty_6 flW_15 k4 rfl gi_eq ?_
  exact V_iret dW_empty_9 rfl rfl ⟨rfl, rfl, hC, hS⟩
theorem c_empty6 {l : Launch} {G : GT} {L : Nat → List Cl} {M σ : Hp} (hC : RC L M σ) (hI : Inv L M) : MM l G mW_empty 0 0 0 [.ref 6] KA σ (PQ L σ (0, si M 76 33 0)) := by
  have hR := hC.1
  have hC0 := hC
  have hS : Sm σ σ := Sm.rfl
  refine MM.of (loc := [(0, .ref 6)]) (by decide +kernel) rfl (Nat.le_of_ble_eq_true rfl) ?_
  refine V_aload_n dW_empty_0 rfl ?_
  refine V_iconst (v := 0) dW_empty_1 (by decide) ?_
  refine V_putI dW_empty_2 flW_15 (fpW_0 _) (Or.inl rfl) k6 rfl ?_
  have hC := RC_set (k := 6) (j := 0) (a := 76) (b := 33) (x := 0) hC rfl (by first | decide | omega)
  have hS := hS.set (k := 6) (j := 0) (x := 0) (by omega)
  have hR := hC.1
  refine V_aload_n dW_empty_5 rfl ?_
  refine V_getE (x := 0) dW_empty_6 flW_15 k6 rfl gi_eq ?_
  exact V_iret dW_empty_9 rfl rfl ⟨rfl, rfl, hC, hS⟩
theorem g_open {l : Launch} {G : GT} {L : Nat → List Cl} {M σ : Hp} (hC : RC L M σ) (hI : Inv L M) (e x : Int32) (hx01 : x = 0 ∨ x = 1) : MM l G mG_open 1 0 0 [.ref 0, .int e, .int x] KA σ (PQ L σ (q_open M e x)) := by
  have hR := hC.1
  have hC0 := hC
  have hS : Sm σ σ := Sm.rfl
  refine MM.of (loc := [(0, .ref 0), (1, .int e), (2, .int x)]) (by decide +kernel) rfl (Nat.le_of_ble_eq_true rfl) ?_
  refine V_iload_n dG_open_0 rfl ?_
  refine V_iconst (v := -1) dG_open_1 (by decide) ?_
  refine V_icmp_ne (tgt := 16) dG_open_2 rfl (fun c2 => ?_) (fun c2 => ?_)
  · skip
    refine V_aload_n dG_open_16 rfl ?_
    refine V_getR (a := 1) dG_open_17 flG_12 k0 rfl (r0_0 hR) ?_
    refine V_iload_n dG_open_20 rfl ?_
    refine V_callV (as := [.int e]) (rest := []) (bs' := 0) rfl dG_open_21 cmF_find cvF_find mlG_90 (Or.inl ⟨_, _, _, _, _, rfl, k1, by decide, rfl⟩) rfl rfl (c_find hC hI e) (by decide) (Nat.le_refl _) (by decide) (Nat.le_of_ble_eq_true rfl) ?_
    rintro _ _ _ (⟨j21, hj21, hx21, rfl, rfl, rfl⟩ | ⟨hb21, rfl, rfl, rfl⟩) -
    · refine V_one ?_
      have hb21 : rng e (mE M) := hx21 ▸ rng_n hj21 (sm9 hI)
      have h821 := lt9 hI hj21
      have hcn21 : cN e = j21 := by rw [hx21]; exact nI_cN (by omega)
      refine V_ifnonnull (tgt := 29) dG_open_24 rfl ?_
      refine V_aload_n dG_open_29 rfl ?_
      refine V_getR (a := 1) dG_open_30 flG_12 k0 rfl (r0_0 hR) ?_
      refine V_getR (a := 4) dG_open_33 flG_177 k1 rfl (r1_7 hR) ?_
      refine V_iload_n dG_open_36 rfl ?_
      refine V_iload_n dG_open_37 rfl ?_
      refine V_if_eq (tgt := 45) dG_open_38 rfl (fun c38 => ?_) (fun c38 => ?_)
      · skip
        have h38 : x = 0 := c38
        refine V_iconst (v := 0) dG_open_45 (by decide) ?_
        refine V_iconst (v := 0) dG_open_46 (by decide) ?_
        refine V_callV (as := [.int e, .int 0, .int 0]) (rest := []) (bs' := 0) rfl dG_open_47 cmW_add cvW_add mlG_186 (Or.inl ⟨_, _, _, _, _, rfl, k4, by decide, rfl⟩) rfl rfl (c_add4 hC hI e 0 0) (by decide) (Nat.le_refl _) (by decide) (Nat.le_of_ble_eq_true rfl) ?_
        rintro _ _ s1 ⟨rfl, rfl, hC, hS1⟩ -
        refine V_one ?_
        have hS := hS.trans hS1
        refine V_iret dG_open_50 rfl rfl ?_
        have e2 : q_open M e x = ((q_add4 M e 0).1, (q_add4 M e 0).2) := by
          simp only [q_open, if_neg c2, if_pos hb21, h38]
        rw [e2]
        exact ⟨rfl, rfl, hC, hS⟩
      · skip
        have h38 : x = 1 := hx01.resolve_left c38
        refine V_iconst (v := 1) dG_open_41 (by decide) ?_
        refine V_goto (tgt := 46) dG_open_42 rfl ?_
        refine V_iconst (v := 0) dG_open_46 (by decide) ?_
        refine V_callV (as := [.int e, .int 1, .int 0]) (rest := []) (bs' := 0) rfl dG_open_47 cmW_add cvW_add mlG_186 (Or.inl ⟨_, _, _, _, _, rfl, k4, by decide, rfl⟩) rfl rfl (c_add4 hC hI e 1 0) (by decide) (Nat.le_refl _) (by decide) (Nat.le_of_ble_eq_true rfl) ?_
        rintro _ _ s1 ⟨rfl, rfl, hC, hS1⟩ -
        refine V_one ?_
        have hS := hS.trans hS1
        refine V_iret dG_open_50 rfl rfl ?_
        have e2 : q_open M e x = ((q_add4 M e 1).1, (q_add4 M e 1).2) := by
          simp only [q_open, if_neg c2, if_pos hb21, h38]
        rw [e2]
        exact ⟨rfl, rfl, hC, hS⟩
    · refine V_one ?_
      refine V_ifnonnullN dG_open_24 ?_
      refine V_iconst (v := -1) dG_open_27 (by decide) ?_
      refine V_iret dG_open_28 rfl rfl ?_
      have e : q_open M e x = ((-1), M) := by
        skip
        first
        | (simp only [q_open, if_neg c2, if_neg hb21]; done)
        | (simp [q_open, c2, hb21]; done)
        | (simp_all [q_open]; done)
      rw [e]
      exact ⟨rfl, rfl, hC, hS⟩
  · skip
    refine V_aload_n dG_open_5 rfl ?_
    refine V_getR (a := 1) dG_open_6 flG_12 k0 rfl (r0_0 hR) ?_
    refine V_getR (a := 4) dG_open_9 flG_177 k1 rfl (r1_7 hR) ?_
    refine V_callV (as := []) (rest := []) (bs' := 0) rfl dG_open_12 cmW_empty cvW_empty mlG_181 (Or.inl ⟨_, _, _, _, _, rfl, k4, by decide, rfl⟩) rfl rfl (c_empty4 hC hI) (by decide) (Nat.le_refl _) (by decide) (Nat.le_of_ble_eq_true rfl) ?_
    rintro _ _ s1 ⟨rfl, rfl, hC, hS1⟩ -
    refine V_one ?_
    have hS := hS.trans hS1
    refine V_iret dG_open_15 rfl rfl ?_
    have e : q_open M e x = (0, si M 76 30 0) := by
      skip
      first
      | (simp only [q_open, if_pos c2]; done)
      | (simp [q_open, c2]; done)
      | (simp_all [q_open]; done)
    rw [e]
    exact ⟨rfl, rfl, hC, hS⟩
theorem g_book {l : Launch} {G : GT} {L : Nat → List Cl} {M σ : Hp} (hC : RC L M σ) (hI : Inv L M) (e w y : Int32) : MM l G mG_book 1 0 0 [.ref 0, .int e, .int w, .int y] KA σ (PQ L σ (q_book M e w y)) := by
  have hR := hC.1
  have hC0 := hC
  have hS : Sm σ σ := Sm.rfl
  refine MM.of (loc := [(0, .ref 0), (1, .int e), (2, .int w), (3, .int y)]) (by decide +kernel) rfl (Nat.le_of_ble_eq_true rfl) ?_
  refine V_iload_n dG_book_0 rfl ?_
  refine V_iconst (v := -1) dG_book_1 (by decide) ?_
  refine V_icmp_ne (tgt := 16) dG_book_2 rfl (fun c2 => ?_) (fun c2 => ?_)
  · skip
    refine V_aload_n dG_book_16 rfl ?_
    refine V_getR (a := 1) dG_book_17 flG_12 k0 rfl (r0_0 hR) ?_
    refine V_iload_n dG_book_20 rfl ?_
    refine V_callV (as := [.int e]) (rest := []) (bs' := 0) rfl dG_book_21 cmF_find cvF_find mlG_90 (Or.inl ⟨_, _, _, _, _, rfl, k1, by decide, rfl⟩) rfl rfl (c_find hC hI e) (by decide) (Nat.le_refl _) (by decide) (Nat.le_of_ble_eq_true rfl) ?_
    rintro _ _ _ (⟨j21, hj21, hx21, rfl, rfl, rfl⟩ | ⟨hb21, rfl, rfl, rfl⟩) -
    · refine V_one ?_
      have hb21 : rng e (mE M) := hx21 ▸ rng_n hj21 (sm9 hI)
      have h821 := lt9 hI hj21
      have hcn21 : cN e = j21 := by rw [hx21]; exact nI_cN (by omega)
      refine V_ifnull dG_book_24 ?_
      refine V_aload_n dG_book_27 rfl ?_
      refine V_getR (a := 1) dG_book_28 flG_12 k0 rfl (r0_0 hR) ?_
      refine V_iload_n dG_book_31 rfl ?_
      refine V_callV (as := [.int w]) (rest := []) (bs' := 0) rfl dG_book_32 cmF_hasWorld cvF_hasWorld mlG_68 (Or.inl ⟨_, _, _, _, _, rfl, k1, by decide, rfl⟩) rfl rfl (c_hasWorld hC hI w) (by decide) (Nat.le_refl _) (by decide) (Nat.le_of_ble_eq_true rfl) ?_
      rintro _ _ _ (⟨hb32, rfl, rfl, rfl⟩ | ⟨hb32, rfl, rfl, rfl⟩) -
      · refine V_one ?_
        refine V_if_ne (tgt := 40) dG_book_35 rfl (fun _ => ?_) (fun h => absurd h (by decide))
        refine V_iload_n dG_book_40 rfl ?_
        refine V_sipush (v := 9999) dG_book_41 (by decide) ?_
        refine V_callS (as := [.int y, .int 9999]) (rest := []) (bs' := 0) rfl dG_book_44 cmG_isUpTo stG_isUpTo mlG_75 rfl rfl (c_isUpTo y 9999) (by decide) (Nat.le_refl _) (by decide) (Nat.le_of_ble_eq_true rfl) ?_
        rintro _ _ _ (⟨hb44, rfl, rfl, rfl⟩ | ⟨hb44, rfl, rfl, rfl⟩) -
        · refine V_one ?_
          refine V_if_ne (tgt := 53) dG_book_47 rfl (fun _ => ?_) (fun h => absurd h (by decide))
          refine V_aload_n dG_book_53 rfl ?_
          refine V_getR (a := 1) dG_book_54 flG_12 k0 rfl (r0_0 hR) ?_
          refine V_getR (a := 6) dG_book_57 flG_233 k1 rfl (r1_8 hR) ?_
          refine V_iload_n dG_book_60 rfl ?_
          refine V_iload_n dG_book_61 rfl ?_
          refine V_iload_n dG_book_62 rfl ?_
          refine V_callV (as := [.int e, .int w, .int y]) (rest := []) (bs' := 0) rfl dG_book_63 cmW_add cvW_add mlG_186 (Or.inl ⟨_, _, _, _, _, rfl, k6, by decide, rfl⟩) rfl rfl (c_add6 hC hI e w y) (by decide) (Nat.le_refl _) (by decide) (Nat.le_of_ble_eq_true rfl) ?_
          rintro _ _ s1 ⟨rfl, rfl, hC, hS1⟩ -
          refine V_one ?_
          have hS := hS.trans hS1
          refine V_iret dG_book_66 rfl rfl ?_
          have e : q_book M e w y = ((q_add6 M e w y).1, (q_add6 M e w y).2) := by
            skip
            first
            | (simp only [q_book, if_neg c2, hcn21, if_pos hb21, if_pos hb32, if_pos hb44]; done)
            | (simp [q_book, c2, hb21, hcn21, hb32, hb44]; done)
            | (simp_all [q_book]; done)
          rw [e]
          exact ⟨rfl, rfl, hC, hS⟩
        · refine V_one ?_
          refine V_if_ne (tgt := 53) dG_book_47 rfl (fun h => absurd h (by decide)) (fun _ => ?_)
          refine V_bipush (v := -2) dG_book_50 (by decide) ?_
          refine V_iret dG_book_52 rfl rfl ?_
          have e : q_book M e w y = ((-2), M) := by
            skip
            first
            | (simp only [q_book, if_neg c2, hcn21, if_pos hb21, if_pos hb32, if_neg hb44]; done)
            | (simp [q_book, c2, hb21, hcn21, hb32, hb44]; done)
            | (simp_all [q_book]; done)
          rw [e]
          exact ⟨rfl, rfl, hC, hS⟩
      · refine V_one ?_
        refine V_if_ne (tgt := 40) dG_book_35 rfl (fun h => absurd h (by decide)) (fun _ => ?_)
        refine V_iconst (v := -1) dG_book_38 (by decide) ?_
        refine V_iret dG_book_39 rfl rfl ?_
        have e : q_book M e w y = ((-1), M) := by
          skip
          first
          | (simp only [q_book, if_neg c2, hcn21, if_pos hb21, if_neg hb32]; done)
          | (simp [q_book, c2, hb21, hcn21, hb32]; done)
          | (simp_all [q_book]; done)
        rw [e]
        exact ⟨rfl, rfl, hC, hS⟩
    · refine V_one ?_
      refine V_ifnullN (tgt := 38) dG_book_24 rfl ?_
      refine V_iconst (v := -1) dG_book_38 (by decide) ?_
      refine V_iret dG_book_39 rfl rfl ?_
      have e : q_book M e w y = ((-1), M) := by
        skip
        first
        | (simp only [q_book, if_neg c2, if_neg hb21]; done)
        | (simp [q_book, c2, hb21]; done)
        | (simp_all [q_book]; done)
      rw [e]
      exact ⟨rfl, rfl, hC, hS⟩
  · skip
    refine V_aload_n dG_book_5 rfl ?_
    refine V_getR (a := 1) dG_book_6 flG_12 k0 rfl (r0_0 hR) ?_
    refine V_getR (a := 6) dG_book_9 flG_233 k1 rfl (r1_8 hR) ?_
    refine V_callV (as := []) (rest := []) (bs' := 0) rfl dG_book_12 cmW_empty cvW_empty mlG_181 (Or.inl ⟨_, _, _, _, _, rfl, k6, by decide, rfl⟩) rfl rfl (c_empty6 hC hI) (by decide) (Nat.le_refl _) (by decide) (Nat.le_of_ble_eq_true rfl) ?_
    rintro _ _ s1 ⟨rfl, rfl, hC, hS1⟩ -
    refine V_one ?_
    have hS := hS.trans hS1
    refine V_iret dG_book_15 rfl rfl ?_
    have e : q_book M e w y = (0, si M 76 33 0) := by
      skip
      first
      | (simp only [q_book, if_pos c2]; done)
      | (simp [q_book, c2]; done)
      | (simp_all [q_book]; done)
    rw [e]
    exact ⟨rfl, rfl, hC, hS⟩
theorem g_looked {l : Launch} {G : GT} {L : Nat → List Cl} {M σ : Hp} (hC : RC L M σ) (hI : Inv L M) : MM l G mG_looked 7 0 0 [.ref 0] KA σ (PQ L σ (q_looked L M)) := by
  have hR := hC.1
  have hC0 := hC
  have hS : Sm σ σ := Sm.rfl
  refine MM.of (loc := [(0, .ref 0)]) (by decide +kernel) rfl (Nat.le_of_ble_eq_true rfl) ?_
  refine V_aload_n dG_looked_0 rfl ?_
  refine V_getR (a := 60) dG_looked_1 flG_33 k0 rfl (r0_4 hR) ?_
  refine V_callV (as := []) (rest := []) (bs' := 0) rfl dG_looked_4 cmP_firstOtherwise cvP_firstOtherwise mlG_236 (Or.inl ⟨_, _, _, _, _, rfl, k60, by decide, rfl⟩) rfl rfl (c_firstOtherwise hC hI) (by decide) (Nat.le_refl _) (by decide) (Nat.le_of_ble_eq_true rfl) ?_
  rintro _ _ s1 ⟨rfl, rfl, hF1⟩ -
  refine V_one ?_
  have hC := hF1.rc hC
  have hS := hS.trans hF1.sm
  have hR := hC.1
  refine V_iret dG_looked_7 rfl rfl ?_
  have e : q_looked L M = (if firstN (loB L M) (mB M) < mB M then nI (firstN (loB L M) (mB M)) else -5, M) := by
    skip
    first
    | (simp only [q_looked]; done)
    | (simp [q_looked]; done)
    | (simp_all [q_looked]; done)
  rw [e]
  exact ⟨rfl, rfl, hC, hS⟩
theorem m_open {l : Launch} {G : GT} {L : Nat → List Cl} {M σ : Hp} (hM : RM M σ) (hI : Inv L M) (e x : Int32) (hx01 : x = 0 ∨ x = 1) : MM l G mM_open 2 0 0 [.ref 76, .int e, .int x] KA σ (PM σ (q_open M e x)) := by
  have hR := hM.1
  have hM0 := hM
  have hS : Sc σ σ := Sc.rfl
  refine MM.of (loc := [(0, .ref 76), (1, .int e), (2, .int x)]) (by decide +kernel) rfl (Nat.le_of_ble_eq_true rfl) ?_
  refine V_iload_n dM_open_0 rfl ?_
  refine V_iconst (v := -1) dM_open_1 (by decide) ?_
  refine V_icmp_ne (tgt := 12) dM_open_2 rfl (fun c2 => ?_) (fun c2 => ?_)
  · skip
    refine V_aload_n dM_open_12 rfl ?_
    refine V_iload_n dM_open_13 rfl ?_
    refine V_callV (as := [.int e]) (rest := []) (bs' := 0) rfl dM_open_14 cmM_isEnvelope cvM_isEnvelope mlM_217 (Or.inl ⟨_, _, _, _, _, rfl, k76, by decide, rfl⟩) rfl rfl (m_isEnvelope hM hI.pw e) (by decide) (Nat.le_refl _) (by decide) (Nat.le_of_ble_eq_true rfl) ?_
    rintro _ _ _ (⟨hb14, rfl, rfl, rfl⟩ | ⟨hb14, rfl, rfl, rfl⟩) -
    · refine V_one ?_
      refine V_if_ne (tgt := 22) dM_open_17 rfl (fun _ => ?_) (fun h => absurd h (by decide))
      refine V_aload_n dM_open_22 rfl ?_
      refine V_getE (x := nI (mO M)) dM_open_23 flM_102 k76 rfl ((mR hM rfl).trans (iOn hI).1) ?_
      refine V_bipush (v := 8) dM_open_26 (by decide) ?_
      refine V_icmp_ne (tgt := 34) dM_open_28 rfl (fun c28 => ?_) (fun c28 => ?_)
      · skip
        have h28 : mO M < 8 := by have h9 : mO M < 9 := (iOn hI).2; have : ¬ mO M = 8 := fun q => c28 (by rw [q]; rfl); omega
        refine V_aload_n dM_open_34 rfl ?_
        refine V_getR (a := 95) dM_open_35 flM_105 k76 rfl (r76_31 hR) ?_
        refine V_aload_n dM_open_38 rfl ?_
        refine V_getE (x := nI (mO M)) dM_open_39 flM_102 k76 rfl ((mR hM rfl).trans (iOn hI).1) ?_
        refine V_iload_n dM_open_42 rfl ?_
        refine V_iastN (j := mO M) dM_open_43 k95 rfl (by omega) (by decide) ?_
        have hM := RM_set (k := 95) (j := mO M) (x := e) hM
        have hS := hS.set (k := 95) (j := mO M) (x := e) (by omega)
        have hR := hM.1
        refine V_aload_n dM_open_44 rfl ?_
        refine V_getR (a := 96) dM_open_45 flM_108 k76 rfl (r76_32 hR) ?_
        refine V_aload_n dM_open_48 rfl ?_
        refine V_getE (x := nI (mO M)) dM_open_49 flM_102 k76 rfl (by simp only [gi_ne (show (76 : Nat) ≠ 95 by decide), gi_ne (show (76 : Nat) ≠ 96 by decide), gi_ne (show (76 : Nat) ≠ 97 by decide), gi_ne (show (76 : Nat) ≠ 98 by decide), gi_ne (show (76 : Nat) ≠ 99 by decide)]; exact ((mR hM0 rfl).trans (iOn hI).1)) ?_
        refine V_iload_n dM_open_52 rfl ?_
        refine V_zastN (j := mO M) dM_open_53 k96 rfl (by omega) (by decide) hx01 ?_
        have hM := RM_set (k := 96) (j := mO M) (x := x) hM
        have hS := hS.set (k := 96) (j := mO M) (x := x) (by omega)
        have hR := hM.1
        refine V_aload_n dM_open_54 rfl ?_
        refine V_dup dM_open_55 rfl ?_
        refine V_getE (x := nI (mO M)) dM_open_56 flM_102 k76 rfl (by simp only [gi_ne (show (76 : Nat) ≠ 95 by decide), gi_ne (show (76 : Nat) ≠ 96 by decide), gi_ne (show (76 : Nat) ≠ 97 by decide), gi_ne (show (76 : Nat) ≠ 98 by decide), gi_ne (show (76 : Nat) ≠ 99 by decide)]; exact ((mR hM0 rfl).trans (iOn hI).1)) ?_
        refine V_iconst (v := 1) dM_open_59 (by decide) ?_
        refine V_iadd dM_open_60 ?_
        refine V_topI (x' := nI (mO M + 1)) (nI_1 _) ?_
        refine V_putI dM_open_61 flM_102 (fpM_30 _) (Or.inl rfl) k76 rfl ?_
        have hM := RM_set (k := 76) (j := 30) (x := nI (mO M + 1)) hM
        have hS := hS.set (k := 76) (j := 30) (x := nI (mO M + 1)) (by omega)
        have hR := hM.1
        refine V_aload_n dM_open_64 rfl ?_
        refine V_getE (x := nI (mO M + 1)) dM_open_65 flM_102 k76 rfl gi_eq ?_
        refine V_iret dM_open_68 rfl rfl ?_
        have e : q_open M e x = (nI (mO M + 1), si (si (si M 95 (mO M) e) 96 (mO M) x) 76 30 (nI (mO M + 1))) := by
          skip
          first
          | (simp only [q_open, if_neg c2, if_pos hb14, if_pos h28, q_add4]; done)
          | (simp [q_open, c2, hb14, h28, q_add4]; done)
          | (simp_all [q_open, q_add4]; done)
        rw [e]
        exact ⟨rfl, rfl, hM, hS⟩
      · skip
        have h28 : ¬ mO M < 8 := by have := (nI_eq (b := 8) (by have := (iOn hI).2; unfold mO; omega) (by decide)).mp c28; omega
        refine V_bipush (v := -4) dM_open_31 (by decide) ?_
        refine V_iret dM_open_33 rfl rfl ?_
        have e : q_open M e x = ((-4), M) := by
          skip
          first
          | (simp only [q_open, if_neg c2, if_pos hb14, if_neg h28, q_add4]; done)
          | (simp [q_open, c2, hb14, h28, q_add4]; done)
          | (simp_all [q_open, q_add4]; done)
        rw [e]
        exact ⟨rfl, rfl, hM, hS⟩
    · refine V_one ?_
      refine V_if_ne (tgt := 22) dM_open_17 rfl (fun h => absurd h (by decide)) (fun _ => ?_)
      refine V_iconst (v := -1) dM_open_20 (by decide) ?_
      refine V_iret dM_open_21 rfl rfl ?_
      have e : q_open M e x = ((-1), M) := by
        skip
        first
        | (simp only [q_open, if_neg c2, if_neg hb14, q_add4]; done)
        | (simp [q_open, c2, hb14, q_add4]; done)
        | (simp_all [q_open, q_add4]; done)
      rw [e]
      exact ⟨rfl, rfl, hM, hS⟩
  · skip
    refine V_aload_n dM_open_5 rfl ?_
    refine V_iconst (v := 0) dM_open_6 (by decide) ?_
    refine V_putI dM_open_7 flM_102 (fpM_30 _) (Or.inl rfl) k76 rfl ?_
    have hM := RM_set (k := 76) (j := 30) (x := 0) hM
    have hS := hS.set (k := 76) (j := 30) (x := 0) (by omega)
    have hR := hM.1
    refine V_iconst (v := 0) dM_open_10 (by decide) ?_
    refine V_iret dM_open_11 rfl rfl ?_
    have e : q_open M e x = (0, si M 76 30 0) := by
      skip
      first
      | (simp only [q_open, if_pos c2, q_add4]; done)
      | (simp [q_open, c2, q_add4]; done)
      | (simp_all [q_open, q_add4]; done)
    rw [e]
    exact ⟨rfl, rfl, hM, hS⟩
theorem m_book {l : Launch} {G : GT} {L : Nat → List Cl} {M σ : Hp} (hM : RM M σ) (hI : Inv L M) (e w y : Int32) : MM l G mM_book 2 0 0 [.ref 76, .int e, .int w, .int y] KA σ (PM σ (q_book M e w y)) := by
  have hR := hM.1
  have hM0 := hM
  have hS : Sc σ σ := Sc.rfl
  refine MM.of (loc := [(0, .ref 76), (1, .int e), (2, .int w), (3, .int y)]) (by decide +kernel) rfl (Nat.le_of_ble_eq_true rfl) ?_
  refine V_iload_n dM_book_0 rfl ?_
  refine V_iconst (v := -1) dM_book_1 (by decide) ?_
  refine V_icmp_ne (tgt := 12) dM_book_2 rfl (fun c2 => ?_) (fun c2 => ?_)
  · skip
    refine V_aload_n dM_book_12 rfl ?_
    refine V_iload_n dM_book_13 rfl ?_
    refine V_callV (as := [.int e]) (rest := []) (bs' := 0) rfl dM_book_14 cmM_isEnvelope cvM_isEnvelope mlM_217 (Or.inl ⟨_, _, _, _, _, rfl, k76, by decide, rfl⟩) rfl rfl (m_isEnvelope hM hI.pw e) (by decide) (Nat.le_refl _) (by decide) (Nat.le_of_ble_eq_true rfl) ?_
    rintro _ _ _ (⟨hb14, rfl, rfl, rfl⟩ | ⟨hb14, rfl, rfl, rfl⟩) -
    · refine V_one ?_
      refine V_if_eq (tgt := 28) dM_book_17 rfl (fun h => absurd h (by decide)) (fun _ => ?_)
      refine V_aload_n dM_book_20 rfl ?_
      refine V_iload_n dM_book_21 rfl ?_
      refine V_callV (as := [.int w]) (rest := []) (bs' := 0) rfl dM_book_22 cmM_isWorld cvM_isWorld mlM_207 (Or.inl ⟨_, _, _, _, _, rfl, k76, by decide, rfl⟩) rfl rfl (m_isWorld hM hI.pw w) (by decide) (Nat.le_refl _) (by decide) (Nat.le_of_ble_eq_true rfl) ?_
      rintro _ _ _ (⟨hb22, rfl, rfl, rfl⟩ | ⟨hb22, rfl, rfl, rfl⟩) -
      · refine V_one ?_
        refine V_if_ne (tgt := 30) dM_book_25 rfl (fun _ => ?_) (fun h => absurd h (by decide))
        refine V_aload_n dM_book_30 rfl ?_
        refine V_iload_n dM_book_31 rfl ?_
        refine V_iconst (v := 0) dM_book_32 (by decide) ?_
        refine V_sipush (v := 9999) dM_book_33 (by decide) ?_
        refine V_callV (as := [.int y, .int 0, .int 9999]) (rest := []) (bs' := 0) rfl dM_book_36 cmM_in cvM_in mlM_203 (Or.inl ⟨_, _, _, _, _, rfl, k76, by decide, rfl⟩) rfl rfl (m_in y 0 9999) (by decide) (Nat.le_refl _) (by decide) (Nat.le_of_ble_eq_true rfl) ?_
        rintro _ _ _ (⟨hb36, rfl, rfl, rfl⟩ | ⟨hb36, rfl, rfl, rfl⟩) -
        · refine V_one ?_
          refine V_if_ne (tgt := 45) dM_book_39 rfl (fun _ => ?_) (fun h => absurd h (by decide))
          refine V_aload_n dM_book_45 rfl ?_
          refine V_getE (x := nI (mB M)) dM_book_46 flM_111 k76 rfl ((mR hM rfl).trans (iB hI).1) ?_
          refine V_bipush (v := 8) dM_book_49 (by decide) ?_
          refine V_icmp_ne (tgt := 57) dM_book_51 rfl (fun c51 => ?_) (fun c51 => ?_)
          · skip
            have h51 : mB M < 8 := by have h9 : mB M < 9 := (iB hI).2; have : ¬ mB M = 8 := fun q => c51 (by rw [q]; rfl); omega
            refine V_aload_n dM_book_57 rfl ?_
            refine V_getR (a := 97) dM_book_58 flM_114 k76 rfl (r76_34 hR) ?_
            refine V_aload_n dM_book_61 rfl ?_
            refine V_getE (x := nI (mB M)) dM_book_62 flM_111 k76 rfl ((mR hM rfl).trans (iB hI).1) ?_
            refine V_iload_n dM_book_65 rfl ?_
            refine V_iastN (j := mB M) dM_book_66 k97 rfl (by omega) (by decide) ?_
            have hM := RM_set (k := 97) (j := mB M) (x := e) hM
            have hS := hS.set (k := 97) (j := mB M) (x := e) (by omega)
            have hR := hM.1
            refine V_aload_n dM_book_67 rfl ?_
            refine V_getR (a := 98) dM_book_68 flM_117 k76 rfl (r76_35 hR) ?_
            refine V_aload_n dM_book_71 rfl ?_
            refine V_getE (x := nI (mB M)) dM_book_72 flM_111 k76 rfl (by simp only [gi_ne (show (76 : Nat) ≠ 95 by decide), gi_ne (show (76 : Nat) ≠ 96 by decide), gi_ne (show (76 : Nat) ≠ 97 by decide), gi_ne (show (76 : Nat) ≠ 98 by decide), gi_ne (show (76 : Nat) ≠ 99 by decide)]; exact ((mR hM0 rfl).trans (iB hI).1)) ?_
            refine V_iload_n dM_book_75 rfl ?_
            refine V_iastN (j := mB M) dM_book_76 k98 rfl (by omega) (by decide) ?_
            have hM := RM_set (k := 98) (j := mB M) (x := w) hM
            have hS := hS.set (k := 98) (j := mB M) (x := w) (by omega)
            have hR := hM.1
            refine V_aload_n dM_book_77 rfl ?_
            refine V_getR (a := 99) dM_book_78 flM_120 k76 rfl (r76_36 hR) ?_
            refine V_aload_n dM_book_81 rfl ?_
            refine V_getE (x := nI (mB M)) dM_book_82 flM_111 k76 rfl (by simp only [gi_ne (show (76 : Nat) ≠ 95 by decide), gi_ne (show (76 : Nat) ≠ 96 by decide), gi_ne (show (76 : Nat) ≠ 97 by decide), gi_ne (show (76 : Nat) ≠ 98 by decide), gi_ne (show (76 : Nat) ≠ 99 by decide)]; exact ((mR hM0 rfl).trans (iB hI).1)) ?_
            refine V_iload_n dM_book_85 rfl ?_
            refine V_iastN (j := mB M) dM_book_86 k99 rfl (by omega) (by decide) ?_
            have hM := RM_set (k := 99) (j := mB M) (x := y) hM
            have hS := hS.set (k := 99) (j := mB M) (x := y) (by omega)
            have hR := hM.1
            refine V_aload_n dM_book_87 rfl ?_
            refine V_dup dM_book_88 rfl ?_
            refine V_getE (x := nI (mB M)) dM_book_89 flM_111 k76 rfl (by simp only [gi_ne (show (76 : Nat) ≠ 95 by decide), gi_ne (show (76 : Nat) ≠ 96 by decide), gi_ne (show (76 : Nat) ≠ 97 by decide), gi_ne (show (76 : Nat) ≠ 98 by decide), gi_ne (show (76 : Nat) ≠ 99 by decide)]; exact ((mR hM0 rfl).trans (iB hI).1)) ?_
            refine V_iconst (v := 1) dM_book_92 (by decide) ?_
            refine V_iadd dM_book_93 ?_
            refine V_topI (x' := nI (mB M + 1)) (nI_1 _) ?_
            refine V_putI dM_book_94 flM_111 (fpM_33 _) (Or.inl rfl) k76 rfl ?_
            have hM := RM_set (k := 76) (j := 33) (x := nI (mB M + 1)) hM
            have hS := hS.set (k := 76) (j := 33) (x := nI (mB M + 1)) (by omega)
            have hR := hM.1
            refine V_aload_n dM_book_97 rfl ?_
            refine V_getE (x := nI (mB M + 1)) dM_book_98 flM_111 k76 rfl gi_eq ?_
            refine V_iret dM_book_101 rfl rfl ?_
            have e : q_book M e w y = (nI (mB M + 1), si (si (si (si M 97 (mB M) e) 98 (mB M) w) 99 (mB M) y) 76 33 (nI (mB M + 1))) := by
              skip
              first
              | (simp only [q_book, if_neg c2, if_pos hb14, if_pos hb22, if_pos hb36, if_pos h51, q_add6]; done)
              | (simp [q_book, c2, hb14, hb22, hb36, h51, q_add6]; done)
              | (simp_all [q_book, q_add6]; done)
            rw [e]
            exact ⟨rfl, rfl, hM, hS⟩
          · skip
            have h51 : ¬ mB M < 8 := by have := (nI_eq (b := 8) (by have := (iB hI).2; omega) (by decide)).mp c51; omega
            refine V_bipush (v := -4) dM_book_54 (by decide) ?_
            refine V_iret dM_book_56 rfl rfl ?_
            have e : q_book M e w y = ((-4), M) := by
              skip
              first
              | (simp only [q_book, if_neg c2, if_pos hb14, if_pos hb22, if_pos hb36, if_neg h51, q_add6]; done)
              | (simp [q_book, c2, hb14, hb22, hb36, h51, q_add6]; done)
              | (simp_all [q_book, q_add6]; done)
            rw [e]
            exact ⟨rfl, rfl, hM, hS⟩
        · refine V_one ?_
          refine V_if_ne (tgt := 45) dM_book_39 rfl (fun h => absurd h (by decide)) (fun _ => ?_)
          refine V_bipush (v := -2) dM_book_42 (by decide) ?_
          refine V_iret dM_book_44 rfl rfl ?_
          have e : q_book M e w y = ((-2), M) := by
            skip
            first
            | (simp only [q_book, if_neg c2, if_pos hb14, if_pos hb22, if_neg hb36, q_add6]; done)
            | (simp [q_book, c2, hb14, hb22, hb36, q_add6]; done)
            | (simp_all [q_book, q_add6]; done)
          rw [e]
          exact ⟨rfl, rfl, hM, hS⟩
      · refine V_one ?_
        refine V_if_ne (tgt := 30) dM_book_25 rfl (fun h => absurd h (by decide)) (fun _ => ?_)
        refine V_iconst (v := -1) dM_book_28 (by decide) ?_
        refine V_iret dM_book_29 rfl rfl ?_
        have e : q_book M e w y = ((-1), M) := by
          skip
          first
          | (simp only [q_book, if_neg c2, if_pos hb14, if_neg hb22, q_add6]; done)
          | (simp [q_book, c2, hb14, hb22, q_add6]; done)
          | (simp_all [q_book, q_add6]; done)
        rw [e]
        exact ⟨rfl, rfl, hM, hS⟩
    · refine V_one ?_
      refine V_if_eq (tgt := 28) dM_book_17 rfl (fun _ => ?_) (fun h => absurd h (by decide))
      refine V_iconst (v := -1) dM_book_28 (by decide) ?_
      refine V_iret dM_book_29 rfl rfl ?_
      have e : q_book M e w y = ((-1), M) := by
        skip
        first
        | (simp only [q_book, if_neg c2, if_neg hb14, q_add6]; done)
        | (simp [q_book, c2, hb14, q_add6]; done)
        | (simp_all [q_book, q_add6]; done)
      rw [e]
      exact ⟨rfl, rfl, hM, hS⟩
  · skip
    refine V_aload_n dM_book_5 rfl ?_
    refine V_iconst (v := 0) dM_book_6 (by decide) ?_
    refine V_putI dM_book_7 flM_111 (fpM_33 _) (Or.inl rfl) k76 rfl ?_
    have hM := RM_set (k := 76) (j := 33) (x := 0) hM
    have hS := hS.set (k := 76) (j := 33) (x := 0) (by omega)
    have hR := hM.1
    refine V_iconst (v := 0) dM_book_10 (by decide) ?_
    refine V_iret dM_book_11 rfl rfl ?_
    have e : q_book M e w y = (0, si M 76 33 0) := by
      skip
      first
      | (simp only [q_book, if_pos c2, q_add6]; done)
      | (simp [q_book, c2, q_add6]; done)
      | (simp_all [q_book, q_add6]; done)
    rw [e]
    exact ⟨rfl, rfl, hM, hS⟩
theorem m_looked {l : Launch} {G : GT} {L : Nat → List Cl} {M σ : Hp} (hM : RM M σ) (hI : Inv L M) : MM l G mM_looked 7 0 0 [.ref 76] KA σ (PM σ (q_looked L M)) := by
  have hR := hM.1
  have hM0 := hM
  have hS : Sc σ σ := Sc.rfl
  refine MM.of (loc := [(0, .ref 76)]) (by decide +kernel) rfl (Nat.le_of_ble_eq_true rfl) ?_
  refine V_iconst (v := 0) dM_looked_0 (by decide) ?_
  refine V_istore_n (loc' := [(1, .int 0), (0, .ref 76)]) dM_looked_1 (by decide) rfl ?_
  refine V.locs (loc' := [(1, .int 0), (0, .ref 76)]) [0, 1] rfl ?_
  refine V_eqL (loc' := [(1, .int (nI 0)), (0, .ref 76)]) ?_ ?_
  · first | rfl | simp
  have lp : ∀ n : Nat, n ≤ (mB M) → firstN (loB L M) n = n → ∀ s : Hp, RM M s → Sc σ s → V l G mM_looked (rmd 7 0 0) (KA.length + 0) 0 2 [(1, .int (nI n)), (0, .ref 76)] [] KA s (PM σ (q_looked L M)) := by
    refine lp_up (mB M) ?_ (fun n hn ihn => ?_)
    · skip
      intro hN
      intro s hM hS
      have hR := hM.1
      refine V_iload_n dM_looked_2 rfl ?_
      refine V_aload_n dM_looked_3 rfl ?_
      refine V_getE (x := nI (mB M)) dM_looked_4 flM_111 k76 rfl ((mR hM rfl).trans (iB hI).1) ?_
      refine V_icmp_ge (tgt := 43) dM_looked_7 rfl (fun _ => ?_) (fun h => absurd h (not_not_intro (nI_le (Nat.le_refl _) (by have := (iB hI).2; omega))))
      refine V_bipush (v := -5) dM_looked_43 (by decide) ?_
      exact V_iret dM_looked_45 rfl rfl ⟨by rw [q_looked, hN, if_neg (by omega)], rfl, hM, hS⟩
    · skip
      intro hN
      intro s hM hS
      have hR := hM.1
      refine V_iload_n dM_looked_2 rfl ?_
      refine V_aload_n dM_looked_3 rfl ?_
      refine V_getE (x := nI (mB M)) dM_looked_4 flM_111 k76 rfl ((mR hM rfl).trans (iB hI).1) ?_
      refine V_icmp_ge (tgt := 43) dM_looked_7 rfl (fun h => absurd h (nI_ge hn (by have := (iB hI).2; omega))) (fun _ => ?_)
      refine V_aload_n dM_looked_10 rfl ?_
      refine V_aload_n dM_looked_11 rfl ?_
      refine V_getR (a := 97) dM_looked_12 flM_114 k76 rfl (r76_34 hR) ?_
      refine V_iload_n dM_looked_15 rfl ?_
      refine V_ialdN (j := n) dM_looked_16 k97 rfl (by have := (iB hI).2; omega) (by decide) ?_
      refine V_topI (x' := gi M 97 n) (mR hM rfl) ?_
      refine V_topI (x' := nI (cN (gi M 97 n))) (iBk hI hn).1.1 ?_
      refine V_aload_n dM_looked_17 rfl ?_
      refine V_getR (a := 98) dM_looked_18 flM_117 k76 rfl (r76_35 hR) ?_
      refine V_iload_n dM_looked_21 rfl ?_
      refine V_ialdN (j := n) dM_looked_22 k98 rfl (by have := (iB hI).2; omega) (by decide) ?_
      refine V_topI (x' := gi M 98 n) (mR hM rfl) ?_
      refine V_topI (x' := nI (cN (gi M 98 n))) (iBk hI hn).2.1.1 ?_
      refine V_callV (as := [.int (nI (cN (gi M 97 n))), .int (nI (cN (gi M 98 n)))]) (rest := []) (bs' := 0) rfl dM_looked_23 cmM_payOf cvM_payOf mlM_311 (Or.inl ⟨_, _, _, _, _, rfl, k76, by decide, rfl⟩) rfl rfl (m_payOf hM hI.pw (lt9 hI (iBk hI hn).1.2) (iBk hI hn).2.1.2 (hI.ps (iBk hI hn).1.2) (by have := (iD hI).2; omega)) (by decide) (Nat.le_refl _) (by decide) (Nat.le_of_ble_eq_true rfl) ?_
      rintro _ _ s1 ⟨rfl, rfl, hF1⟩ -
      refine V_one ?_
      have hM := hF1.rm hM
      have hS := hS.trans hF1.sc
      have hR := hM.1
      refine V_aload_n dM_looked_26 rfl ?_
      refine V_getR (a := 99) dM_looked_27 flM_120 k76 rfl (r76_36 hR) ?_
      refine V_iload_n dM_looked_30 rfl ?_
      refine V_ialdN (j := n) dM_looked_31 k99 rfl (by have := (iB hI).2; omega) (by decide) ?_
      refine V_topI (x' := gi M 99 n) (mR hM rfl) ?_
      refine V_icmp_eq (tgt := 37) dM_looked_32 rfl (fun c32 => ?_) (fun c32 => ?_)
      · skip
        refine V_iinc (v := nI (n + 1)) (loc' := [(1, .int (nI (n + 1))), (0, .ref 76)]) dM_looked_37 rfl (nI_inc n) (by decide) rfl ?_
        refine V_goto (tgt := 2) dM_looked_40 rfl ?_
        refine V.locs (loc' := [(1, .int (nI (n + 1))), (0, .ref 76)]) [0, 1] rfl ?_
        exact (ihn (firstN_s hN (decide_eq_false (not_not_intro c32))) _ hM hS)
      · skip
        refine V_iload_n dM_looked_35 rfl ?_
        exact V_iret dM_looked_36 rfl rfl ⟨by rw [q_looked, firstN_t hN (decide_eq_true c32) _ hn, if_pos hn], rfl, hM, hS⟩
  exact lp 0 (Nat.zero_le _) rfl  _ hM hS
