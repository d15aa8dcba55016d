/-! one cell set on both sides -/
theorem mp_rng {k j a b : Nat} (h : mp k j = some (a, b)) : k < 76 := by
  unfold mp at h
  by_cases q : 76 ≤ k ∨ 100 ≤ j
  · rw [if_pos q] at h; cases h
  · omega
theorem mp_no {k j : Nat} (hk : 50 ≤ k ∧ k < 64) : mp k j = none := by
  unfold mp
  by_cases q : 76 ≤ k ∨ 100 ≤ j
  · rw [if_pos q]
  · rw [if_neg q]
    repeat rw [if_neg (by omega)]
theorem mp_n0 : ∀ n : Nat, n < 8 → mp (8 + 2 * n) 0 = none ∧ mp (31 + 2 * n) 0 = none := by decide
theorem RC_set {L : Nat → List Cl} {M σ : Hp} {k j a b : Nat} {x : Int32} (hC : RC L M σ) (h : mp k j = some (a, b)) (hne : ¬ (a = 76 ∧ b = 11)) : RC L (si M a b x) (si σ k j x) := by
  obtain ⟨h1, h2, h3, h4, h5⟩ := hC
  refine ⟨h1, fun k' j' a' b' h' => ?_, fun n hn => ?_, h4, fun f hf hf' => ?_⟩
  · by_cases e : k' = k ∧ j' = j
    · obtain ⟨rfl, rfl⟩ := e
      rw [h] at h'
      obtain ⟨rfl, rfl⟩ := Prod.mk.injEq _ _ _ _ ▸ Option.some.inj h'
      rw [gi_eq, gi_eq]
    · have e2 : ¬ (a' = a ∧ b' = b) := by
        rintro ⟨rfl, rfl⟩
        exact e ((mp_inj h' h))
      have g1 : gi (si σ k j x) k' j' = gi σ k' j' := by simp [gi, si, e]
      have g2 : gi (si M a b x) a' b' = gi M a' b' := by simp [gi, si, e2]
      rw [g1, g2]
      exact h2 k' j' a' b' h'
  · have e1 : ¬ (8 + 2 * n = k ∧ 0 = j) := by
      rintro ⟨rfl, rfl⟩
      rw [(mp_n0 n hn).1] at h
      cases h
    have e2 : ¬ (31 + 2 * n = k ∧ 0 = j) := by
      rintro ⟨rfl, rfl⟩
      rw [(mp_n0 n hn).2] at h
      cases h
    have g1 : gi (si σ k j x) (8 + 2 * n) 0 = gi σ (8 + 2 * n) 0 := by simp only [gi, si, if_neg e1]
    have g2 : gi (si σ k j x) (31 + 2 * n) 0 = gi σ (31 + 2 * n) 0 := by simp only [gi, si, if_neg e2]
    rw [g1, g2]
    exact h3 n hn
  · have g0 : gi (si M a b x) 76 11 = gi M 76 11 := by
      have : ¬ (76 = a ∧ 11 = b) := fun q => hne ⟨q.1.symm, q.2.symm⟩
      simp only [gi, si, if_neg this]
    have hk : ∀ k' j', 50 ≤ k' → k' < 64 → gi (si σ k j x) k' j' = gi σ k' j' := by
      intro k' j' q1 q2
      refine gi_ne ?_
      rintro rfl
      rw [mp_no ⟨q1, q2⟩] at h
      cases h
    rw [g0] at hf'
    obtain ⟨g1, ops, g2, g3, g4, g5⟩ := h5 f hf hf'
    exact ⟨(hk _ _ (by omega) (by omega)).trans g1, ops, g2, (hk _ _ (by omega) (by omega)).trans g3, fun j op hj => ⟨(hk _ _ (by omega) (by omega)).trans (g4 j op hj).1, (g4 j op hj).2⟩, g5⟩
theorem RM_set {M σ : Hp} {k j : Nat} {x : Int32} (hM : RM M σ) : RM (si M k j x) (si σ k j x) := by
  refine ⟨hM.1, fun k' j' h => ⟨?_, (hM.2 k' j' h).2⟩⟩
  by_cases e : k' = k ∧ j' = j
  · obtain ⟨rfl, rfl⟩ := e
    rw [gi_eq, gi_eq]
  · have g1 : gi (si σ k j x) k' j' = gi σ k' j' := by simp [gi, si, e]
    have g2 : gi (si M k j x) k' j' = gi M k' j' := by simp [gi, si, e]
    rw [g1, g2]
    exact (hM.2 k' j' h).1
theorem Sm.rfl {σ : Hp} : Sm σ σ := fun _ _ _ => ⟨Eq.refl _, Eq.refl _⟩
theorem Sc.rfl {σ : Hp} : Sc σ σ := fun _ _ _ => ⟨Eq.refl _, Eq.refl _⟩
theorem Sm.trans {σ s t : Hp} (h : Sm σ s) (g : Sm s t) : Sm σ t := fun k j hk => ⟨(g k j hk).1.trans (h k j hk).1, (g k j hk).2.trans (h k j hk).2⟩
theorem Sc.trans {σ s t : Hp} (h : Sc σ s) (g : Sc s t) : Sc σ t := fun k j hk => ⟨(g k j hk).1.trans (h k j hk).1, (g k j hk).2.trans (h k j hk).2⟩
theorem Sm.set {σ s : Hp} {k j : Nat} {x : Int32} (h : Sm σ s) (hk : k < 76) : Sm σ (si s k j x) := fun k' j' h' => ⟨(gi_ne (by omega)).trans (h k' j' h').1, (h k' j' h').2⟩
theorem Sc.set {σ s : Hp} {k j : Nat} {x : Int32} (h : Sc σ s) (hk : 76 ≤ k) : Sc σ (si s k j x) := fun k' j' h' => ⟨(gi_ne (by omega)).trans (h k' j' h').1, (h k' j' h').2⟩
/-- what a public method of the first, of the second object hands back -/
def PQ (L : Nat → List Cl) (σ : Hp) (q : Int32 × Hp) : Option Value → List Kd → Hp → Prop := fun r k s => r = some (.int q.1) ∧ KA = k ∧ RC L q.2 s ∧ Sm σ s
def PM (σ : Hp) (q : Int32 × Hp) : Option Value → List Kd → Hp → Prop := fun r k s => r = some (.int q.1) ∧ KA = k ∧ RM q.2 s ∧ Sc σ s
def PQl (L : Nat → List Cl) (σ : Hp) (q : Int64 × Hp) : Option Value → List Kd → Hp → Prop := fun r k s => r = some (.long q.1) ∧ KA = k ∧ RC L q.2 s ∧ Sm σ s
def PMl (σ : Hp) (q : Int64 × Hp) : Option Value → List Kd → Hp → Prop := fun r k s => r = some (.long q.1) ∧ KA = k ∧ RM q.2 s ∧ Sc σ s
theorem le_pred (x : Int32) {n : Nat} (hn : n < 2 ^ 31) : (0 ≤ x ∧ x ≤ nI n - 1) ↔ rng x n := by
  unfold rng
  have h : 0 ≤ x → (x ≤ nI n - 1 ↔ x < nI n) := by
    intro h0
    rcases Nat.eq_zero_or_pos n with rfl | h1
    · constructor
      · intro q
        have := Int32.le_trans h0 q
        exact absurd this (by decide)
      · intro q
        exact absurd (Int32.lt_of_le_of_lt h0 q) (by decide)
    · obtain ⟨m, rfl⟩ : ∃ m, n = m + 1 := ⟨n - 1, by omega⟩
      rw [nI_pred]
      obtain ⟨j, hj, rfl⟩ := nI_of (Int32.not_lt.mpr h0)
      rw [nI_leI hj (by omega), nI_ltI hj hn]
      omega
  exact ⟨fun q => ⟨q.1, (h q.1).mp q.2⟩, fun q => ⟨q.1, (h q.1).mpr q.2⟩⟩
theorem shr_0 (x : Int32) {n : Nat} (hn : n < 31) : x >>> (nI n &&& 31) = 0 ↔ rng x (2 ^ n) := by
  have hp : 2 ^ n < 2 ^ 31 := Nat.pow_lt_pow_right (by decide) hn
  have h1 : (x >>> (nI n &&& 31)).toInt = x.toInt / 2 ^ n := by
    rw [pk_shr x (nI n &&& 31) n (s_l n (by omega)), Int.shiftRight_eq_div_pow]
    rfl
  unfold rng
  rw [← Int32.toInt_inj, h1, Int32.le_iff_toInt_le, Int32.lt_iff_toInt_lt, nI_toInt hp]
  show x.toInt / 2 ^ n = 0 ↔ 0 ≤ x.toInt ∧ x.toInt < _
  have hpos : (0 : Int) < 2 ^ n := by exact_mod_cast Nat.pos_of_ne_zero (by simp)
  constructor
  · intro h
    refine ⟨?_, ?_⟩
    · apply Int.not_lt.mp
      intro q
      have := Int.ediv_neg_of_neg_of_pos q hpos
      omega
    · apply Int.not_le.mp
      intro q
      have : 1 ≤ x.toInt / 2 ^ n := by
        rw [Int.le_ediv_iff_mul_le hpos]
        push_cast at q
        omega
      omega
  · rintro ⟨a, b⟩
    exact Int.ediv_eq_zero_of_lt a (by exact_mod_cast b)
theorem m_isWorld {l : Launch} {G : GT} {L : Nat → List Cl} {M σ : Hp} (hM : RM M σ) (hP : Pw L M) (x : Int32) : MM l G mM_isWorld 1 0 0 [.ref 76, .int x] KA σ (PZ (rng x (mW M)) KA σ) := by
  have hR := hM.1
  refine MM.of (loc := [(0, .ref 76), (1, .int x)]) (by decide +kernel) rfl (Nat.le_of_ble_eq_true rfl) ?_
  refine V_aload_n dM_isWorld_0 rfl ?_
  refine V_iload_n dM_isWorld_1 rfl ?_
  refine V_iconst (v := 0) dM_isWorld_2 (by decide) ?_
  refine V_aload_n dM_isWorld_3 rfl ?_
  refine V_getE (x := nI (mW M)) dM_isWorld_4 flM_7 k76 rfl ((mR hM rfl).trans hP.w.1) ?_
  refine V_iconst (v := 1) dM_isWorld_7 (by decide) ?_
  refine V_isub dM_isWorld_8 ?_
  refine V_callV (as := [.int x, .int 0, .int ((nI (mW M)) - 1)]) (rest := []) (bs' := 0) rfl dM_isWorld_9 cmM_in cvM_in mlM_203 (Or.inl ⟨_, _, _, _, _, rfl, k76, by decide, rfl⟩) rfl rfl (m_in x 0 ((nI (mW M)) - 1)) (by decide) (Nat.le_refl _) (by decide) (Nat.le_of_ble_eq_true rfl) ?_
  rintro _ _ _ (⟨hb, rfl, rfl, rfl⟩ | ⟨hb, rfl, rfl, rfl⟩) -
  · refine V_one ?_
    exact V_zret dM_isWorld_12 rfl rfl rfl (Or.inl ⟨(le_pred x (by have := hP.w.2; omega)).mp hb, rfl, rfl, rfl⟩)
  · refine V_one ?_
    exact V_zret dM_isWorld_12 rfl rfl rfl (Or.inr ⟨fun q => hb ((le_pred x (by have := hP.w.2; omega)).mpr q), rfl, rfl, rfl⟩)
theorem m_isEnvelope {l : Launch} {G : GT} {L : Nat → List Cl} {M σ : Hp} (hM : RM M σ) (hP : Pw L M) (x : Int32) : MM l G mM_isEnvelope 1 0 0 [.ref 76, .int x] KA σ (PZ (rng x (mE M)) KA σ) := by
  have hR := hM.1
  refine MM.of (loc := [(0, .ref 76), (1, .int x)]) (by decide +kernel) rfl (Nat.le_of_ble_eq_true rfl) ?_
  refine V_aload_n dM_isEnvelope_0 rfl ?_
  refine V_iload_n dM_isEnvelope_1 rfl ?_
  refine V_iconst (v := 0) dM_isEnvelope_2 (by decide) ?_
  refine V_aload_n dM_isEnvelope_3 rfl ?_
  refine V_getE (x := nI (mE M)) dM_isEnvelope_4 flM_13 k76 rfl ((mR hM rfl).trans hP.e.1) ?_
  refine V_iconst (v := 1) dM_isEnvelope_7 (by decide) ?_
  refine V_isub dM_isEnvelope_8 ?_
  refine V_callV (as := [.int x, .int 0, .int ((nI (mE M)) - 1)]) (rest := []) (bs' := 0) rfl dM_isEnvelope_9 cmM_in cvM_in mlM_203 (Or.inl ⟨_, _, _, _, _, rfl, k76, by decide, rfl⟩) rfl rfl (m_in x 0 ((nI (mE M)) - 1)) (by decide) (Nat.le_refl _) (by decide) (Nat.le_of_ble_eq_true rfl) ?_
  rintro _ _ _ (⟨hb, rfl, rfl, rfl⟩ | ⟨hb, rfl, rfl, rfl⟩) -
  · refine V_one ?_
    exact V_zret dM_isEnvelope_12 rfl rfl rfl (Or.inl ⟨(le_pred x (by have := hP.e.2; omega)).mp hb, rfl, rfl, rfl⟩)
  · refine V_one ?_
    exact V_zret dM_isEnvelope_12 rfl rfl rfl (Or.inr ⟨fun q => hb ((le_pred x (by have := hP.e.2; omega)).mpr q), rfl, rfl, rfl⟩)
theorem sh1 : ∀ n : Nat, n < 9 → (1 : Int32) <<< (nI n &&& 31) = nI (2 ^ n) := by decide +kernel
theorem le_pw (x : Int32) {n : Nat} (hn : n < 9) : (0 ≤ x ∧ x ≤ (1 : Int32) <<< (nI n &&& 31) - 1) ↔ rng x (2 ^ n) := by
  rw [sh1 n hn]
  exact le_pred x (by have : 2 ^ n ≤ 2 ^ 9 := Nat.pow_le_pow_right (by decide) (by omega); omega)
theorem m_isSaying {l : Launch} {G : GT} {L : Nat → List Cl} {M σ : Hp} (hM : RM M σ) (hP : Pw L M) (x : Int32) : MM l G mM_isSaying 1 0 0 [.ref 76, .int x] KA σ (PZ (rng x (2 ^ mW M)) KA σ) := by
  have hR := hM.1
  refine MM.of (loc := [(0, .ref 76), (1, .int x)]) (by decide +kernel) rfl (Nat.le_of_ble_eq_true rfl) ?_
  refine V_aload_n dM_isSaying_0 rfl ?_
  refine V_iload_n dM_isSaying_1 rfl ?_
  refine V_iconst (v := 0) dM_isSaying_2 (by decide) ?_
  refine V_iconst (v := 1) dM_isSaying_3 (by decide) ?_
  refine V_aload_n dM_isSaying_4 rfl ?_
  refine V_getE (x := nI (mW M)) dM_isSaying_5 flM_7 k76 rfl ((mR hM rfl).trans hP.w.1) ?_
  refine V_ishl dM_isSaying_8 ?_
  refine V_iconst (v := 1) dM_isSaying_9 (by decide) ?_
  refine V_isub dM_isSaying_10 ?_
  refine V_callV (as := [.int x, .int 0, .int ((1 <<< ((nI (mW M)) &&& 31)) - 1)]) (rest := []) (bs' := 0) rfl dM_isSaying_11 cmM_in cvM_in mlM_203 (Or.inl ⟨_, _, _, _, _, rfl, k76, by decide, rfl⟩) rfl rfl (m_in x 0 ((1 <<< ((nI (mW M)) &&& 31)) - 1)) (by decide) (Nat.le_refl _) (by decide) (Nat.le_of_ble_eq_true rfl) ?_
  rintro _ _ _ (⟨hb, rfl, rfl, rfl⟩ | ⟨hb, rfl, rfl, rfl⟩) -
  · refine V_one ?_
    exact V_zret dM_isSaying_14 rfl rfl rfl (Or.inl ⟨(le_pw x (by have := hP.w.2; omega)).mp hb, rfl, rfl, rfl⟩)
  · refine V_one ?_
    exact V_zret dM_isSaying_14 rfl rfl rfl (Or.inr ⟨fun q => hb ((le_pw x (by have := hP.w.2; omega)).mpr q), rfl, rfl, rfl⟩)
theorem m_isSet {l : Launch} {G : GT} {L : Nat → List Cl} {M σ : Hp} (hM : RM M σ) (hP : Pw L M) (x : Int32) : MM l G mM_isSet 1 0 0 [.ref 76, .int x] KA σ (PZ (rng x (2 ^ mE M)) KA σ) := by
  have hR := hM.1
  refine MM.of (loc := [(0, .ref 76), (1, .int x)]) (by decide +kernel) rfl (Nat.le_of_ble_eq_true rfl) ?_
  refine V_aload_n dM_isSet_0 rfl ?_
  refine V_iload_n dM_isSet_1 rfl ?_
  refine V_iconst (v := 0) dM_isSet_2 (by decide) ?_
  refine V_iconst (v := 1) dM_isSet_3 (by decide) ?_
  refine V_aload_n dM_isSet_4 rfl ?_
  refine V_getE (x := nI (mE M)) dM_isSet_5 flM_13 k76 rfl ((mR hM rfl).trans hP.e.1) ?_
  refine V_ishl dM_isSet_8 ?_
  refine V_iconst (v := 1) dM_isSet_9 (by decide) ?_
  refine V_isub dM_isSet_10 ?_
  refine V_callV (as := [.int x, .int 0, .int ((1 <<< ((nI (mE M)) &&& 31)) - 1)]) (rest := []) (bs' := 0) rfl dM_isSet_11 cmM_in cvM_in mlM_203 (Or.inl ⟨_, _, _, _, _, rfl, k76, by decide, rfl⟩) rfl rfl (m_in x 0 ((1 <<< ((nI (mE M)) &&& 31)) - 1)) (by decide) (Nat.le_refl _) (by decide) (Nat.le_of_ble_eq_true rfl) ?_
  rintro _ _ _ (⟨hb, rfl, rfl, rfl⟩ | ⟨hb, rfl, rfl, rfl⟩) -
  · refine V_one ?_
    exact V_zret dM_isSet_14 rfl rfl rfl (Or.inl ⟨(le_pw x hP.e.2).mp hb, rfl, rfl, rfl⟩)
  · refine V_one ?_
    exact V_zret dM_isSet_14 rfl rfl rfl (Or.inr ⟨fun q => hb ((le_pw x hP.e.2).mpr q), rfl, rfl, rfl⟩)
theorem m_isPrice {l : Launch} {G : GT} {L : Nat → List Cl} {M σ : Hp} (hM : RM M σ) (hP : Pw L M) (x : Int32) : MM l G mM_isPrice 1 0 0 [.ref 76, .int x] KA σ (PZ (0 ≤ x ∧ x ≤ 99) KA σ) := by
  have hR := hM.1
  refine MM.of (loc := [(0, .ref 76), (1, .int x)]) (by decide +kernel) rfl (Nat.le_of_ble_eq_true rfl) ?_
  refine V_aload_n dM_isPrice_0 rfl ?_
  refine V_iload_n dM_isPrice_1 rfl ?_
  refine V_iconst (v := 0) dM_isPrice_2 (by decide) ?_
  refine V_bipush (v := 99) dM_isPrice_3 (by decide) ?_
  refine V_callV (as := [.int x, .int 0, .int 99]) (rest := []) (bs' := 0) rfl dM_isPrice_5 cmM_in cvM_in mlM_203 (Or.inl ⟨_, _, _, _, _, rfl, k76, by decide, rfl⟩) rfl rfl (m_in x 0 99) (by decide) (Nat.le_refl _) (by decide) (Nat.le_of_ble_eq_true rfl) ?_
  rintro _ _ _ (⟨hb, rfl, rfl, rfl⟩ | ⟨hb, rfl, rfl, rfl⟩) -
  · refine V_one ?_
    exact V_zret dM_isPrice_8 rfl rfl rfl (Or.inl ⟨Iff.rfl.mp hb, rfl, rfl, rfl⟩)
  · refine V_one ?_
    exact V_zret dM_isPrice_8 rfl rfl rfl (Or.inr ⟨fun q => hb (Iff.rfl.mpr q), rfl, rfl, rfl⟩)
