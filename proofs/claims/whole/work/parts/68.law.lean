/-! law: what it answers, what it leaves -/
def fe (M : Hp) : Nat := cN (gi M 76 11)
def chM (M : Hp) (p : Nat) : Nat := if p < mF M then cN (gi M 84 p) else 255
def lwM (M : Hp) : Rw := lwP (chM M) (mF M) 10 0 0 10 [] []
def aL (M : Hp) : Int32 := if fe M = 6 then -4 else if (lwM M).1 = true then nI (fe M) else -10 - nI (lwM M).2.1
def LSt (L : Nat → List Cl) (M : Hp) (L' : Nat → List Cl) (M' : Hp) : Prop := Inv L' M' ∧ Bo M' ∧ if fe M = 6 then L' = L ∧ M' = M else
  (∀ k j, cnt k j = true → ¬ (85 ≤ k ∧ k ≤ 90) → ¬ (k = 76 ∧ (j = 11 ∨ j = 12 ∨ j = 13)) → gi M' k j = gi M k j) ∧ (∀ k j, cnt k j = true → gl M' k j = gl M k j) ∧ gi M' 76 13 = 0 ∧
  (if (lwM M).1 = true then gi M' 76 11 = nI (fe M + 1) ∧ gi M' 76 12 = nI (fe M) ∧ L' = (fun f => if f = fe M then (lwM M).2.2.2.2.map clL else L f) else gi M' 76 11 = gi M 76 11 ∧ gi M' 76 12 = gi M 76 12 ∧ L' = L)
section LAWS
variable {L : Nat → List Cl} {M : Hp}
theorem iL (hI : Inv L M) : gi M 76 11 = nI (fe M) ∧ fe M < 7 := hI.1
theorem chM_255 {q : Nat} (h : mF M ≤ q) : chM M q = 255 := if_neg (by omega)
theorem chM_lt (hI : Inv L M) {q : Nat} (h : q < mF M) : gi M 84 q = nI (chM M q) ∧ chM M q < 128 := by
  have h1 := (iF hI).2
  have h2 := hI.2.2.2.2.2.1 q (by omega)
  have e : chM M q = cN (gi M 84 q) := if_pos h
  rw [e]
  exact h2
theorem lwM_gd (hI : Inv L M) : LwO (mF M) (lwM M) := lw_gd (fun _ h => chM_255 h) 10 0 0 10 [] [] rfl rfl (Nat.zero_le _) LwI.nil
end LAWS
/-- the first object, behind a law that was read -/
def EN (σ t : Hp) (f : Nat) (r : Rw) : Prop := (∀ k j, ¬ (k = 47 ∧ (j = 1 ∨ j = 2)) → k ≠ 50 + f → ¬ ((k = 56 ∨ k = 57) ∧ j = f) → k ≠ 58 → gi t k j = gi σ k j) ∧ (∀ k j, gl t k j = gl σ k j) ∧ (∀ k j, ¬ (k = 58 ∧ j = 2) → gr t k j = gr σ k j) ∧ gi t 47 1 = 0 ∧
  (if r.1 = true then gi t 47 2 = nI (f + 1) ∧ gi t 56 f = nI r.2.2.2.1.length ∧ gi t 57 f = nI r.2.2.1 ∧ ∀ j op, r.2.2.2.1[j]? = some op → gi t (50 + f) j = encC op else gi t 47 2 = gi σ 47 2)
theorem mp_58 : (List.range 76).all (fun k => (List.range 100).all (fun j => decide ((50 ≤ k ∧ k ≤ 58) → mp k j = none) && decide (k = 47 → (mp k j = none ∨ j = 1 ∨ j = 2)) && (match mp k j with | none => true | some q => cnt q.1 q.2 && decide (¬ (85 ≤ q.1 ∧ q.1 ≤ 90)) && decide (q.1 = 76 → q.2 = 11 → k = 47 ∧ j = 2) && decide (q.1 = 76 → q.2 = 12 → k = 1 ∧ j = 6) && decide (q.1 = 76 → q.2 = 13 → k = 47 ∧ j = 1)))) = true := by decide +kernel
theorem mp_5 {k j a b : Nat} (h : mp k j = some (a, b)) : ¬ (50 ≤ k ∧ k ≤ 58) ∧ (k = 47 → j = 1 ∨ j = 2) ∧ cnt a b = true ∧ ¬ (85 ≤ a ∧ a ≤ 90) ∧ (a = 76 → b = 11 → k = 47 ∧ j = 2) ∧ (a = 76 → b = 12 → k = 1 ∧ j = 6) ∧ (a = 76 → b = 13 → k = 47 ∧ j = 1) := by
  obtain ⟨h1, h2⟩ := mp_lt h
  have h3 := List.all_eq_true.mp (List.all_eq_true.mp mp_58 k (List.mem_range.mpr h1)) j (List.mem_range.mpr h2)
  rw [h] at h3
  simp only [Bool.and_eq_true, decide_eq_true_eq] at h3
  obtain ⟨⟨g1, g2⟩, ⟨⟨⟨g3, g4⟩, g5⟩, g6⟩, g7⟩ := h3
  refine ⟨fun hk => ?_, fun hk => ?_, g3, g4, g5, g6, g7⟩
  · have := g1 hk
    cases this
  · rcases g2 hk with h | h
    · cases h
    · exact h
theorem mp_16 : mp 1 6 = some (76, 12) ∧ mp 47 1 = some (76, 13) ∧ mp 47 2 = some (76, 11) := ⟨rfl, rfl, rfl⟩
/-- the first object holds what law leaves -/
theorem RC_law {L L' : Nat → List Cl} {M M' σ t : Hp} {x : Int32} (hC : RC L M σ) (hI : Inv L M) (h6 : ¬ fe M = 6) (hE : EN σ t (fe M) (lwM M)) (hx : x = if (lwM M).1 = true then nI (fe M) else gi σ 1 6) (hS : LSt L M L' M') : RC L' M' (si t 1 6 x) := by
  obtain ⟨c1, c2, c3, c4, c5⟩ := hC
  obtain ⟨e1, e2, e3, e4, e5⟩ := hE
  obtain ⟨s1, s2, s3⟩ := hS
  rw [if_neg h6] at s3
  obtain ⟨s4, s5, s6, s7⟩ := s3
  have hfe : fe M < 6 := by have := (iL hI).2; omega
  have hO := lwM_gd hI
  have gt : ∀ k j, ¬ (k = 1 ∧ j = 6) → gi (si t 1 6 x) k j = gi t k j := fun k j h => by simp [gi, si, h]
  refine ⟨fun q hq => (e3 _ _ (grl_58 q hq)).trans (c1 q hq), fun k j a b hk => ?_, fun n hn => ?_, fun t' i ht hi => ?_, fun f hf hf' => ?_⟩
  · obtain ⟨m1, m2, m3, m4, m5, m6, m7⟩ := mp_5 hk
    by_cases h16 : k = 1 ∧ j = 6
    · obtain ⟨rfl, rfl⟩ := h16
      rw [mp_16.1] at hk
      cases hk
      rw [gi_eq, hx]
      by_cases ho : (lwM M).1 = true
      · rw [if_pos ho] at s7 ⊢
        exact s7.2.1.symm
      · rw [if_neg ho] at s7 ⊢
        rw [s7.2.1]
        exact c2 1 6 76 12 rfl
    · rw [gt k j h16]
      by_cases h47 : k = 47
      · subst h47
        rcases m2 rfl with rfl | rfl
        · rw [mp_16.2.1] at hk
          cases hk
          rw [e4, s6]
        · rw [mp_16.2.2] at hk
          cases hk
          by_cases ho : (lwM M).1 = true
          · rw [if_pos ho] at s7 e5
            rw [e5.1, s7.1]
          · rw [if_neg ho] at s7 e5
            rw [e5, s7.1]
            exact c2 47 2 76 11 rfl
      · rw [e1 k j (by omega) (by omega) (by omega) (by omega), c2 k j a b hk]
        refine (s4 a b m3 m4 ?_).symm
        rintro ⟨ha, hb | hb | hb⟩
        · exact h47 (m5 ha hb).1
        · exact h16 (m6 ha hb)
        · exact h47 (m7 ha hb).1
  · rw [gt _ _ (by omega), gt _ _ (by omega), e1 _ _ (by omega) (by omega) (by omega) (by omega), e1 _ _ (by omega) (by omega) (by omega) (by omega)]
    exact c3 n hn
  · show gl t (70 + t') i = gl M' 115 (60 * t' + i)
    rw [e2, c4 t' i ht hi]
    exact (s5 115 _ rfl).symm
  · rw [gt 57 f (by omega), gt 56 f (by omega)]
    have g50 : ∀ j, gi (si t 1 6 x) (50 + f) j = gi t (50 + f) j := fun j => gt _ _ (by omega)
    have hold : f ≠ fe M → f < (gi M 76 11).toNatClampNeg → gi t 57 f = nI (baseL (L f) 10) ∧ ∃ ops : List Nat, ops.length ≤ 100 ∧ gi t 56 f = nI ops.length ∧ (∀ j op, ops[j]? = some op → gi t (50 + f) j = encC op ∧ opOk op) ∧ depC ops 0 = true ∧ ∀ F, (runC F ops (0, [])).1 = extL F (L f) := by
      intro hne hlt
      obtain ⟨g1, ops, g2, g3, g4, g5⟩ := c5 f hf hlt
      refine ⟨(e1 _ _ (by omega) (by omega) (by omega) (by omega)).trans g1, ops, g2, (e1 _ _ (by omega) (by omega) (by omega) (by omega)).trans g3, fun j op ho => ⟨(e1 _ _ (by omega) (by omega) (by omega) (by omega)).trans (g4 j op ho).1, (g4 j op ho).2⟩, g5⟩
    simp only [g50]
    by_cases ho : (lwM M).1 = true
    · rw [if_pos ho] at s7 e5
      obtain ⟨q1, q2, q3⟩ := s7
      rw [q1, nI_clamp (by omega)] at hf'
      have q4 : L' f = if f = fe M then (lwM M).2.2.2.2.map clL else L f := by rw [q3]
      rw [q4]
      by_cases hfe2 : f = fe M
      · rw [if_pos hfe2, hfe2]
        obtain ⟨o1, o2, o3⟩ := hO
        obtain ⟨w1, w2, w3, w4, w5, w6⟩ := o3 ho
        refine ⟨by rw [e5.2.2.1, w1], (lwM M).2.2.2.1, ?_, e5.2.1, fun j op hj => ⟨e5.2.2.2 j op hj, w3 op (List.mem_of_getElem? hj)⟩, ?_, fun F => ?_⟩
        · have := (iF hI).2
          omega
        · have := w4 []
          rw [List.append_nil] at this
          rw [this]
          rfl
        · have := w5 F []
          rw [List.append_nil] at this
          rw [this]
          rfl
      · rw [if_neg hfe2]
        refine hold hfe2 ?_
        rw [(iL hI).1, nI_clamp (by omega)]
        omega
    · rw [if_neg ho] at s7
      obtain ⟨q1, q2, q3⟩ := s7
      rw [q1] at hf'
      rw [q3]
      refine hold ?_ hf'
      rw [(iL hI).1, nI_clamp (by omega)] at hf'
      omega
