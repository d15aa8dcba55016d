/-! the first state; what a call leaves of the other object-/
def hpI : Hp := mkS LI64 LR120
theorem KT_KA : KT 117 = KA := by decide +kernel
theorem hpI_rf : RF hpI := by
  have h : grl.all (fun q => decide (gr hpI q.1 q.2.1 = some q.2.2)) = true := by decide +kernel
  exact fun q hq => of_decide_eq_true (List.all_eq_true.mp h q hq)
theorem hpI_mp : (List.range 76).all (fun k => (List.range 100).all (fun j => match mp k j with | none => true | some q => decide (gi hpI k j = gi hpI q.1 q.2))) = true := by decide +kernel
theorem hpI_rm : RM hpI hpI := ⟨hpI_rf, fun _ _ _ => ⟨rfl, rfl⟩⟩
theorem hpI_11 : gi hpI 76 11 = 0 := by decide +kernel
theorem hpI_rc (L : Nat → List Cl) : RC L hpI hpI := by
  refine ⟨hpI_rf, fun k j a b hk => ?_, ?_, fun _ _ _ _ => rfl, fun f hf hf' => ?_⟩
  · obtain ⟨h1, h2⟩ := mp_lt hk
    have h3 := List.all_eq_true.mp (List.all_eq_true.mp hpI_mp k (List.mem_range.mpr h1)) j (List.mem_range.mpr h2)
    rw [hk] at h3
    exact of_decide_eq_true h3
  · have h : ∀ n : Nat, n < 8 → gi hpI (8 + 2 * n) 0 = nI n ∧ gi hpI (31 + 2 * n) 0 = nI n := by decide +kernel
    exact h
  · rw [hpI_11] at hf'
    exact absurd hf' (Nat.not_lt_zero _)
theorem isN_d {x : Int32} {n : Nat} (h : decide (x = nI (cN x) ∧ cN x < n) = true) : isN x n := by
  have h2 := of_decide_eq_true h
  exact h2
theorem hpI_0 : cN (gi hpI 76 0) = 0 ∧ cN (gi hpI 76 1) = 0 ∧ cN (gi hpI 76 30) = 0 ∧ cN (gi hpI 76 33) = 0 ∧ cN (gi hpI 76 39) = 0 ∧ cN (gi hpI 76 40) = 0 ∧ cN (gi hpI 76 43) = 0 ∧ cN (gi hpI 76 44) = 0 := by decide +kernel
theorem hpI_inv (L : Nat → List Cl) : Inv L hpI := by
  obtain ⟨z0, z1, z30, z33, z39, z40, z43, z44⟩ := hpI_0
  refine ⟨isN_d (by decide +kernel), ?_, ?_, fun f hf hf' => ?_, isN_d (by decide +kernel), ?_, isN_d (by decide +kernel), isN_d (by decide +kernel), ?_, ?_⟩
  · refine ⟨isN_d (by decide +kernel), isN_d (by decide +kernel), isN_d (by decide +kernel), isN_d (by decide +kernel), Or.inl (by decide +kernel), isN_d (by decide +kernel), isN_d (by decide +kernel), fun j hj => ?_, fun j hj => ?_, fun j hj => ?_, fun j hj => ?_⟩
    · have hj2 : j < cN (gi hpI 76 0) := hj
      rw [z0] at hj2
      exact absurd hj2 (Nat.not_lt_zero _)
    · have hj2 : j < cN (gi hpI 76 1) := hj
      rw [z1] at hj2
      exact absurd hj2 (Nat.not_lt_zero _)
    · have hj2 : j < cN (gi hpI 76 30) := hj
      rw [z30] at hj2
      exact absurd hj2 (Nat.not_lt_zero _)
    · have hj2 : j < cN (gi hpI 76 33) := hj
      rw [z33] at hj2
      exact absurd hj2 (Nat.not_lt_zero _)
  · refine ⟨isN_d (by decide +kernel), isN_d (by decide +kernel), isN_d (by decide +kernel), isN_d (by decide +kernel), Or.inl (by decide +kernel), isN_d (by decide +kernel), isN_d (by decide +kernel), fun j hj => ?_, fun j hj => ?_, fun j hj => ?_, fun j hj => ?_⟩
    · have hj2 : j < cN (gi hpI 76 39) := hj
      rw [z39] at hj2
      exact absurd hj2 (Nat.not_lt_zero _)
    · have hj2 : j < cN (gi hpI 76 40) := hj
      rw [z40] at hj2
      exact absurd hj2 (Nat.not_lt_zero _)
    · have hj2 : j < cN (gi hpI 76 43) := hj
      rw [z43] at hj2
      exact absurd hj2 (Nat.not_lt_zero _)
    · have hj2 : j < cN (gi hpI 76 44) := hj
      rw [z44] at hj2
      exact absurd hj2 (Nat.not_lt_zero _)
  · rw [hpI_11] at hf'
    exact absurd hf' (Nat.not_lt_zero _)
  · have h : ∀ j : Nat, j < 100 → (gi hpI 84 j = nI (cN (gi hpI 84 j)) ∧ cN (gi hpI 84 j) < 128) := by decide +kernel
    exact h
  · have h : ∀ t : Nat, t < 6 → ((gi hpI 114 t = nI (cN (gi hpI 114 t)) ∧ cN (gi hpI 114 t) < 61) ∧ (gi hpI 113 t = -1 ∧ gi hpI 114 t = 0)) := by decide +kernel
    exact fun t ht => ⟨(h t ht).1, Or.inl (h t ht).2⟩
  · decide +kernel
theorem hpI_bo : Bo hpI := by
  have h : ∀ j : Nat, j < 8 → (gi hpI 96 j = 0 ∨ gi hpI 96 j = 1) ∧ (gi hpI 111 j = 0 ∨ gi hpI 111 j = 1) := by decide +kernel
  exact h
theorem cnt_ge {k j : Nat} (h : cnt k j = true) : 76 ≤ k := by
  unfold cnt at h
  simp only [Bool.and_eq_true, decide_eq_true_eq] at h
  exact h.1.1.1
theorem RM_sm {M σ s : Hp} (hM : RM M σ) (hS : Sm σ s) (hR : RF s) : RM M s := ⟨hR, fun k j hc => ⟨(hS k j (cnt_ge hc)).1.trans (hM.2 k j hc).1, (hS k j (cnt_ge hc)).2.trans (hM.2 k j hc).2⟩⟩
theorem RC_sc {L : Nat → List Cl} {M σ s : Hp} (hC : RC L M σ) (hS : Sc σ s) (hR : RF s) : RC L M s := by
  obtain ⟨c1, c2, c3, c4, c5⟩ := hC
  refine ⟨hR, fun k j a b hk => ?_, fun n hn => ?_, fun t i ht hi => ?_, fun f hf hf' => ?_⟩
  · rw [(hS k j (mp_lt hk).1).1]
    exact c2 k j a b hk
  · rw [(hS _ _ (by omega)).1, (hS _ _ (by omega)).1]
    exact c3 n hn
  · rw [(hS _ _ (by omega)).2]
    exact c4 t i ht hi
  · obtain ⟨g1, ops, g2, g3, g4, g5⟩ := c5 f hf hf'
    exact ⟨(hS _ _ (by omega)).1.trans g1, ops, g2, (hS _ _ (by omega)).1.trans g3, fun j op ho => ⟨(hS _ _ (by omega)).1.trans (g4 j op ho).1, (g4 j op ho).2⟩, g5⟩
theorem scr_in {i k N : Nat} (h : i + 6 ≤ N) (hN : N ≤ 3072) (hk : k < 6) : vp_in (nI i + nI k) N := by
  rw [nI_add]
  exact vp_in_nI (by omega) (by omega)
theorem scr_cl {i k N : Nat} (X : Nat → Int32) (h : i + 6 ≤ N) (hN : N ≤ 3072) (hk : k < 6) : X (nI i + nI k).toNatClampNeg = X (i + k) := by
  rw [nI_add, nI_clamp (by omega)]
theorem scr_in0 {i N : Nat} (h : i + 6 ≤ N) (hN : N ≤ 3072) : vp_in (nI i) N := vp_in_nI (by omega) (by omega)
theorem scr_cl0 {i N : Nat} (X : Nat → Int32) (h : i + 6 ≤ N) (hN : N ≤ 3072) : X (nI i).toNatClampNeg = X i := by
  rw [nI_clamp (by omega)]
theorem lgc (x : Int64) : lg_cmp x x = 0 := by
  unfold lg_cmp
  simp
theorem Nq_of {M : Hp} (e x : Int32) : (q_of M e x).2 = M := by
  unfold q_of
  repeat' split
  all_goals rfl
theorem Nq_told {L : Nat → List Cl} {M : Hp} (x : Int32) : (q_told L M x).2 = M := by
  unfold q_told
  repeat' split
  all_goals rfl
theorem Nq_pay {L : Nat → List Cl} {M : Hp} (e x : Int32) : (q_pay L M e x).2 = M := by
  unfold q_pay
  repeat' split
  all_goals rfl
theorem Nq_mean {L : Nat → List Cl} {M : Hp} (e x : Int32) : (q_mean L M e x).2 = M := by
  unfold q_mean
  repeat' split
  all_goals rfl
theorem Nq_gain {L : Nat → List Cl} {M : Hp} (e x : Int32) : (q_gain L M e x).2 = M := by
  unfold q_gain
  repeat' split
  all_goals rfl
theorem Nq_least {L : Nat → List Cl} {M : Hp} (x : Int32) : (q_least L M x).2 = M := by
  unfold q_least
  repeat' split
  all_goals rfl
theorem Nq_left {M : Hp}  : (q_left M).2 = M := by
  unfold q_left
  repeat' split
  all_goals rfl
theorem Nq_odds {M : Hp} (e x : Int32) : (q_odds M e x).2 = M := by
  unfold q_odds
  repeat' split
  all_goals rfl
theorem Nq_knew {M : Hp}  : (q_knew M).2 = M := by
  unfold q_knew
  repeat' split
  all_goals rfl
theorem Nq_best {L : Nat → List Cl} {M : Hp} (e x : Int32) : (q_best L M e x).2 = M := by
  unfold q_best
  repeat' split
  all_goals rfl
theorem Nq_safest {L : Nat → List Cl} {M : Hp} (x : Int32) : (q_safest L M x).2 = M := by
  unfold q_safest
  repeat' split
  all_goals rfl
theorem Nq_sure {L : Nat → List Cl} {M : Hp}  : (q_sure L M).2 = M := by
  unfold q_sure
  repeat' split
  all_goals rfl
theorem Nq_hedge {L : Nat → List Cl} {M : Hp}  : (q_hedge L M).2 = M := by
  unfold q_hedge
  repeat' split
  all_goals rfl
theorem Nq_against {M : Hp} (x : Int32) : (q_against M x).2 = M := by
  unfold q_against
  repeat' split
  all_goals rfl
theorem Nq_when {L : Nat → List Cl} {M : Hp} (e y x : Int32) : (q_when L M e y x).2 = M := by
  unfold q_when
  repeat' split
  all_goals rfl
theorem Nq_crowd {M : Hp} (x : Int32) : (q_crowd M x).2 = M := by
  unfold q_crowd
  repeat' split
  all_goals rfl
theorem Nq_cheap {L : Nat → List Cl} {M : Hp}  : (q_cheap L M).2 = M := by
  unfold q_cheap
  repeat' split
  all_goals rfl
theorem Nq_burnt {L : Nat → List Cl} {M : Hp} (x : Int32) : (q_burnt L M x).2 = M := by
  unfold q_burnt
  repeat' split
  all_goals rfl
theorem Nq_worth {L : Nat → List Cl} {M : Hp} (x : Int32) : (q_worth L M x).2 = M := by
  unfold q_worth
  repeat' split
  all_goals rfl
theorem Nq_looked {L : Nat → List Cl} {M : Hp}  : (q_looked L M).2 = M := by
  unfold q_looked
  repeat' split
  all_goals rfl
theorem Nq_judge {M : Hp} (e x : Int32) : (q_judge M e x).2 = M := by
  unfold q_judge
  repeat' split
  all_goals rfl
theorem Nq_trace {M : Hp} (x : Int32) : (q_trace M x).2 = M := by
  unfold q_trace
  repeat' split
  all_goals rfl
theorem Nq_taken {M : Hp} (e x : Int32) : (q_taken M e x).2 = M := by
  unfold q_taken
  repeat' split
  all_goals rfl
theorem Nq_count {M : Hp} (x : Int32) : (q_count M x).2 = M := by
  unfold q_count
  repeat' split
  all_goals rfl
theorem Nq_read {M : Hp} (e x : Int32) : (q_read M e x).2 = M := by
  unfold q_read
  repeat' split
  all_goals rfl
