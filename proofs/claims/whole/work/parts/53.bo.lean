/-! the boolean rows stay boolean -/
theorem Bq_world {M : Hp} (hB : Bo M) (x : Int32) : Bo (q_world M x).2 := by
  unfold q_world
  repeat' split
  all_goals first | exact hB | (unfold q_addEnv n_env; split <;> exact hB)
theorem Bq_chance {M : Hp} (hB : Bo M) (w x : Int32) : Bo (q_chance M w x).2 := by
  unfold q_chance
  repeat' split
  all_goals first | exact hB | (unfold q_addEnv n_env; split <;> exact hB)
theorem Bq_envelope {M : Hp} (hB : Bo M) (k v z pr : Int32) : Bo (q_envelope M k v z pr).2 := by
  unfold q_envelope
  repeat' split
  all_goals first | exact hB | (unfold q_addEnv n_env; split <;> exact hB)
theorem Bq_price {M : Hp} (hB : Bo M) (e x : Int32) : Bo (q_price M e x).2 := by
  unfold q_price
  repeat' split
  all_goals first | exact hB | (unfold q_addEnv n_env; split <;> exact hB)
theorem Bq_say {M : Hp} (hB : Bo M) (e x : Int32) : Bo (q_say M e x).2 := by
  unfold q_say
  repeat' split
  all_goals first | exact hB | (unfold q_addEnv n_env; split <;> exact hB)
theorem Bq_row {M : Hp} (hB : Bo M) (e d x : Int32) : Bo (q_row M e d x).2 := by
  unfold q_row
  repeat' split
  all_goals first | exact hB | (unfold q_addEnv n_env; split <;> exact hB)
theorem Bq_pass {M : Hp} (hB : Bo M) (x : Int32) : Bo (q_pass M x).2 := by
  unfold q_pass
  repeat' split
  all_goals first | exact hB | (unfold q_addEnv n_env; split <;> exact hB)
theorem Bq_feed {M : Hp} (hB : Bo M) (x : Int32) : Bo (q_feed M x).2 := by
  unfold q_feed
  repeat' split
  all_goals first | exact hB | (unfold q_addEnv n_env; split <;> exact hB)
theorem Bq_item {M : Hp} (hB : Bo M) (t i : Int32) (v : Int64) : Bo (q_item M t i v).2 := by
  unfold q_item
  repeat' split
  all_goals first | exact hB | (unfold q_addEnv n_env; split <;> exact hB)
theorem Bq_shift {M : Hp} (hB : Bo M) (t i u j n : Int32) : Bo (q_shift M t i u j n).2 := by
  unfold q_shift
  repeat' split
  all_goals first | exact hB | (unfold q_addEnv n_env; split <;> exact hB)
theorem Bq_come {L : Nat → List Cl} {M : Hp} (hB : Bo M) (w : Int32) : Bo (q_come L M w).2 := by
  unfold q_come
  repeat' split
  all_goals exact hB
theorem Bq_book {M : Hp} (hB : Bo M) (e w y : Int32) : Bo (q_book M e w y).2 := by
  unfold q_book q_add6
  repeat' split
  all_goals exact hB
theorem Bo_zN {M : Hp} {t : Nat} (hB : Bo M) : ∀ n, Bo (zN M t n)
  | 0 => hB
  | n + 1 => Bo_zN hB n
theorem Bq_tape {M : Hp} (hB : Bo M) (t k n : Int32) : Bo (q_tape M t k n).2 := by
  unfold q_tape
  repeat' split
  all_goals first | exact hB | exact Bo_zN (show Bo (si (si M 113 (cN t) _) 114 (cN t) _) from hB) 60
theorem Bq_open {M : Hp} (hB : Bo M) (e x : Int32) (hx : x = 0 ∨ x = 1) : Bo (q_open M e x).2 := by
  unfold q_open q_add4
  repeat' split
  all_goals first | exact hB | skip
  intro j hj
  refine ⟨?_, (hB j hj).2⟩
  by_cases e2 : j = mO M
  · subst e2
    have g : gi (si (si (si M 95 (mO M) e) 96 (mO M) x) 76 30 (nI (mO M + 1))) 96 (mO M) = x := (gi_ne (by decide)).trans gi_eq
    show gi (si (si (si M 95 (mO M) e) 96 (mO M) x) 76 30 (nI (mO M + 1))) 96 (mO M) = 0 ∨ gi (si (si (si M 95 (mO M) e) 96 (mO M) x) 76 30 (nI (mO M + 1))) 96 (mO M) = 1
    rw [g]
    exact hx
  · have g : gi (si (si (si M 95 (mO M) e) 96 (mO M) x) 76 30 (nI (mO M + 1))) 96 j = gi M 96 j := (gi_ne (by decide)).trans ((gi_nj e2).trans (gi_ne (by decide)))
    show gi (si (si (si M 95 (mO M) e) 96 (mO M) x) 76 30 (nI (mO M + 1))) 96 j = 0 ∨ gi (si (si (si M 95 (mO M) e) 96 (mO M) x) 76 30 (nI (mO M + 1))) 96 j = 1
    rw [g]
    exact (hB j hj).1
theorem Bq_image {M : Hp} (hB : Bo M) : Bo (q_image M).2 := by
  intro j hj
  have g : gi (imgM M) 111 j = gi M 96 j := cp_some (show im 111 j = some (96, j) from if_pos hj)
  refine ⟨(hB j hj).1, ?_⟩
  show gi (imgM M) 111 j = 0 ∨ gi (imgM M) 111 j = 1
  rw [g]
  exact (hB j hj).1
theorem Bq_undo {M : Hp} (hB : Bo M) : Bo (q_undo M).2 := by
  unfold q_undo
  split
  · exact hB
  · intro j hj
    have g : gi (undM M) 96 j = gi M 111 j := cp_some (show um 96 j = some (111, j) from if_pos hj)
    refine ⟨?_, (hB j hj).2⟩
    show gi (undM M) 96 j = 0 ∨ gi (undM M) 96 j = 1
    rw [g]
    exact (hB j hj).2
theorem Bq_act {M : Hp} (hB : Bo M) (e a x : Int32) : Bo (q_act M e a x).2 := by
  unfold q_act
  split
  · show Bo (actM _ _ _)
    unfold actM
    split <;> exact hB
  · exact hB
