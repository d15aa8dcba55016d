/-! image and undo: the second object -/
def upM (m : Nat → Nat → Option (Nat × Nat)) (a b : Nat) (q : Nat × Nat) : Nat → Nat → Option (Nat × Nat) := fun x y => if x = a ∧ y = b then some q else m x y
theorem cp_step {m : Nat → Nat → Option (Nat × Nat)} {M : Hp} {a b : Nat} {q : Nat × Nat} : si (cpM m M) a b (gi M q.1 q.2) = cpM (upM m a b q) M := by
  unfold cpM si
  simp only []
  congr 1
  funext x y
  unfold upM
  by_cases h : x = a ∧ y = b
  · rw [if_pos h, if_pos h]
  · rw [if_neg h, if_neg h]
theorem cp_nil {M : Hp} : cpM (fun _ _ => none) M = M := rfl
def i0 : Nat → Nat → Option (Nat × Nat) := upM (upM (upM (upM (upM (upM (upM (fun _ _ => none) 76 38 (76, 12)) 76 39 (76, 0)) 76 40 (76, 1)) 76 41 (76, 2)) 76 42 (76, 3)) 76 43 (76, 30)) 76 44 (76, 33)
def i1 (n : Nat) : Nat → Nat → Option (Nat × Nat) := fun x y => if x = 100 ∧ y < n then some (77, y) else i0 x y
def i2 (n : Nat) : Nat → Nat → Option (Nat × Nat) := fun x y => if (101 ≤ x ∧ x ≤ 105) ∧ y < n then some (x - 23, y) else if x = 107 ∧ y < n then some (95, y) else if x = 111 ∧ y < n then some (96, y) else if (108 ≤ x ∧ x ≤ 110) ∧ y < n then some (x - 11, y) else i1 6 x y
def i3 (n : Nat) : Nat → Nat → Option (Nat × Nat) := fun x y => if x = 106 ∧ y < n then some (83, y) else i2 8 x y
theorem i1_s (n : Nat) : upM (i1 n) 100 n (77, n) = i1 (n + 1) := by
  funext x y
  unfold upM i1
  by_cases h : x = 100 ∧ y = n
  · obtain ⟨rfl, rfl⟩ := h
    rw [if_pos ⟨rfl, rfl⟩, if_pos (by omega)]
  · rw [if_neg h]
    by_cases h2 : x = 100 ∧ y < n
    · rw [if_pos h2, if_pos (by omega)]
    · rw [if_neg h2, if_neg (by omega)]
theorem i3_s (n : Nat) : upM (i3 n) 106 n (83, n) = i3 (n + 1) := by
  funext x y
  unfold upM i3
  by_cases h : x = 106 ∧ y = n
  · obtain ⟨rfl, rfl⟩ := h
    rw [if_pos ⟨rfl, rfl⟩, if_pos (by omega)]
  · rw [if_neg h]
    by_cases h2 : x = 106 ∧ y < n
    · rw [if_pos h2, if_pos (by omega)]
    · rw [if_neg h2, if_neg (by omega)]
theorem i2_s (n : Nat) : upM (upM (upM (upM (upM (upM (upM (upM (upM (upM (i2 n) 101 n (78, n)) 102 n (79, n)) 103 n (80, n)) 104 n (81, n)) 105 n (82, n)) 107 n (95, n)) 111 n (96, n)) 108 n (97, n)) 109 n (98, n)) 110 n (99, n) = i2 (n + 1) := by
  funext x y
  by_cases hy : y = n
  · subst hy
    by_cases hx : 101 ≤ x ∧ x ≤ 111 ∧ ¬ x = 106
    · have h : x = 101 ∨ x = 102 ∨ x = 103 ∨ x = 104 ∨ x = 105 ∨ x = 107 ∨ x = 108 ∨ x = 109 ∨ x = 110 ∨ x = 111 := by omega
      rcases h with h | h | h | h | h | h | h | h | h | h <;> subst h <;> simp [upM, i2]
    · unfold upM i2
      repeat rw [if_neg (by omega)]
  · have e : ∀ m a q, upM m a n q x y = m x y := fun m a q => if_neg (fun z => hy z.2)
    simp only [e]
    unfold i2
    have hl : y < n ↔ y < n + 1 := by omega
    simp only [hl]
theorem i2_0 : i2 0 = i1 6 := by
  funext x y
  unfold i2
  repeat rw [if_neg (by omega)]
theorem i1_0 : i1 0 = i0 := by
  funext x y
  unfold i1
  rw [if_neg (by omega)]
theorem i3_0 : i3 0 = i2 8 := by
  funext x y
  unfold i3
  rw [if_neg (by omega)]
/-- the boolean rows hold booleans -/
def Bo (M : Hp) : Prop := ∀ j : Nat, j < 8 → (gi M 96 j = 0 ∨ gi M 96 j = 1) ∧ (gi M 111 j = 0 ∨ gi M 111 j = 1)
theorem i3_im : i3 32 = im := by
  funext x y
  unfold i3 i2 i1 i0 upM im
  by_cases h : x = 76
  · subst h
    simp
    repeat' split
    all_goals first | rfl | omega
  · by_cases h2 : 100 ≤ x ∧ x ≤ 111
    · have h3 : x = 100 ∨ x = 101 ∨ x = 102 ∨ x = 103 ∨ x = 104 ∨ x = 105 ∨ x = 106 ∨ x = 107 ∨ x = 108 ∨ x = 109 ∨ x = 110 ∨ x = 111 := by omega
      rcases h3 with q | q | q | q | q | q | q | q | q | q | q | q <;> subst q <;> simp
    · repeat rw [if_neg (by omega)]
