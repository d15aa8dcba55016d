/-! image and undo, as the second object has them -/
def im (a b : Nat) : Option (Nat × Nat) :=
  if a = 76 then (if b = 38 then some (76, 12) else if b = 39 then some (76, 0) else if b = 40 then some (76, 1) else if b = 41 then some (76, 2) else if b = 42 then some (76, 3) else if b = 43 then some (76, 30) else if b = 44 then some (76, 33) else none)
  else if a = 100 then (if b < 6 then some (77, b) else none)
  else if 101 ≤ a ∧ a ≤ 105 then (if b < 8 then some (a - 23, b) else none)
  else if a = 106 then (if b < 32 then some (83, b) else none)
  else if a = 107 then (if b < 8 then some (95, b) else none)
  else if 108 ≤ a ∧ a ≤ 110 then (if b < 8 then some (a - 11, b) else none)
  else if a = 111 then (if b < 8 then some (96, b) else none)
  else none
def um (a b : Nat) : Option (Nat × Nat) :=
  if a = 76 then (if b = 12 then some (76, 38) else if b = 0 then some (76, 39) else if b = 1 then some (76, 40) else if b = 2 then some (76, 41) else if b = 3 then some (76, 42) else if b = 30 then some (76, 43) else if b = 33 then some (76, 44) else none)
  else if a = 77 then (if b < 6 then some (100, b) else none)
  else if 78 ≤ a ∧ a ≤ 82 then (if b < 8 then some (a + 23, b) else none)
  else if a = 83 then (if b < 32 then some (106, b) else none)
  else if a = 95 then (if b < 8 then some (107, b) else none)
  else if 97 ≤ a ∧ a ≤ 99 then (if b < 8 then some (a + 11, b) else none)
  else if a = 96 then (if b < 8 then some (111, b) else none)
  else none
/-- cells copied all at once -/
def cpM (m : Nat → Nat → Option (Nat × Nat)) (M : Hp) : Hp := (fun a b => match m a b with | some q => gi M q.1 q.2 | none => gi M a b, M.2)
def imgM (M : Hp) : Hp := cpM im (si M 76 37 1)
def undM (M : Hp) : Hp := cpM um M
def q_image (M : Hp) : Int32 × Hp := (nI (mE M), imgM M)
def q_undo (M : Hp) : Int32 × Hp := if gi M 76 37 = 0 then (-3, M) else (gi M 76 40, undM M)
theorem cp_some {m : Nat → Nat → Option (Nat × Nat)} {M : Hp} {a b : Nat} {q : Nat × Nat} (h : m a b = some q) : gi (cpM m M) a b = gi M q.1 q.2 := by
  show (match m a b with | some q => gi M q.1 q.2 | none => gi M a b) = _
  rw [h]
theorem cp_none {m : Nat → Nat → Option (Nat × Nat)} {M : Hp} {a b : Nat} (h : m a b = none) : gi (cpM m M) a b = gi M a b := by
  show (match m a b with | some q => gi M q.1 q.2 | none => gi M a b) = _
  rw [h]
/-- what of the fair's cells counts -/
theorem InvF_c {g g' : Nat → Nat → Int32} {laws : Int32} (h0 : ∀ f, f = 0 ∨ f = 2 ∨ f = 9 ∨ f = 10 ∨ f = 11 ∨ f = 12 ∨ f = 15 → g' f 0 = g f 0) (h1 : ∀ j, j < 6 → g' 1 j = g 1 j) (h3 : ∀ f n, 3 ≤ f → f ≤ 7 → n < 8 → g' f n = g f n) (h8 : ∀ i, i < 32 → g' 8 i = g 8 i) (h13 : ∀ f k, (f = 13 ∨ f = 14 ∨ f = 16 ∨ f = 17 ∨ f = 18) → k < 8 → g' f k = g f k) (h : InvF g laws) : InvF g' laws := by
  obtain ⟨a0, a2, a9, a10, a11, a12, a15, aw, ae, ao, ab⟩ := h
  unfold InvF
  rw [h0 0 (by omega), h0 2 (by omega), h0 9 (by omega), h0 10 (by omega), h0 11 (by omega), h0 12 (by omega), h0 15 (by omega)]
  refine ⟨a0, a2, a9, a10, a11, a12, a15, fun j hj => ?_, fun n hn => ?_, fun k hk => ?_, fun k hk => ?_⟩
  · rw [h1 j (by have := a0.2; omega)]
    exact aw j hj
  · have h8' : n < 8 := by have := a2.2; omega
    obtain ⟨c1, c2, c3, c4, c5, c6, c7⟩ := ae n hn
    rw [h3 3 n (by omega) (by omega) h8', h3 4 n (by omega) (by omega) h8', h3 5 n (by omega) (by omega) h8', h3 6 n (by omega) (by omega) h8', h3 7 n (by omega) (by omega) h8']
    exact ⟨c1, c2, c3, c4, c5, c6, fun i hi => by rw [h8 _ (by omega)]; exact c7 i hi⟩
  · have h8' : k < 8 := by have := a12.2; omega
    rw [h13 13 k (by omega) h8', h13 14 k (by omega) h8']
    exact ao k hk
  · have h8' : k < 8 := by have := a15.2; omega
    rw [h13 16 k (by omega) h8', h13 17 k (by omega) h8', h13 18 k (by omega) h8']
    exact ab k hk
theorem I_img {L : Nat → List Cl} {M : Hp} (hI : Inv L M) : Inv L (imgM M) := by
  obtain ⟨a1, a2, a3, a4, a5, a6, a7, a8, a9, a10⟩ := hI
  have eN : fdN (imgM M) = fdN M := by
    funext f j
    unfold fdN
    split <;> rfl
  refine ⟨a1, ?_, ?_, RMl_c (fun k j hk => ?_) a4, a5, a6, isN_of (j := 1) rfl (by decide) (by decide), a8, a9, a10⟩
  · rw [eN]; exact a2
  · refine InvF_c (g := fdN M) (fun f hf => ?_) (fun j hj => ?_) (fun f n h1 h2 hn => ?_) (fun i hi => ?_) (fun f k hf hk => ?_) a2
    · rcases hf with h | h | h | h | h | h | h <;> subst h <;> rfl
    · have e : im 100 j = some (77, j) := if_pos hj
      exact cp_some e
    · have hf : f = 3 ∨ f = 4 ∨ f = 5 ∨ f = 6 ∨ f = 7 := by omega
      rcases hf with h | h | h | h | h <;> subst h
      · exact cp_some (show im 101 n = some (78, n) from if_pos hn)
      · exact cp_some (show im 102 n = some (79, n) from if_pos hn)
      · exact cp_some (show im 103 n = some (80, n) from if_pos hn)
      · exact cp_some (show im 104 n = some (81, n) from if_pos hn)
      · exact cp_some (show im 105 n = some (82, n) from if_pos hn)
    · exact cp_some (show im 106 i = some (83, i) from if_pos hi)
    · rcases hf with h | h | h | h | h <;> subst h
      · exact cp_some (show im 107 k = some (95, k) from if_pos hk)
      · exact cp_some (show im 111 k = some (96, k) from if_pos hk)
      · exact cp_some (show im 108 k = some (97, k) from if_pos hk)
      · exact cp_some (show im 109 k = some (98, k) from if_pos hk)
      · exact cp_some (show im 110 k = some (99, k) from if_pos hk)
  · rcases hk with ⟨h1, h2⟩ | ⟨rfl, rfl⟩
    · have hk7 : k = 84 ∨ k = 85 ∨ k = 86 ∨ k = 87 ∨ k = 88 ∨ k = 89 ∨ k = 90 := by omega
      rcases hk7 with h | h | h | h | h | h | h <;> subst h <;> rfl
    · rfl
theorem I_und {L : Nat → List Cl} {M : Hp} (hI : Inv L M) : Inv L (undM M) := by
  obtain ⟨a1, a2, a3, a4, a5, a6, a7, a8, a9, a10⟩ := hI
  have eI : fdI (undM M) = fdI M := by
    funext f j
    unfold fdI
    split <;> rfl
  refine ⟨a1, ?_, ?_, RMl_c (fun k j hk => ?_) a4, a5, a6, a7, a8, a9, a10⟩
  · refine InvF_c (g := fdI M) (fun f hf => ?_) (fun j hj => ?_) (fun f n h1 h2 hn => ?_) (fun i hi => ?_) (fun f k hf hk => ?_) a3
    · rcases hf with h | h | h | h | h | h | h <;> subst h <;> rfl
    · exact cp_some (show um 77 j = some (100, j) from if_pos hj)
    · have hf : f = 3 ∨ f = 4 ∨ f = 5 ∨ f = 6 ∨ f = 7 := by omega
      rcases hf with h | h | h | h | h <;> subst h
      · exact cp_some (show um 78 n = some (101, n) from if_pos hn)
      · exact cp_some (show um 79 n = some (102, n) from if_pos hn)
      · exact cp_some (show um 80 n = some (103, n) from if_pos hn)
      · exact cp_some (show um 81 n = some (104, n) from if_pos hn)
      · exact cp_some (show um 82 n = some (105, n) from if_pos hn)
    · exact cp_some (show um 83 i = some (106, i) from if_pos hi)
    · rcases hf with h | h | h | h | h <;> subst h
      · exact cp_some (show um 95 k = some (107, k) from if_pos hk)
      · exact cp_some (show um 96 k = some (111, k) from if_pos hk)
      · exact cp_some (show um 97 k = some (108, k) from if_pos hk)
      · exact cp_some (show um 98 k = some (109, k) from if_pos hk)
      · exact cp_some (show um 99 k = some (110, k) from if_pos hk)
  · rw [eI]; exact a3
  · rcases hk with ⟨h1, h2⟩ | ⟨rfl, rfl⟩
    · have hk7 : k = 84 ∨ k = 85 ∨ k = 86 ∨ k = 87 ∨ k = 88 ∨ k = 89 ∨ k = 90 := by omega
      rcases hk7 with h | h | h | h | h | h | h <;> subst h <;> rfl
    · rfl
theorem Iq_image {L : Nat → List Cl} {M : Hp} (hI : Inv L M) : Inv L (q_image M).2 := I_img hI
theorem Iq_undo {L : Nat → List Cl} {M : Hp} (hI : Inv L M) : Inv L (q_undo M).2 := by
  unfold q_undo
  split
  · exact hI
  · exact I_und hI
