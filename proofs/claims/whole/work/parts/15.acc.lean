/-! what the first object's fields are, by M -/
section ACC
variable {L : Nat → List Cl} {M σ : Hp}
theorem isN.eq {x : Int32} {n : Nat} (h : isN x n) : x = nI (cN x) := h.1
theorem isN.lt {x : Int32} {n : Nat} (h : isN x n) : cN x < n := h.2
theorem isN_of {x : Int32} {j n : Nat} (h : x = nI j) (hj : j < n) (hn : n ≤ 2 ^ 31) : isN x n := by
  subst h
  unfold isN cN
  rw [nI_clamp (by omega)]
  exact ⟨rfl, hj⟩
theorem iW (hI : Inv L M) : gi M 76 0 = nI (mW M) ∧ mW M < 7 := hI.2.1.1
theorem iE (hI : Inv L M) : gi M 76 1 = nI (mE M) ∧ mE M < 9 := hI.2.1.2.1
theorem iD (hI : Inv L M) : gi M 76 2 = nI (mD M) ∧ mD M < 10000 := hI.2.1.2.2.1
theorem cW (hC : RC L M σ) (hI : Inv L M) : gi σ 1 0 = nI (mW M) := (hC.2.1 1 0 76 0 rfl).trans (iW hI).1
theorem cE (hC : RC L M σ) (hI : Inv L M) : gi σ 1 2 = nI (mE M) := (hC.2.1 1 2 76 1 rfl).trans (iE hI).1
theorem cD (hC : RC L M σ) (hI : Inv L M) : gi σ 1 4 = nI (mD M) := (hC.2.1 1 4 76 2 rfl).trans (iD hI).1
theorem mpE : ∀ n : Nat, n < 8 → mp (8 + 2 * n) 1 = some (78, n) ∧ mp (8 + 2 * n) 2 = some (79, n) ∧ mp (8 + 2 * n) 3 = some (80, n) ∧ mp (8 + 2 * n) 4 = some (81, n) ∧ mp (8 + 2 * n) 5 = some (82, n) := by decide
theorem mpI : ∀ n : Nat, n < 8 → mp (31 + 2 * n) 1 = some (101, n) ∧ mp (31 + 2 * n) 2 = some (102, n) ∧ mp (31 + 2 * n) 3 = some (103, n) ∧ mp (31 + 2 * n) 4 = some (104, n) ∧ mp (31 + 2 * n) 5 = some (105, n) := by decide
theorem mpR : ∀ n : Nat, n < 8 → ∀ i : Nat, i < 4 → mp (9 + 2 * n) i = some (83, 4 * n + i) := by decide
theorem mpIR : ∀ n : Nat, n < 8 → ∀ i : Nat, i < 4 → mp (32 + 2 * n) i = some (106, 4 * n + i) := by decide
theorem mpC : ∀ j : Nat, j < 6 → mp 2 j = some (77, j) := by decide
theorem mpO : ∀ j : Nat, j < 8 → mp 5 (3 * j) = some (95, j) ∧ mp 5 (3 * j + 1) = some (96, j) := by decide
theorem mpB : ∀ j : Nat, j < 8 → mp 7 (3 * j) = some (97, j) ∧ mp 7 (3 * j + 1) = some (98, j) ∧ mp 7 (3 * j + 2) = some (99, j) := by decide
theorem eK (hC : RC L M σ) {n : Nat} (hn : n < 8) : gi σ (8 + 2 * n) 1 = gi M 78 n := hC.2.1 _ _ _ _ (mpE n hn).1
theorem eV (hC : RC L M σ) {n : Nat} (hn : n < 8) : gi σ (8 + 2 * n) 2 = gi M 79 n := hC.2.1 _ _ _ _ (mpE n hn).2.1
theorem eS (hC : RC L M σ) {n : Nat} (hn : n < 8) : gi σ (8 + 2 * n) 3 = gi M 80 n := hC.2.1 _ _ _ _ (mpE n hn).2.2.1
theorem eP (hC : RC L M σ) {n : Nat} (hn : n < 8) : gi σ (8 + 2 * n) 4 = gi M 81 n := hC.2.1 _ _ _ _ (mpE n hn).2.2.2.1
theorem eB (hC : RC L M σ) {n : Nat} (hn : n < 8) : gi σ (8 + 2 * n) 5 = gi M 82 n := hC.2.1 _ _ _ _ (mpE n hn).2.2.2.2
theorem eN (hC : RC L M σ) {n : Nat} (hn : n < 8) : gi σ (8 + 2 * n) 0 = nI n := (hC.2.2.1 n hn).1
theorem eR (hC : RC L M σ) {n i : Nat} (hn : n < 8) (hi : i < 4) : gi σ (9 + 2 * n) i = gi M 83 (4 * n + i) := hC.2.1 _ _ _ _ (mpR n hn i hi)
theorem eC (hC : RC L M σ) {j : Nat} (hj : j < 6) : gi σ 2 j = gi M 77 j := hC.2.1 _ _ _ _ (mpC j hj)
/-- an index is in range, or it isn't -/
theorem ix_c (x : Int32) (n : Nat) (hn : n < 2 ^ 31) : (∃ j : Nat, j < n ∧ x = nI j) ∨ ¬ rng x n := by
  rcases pk_ix x hn with h | h | h
  · exact Or.inr (fun q => Int32.not_le.mpr h q.1)
  · exact Or.inr (fun q => Int32.not_le.mpr q.2 h)
  · exact Or.inl h
theorem rng_n {j n : Nat} (h : j < n) (hn : n < 2 ^ 31) : rng (nI j) n := ⟨nI_pos' (by omega), nI_lt h hn⟩
theorem rng_x {x : Int32} {n : Nat} (h : rng x n) (hn : n < 2 ^ 31) : ∃ j : Nat, j < n ∧ x = nI j := by
  rcases ix_c x n hn with h1 | h1
  · exact h1
  · exact absurd h h1
end ACC
/-! the questions -/
def chS (M : Hp) (set : Int32) (n : Nat) : Int32 := sumI (fun w => if hasB set (nI w) then gi M 77 w else 0) n
def allS (M : Hp) : Int32 := (1 : Int32) <<< (nI (mW M) &&& 31) - 1
def allE (M : Hp) : Int32 := (1 : Int32) <<< (nI (mE M) &&& 31) - 1
def andI (a : Int32) (f : Nat → Int32) : Nat → Int32
  | 0 => a
  | n + 1 => andI a f n &&& f n
def leftS (M : Hp) : Int32 := andI (allS M) (fun k => if gi M 96 k = 1 then gi M 80 (cN (gi M 95 k)) else gi M 80 (cN (gi M 95 k)) ^^^ (-1)) (cN (gi M 76 30))
def knewS (M : Hp) (set : Int32) (n : Nat) : Int32 := orI (fun e => if ¬ set = 0 ∧ set &&& (gi M 80 e ^^^ (-1)) = 0 then (1 : Int32) <<< (nI e &&& 31) else 0) n
def agS (M : Hp) (e n : Nat) : Int32 := orI (fun o => if ¬ o = e ∧ gi M 80 o &&& gi M 80 e = 0 then (1 : Int32) <<< (nI o &&& 31) else 0) n
def prS (M : Hp) (w n : Nat) : Int32 := sumI (fun e => if hasB (gi M 80 e) (nI w) then gi M 81 e else 0) n
