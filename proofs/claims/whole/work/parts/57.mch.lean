/-! the second object's way through an E: a stack of what waits; it finds what the first's way finds -/
def whP : List Nat → List Nat → List Nat × List Nat
  | [], E => ([], E)
  | x :: W, E => if x = 33 then whP W (E ++ [30001]) else (x :: W, E)
def stP (s : Nat) : List Nat → List Nat → List Nat × List Nat
  | [], E => ([], E)
  | x :: W, E => if x = 38 then stP s W (E ++ [30002]) else if x = 124 ∧ s ≠ 38 then stP s W (E ++ [30003]) else (x :: W, E)
def brk : List Nat → Nat
  | [] => 0
  | x :: W => brk W + (if x = 33 ∨ x = 40 then 1 else 0)
def rnE (ch : Nat → Nat) : Nat → Bool → Nat → List Nat → List Nat → Bool × Nat × List Nat
  | 0, _, p, _, E => (false, p, E)
  | m + 1, true, p, W, E => if ch p = 33 ∨ ch p = 40 then (if brk W = 4 then (false, p, E) else rnE ch m true (p + 1) (ch p :: W) E) else if (tsP ch p).1 = true then rnE ch m false (tsP ch p).2.1 (whP W (E ++ (tsP ch p).2.2.2)).1 (whP W (E ++ (tsP ch p).2.2.2)).2 else (false, (tsP ch p).2.1, E)
  | m + 1, false, p, W, E => if ch p = 38 ∨ ch p = 124 then rnE ch m true (p + 1) (ch p :: (stP (ch p) W E).1) (stP (ch p) W E).2 else match (stP 124 W E).1 with
    | [] => (true, p, (stP 124 W E).2)
    | _ :: W' => if ch p = 41 then rnE ch m false (p + 1) (whP W' (stP 124 W E).2).1 (whP W' (stP 124 W E).2).2 else (false, p, (stP 124 W E).2)
/-- behind an E: its end, or its bracket's -/
def fnE (ch : Nat → Nat) (m p : Nat) (W E : List Nat) : Bool × Nat × List Nat := match W with
  | [] => (true, p, E)
  | _ :: W' => if ch p = 41 then rnE ch m false (p + 1) (whP W' E).1 (whP W' E).2 else (false, p, E)
def top33 : List Nat → Prop
  | [] => True
  | x :: _ => x ≠ 33
def top40 : List Nat → Prop
  | [] => True
  | x :: _ => x = 40
theorem top40.t33 {W : List Nat} (h : top40 W) : top33 W := by
  cases W with
  | nil => trivial
  | cons x W => 
    have h2 : x = 40 := h
    show x ≠ 33
    omega
theorem whP_rep {W : List Nat} (h : top33 W) : ∀ (j : Nat) (E : List Nat), whP (List.replicate j 33 ++ W) E = (W, E ++ List.replicate j 30001)
  | 0, E => by
    show whP W E = (W, E ++ [])
    rw [List.append_nil]
    cases W with
    | nil => rfl
    | cons x W => exact if_neg h
  | j + 1, E => by
    show whP (33 :: (List.replicate j 33 ++ W)) E = _
    show (if (33 : Nat) = 33 then whP (List.replicate j 33 ++ W) (E ++ [30001]) else _) = _
    rw [if_pos rfl, whP_rep h j, List.append_assoc]
    rfl
theorem stP_top {W : List Nat} (s : Nat) (h : top40 W) (E : List Nat) : stP s W E = (W, E) := by
  cases W with
  | nil => rfl
  | cons x W =>
    have h2 : x = 40 := h
    show (if x = 38 then _ else if x = 124 ∧ s ≠ 38 then _ else _) = _
    rw [if_neg (by omega), if_neg (by omega)]
theorem stP_or {W : List Nat} (E : List Nat) : stP 38 (124 :: W) E = (124 :: W, E) := by
  show (if (124 : Nat) = 38 then _ else if (124 : Nat) = 124 ∧ (38 : Nat) ≠ 38 then _ else _) = _
  rw [if_neg (by decide), if_neg (by decide)]
theorem brk_rep (W : List Nat) : ∀ j : Nat, brk (List.replicate j 33 ++ W) = j + brk W
  | 0 => (Nat.zero_add _).symm
  | j + 1 => by
    show brk (List.replicate j 33 ++ W) + (if (33 : Nat) = 33 ∨ (33 : Nat) = 40 then 1 else 0) = _
    rw [if_pos (Or.inl rfl), brk_rep W j]
    omega
section RUN
variable {ch : Nat → Nat} {N : Nat}
theorem bang_run (hch : ∀ q, N ≤ q → ch q = 255) : ∀ (k p m : Nat) (W E : List Nat), brk W + k = 4 → p ≤ N → N < p + m → ∃ m', N < p + bgs ch k p + m' ∧ rnE ch m true p W E = rnE ch m' true (p + bgs ch k p) (List.replicate (bgs ch k p) 33 ++ W) E
  | 0, p, m, W, E, _, _, hm => ⟨m, hm, rfl⟩
  | k + 1, p, m, W, E, hb, hp, hm => by
    show ∃ m', N < p + (if ch p = 33 then bgs ch k (p + 1) + 1 else 0) + m' ∧ rnE ch m true p W E = rnE ch m' true (p + (if ch p = 33 then bgs ch k (p + 1) + 1 else 0)) (List.replicate (if ch p = 33 then bgs ch k (p + 1) + 1 else 0) 33 ++ W) E
    by_cases hc : ch p = 33
    · rw [if_pos hc]
      have l1 := ch_lt hch (q := p) (by omega)
      obtain ⟨m1, rfl⟩ : ∃ m1, m = m1 + 1 := ⟨m - 1, by omega⟩
      obtain ⟨m', h1, h2⟩ := bang_run hch k (p + 1) m1 (33 :: W) E (by show brk W + (if (33 : Nat) = 33 ∨ (33 : Nat) = 40 then 1 else 0) + k = 4; rw [if_pos (Or.inl rfl)]; omega) (by omega) (by omega)
      refine ⟨m', by omega, ?_⟩
      show (if ch p = 33 ∨ ch p = 40 then (if brk W = 4 then (false, p, E) else rnE ch m1 true (p + 1) (ch p :: W) E) else _) = _
      rw [if_pos (Or.inl hc), if_neg (by omega), hc, h2, show p + (bgs ch k (p + 1) + 1) = p + 1 + bgs ch k (p + 1) by omega]
      have e : List.replicate (bgs ch k (p + 1)) 33 ++ 33 :: W = List.replicate (bgs ch k (p + 1) + 1) 33 ++ W := by
        rw [List.replicate_succ', List.append_assoc]
        rfl
      rw [e]
    · rw [if_neg hc]
      exact ⟨m, by omega, rfl⟩
/-- one F -/
def ORn (ch : Nat → Nat) (N : Nat) (one : Nat → Rs) (k : Nat) : Prop := ∀ (p m : Nat) (W E : List Nat), top33 W → brk W + k = 4 → p ≤ N → N < p + m → if (one p).1 = true then ∃ m', N < (one p).2.1 + m' ∧ rnE ch m true p W E = rnE ch m' false (one p).2.1 W (E ++ (one p).2.2.2) else (rnE ch m true p W E).1 = false ∧ (rnE ch m true p W E).2.1 = (one p).2.1
/-- one E -/
def ARn (ch : Nat → Nat) (N : Nat) (any : Nat → Rs) (k : Nat) : Prop := ∀ (p m : Nat) (W E : List Nat), top40 W → brk W + k = 4 → 1 ≤ p → p ≤ N → N < p + m → if (any p).1 = true then ∃ m', N < (any p).2.1 + m' + 1 ∧ rnE ch m true p W E = fnE ch m' (any p).2.1 W (E ++ (any p).2.2.2) else (rnE ch m true p W E).1 = false ∧ (rnE ch m true p W E).2.1 = (any p).2.1
theorem one_run (hch : ∀ q, N ≤ q → ch q = 255) {rc : Nat → Nat → Rs} {k : Nat} (hrc : ∀ k', k' < k → ARn ch N (rc k') k') : ORn ch N (oneP ch rc k) k := by
  intro p m W E hW hb hp hm
  obtain ⟨m1, g1, g2⟩ := bang_run hch k p m W E hb hp hm
  have hN := bgs_N hch k p hp
  have hle := bgs_le (ch := ch) k p
  have hst := bgs_stop (ch := ch) k p
  unfold oneP
  rw [g2]
  generalize hj : bgs ch k p = j at g1 hN hle hst ⊢
  have hbj : brk (List.replicate j 33 ++ W) = j + brk W := brk_rep W j
  obtain ⟨m2, rfl⟩ : ∃ m2, m1 = m2 + 1 := ⟨m1 - 1, by omega⟩
  by_cases hc : j < k ∧ ch (p + j) = 40
  · rw [if_pos hc]
    have l1 := ch_lt hch (q := p + j) (by omega)
    have e1 : rnE ch (m2 + 1) true (p + j) (List.replicate j 33 ++ W) E = rnE ch m2 true (p + j + 1) (40 :: (List.replicate j 33 ++ W)) E := by
      show (if ch (p + j) = 33 ∨ ch (p + j) = 40 then (if brk (List.replicate j 33 ++ W) = 4 then (false, p + j, E) else rnE ch m2 true (p + j + 1) (ch (p + j) :: (List.replicate j 33 ++ W)) E) else _) = _
      rw [if_pos (Or.inr hc.2), if_neg (by omega), hc.2]
    rw [e1]
    have hr := hrc (k - j - 1) (by omega) (p + j + 1) m2 (40 :: (List.replicate j 33 ++ W)) E rfl (by show brk (List.replicate j 33 ++ W) + (if (40 : Nat) = 33 ∨ (40 : Nat) = 40 then 1 else 0) + (k - j - 1) = 4; rw [if_pos (Or.inr rfl)]; omega) (by omega) (by omega) (by omega)
    generalize rc (k - j - 1) (p + j + 1) = a at hr ⊢
    by_cases ha : a.1 = true
    · rw [if_pos ha] at hr
      obtain ⟨m', h1, h2⟩ := hr
      rw [h2]
      unfold clsP
      rw [if_pos ha]
      by_cases h41 : ch a.2.1 = 41
      · rw [if_pos h41]
        have e2 : notP j (true, a.2.1 + 1, a.2.2) = (true, a.2.1 + 1, a.2.2.1 ++ (if j % 2 = 1 then [30001] else []), a.2.2.2 ++ List.replicate j 30001) := if_pos rfl
        rw [e2]
        show if true = true then _ else _
        rw [if_pos rfl]
        refine ⟨m', by show N < a.2.1 + 1 + m'; omega, ?_⟩
        show (if ch a.2.1 = 41 then rnE ch m' false (a.2.1 + 1) (whP (List.replicate j 33 ++ W) (E ++ a.2.2.2)).1 (whP (List.replicate j 33 ++ W) (E ++ a.2.2.2)).2 else _) = _
        rw [if_pos h41, whP_rep hW, List.append_assoc]
      · rw [if_neg h41]
        have e2 : notP j (false, a.2.1, a.2.2) = (false, a.2.1, a.2.2) := if_neg Bool.false_ne_true
        rw [e2]
        show if false = true then _ else _
        rw [if_neg (by decide)]
        show (if ch a.2.1 = 41 then _ else (false, a.2.1, E ++ a.2.2.2)).1 = false ∧ (if ch a.2.1 = 41 then _ else (false, a.2.1, E ++ a.2.2.2)).2.1 = a.2.1
        rw [if_neg h41]
        exact ⟨rfl, rfl⟩
    · rw [if_neg ha] at hr
      have e2 : clsP ch a = a := if_neg ha
      have e3 : notP j a = a := if_neg ha
      rw [e2, e3, if_neg ha]
      exact hr
  · rw [if_neg hc]
    by_cases h3 : ch (p + j) = 33 ∨ ch (p + j) = 40
    · have hjk : j = k := by
        by_cases hlt : j < k
        · rcases h3 with h | h
          · exact absurd h (hst hlt)
          · exact absurd ⟨hlt, h⟩ hc
        · omega
      have l6 : ltr (ch (p + j)) = 6 := by
        rcases h3 with h | h
        · rw [h]; decide
        · rw [h]; decide
      have e4 : tsP ch (p + j) = (false, p + j, [], []) := if_pos l6
      rw [e4]
      have e2 : notP j (false, p + j, [], []) = (false, p + j, [], []) := if_neg Bool.false_ne_true
      rw [e2]
      show if false = true then _ else _
      rw [if_neg (by decide)]
      have e1 : rnE ch (m2 + 1) true (p + j) (List.replicate j 33 ++ W) E = (false, p + j, E) := by
        show (if ch (p + j) = 33 ∨ ch (p + j) = 40 then (if brk (List.replicate j 33 ++ W) = 4 then (false, p + j, E) else _) else _) = _
        rw [if_pos h3, if_pos (by omega)]
      rw [e1]
      exact ⟨rfl, rfl⟩
    · have e1 : rnE ch (m2 + 1) true (p + j) (List.replicate j 33 ++ W) E = if (tsP ch (p + j)).1 = true then rnE ch m2 false (tsP ch (p + j)).2.1 (whP (List.replicate j 33 ++ W) (E ++ (tsP ch (p + j)).2.2.2)).1 (whP (List.replicate j 33 ++ W) (E ++ (tsP ch (p + j)).2.2.2)).2 else (false, (tsP ch (p + j)).2.1, E) := if_neg h3
      rw [e1]
      have hg := ts_gd hch (p := p + j) hN
      generalize tsP ch (p + j) = a at hg ⊢
      by_cases ha : a.1 = true
      · have e2 : notP j a = (true, a.2.1, a.2.2.1 ++ (if j % 2 = 1 then [30001] else []), a.2.2.2 ++ List.replicate j 30001) := if_pos ha
        rw [e2, if_pos ha]
        show if true = true then _ else _
        rw [if_pos rfl, whP_rep hW]
        refine ⟨m2, ?_, ?_⟩
        · show N < a.2.1 + m2
          have := (hg.2.2 ha).1
          omega
        · show rnE ch m2 false a.2.1 W (E ++ a.2.2.2 ++ List.replicate j 30001) = _
          rw [List.append_assoc]
      · have e3 : notP j a = a := if_neg ha
        rw [e3, if_neg ha, if_neg ha]
        exact ⟨rfl, rfl⟩
theorem tm_run (hch : ∀ q, N ≤ q → ch q = 255) {one : Nat → Rs} {k w : Nat} (ho : ORn ch N one k) (hg : ∀ p, p ≤ N → Gd N p w (one p)) {Zs E0 : List Nat} (hZ : brk Zs + k = 4) : ∀ (f : Nat) (a : Rs) (m : Nat) (S E1 : List Nat), a.1 = true → a.2.1 ≤ N → N < a.2.1 + f → N < a.2.1 + m → stP 38 S E1 = (Zs, E0 ++ a.2.2.2) → stP 124 S E1 = stP 124 Zs (E0 ++ a.2.2.2) →
    if (tmP ch one f a).1 = true then ∃ (m' : Nat) (S' E' : List Nat), N < (tmP ch one f a).2.1 + m' ∧ rnE ch m false a.2.1 S E1 = rnE ch m' false (tmP ch one f a).2.1 S' E' ∧ stP 124 S' E' = stP 124 Zs (E0 ++ (tmP ch one f a).2.2.2) ∧ ch (tmP ch one f a).2.1 ≠ 38 else (rnE ch m false a.2.1 S E1).1 = false ∧ (rnE ch m false a.2.1 S E1).2.1 = (tmP ch one f a).2.1
  | 0, a, m, S, E1, ha, hN, hf, hm, h1, h2 => by omega
  | f + 1, a, m, S, E1, ha, hN, hf, hm, h1, h2 => by
    have et : tmP ch one (f + 1) a = if ch a.2.1 = 38 then (if (one (a.2.1 + 1)).1 = true then tmP ch one f (true, (one (a.2.1 + 1)).2.1, a.2.2.1 ++ (one (a.2.1 + 1)).2.2.1 ++ [30002], a.2.2.2 ++ (one (a.2.1 + 1)).2.2.2 ++ [30002]) else one (a.2.1 + 1)) else a := rfl
    rw [et]
    by_cases hc : ch a.2.1 = 38
    · rw [if_pos hc]
      have l1 := ch_lt hch (q := a.2.1) (by omega)
      obtain ⟨m1, rfl⟩ : ∃ m1, m = m1 + 1 := ⟨m - 1, by omega⟩
      have e1 : rnE ch (m1 + 1) false a.2.1 S E1 = rnE ch m1 true (a.2.1 + 1) (38 :: Zs) (E0 ++ a.2.2.2) := by
        show (if ch a.2.1 = 38 ∨ ch a.2.1 = 124 then rnE ch m1 true (a.2.1 + 1) (ch a.2.1 :: (stP (ch a.2.1) S E1).1) (stP (ch a.2.1) S E1).2 else _) = _
        rw [if_pos (Or.inl hc), hc, h1]
      rw [e1]
      have hr := ho (a.2.1 + 1) m1 (38 :: Zs) (E0 ++ a.2.2.2) (by show (38 : Nat) ≠ 33; decide) (by show brk Zs + (if (38 : Nat) = 33 ∨ (38 : Nat) = 40 then 1 else 0) + k = 4; rw [if_neg (by decide)]; exact hZ) (by omega) (by omega)
      have hgo := hg (a.2.1 + 1) (by omega)
      generalize one (a.2.1 + 1) = r at hr hgo ⊢
      by_cases hrr : r.1 = true
      · rw [if_pos hrr] at hr
        obtain ⟨m2, k1, k2⟩ := hr
        rw [if_pos hrr, k2]
        have := (hgo.2.2 hrr).1
        have hi := tm_run hch ho hg (E0 := E0) hZ f (true, r.2.1, a.2.2.1 ++ r.2.2.1 ++ [30002], a.2.2.2 ++ r.2.2.2 ++ [30002]) m2 (38 :: Zs) (E0 ++ a.2.2.2 ++ r.2.2.2) rfl hgo.2.1 (by show N < r.2.1 + f; omega) k1 ?_ ?_
        · exact hi
        · show (if (38 : Nat) = 38 then stP 38 Zs (E0 ++ a.2.2.2 ++ r.2.2.2 ++ [30002]) else _) = _
          rw [if_pos rfl]
          have e3 : stP 38 Zs (E0 ++ a.2.2.2 ++ r.2.2.2 ++ [30002]) = (Zs, E0 ++ a.2.2.2 ++ r.2.2.2 ++ [30002]) := by
            have h4 : ∀ X, stP 38 Zs X = (Zs, X) := by
              intro X
              cases Zs with
              | nil => rfl
              | cons x Z =>
                show (if x = 38 then _ else if x = 124 ∧ (38 : Nat) ≠ 38 then _ else _) = _
                have hx : x ≠ 38 := by
                  intro hx
                  subst hx
                  have hlen : ∀ (T X : List Nat), (stP 38 T X).1.length ≤ T.length := by
                    intro T
                    induction T with
                    | nil => intro X; exact Nat.le_refl _
                    | cons y T ih =>
                      intro X
                      show (if y = 38 then stP 38 T (X ++ [30002]) else if y = 124 ∧ (38 : Nat) ≠ 38 then _ else _).1.length ≤ T.length + 1
                      split
                      · exact Nat.le_succ_of_le (ih _)
                      · rw [if_neg (by omega)]
                        exact Nat.le_refl _
                  have hno : ∀ (T X : List Nat) (z : Nat) (Z' : List Nat), (stP 38 T X).1 = z :: Z' → z ≠ 38 := by
                    intro T
                    induction T with
                    | nil => intro X z Z' h; cases h
                    | cons y T ih =>
                      intro X z Z' h
                      have h5 : (if y = 38 then stP 38 T (X ++ [30002]) else if y = 124 ∧ (38 : Nat) ≠ 38 then stP 38 T (X ++ [30003]) else (y :: T, X)).1 = z :: Z' := h
                      by_cases hy : y = 38
                      · rw [if_pos hy] at h5
                        exact ih _ _ _ h5
                      · rw [if_neg hy, if_neg (by omega)] at h5
                        cases h5
                        exact hy
                  exact hno S E1 38 Z (by rw [h1]) rfl
                rw [if_neg hx, if_neg (by omega)]
            exact h4 _
          rw [e3]
          simp only [List.append_assoc]
        · show (if (38 : Nat) = 38 then stP 124 Zs (E0 ++ a.2.2.2 ++ r.2.2.2 ++ [30002]) else _) = _
          rw [if_pos rfl]
          simp only [List.append_assoc]
      · rw [if_neg hrr] at hr
        rw [if_neg hrr, if_neg hrr]
        exact hr
    · rw [if_neg hc, if_pos ha]
      exact ⟨m, S, E1, hm, rfl, h2, hc⟩
theorem an_run (hch : ∀ q, N ≤ q → ch q = 255) {one : Nat → Rs} {k w : Nat} (ho : ORn ch N one k) (hg : ∀ p, p ≤ N → Gd N p w (one p)) {W E0 : List Nat} (hW : top40 W) (hb : brk W + k = 4) (h100 : N ≤ 100) : ∀ (f n : Nat) (acc : List Nat × List Nat) (p m : Nat), 1 ≤ p → p ≤ N → N < p + f → N < p + m →
    if (anP ch one f n acc p).1 = true then ∃ m', N < (anP ch one f n acc p).2.1 + m' + 1 ∧ rnE ch m true p (if n = 0 then W else 124 :: W) (if n = 0 then E0 else E0 ++ acc.2) = fnE ch m' (anP ch one f n acc p).2.1 W (E0 ++ (anP ch one f n acc p).2.2.2) else (rnE ch m true p (if n = 0 then W else 124 :: W) (if n = 0 then E0 else E0 ++ acc.2)).1 = false ∧ (rnE ch m true p (if n = 0 then W else 124 :: W) (if n = 0 then E0 else E0 ++ acc.2)).2.1 = (anP ch one f n acc p).2.1
  | 0, n, acc, p, m, h1, hp, hf, hm => by omega
  | f + 1, n, acc, p, m, h1, hp, hf, hm => by
    have ea : anP ch one (f + 1) n acc p = if (one p).1 = true then (if (tmP ch one 100 (one p)).1 = true then (if ch (tmP ch one 100 (one p)).2.1 = 124 then anP ch one f (n + 1) (orP n acc (tmP ch one 100 (one p)).2.2) ((tmP ch one 100 (one p)).2.1 + 1) else (true, (tmP ch one 100 (one p)).2.1, orP n acc (tmP ch one 100 (one p)).2.2)) else tmP ch one 100 (one p)) else one p := rfl
    rw [ea]
    generalize hZs : (if n = 0 then W else 124 :: W) = Zs
    generalize hEs : (if n = 0 then E0 else E0 ++ acc.2) = Es
    have hbZ : brk Zs + k = 4 := by
      rw [← hZs]
      split
      · exact hb
      · show brk W + (if (124 : Nat) = 33 ∨ (124 : Nat) = 40 then 1 else 0) + k = 4
        rw [if_neg (by decide)]
        exact hb
    have htZ : top33 Zs := by
      rw [← hZs]
      split
      · exact hW.t33
      · show (124 : Nat) ≠ 33
        decide
    have h38 : ∀ X, stP 38 Zs X = (Zs, X) := by
      intro X
      rw [← hZs]
      split
      · exact stP_top 38 hW X
      · exact stP_or X
    have hr := ho p m Zs Es htZ hbZ hp hm
    have hgo := hg p hp
    have htg := fun hrr => tm_gd hch hg (p0 := p) 100 (one p) (hgo.mono (Nat.le_succ w)) hrr
    have htr := fun (m1 : Nat) (hrr : (one p).1 = true) (hm1 : N < (one p).2.1 + m1) => tm_run hch ho hg (E0 := Es) hbZ 100 (one p) m1 Zs (Es ++ (one p).2.2.2) hrr hgo.2.1 (by have := (hgo.2.2 hrr).1; omega) hm1 (h38 _) rfl
    generalize one p = r at hr hgo htg htr ⊢
    by_cases hrr : r.1 = true
    · rw [if_pos hrr] at hr ⊢
      obtain ⟨m1, k1, k2⟩ := hr
      rw [k2]
      have ht := htr m1 hrr k1
      have hg2 := htg hrr
      generalize tmP ch one 100 r = t at ht hg2 ⊢
      by_cases htt : t.1 = true
      · rw [if_pos htt] at ht ⊢
        obtain ⟨m2, S, E1, j1, j2, j3, j4⟩ := ht
        rw [j2]
        have e124 : stP 124 S E1 = (W, E0 ++ (orP n acc t.2.2).2) := by
          rw [j3, ← hZs, ← hEs]
          unfold orP
          by_cases h0 : n = 0
          · rw [if_pos h0, if_pos h0, if_pos h0]
            exact stP_top 124 hW _
          · rw [if_neg h0, if_neg h0, if_neg h0]
            show (if (124 : Nat) = 38 then _ else if (124 : Nat) = 124 ∧ (124 : Nat) ≠ 38 then stP 124 W (E0 ++ acc.2 ++ t.2.2.2 ++ [30003]) else _) = _
            rw [if_neg (by decide), if_pos (by decide), stP_top 124 hW]
            simp only [List.append_assoc]
        have hlt := (hg2.2.2 htt).1
        have hltN := hg2.2.1
        obtain ⟨m3, rfl⟩ : ∃ m3, m2 = m3 + 1 := ⟨m2 - 1, by omega⟩
        by_cases hc : ch t.2.1 = 124
        · rw [if_pos hc]
          have l1 := ch_lt hch (q := t.2.1) (by omega)
          have e1 : rnE ch (m3 + 1) false t.2.1 S E1 = rnE ch m3 true (t.2.1 + 1) (124 :: W) (E0 ++ (orP n acc t.2.2).2) := by
            show (if ch t.2.1 = 38 ∨ ch t.2.1 = 124 then rnE ch m3 true (t.2.1 + 1) (ch t.2.1 :: (stP (ch t.2.1) S E1).1) (stP (ch t.2.1) S E1).2 else _) = _
            rw [if_pos (Or.inr hc), hc, e124]
          rw [e1]
          exact an_run hch ho hg hW hb h100 f (n + 1) (orP n acc t.2.2) (t.2.1 + 1) m3 (by omega) (by omega) (by omega) (by omega)
        · rw [if_neg hc]
          show if true = true then _ else _
          rw [if_pos rfl]
          refine ⟨m3, by show N < t.2.1 + m3 + 1; omega, ?_⟩
          show (if ch t.2.1 = 38 ∨ ch t.2.1 = 124 then _ else match (stP 124 S E1).1 with
            | [] => (true, t.2.1, (stP 124 S E1).2)
            | _ :: W' => if ch t.2.1 = 41 then rnE ch m3 false (t.2.1 + 1) (whP W' (stP 124 S E1).2).1 (whP W' (stP 124 S E1).2).2 else (false, t.2.1, (stP 124 S E1).2)) = _
          rw [if_neg (by omega), e124]
          rfl
      · rw [if_neg htt] at ht ⊢
        rw [if_neg htt]
        exact ht
    · rw [if_neg hrr] at hr ⊢
      rw [if_neg hrr]
      exact hr
theorem any_run (hch : ∀ q, N ≤ q → ch q = 255) (h100 : N ≤ 100) : ∀ f k : Nat, k < f → ARn ch N (anyP ch f k) k
  | 0, k, h => absurd h (Nat.not_lt_zero _)
  | f + 1, k, h => by
    intro p m W E hW hb h1 hp hm
    have ho : ORn ch N (oneP ch (anyP ch f) k) k := one_run hch (fun k' hk' => any_run hch h100 f k' (by omega))
    have hg : ∀ q, q ≤ N → Gd N q (2 * k + 1) (oneP ch (anyP ch f) k q) := fun q hq => one_gd hch (fun k' p' hk' hp' => any_gd hch f k' p' (by omega) hp') hq
    exact an_run hch ho hg (E0 := E) hW hb h100 100 0 ([], []) p m h1 hp (by omega) hm
end RUN
