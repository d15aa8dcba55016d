/-! a law's text, read from the left on: what both readers find -/
/-- was it there, the place behind it (or of the fault), the first object's steps, the second's -/
abbrev Rs : Type := Bool × Nat × List Nat × List Nat
def dgt (ch : Nat → Nat) (p : Nat) : Bool := decide (48 ≤ ch p ∧ ch p ≤ 57)
def nuL (ch : Nat → Nat) (p : Nat) : Nat := if dgt ch p = true then (if dgt ch (p + 1) = true then 2 else 1) else 0
def nuV (ch : Nat → Nat) (p : Nat) : Nat := if dgt ch p = true then (if dgt ch (p + 1) = true then 10 * (ch p - 48) + (ch (p + 1) - 48) else ch p - 48) else 0
def ltr (c : Nat) : Nat := if c = 101 then 0 else if c = 107 then 1 else if c = 115 then 2 else if c = 119 then 3 else if c = 99 then 4 else if c = 100 then 5 else 6
def tsO (ch : Nat → Nat) (p : Nat) : Nat := (ltr (ch p) * 3 + (ch (p + 1) - 60)) * 100 + nuV ch (p + 2)
def tsP (ch : Nat → Nat) (p : Nat) : Rs := if ltr (ch p) = 6 then (false, p, [], []) else if 60 ≤ ch (p + 1) ∧ ch (p + 1) ≤ 62 then (if nuL ch (p + 2) = 0 then (false, p + 2, [], []) else (true, p + 2 + nuL ch (p + 2), [tsO ch p], [tsO ch p])) else (false, p + 1, [], [])
def bgs (ch : Nat → Nat) : Nat → Nat → Nat
  | 0, _ => 0
  | k + 1, p => if ch p = 33 then bgs ch k (p + 1) + 1 else 0
def clsP (ch : Nat → Nat) (a : Rs) : Rs := if a.1 = true then (if ch a.2.1 = 41 then (true, a.2.1 + 1, a.2.2) else (false, a.2.1, a.2.2)) else a
def notP (j : Nat) (r : Rs) : Rs := if r.1 = true then (true, r.2.1, r.2.2.1 ++ (if j % 2 = 1 then [30001] else []), r.2.2.2 ++ List.replicate j 30001) else r
def oneP (ch : Nat → Nat) (rc : Nat → Nat → Rs) (k p : Nat) : Rs := notP (bgs ch k p) (if bgs ch k p < k ∧ ch (p + bgs ch k p) = 40 then clsP ch (rc (k - bgs ch k p - 1) (p + bgs ch k p + 1)) else tsP ch (p + bgs ch k p))
def tmP (ch : Nat → Nat) (one : Nat → Rs) : Nat → Rs → Rs
  | 0, a => a
  | f + 1, a => if ch a.2.1 = 38 then (if (one (a.2.1 + 1)).1 = true then tmP ch one f (true, (one (a.2.1 + 1)).2.1, a.2.2.1 ++ (one (a.2.1 + 1)).2.2.1 ++ [30002], a.2.2.2 ++ (one (a.2.1 + 1)).2.2.2 ++ [30002]) else one (a.2.1 + 1)) else a
def orP (n : Nat) (acc q : List Nat × List Nat) : List Nat × List Nat := if n = 0 then q else (acc.1 ++ q.1 ++ [30003], acc.2 ++ q.2 ++ [30003])
def anP (ch : Nat → Nat) (one : Nat → Rs) : Nat → Nat → List Nat × List Nat → Nat → Rs
  | 0, _, _, p => (false, p, [], [])
  | f + 1, n, acc, p => if (one p).1 = true then (if (tmP ch one 100 (one p)).1 = true then (if ch (tmP ch one 100 (one p)).2.1 = 124 then anP ch one f (n + 1) (orP n acc (tmP ch one 100 (one p)).2.2) ((tmP ch one 100 (one p)).2.1 + 1) else (true, (tmP ch one 100 (one p)).2.1, orP n acc (tmP ch one 100 (one p)).2.2)) else tmP ch one 100 (one p)) else one p
def anyP (ch : Nat → Nat) : Nat → Nat → Nat → Rs
  | 0, _, p => (false, p, [], [])
  | f + 1, k, p => anP ch (oneP ch (anyP ch f) k) 100 0 ([], []) p
/-- both say the same, and how deep their stacks go -/
def okO (ops : List Nat) : Prop := ∀ op ∈ ops, op < 1800 ∨ op = 30001 ∨ op = 30002 ∨ op = 30003
def okR (C M : List Nat) (w : Nat) : Prop := okO C ∧ okO M ∧ ∃ v : (Nat → Int32) → Bool, (∀ F st rest, runB F (C ++ rest) st = runB F rest (v F :: st)) ∧ (∀ F st rest, runB F (M ++ rest) st = runB F rest (v F :: st)) ∧ (∀ d rest, d + w ≤ 30 → depC (C ++ rest) d = depC rest (d + 1)) ∧ ∀ m d rest, d + w ≤ m → depB m (M ++ rest) d = depB m rest (d + 1)
theorem okO_app {A B : List Nat} (hA : okO A) (hB : okO B) : okO (A ++ B) := fun op h => (List.mem_append.mp h).elim (hA op) (hB op)
theorem okO_1 {op : Nat} (h : op < 1800 ∨ op = 30001 ∨ op = 30002 ∨ op = 30003) : okO [op] := fun x hx => by
  rw [List.mem_singleton] at hx
  rw [hx]
  exact h
theorem okR_mono {C M : List Nat} {w w' : Nat} (h : okR C M w) (hw : w ≤ w') : okR C M w' := by
  obtain ⟨h1, h2, v, h3, h4, h5, h6⟩ := h
  exact ⟨h1, h2, v, h3, h4, fun d rest hd => h5 d rest (by omega), fun m d rest hd => h6 m d rest (by omega)⟩
theorem okR_test {op : Nat} (h : op < 1800) : okR [op] [op] 1 := by
  refine ⟨okO_1 (Or.inl h), okO_1 (Or.inl h), fun F => tst F op, fun F st rest => ?_, fun F st rest => ?_, fun d rest hd => ?_, fun m d rest hd => ?_⟩
  · show runB F rest (if op < 1800 then _ else _) = _
    rw [if_pos h]
  · show runB F rest (if op < 1800 then _ else _) = _
    rw [if_pos h]
  · show (if op < 1800 then _ else _) = _
    rw [if_pos h, decide_eq_true (show d < 30 by omega), Bool.true_and]
    rfl
  · show (if op < 1800 then _ else _) = _
    rw [if_pos h, decide_eq_true (show d < m by omega), Bool.true_and]
    rfl
theorem rb_not (F : Nat → Int32) (rest : List Nat) (a : Bool) (st : List Bool) : runB F (30001 :: rest) (a :: st) = runB F rest ((!a) :: st) := rfl
theorem rb_and (F : Nat → Int32) (rest : List Nat) (a b : Bool) (st : List Bool) : runB F (30002 :: rest) (a :: b :: st) = runB F rest ((b && a) :: st) := rfl
theorem rb_or (F : Nat → Int32) (rest : List Nat) (a b : Bool) (st : List Bool) : runB F (30003 :: rest) (a :: b :: st) = runB F rest ((b || a) :: st) := rfl
theorem dc_not (rest : List Nat) (d : Nat) : depC (30001 :: rest) (d + 1) = depC rest (d + 1) := by
  show (if (30001 : Nat) < 1800 then _ else if 10000 ≤ (30001 : Nat) ∧ (30001 : Nat) < 30000 then _ else if (30001 : Nat) = 30001 then _ else _) = _
  rw [if_neg (by decide), if_neg (by decide), if_pos rfl, decide_eq_true (show 1 ≤ d + 1 by omega), Bool.true_and]
theorem db_not (m : Nat) (rest : List Nat) (d : Nat) : depB m (30001 :: rest) (d + 1) = depB m rest (d + 1) := by
  show (if (30001 : Nat) < 1800 then _ else if (30001 : Nat) = 30001 then _ else _) = _
  rw [if_neg (by decide), if_pos rfl, decide_eq_true (show 1 ≤ d + 1 by omega), Bool.true_and]
theorem dc_two {op : Nat} (h : op = 30002 ∨ op = 30003) (rest : List Nat) (d : Nat) : depC (op :: rest) (d + 2) = depC rest (d + 1) := by
  show (if op < 1800 then _ else if 10000 ≤ op ∧ op < 30000 then _ else if op = 30001 then _ else decide (op = 30002 ∨ op = 30003) && decide (2 ≤ d + 2) && depC rest (d + 2 - 1)) = _
  rw [if_neg (by omega), if_neg (by omega), if_neg (by omega), decide_eq_true h, decide_eq_true (show 2 ≤ d + 2 by omega), Bool.true_and, Bool.true_and]
  rfl
theorem db_two {op : Nat} (h : op = 30002 ∨ op = 30003) (m : Nat) (rest : List Nat) (d : Nat) : depB m (op :: rest) (d + 2) = depB m rest (d + 1) := by
  show (if op < 1800 then _ else if op = 30001 then _ else decide (op = 30002 ∨ op = 30003) && decide (2 ≤ d + 2) && depB m rest (d + 2 - 1)) = _
  rw [if_neg (by omega), if_neg (by omega), decide_eq_true h, decide_eq_true (show 2 ≤ d + 2 by omega), Bool.true_and, Bool.true_and]
  rfl
theorem okR_two {A A' B B' : List Nat} {op wa wb w : Nat} (h : op = 30002 ∨ op = 30003) (hA : okR A A' wa) (hB : okR B B' wb) (h1 : wa ≤ w) (h2 : wb + 1 ≤ w) : okR (A ++ B ++ [op]) (A' ++ B' ++ [op]) w := by
  obtain ⟨a1, a2, v, a3, a4, a5, a6⟩ := hA
  obtain ⟨b1, b2, u, b3, b4, b5, b6⟩ := hB
  have hop : okO [op] := okO_1 (by omega)
  refine ⟨okO_app (okO_app a1 b1) hop, okO_app (okO_app a2 b2) hop, fun F => if op = 30002 then v F && u F else v F || u F, fun F st rest => ?_, fun F st rest => ?_, fun d rest hd => ?_, fun m d rest hd => ?_⟩
  · rw [List.append_assoc, List.append_assoc, a3, b3]
    rcases h with rfl | rfl <;> rfl
  · rw [List.append_assoc, List.append_assoc, a4, b4]
    rcases h with rfl | rfl <;> rfl
  · rw [List.append_assoc, List.append_assoc, a5 d _ (by omega), b5 (d + 1) _ (by omega)]
    exact dc_two h rest d
  · rw [List.append_assoc, List.append_assoc, a6 m d _ (by omega), b6 m (d + 1) _ (by omega)]
    exact db_two h m rest d
theorem okR_nn {C M : List Nat} {w : Nat} (h : okR C M w) : okR C (M ++ [30001] ++ [30001]) w := by
  obtain ⟨a1, a2, v, a3, a4, a5, a6⟩ := h
  refine ⟨a1, okO_app (okO_app a2 (okO_1 (by omega))) (okO_1 (by omega)), v, a3, fun F st rest => ?_, a5, fun m d rest hd => ?_⟩
  · rw [List.append_assoc, List.append_assoc, a4]
    show runB F rest ((!(!(v F))) :: st) = _
    rw [Bool.not_not]
  · rw [List.append_assoc, List.append_assoc, a6 m d _ hd]
    show depB m (30001 :: (30001 :: rest)) (d + 1) = _
    rw [db_not, db_not]
theorem okR_n1 {C M : List Nat} {w : Nat} (h : okR C M w) : okR (C ++ [30001]) (M ++ [30001]) w := by
  obtain ⟨a1, a2, v, a3, a4, a5, a6⟩ := h
  refine ⟨okO_app a1 (okO_1 (by omega)), okO_app a2 (okO_1 (by omega)), fun F => !(v F), fun F st rest => ?_, fun F st rest => ?_, fun d rest hd => ?_, fun m d rest hd => ?_⟩
  · rw [List.append_assoc, a3]
    rfl
  · rw [List.append_assoc, a4]
    rfl
  · rw [List.append_assoc, a5 d _ hd]
    exact dc_not rest d
  · rw [List.append_assoc, a6 m d _ hd]
    exact db_not m rest d
theorem okR_not {w : Nat} : ∀ (j : Nat) {C M : List Nat}, okR C M w → okR (C ++ (if j % 2 = 1 then [30001] else [])) (M ++ List.replicate j 30001) w
  | 0, C, M, h => by
    rw [if_neg (by decide), List.append_nil]
    show okR C (M ++ []) w
    rw [List.append_nil]
    exact h
  | 1, C, M, h => by
    rw [if_pos (by decide)]
    exact okR_n1 h
  | j + 2, C, M, h => by
    have e : (j + 2) % 2 = j % 2 := by omega
    have h2 := okR_not j (okR_nn h)
    rw [e]
    have e2 : M ++ [30001] ++ [30001] ++ List.replicate j 30001 = M ++ List.replicate (j + 2) 30001 := by
      rw [List.append_assoc, List.append_assoc]
      rfl
    rw [e2] at h2
    exact h2
/-- where it ends, what it writes -/
def Gd (N p w : Nat) (r : Rs) : Prop := p ≤ r.2.1 ∧ r.2.1 ≤ N ∧ (r.1 = true → p < r.2.1 ∧ r.2.2.1.length + p ≤ r.2.1 ∧ r.2.2.2.length + p ≤ r.2.1 ∧ okR r.2.2.1 r.2.2.2 w)
section GDS
variable {ch : Nat → Nat} {N : Nat}
theorem ch_lt (hch : ∀ q, N ≤ q → ch q = 255) {q : Nat} (h : ch q ≠ 255) : q < N := by
  by_cases hq : q < N
  · exact hq
  · exact absurd (hch q (by omega)) h
theorem dgt_lt (hch : ∀ q, N ≤ q → ch q = 255) {q : Nat} (h : dgt ch q = true) : q < N := ch_lt hch (by
  have := of_decide_eq_true h
  omega)
theorem nuL_le (hch : ∀ q, N ≤ q → ch q = 255) {q : Nat} (hq : q ≤ N) : q + nuL ch q ≤ N := by
  unfold nuL
  split
  · rename_i h
    have := dgt_lt hch h
    split
    · rename_i h2
      have := dgt_lt hch h2
      omega
    · omega
  · omega
theorem nuV_lt (q : Nat) : nuV ch q < 100 := by
  unfold nuV
  split
  · rename_i h
    have := of_decide_eq_true h
    split
    · rename_i h2
      have := of_decide_eq_true h2
      omega
    · omega
  · omega
theorem ltr_le (c : Nat) : ltr c ≤ 6 := by
  unfold ltr
  repeat' split
  all_goals omega
theorem ltr_255 : ltr 255 = 6 := by decide
theorem tsO_lt {p : Nat} (h : ¬ ltr (ch p) = 6) (h2 : ch (p + 1) ≤ 62) : tsO ch p < 1800 := by
  unfold tsO
  have h3 := nuV_lt (ch := ch) (p + 2)
  have h4 := ltr_le (ch p)
  have h5 : ltr (ch p) * 3 + (ch (p + 1) - 60) ≤ 17 := by omega
  omega
theorem ts_gd (hch : ∀ q, N ≤ q → ch q = 255) {p : Nat} (hp : p ≤ N) : Gd N p 1 (tsP ch p) := by
  unfold tsP
  split
  · exact ⟨Nat.le_refl _, hp, fun h => by cases h⟩
  · rename_i h1
    have l1 : p < N := ch_lt hch (fun e => h1 (by rw [e]; exact ltr_255))
    split
    · rename_i h2
      have l2 : p + 1 < N := ch_lt hch (by omega)
      have l3 := nuL_le hch (show p + 2 ≤ N by omega)
      split
      · exact ⟨by show p ≤ p + 2; omega, by show p + 2 ≤ N; omega, fun h => by cases h⟩
      · refine ⟨by show p ≤ p + 2 + nuL ch (p + 2); omega, l3, fun _ => ⟨by show p < p + 2 + nuL ch (p + 2); omega, by show 1 + p ≤ p + 2 + nuL ch (p + 2); omega, by show 1 + p ≤ p + 2 + nuL ch (p + 2); omega, okR_test (tsO_lt h1 h2.2)⟩⟩
    · exact ⟨by show p ≤ p + 1; omega, by show p + 1 ≤ N; omega, fun h => by cases h⟩
theorem bgs_le : ∀ k p : Nat, bgs ch k p ≤ k
  | 0, _ => Nat.le_refl _
  | k + 1, p => by
    show (if ch p = 33 then bgs ch k (p + 1) + 1 else 0) ≤ k + 1
    split
    · have := bgs_le k (p + 1)
      omega
    · omega
theorem bgs_N (hch : ∀ q, N ≤ q → ch q = 255) : ∀ k p : Nat, p ≤ N → p + bgs ch k p ≤ N
  | 0, p, hp => hp
  | k + 1, p, hp => by
    show p + (if ch p = 33 then bgs ch k (p + 1) + 1 else 0) ≤ N
    split
    · rename_i h
      have l1 : p < N := ch_lt hch (by omega)
      have := bgs_N hch k (p + 1) (by omega)
      omega
    · omega
theorem bgs_stop : ∀ k p : Nat, bgs ch k p < k → ch (p + bgs ch k p) ≠ 33
  | 0, p, h => absurd h (Nat.not_lt_zero _)
  | k + 1, p, h => by
    have e : bgs ch (k + 1) p = if ch p = 33 then bgs ch k (p + 1) + 1 else 0 := rfl
    rw [e] at h ⊢
    by_cases hc : ch p = 33
    · rw [if_pos hc] at h ⊢
      have := bgs_stop k (p + 1) (by omega)
      rw [show p + (bgs ch k (p + 1) + 1) = p + 1 + bgs ch k (p + 1) by omega]
      exact this
    · rw [if_neg hc]
      exact hc
theorem cls_gd (hch : ∀ q, N ≤ q → ch q = 255) {p w : Nat} {a : Rs} (h : Gd N p w a) : Gd N p w (clsP ch a) := by
  obtain ⟨h1, h2, h3⟩ := h
  unfold clsP
  split
  · rename_i ha
    obtain ⟨g1, g2, g3, g4⟩ := h3 ha
    split
    · rename_i hc
      have := ch_lt hch (q := a.2.1) (by omega)
      exact ⟨by show p ≤ a.2.1 + 1; omega, by show a.2.1 + 1 ≤ N; omega, fun _ => ⟨by show p < a.2.1 + 1; omega, by show a.2.2.1.length + p ≤ a.2.1 + 1; omega, by show a.2.2.2.length + p ≤ a.2.1 + 1; omega, g4⟩⟩
    · exact ⟨h1, h2, fun h => by cases h⟩
  · exact ⟨h1, h2, h3⟩
theorem not_gd {p j w : Nat} {r : Rs} (h : Gd N (p + j) w r) : Gd N p w (notP j r) := by
  obtain ⟨h1, h2, h3⟩ := h
  unfold notP
  split
  · rename_i hr
    obtain ⟨g1, g2, g3, g4⟩ := h3 hr
    refine ⟨by show p ≤ r.2.1; omega, h2, fun _ => ⟨by show p < r.2.1; omega, ?_, ?_, okR_not j g4⟩⟩
    · show (r.2.2.1 ++ (if j % 2 = 1 then [30001] else [])).length + p ≤ r.2.1
      rw [List.length_append]
      split
      · show r.2.2.1.length + 1 + p ≤ r.2.1
        omega
      · show r.2.2.1.length + 0 + p ≤ r.2.1
        omega
    · show (r.2.2.2 ++ List.replicate j 30001).length + p ≤ r.2.1
      rw [List.length_append, List.length_replicate]
      omega
  · rename_i hr
    exact ⟨by omega, h2, fun h => absurd h hr⟩
theorem Gd.mono {p w w' : Nat} {r : Rs} (h : Gd N p w r) (hw : w ≤ w') : Gd N p w' r := ⟨h.1, h.2.1, fun hr => ⟨(h.2.2 hr).1, (h.2.2 hr).2.1, (h.2.2 hr).2.2.1, okR_mono (h.2.2 hr).2.2.2 hw⟩⟩
theorem Gd.down {p p' w : Nat} {r : Rs} (h : Gd N p w r) (hp : p' ≤ p) : Gd N p' w r := ⟨Nat.le_trans hp h.1, h.2.1, fun hr => ⟨Nat.lt_of_le_of_lt hp (h.2.2 hr).1, by have := (h.2.2 hr).2.1; omega, by have := (h.2.2 hr).2.2.1; omega, (h.2.2 hr).2.2.2⟩⟩
theorem one_gd (hch : ∀ q, N ≤ q → ch q = 255) {rc : Nat → Nat → Rs} {k p : Nat} (hrc : ∀ k' p', k' < k → p' ≤ N → Gd N p' (2 * k' + 3) (rc k' p')) (hp : p ≤ N) : Gd N p (2 * k + 1) (oneP ch rc k p) := by
  unfold oneP
  have hb := bgs_N hch k p hp
  refine not_gd ?_
  split
  · rename_i h
    have l1 : p + bgs ch k p < N := ch_lt hch (by omega)
    refine ((cls_gd hch (hrc (k - bgs ch k p - 1) (p + bgs ch k p + 1) (by omega) (by omega))).mono ?_).down ?_
    · omega
    · omega
  · exact (ts_gd hch hb).mono (by omega)
theorem tm_gd (hch : ∀ q, N ≤ q → ch q = 255) {one : Nat → Rs} {w : Nat} (ho : ∀ p, p ≤ N → Gd N p w (one p)) {p0 : Nat} : ∀ (f : Nat) (a : Rs), Gd N p0 (w + 1) a → a.1 = true → Gd N p0 (w + 1) (tmP ch one f a)
  | 0, a, h, _ => h
  | f + 1, a, h, ha => by
    show Gd N p0 (w + 1) (if ch a.2.1 = 38 then _ else _)
    obtain ⟨h1, h2, h3⟩ := h
    obtain ⟨g1, g2, g3, g4⟩ := h3 ha
    split
    · rename_i hc
      have l1 := ch_lt hch (q := a.2.1) (by omega)
      have hg := ho (a.2.1 + 1) (by omega)
      generalize one (a.2.1 + 1) = r at hg ⊢
      split
      · rename_i hr
        obtain ⟨k1, k2, k3⟩ := hg
        obtain ⟨m1, m2, m3, m4⟩ := k3 hr
        refine tm_gd hch ho f _ ⟨by show p0 ≤ r.2.1; omega, k2, fun _ => ⟨by show p0 < r.2.1; omega, ?_, ?_, okR_two (Or.inl rfl) g4 m4 (Nat.le_refl _) (Nat.le_refl _)⟩⟩ rfl
        · show (a.2.2.1 ++ r.2.2.1 ++ [30002]).length + p0 ≤ r.2.1
          simp only [List.length_append, List.length_singleton]
          omega
        · show (a.2.2.2 ++ r.2.2.2 ++ [30002]).length + p0 ≤ r.2.1
          simp only [List.length_append, List.length_singleton]
          omega
      · rename_i hr
        exact ⟨by have := hg.1; omega, hg.2.1, fun h => absurd h hr⟩
    · exact ⟨h1, h2, h3⟩
theorem an_gd (hch : ∀ q, N ≤ q → ch q = 255) {one : Nat → Rs} {w : Nat} (ho : ∀ p, p ≤ N → Gd N p w (one p)) {p0 : Nat} : ∀ (f n : Nat) (acc : List Nat × List Nat) (p : Nat), p ≤ N → p0 ≤ p → (n = 0 ∨ (acc.1.length + p0 + 1 ≤ p ∧ acc.2.length + p0 + 1 ≤ p ∧ okR acc.1 acc.2 (w + 2))) → Gd N p0 (w + 2) (anP ch one f n acc p)
  | 0, n, acc, p, hp, hp0, _ => ⟨hp0, hp, fun h => by cases h⟩
  | f + 1, n, acc, p, hp, hp0, hacc => by
    show Gd N p0 (w + 2) (if (one p).1 = true then _ else _)
    have hg := ho p hp
    split
    · rename_i hr
      have ht := tm_gd hch ho (p0 := p) 100 (one p) (hg.mono (by omega)) hr
      generalize tmP ch one 100 (one p) = t at ht ⊢
      obtain ⟨t1, t2, t3⟩ := ht
      split
      · rename_i htt
        obtain ⟨u1, u2, u3, u4⟩ := t3 htt
        have hu : (orP n acc t.2.2).1.length + p0 ≤ t.2.1 ∧ (orP n acc t.2.2).2.length + p0 ≤ t.2.1 ∧ okR (orP n acc t.2.2).1 (orP n acc t.2.2).2 (w + 2) := by
          unfold orP
          rcases hacc with h0 | ⟨c1, c2, c3⟩
          · rw [if_pos h0]
            exact ⟨by omega, by omega, okR_mono u4 (by omega)⟩
          · split
            · exact ⟨by omega, by omega, okR_mono u4 (by omega)⟩
            · refine ⟨?_, ?_, okR_two (Or.inr rfl) c3 u4 (Nat.le_refl _) (by omega)⟩
              · simp only [List.length_append, List.length_singleton]
                omega
              · simp only [List.length_append, List.length_singleton]
                omega
        split
        · rename_i hc
          have l1 := ch_lt hch (q := t.2.1) (by omega)
          exact an_gd hch ho f (n + 1) _ (t.2.1 + 1) (by omega) (by omega) (Or.inr ⟨by omega, by omega, hu.2.2⟩)
        · exact ⟨by show p0 ≤ t.2.1; omega, t2, fun _ => ⟨by show p0 < t.2.1; omega, hu.1, hu.2.1, hu.2.2⟩⟩
      · rename_i htt
        exact ⟨by omega, t2, fun h => absurd h htt⟩
    · rename_i hr
      exact ⟨by have := hg.1; omega, hg.2.1, fun h => absurd h hr⟩
theorem any_gd (hch : ∀ q, N ≤ q → ch q = 255) : ∀ f k p : Nat, k < f → p ≤ N → Gd N p (2 * k + 3) (anyP ch f k p)
  | 0, k, p, h, _ => absurd h (Nat.not_lt_zero _)
  | f + 1, k, p, h, hp => an_gd hch (fun q hq => one_gd hch (fun k' p' hk' hp' => any_gd hch f k' p' (by omega) hp') hq) 100 0 ([], []) p hp (Nat.le_refl _) (Or.inl rfl)
end GDS
