/-! a whole law, clause by clause: what is found, what it means -/
/-- a clause: was it there, the place, its kind (0 more, 1 tax, 2 base), its number, both objects' steps -/
abbrev Rc : Type := Bool × Nat × Nat × Nat × List Nat × List Nat
def wdI (ch : Nat → Nat) (p : Nat) : Nat := if ch p = 109 then 1 else if ch p = 116 then 2 else 0
def knd (i : Nat) : Nat := if i = 0 then 2 else i - 1
def ePr (k v : Nat) (a : Rs) : Rc := (a.1, a.2.1, k, v, a.2.2.1, a.2.2.2)
def cl3 (ch : Nat → Nat) (i q : Nat) : Rc := if ch (q + nuL ch q) = 32 then ePr (knd i) (nuV ch q) (anK ch 4 (q + nuL ch q + 1)) else (false, q + nuL ch q, 0, 0, [], [])
def cl2 (ch : Nat → Nat) (i q : Nat) : Rc := if nuL ch q = 0 then (false, q, 0, 0, [], []) else if i = 0 then (true, q + nuL ch q, 2, nuV ch q, [], []) else cl3 ch i q
def clP (ch : Nat → Nat) (p : Nat) : Rc := if (wdP ch (wdL.getD (wdI ch p) []) p).1 = true then cl2 ch (wdI ch p) (wdP ch (wdL.getD (wdI ch p) []) p).2 else (false, (wdP ch (wdL.getD (wdI ch p) []) p).2, 0, 0, [], [])
/-- a law: was it one, the place, its base, the first object's steps, its clauses -/
abbrev Rw : Type := Bool × Nat × Nat × List Nat × List Rc
def bsC (b : Nat) (c : Rc) : Nat := if c.2.2.1 = 2 then c.2.2.2.1 else b
def opC (ops : List Nat) (c : Rc) : List Nat := if c.2.2.1 = 2 then ops else ops ++ c.2.2.2.2.1 ++ [10000 * (c.2.2.1 + 1) + c.2.2.2.1]
def lw1 (n : Nat) (k : Nat → Nat → List Nat → List Rc → Rw) (b : Nat) (ops : List Nat) (cs : List Rc) (c : Rc) : Rw := if c.1 = true then (if n ≤ c.2.1 then (true, c.2.1, bsC b c, opC ops c, cs ++ [c]) else k c.2.1 (bsC b c) (opC ops c) (cs ++ [c])) else (false, c.2.1, 0, [], cs)
def lwP (ch : Nat → Nat) (n : Nat) : Nat → Nat → Nat → Nat → List Nat → List Rc → Rw
  | 0, _, p, _, _, cs => (false, p, 0, [], cs)
  | f + 1, i, p, b, ops, cs => if i = 0 then lw1 n (lwP ch n f (i + 1)) b ops cs (clP ch p) else if ch p = 59 then lw1 n (lwP ch n f (i + 1)) b ops cs (clP ch (p + 1)) else (false, p, 0, [], cs)
def clL (c : Rc) : Cl := (c.2.2.1, c.2.2.2.1, fun F => (runB F c.2.2.2.2.2 []).headD false)
/-- a clause that was there -/
def okC (c : Rc) : Prop := c.2.2.2.1 < 100 ∧ (c.2.2.1 = 2 ∨ (c.2.2.1 < 2 ∧ okR c.2.2.2.2.1 c.2.2.2.2.2 11))
def Gc (N p : Nat) (c : Rc) : Prop := p ≤ c.2.1 ∧ c.2.1 ≤ N ∧ (c.1 = true → p < c.2.1 ∧ okC c ∧ c.2.2.2.2.1.length + 1 + p ≤ c.2.1 ∧ c.2.2.2.2.2.length + 1 + p ≤ c.2.1)
section LWS
variable {ch : Nat → Nat} {N : Nat}
theorem wd_gd (hch : ∀ q, N ≤ q → ch q = 255) : ∀ (w : List Nat) (p : Nat), (∀ c ∈ w, c ≠ 255) → p ≤ N → p ≤ (wdP ch w p).2 ∧ (wdP ch w p).2 ≤ N ∧ ((wdP ch w p).1 = true → (wdP ch w p).2 = p + w.length)
  | [], p, _, hp => ⟨Nat.le_refl _, hp, fun _ => rfl⟩
  | c :: w, p, hw, hp => by
    show p ≤ (if ch p = c then wdP ch w (p + 1) else (false, p)).2 ∧ (if ch p = c then wdP ch w (p + 1) else (false, p)).2 ≤ N ∧ ((if ch p = c then wdP ch w (p + 1) else (false, p)).1 = true → (if ch p = c then wdP ch w (p + 1) else (false, p)).2 = p + (w.length + 1))
    split
    · rename_i h
      have l1 := ch_lt hch (q := p) (by rw [h]; exact hw c List.mem_cons_self)
      have h2 := wd_gd hch w (p + 1) (fun x hx => hw x (List.mem_cons_of_mem _ hx)) l1
      exact ⟨by omega, h2.2.1, fun h3 => by rw [h2.2.2 h3]; omega⟩
    · exact ⟨Nat.le_refl _, hp, fun h3 => by cases h3⟩
theorem wdI_lt (p : Nat) : wdI ch p < 3 := by
  unfold wdI
  repeat' split
  all_goals omega
theorem wdL_ne : ∀ i : Nat, i < 3 → (∀ c ∈ wdL.getD i [], c ≠ 255) ∧ 1 ≤ (wdL.getD i []).length := by decide
theorem cl_gd (hch : ∀ q, N ≤ q → ch q = 255) {p : Nat} (hp : p ≤ N) : Gc N p (clP ch p) := by
  unfold clP
  generalize hi : wdI ch p = i
  have hi3 : i < 3 := hi ▸ wdI_lt p
  obtain ⟨w1, w2⟩ := wdL_ne i hi3
  have hw := wd_gd hch (wdL.getD i []) p w1 hp
  generalize wdP ch (wdL.getD i []) p = w at hw ⊢
  obtain ⟨a1, a2, a3⟩ := hw
  split
  · rename_i h
    have a4 := a3 h
    have hn := nuL_le hch a2
    unfold cl2
    split
    · exact ⟨a1, a2, fun h => by cases h⟩
    · rename_i hz
      split
      · exact ⟨by show p ≤ w.2 + nuL ch w.2; omega, hn, fun _ => ⟨by show p < w.2 + nuL ch w.2; omega, ⟨nuV_lt _, Or.inl rfl⟩, by show 0 + 1 + p ≤ w.2 + nuL ch w.2; omega, by show 0 + 1 + p ≤ w.2 + nuL ch w.2; omega⟩⟩
      · rename_i hi0
        unfold cl3
        split
        · rename_i h32
          have l1 := ch_lt hch (q := w.2 + nuL ch w.2) (by omega)
          have hg := anK_gd hch 4 (q := w.2 + nuL ch w.2 + 1) (by omega)
          generalize anK ch 4 (w.2 + nuL ch w.2 + 1) = a at hg ⊢
          obtain ⟨g1, g2, g3⟩ := hg
          refine ⟨by show p ≤ a.2.1; omega, g2, fun h => ?_⟩
          obtain ⟨k1, k2, k3, k4⟩ := g3 h
          refine ⟨by show p < a.2.1; omega, ⟨nuV_lt _, Or.inr ⟨?_, k4⟩⟩, by show a.2.2.1.length + 1 + p ≤ a.2.1; omega, by show a.2.2.2.length + 1 + p ≤ a.2.1; omega⟩
          show knd i < 2
          unfold knd
          rw [if_neg hi0]
          omega
        · exact ⟨by show p ≤ w.2 + nuL ch w.2; omega, hn, fun h => by cases h⟩
  · exact ⟨a1, a2, fun h => by cases h⟩
end LWS
theorem baseL_app (c : Cl) : ∀ (l : List Cl) (b : Nat), baseL (l ++ [c]) b = if c.1 = 2 then c.2.1 else baseL l b
  | [], b => rfl
  | x :: l, b => by
    show baseL (l ++ [c]) (if x.1 = 2 then x.2.1 else b) = _
    rw [baseL_app c l]
    rfl
theorem extL_app (F : Nat → Int32) (c : Cl) : ∀ l : List Cl, extL F (l ++ [c]) = extL F l + termL F c
  | [] => by
    show termL F c + 0 = 0 + termL F c
    rw [Int32.add_zero, Int32.zero_add]
  | x :: l => by
    show termL F x + extL F (l ++ [c]) = termL F x + extL F l + termL F c
    rw [extL_app F c l, Int32.add_assoc]
theorem rc_1 (F : Nat → Int32) {op : Nat} (h : op = 30001 ∨ op = 30002 ∨ op = 30003) (l : List Nat) (s : Int32) (st : List Bool) : runC F (op :: l) (s, st) = runC F l (s, runB F [op] st) := by
  rcases h with rfl | rfl | rfl
  · cases st with
    | nil => rfl
    | cons a st => rfl
  · cases st with
    | nil => rfl
    | cons a st => cases st <;> rfl
  · cases st with
    | nil => rfl
    | cons a st => cases st <;> rfl
theorem rc_0 (F : Nat → Int32) {op : Nat} (h : op < 1800) (l : List Nat) (s : Int32) (st : List Bool) : runC F (op :: l) (s, st) = runC F l (s, tst F op :: st) := by
  show runC F l (if op < 1800 then _ else _) = _
  rw [if_pos h]
theorem rb_0 (F : Nat → Int32) {op : Nat} (h : op < 1800) (l : List Nat) (st : List Bool) : runB F (op :: l) st = runB F l (tst F op :: st) := by
  show runB F l (if op < 1800 then _ else _) = _
  rw [if_pos h]
theorem rb_1 (F : Nat → Int32) (op : Nat) (l : List Nat) (st : List Bool) : runB F (op :: l) st = runB F l (runB F [op] st) := rfl
theorem runC_app (F : Nat → Int32) : ∀ (A : List Nat) (rest : List Nat) (s : Int32) (st : List Bool), okO A → runC F (A ++ rest) (s, st) = runC F rest (s, runB F A st)
  | [], rest, s, st, _ => rfl
  | op :: A, rest, s, st, h => by
    have h1 := h op List.mem_cons_self
    have hA := fun st' => runC_app F A rest s st' (fun x hx => h x (List.mem_cons_of_mem _ hx))
    show runC F (op :: (A ++ rest)) (s, st) = _
    by_cases hl : op < 1800
    · rw [rc_0 F hl, rb_0 F hl]
      exact hA _
    · rw [rc_1 F (by omega), rb_1 F op A]
      exact hA _
/-- what a law's steps and clauses are, all along -/
def LwI (p b : Nat) (ops : List Nat) (cs : List Rc) : Prop := b = baseL (cs.map clL) 10 ∧ ops.length ≤ p ∧ (∀ op ∈ ops, opOk op) ∧ (∀ rest, depC (ops ++ rest) 0 = depC rest 0) ∧ (∀ F rest, runC F (ops ++ rest) (0, []) = runC F rest (extL F (cs.map clL), [])) ∧ (∀ c ∈ cs, okC c)
theorem LwI.nil : LwI 0 10 [] [] := ⟨rfl, Nat.le_refl _, fun _ h => (by cases h), fun _ => rfl, fun _ _ => rfl, fun _ h => (by cases h)⟩
theorem LwI.add {p q b : Nat} {ops : List Nat} {cs : List Rc} {c : Rc} (h : LwI p b ops cs) (hc : okC c) (hl : c.2.2.2.2.1.length + 1 + p ≤ q) : LwI q (bsC b c) (opC ops c) (cs ++ [c]) := by
  obtain ⟨h1, h2, h3, h4, h5, h6⟩ := h
  have hm : (cs ++ [c]).map clL = cs.map clL ++ [clL c] := by rw [List.map_append]; rfl
  have h7 : ∀ x ∈ cs ++ [c], okC x := fun x hx => (List.mem_append.mp hx).elim (h6 x) (fun h => by rw [List.mem_singleton] at h; rw [h]; exact hc)
  unfold LwI
  rw [hm]
  by_cases hk : c.2.2.1 = 2
  · have e1 : bsC b c = c.2.2.2.1 := if_pos hk
    have e2 : opC ops c = ops := if_pos hk
    rw [e1, e2]
    refine ⟨?_, by omega, h3, h4, fun F rest => ?_, h7⟩
    · rw [baseL_app]
      exact (if_pos hk).symm
    · rw [h5, extL_app]
      have e3 : termL F (clL c) = 0 := if_pos hk
      rw [e3, Int32.add_zero]
  · have e1 : bsC b c = b := if_neg hk
    have e2 : opC ops c = ops ++ c.2.2.2.2.1 ++ [10000 * (c.2.2.1 + 1) + c.2.2.2.1] := if_neg hk
    obtain ⟨k1, k2⟩ := hc
    obtain ⟨k3, k4⟩ := k2.resolve_left hk
    obtain ⟨o1, o2, v, o3, o4, o5, o6⟩ := k4
    have hx : 10000 ≤ 10000 * (c.2.2.1 + 1) + c.2.2.2.1 ∧ 10000 * (c.2.2.1 + 1) + c.2.2.2.1 < 30000 := by omega
    rw [e1, e2]
    refine ⟨?_, ?_, ?_, fun rest => ?_, fun F rest => ?_, h7⟩
    · rw [baseL_app]
      exact h1.trans (if_neg hk).symm
    · simp only [List.length_append, List.length_singleton]
      omega
    · intro op hop
      rcases List.mem_append.mp hop with h | h
      · rcases List.mem_append.mp h with h | h
        · exact h3 op h
        · have := o1 op h
          unfold opOk
          omega
      · rw [List.mem_singleton] at h
        rw [h]
        have : c.2.2.1 = 0 ∨ c.2.2.1 = 1 := by omega
        unfold opOk
        rcases this with h | h <;> rw [h] <;> omega
    · rw [List.append_assoc, List.append_assoc, h4, o5 0 _ (by decide)]
      show (if 10000 * (c.2.2.1 + 1) + c.2.2.2.1 < 1800 then _ else if 10000 ≤ 10000 * (c.2.2.1 + 1) + c.2.2.2.1 ∧ 10000 * (c.2.2.1 + 1) + c.2.2.2.1 < 30000 then decide (1 ≤ 0 + 1) && depC rest 0 else _) = _
      rw [if_neg (by omega), if_pos hx, decide_eq_true (by decide), Bool.true_and]
    · rw [List.append_assoc, List.append_assoc, h5, runC_app F _ _ _ _ o1]
      have e3 : runB F c.2.2.2.2.1 [] = [v F] := by
        have := o3 F [] []
        rw [List.append_nil] at this
        exact this
      have e4 : runB F c.2.2.2.2.2 [] = [v F] := by
        have := o4 F [] []
        rw [List.append_nil] at this
        exact this
      rw [e3, extL_app]
      show runC F rest (if 10000 * (c.2.2.1 + 1) + c.2.2.2.1 < 1800 then _ else if 10000 ≤ 10000 * (c.2.2.1 + 1) + c.2.2.2.1 ∧ 10000 * (c.2.2.1 + 1) + c.2.2.2.1 < 30000 then (extL F (cs.map clL) + (if ([v F] : List Bool).headD false = true then (if 10000 * (c.2.2.1 + 1) + c.2.2.2.1 < 20000 then nI (10000 * (c.2.2.1 + 1) + c.2.2.2.1 - 10000) else -(nI (10000 * (c.2.2.1 + 1) + c.2.2.2.1 - 20000))) else 0), []) else _) = _
      rw [if_neg (by omega), if_pos hx]
      have e5 : termL F (clL c) = if v F = true then (if c.2.2.1 = 0 then nI c.2.2.2.1 else -(nI c.2.2.2.1)) else 0 := by
        show (if c.2.2.1 = 2 then _ else if (runB F c.2.2.2.2.2 []).headD false = true then _ else _) = _
        rw [if_neg hk, e4]
        rfl
      rw [e5]
      have e6 : c.2.2.1 = 0 ∨ c.2.2.1 = 1 := by omega
      have e7 : ([v F] : List Bool).headD false = v F := rfl
      rw [e7]
      rcases e6 with h | h
      · rw [h, if_pos (show 10000 * (0 + 1) + c.2.2.2.1 < 20000 by omega), if_pos rfl, show 10000 * (0 + 1) + c.2.2.2.1 - 10000 = c.2.2.2.1 by omega]
      · rw [h, if_neg (show ¬ 10000 * (1 + 1) + c.2.2.2.1 < 20000 by omega), if_neg (show ¬ (1 : Nat) = 0 by decide), show 10000 * (1 + 1) + c.2.2.2.1 - 20000 = c.2.2.2.1 by omega]
/-- what comes out of a law -/
def LwO (n : Nat) (r : Rw) : Prop := r.2.1 ≤ n ∧ r.2.2.2.2.length ≤ 10 ∧ (r.1 = true → LwI r.2.1 r.2.2.1 r.2.2.2.1 r.2.2.2.2)
theorem lw_gd {ch : Nat → Nat} {n : Nat} (hch : ∀ q, n ≤ q → ch q = 255) : ∀ (f i p b : Nat) (ops : List Nat) (cs : List Rc), f + i = 10 → cs.length = i → p ≤ n → LwI p b ops cs → LwO n (lwP ch n f i p b ops cs)
  | 0, i, p, b, ops, cs, hf, hc, hp, h => ⟨hp, by show cs.length ≤ 10; omega, fun h => by cases h⟩
  | f + 1, i, p, b, ops, cs, hf, hc, hp, h => by
    have h1 : ∀ q, p ≤ q → q ≤ n → LwO n (lw1 n (lwP ch n f (i + 1)) b ops cs (clP ch q)) := by
      intro q hpq hq
      have hg := cl_gd hch hq
      generalize clP ch q = c at hg ⊢
      obtain ⟨g1, g2, g3⟩ := hg
      unfold lw1
      split
      · rename_i hcc
        obtain ⟨k1, k2, k3, k4⟩ := g3 hcc
        have ha : LwI c.2.1 (bsC b c) (opC ops c) (cs ++ [c]) := h.add k2 (by omega)
        have hl : (cs ++ [c]).length = i + 1 := by rw [List.length_append, hc]; rfl
        split
        · exact ⟨g2, by show (cs ++ [c]).length ≤ 10; omega, fun _ => ha⟩
        · exact lw_gd hch f (i + 1) c.2.1 (bsC b c) (opC ops c) (cs ++ [c]) (by omega) hl g2 ha
      · exact ⟨g2, by show cs.length ≤ 10; omega, fun h => by cases h⟩
    show LwO n (if i = 0 then _ else if ch p = 59 then _ else _)
    split
    · exact h1 p (Nat.le_refl _) hp
    · split
      · rename_i hc59
        have l1 := ch_lt hch (q := p) (by omega)
        exact h1 (p + 1) (by omega) l1
      · exact ⟨hp, by show cs.length ≤ 10; omega, fun h => by cases h⟩
