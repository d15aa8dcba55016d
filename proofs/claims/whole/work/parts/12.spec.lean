/-! what both objects hold, said once: M is a heap of which the second object's cells count; L the laws that were read -/
/-- a clause: 0 more, 1 tax, 2 base; the number; when it holds -/
abbrev Cl : Type := Nat × Nat × ((Nat → Int32) → Bool)
def termL (F : Nat → Int32) (c : Cl) : Int32 := if c.1 = 2 then 0 else if c.2.2 F = true then (if c.1 = 0 then nI c.2.1 else -(nI c.2.1)) else 0
def extL (F : Nat → Int32) : List Cl → Int32
  | [] => 0
  | c :: l => termL F c + extL F l
def baseL : List Cl → Nat → Nat
  | [], b => b
  | c :: l, b => baseL l (if c.1 = 2 then c.2.1 else b)
/-- one step of a law's code: a test (its letter, its sign, its number), 30001 not, 30002 and, 30003 or -/
def tst (F : Nat → Int32) (op : Nat) : Bool := if op / 100 % 3 = 0 then decide (F (op / 300) < nI (op % 100)) else if op / 100 % 3 = 1 then decide (F (op / 300) = nI (op % 100)) else decide (nI (op % 100) < F (op / 300))
def runB (F : Nat → Int32) : List Nat → List Bool → List Bool
  | [], st => st
  | op :: l, st => runB F l (if op < 1800 then tst F op :: st else match op, st with
    | 30001, a :: st => (!a) :: st
    | 30002, a :: b :: st => (b && a) :: st
    | 30003, a :: b :: st => (b || a) :: st
    | _, st => st)
/-- the depth of its stack is right all along; never above m -/
def depB (m : Nat) : List Nat → Nat → Bool
  | [], d => d == 1
  | op :: l, d => if op < 1800 then decide (d < m) && depB m l (d + 1) else if op = 30001 then decide (1 ≤ d) && depB m l d else decide (op = 30002 ∨ op = 30003) && decide (2 ≤ d) && depB m l (d - 1)
/-- the first object's code: 10000 + n more n, 20000 + n tax n, behind each clause's own -/
def runC (F : Nat → Int32) : List Nat → Int32 × List Bool → Int32 × List Bool
  | [], q => q
  | op :: l, q => runC F l (if op < 1800 then (q.1, tst F op :: q.2) else if 10000 ≤ op ∧ op < 30000 then (q.1 + (if q.2.headD false = true then (if op < 20000 then nI (op - 10000) else -(nI (op - 20000))) else 0), []) else (q.1, match op, q.2 with
    | 30001, a :: st => (!a) :: st
    | 30002, a :: b :: st => (b && a) :: st
    | 30003, a :: b :: st => (b || a) :: st
    | _, st => st))
def depC : List Nat → Nat → Bool
  | [], _ => true
  | op :: l, d => if op < 1800 then decide (d < 30) && depC l (d + 1) else if 10000 ≤ op ∧ op < 30000 then decide (1 ≤ d) && depC l 0 else if op = 30001 then decide (1 ≤ d) && depC l d else decide (op = 30002 ∨ op = 30003) && decide (2 ≤ d) && depC l (d - 1)
def opOk (op : Nat) : Prop := op < 1800 ∨ (10000 ≤ op ∧ op < 10100) ∨ (20000 ≤ op ∧ op < 20100) ∨ op = 30001 ∨ op = 30002 ∨ op = 30003
def encC (op : Nat) : Int32 := if op = 30001 then -1 else if op = 30002 then -2 else if op = 30003 then -3 else nI op
def encR (op : Nat) : Int32 := if op = 30001 then -33 else if op = 30002 then -38 else if op = 30003 then -124 else nI (1000 * (op / 300) + 100 * (op / 100 % 3) + op % 100)
/-- the first object's laws are L's -/
def RCl (L : Nat → List Cl) (M σ : Hp) : Prop := ∀ f : Nat, f < 6 → f < (gi M 76 11).toNatClampNeg → gi σ 57 f = nI (baseL (L f) 10) ∧ ∃ ops : List Nat, ops.length ≤ 100 ∧ gi σ 56 f = nI ops.length ∧ (∀ j op, ops[j]? = some op → gi σ (50 + f) j = encC op ∧ opOk op) ∧ depC ops 0 = true ∧ ∀ F, (runC F ops (0, [])).1 = extL F (L f)
/-- the second object's laws are L's -/
def clOk (M : Hp) (f i : Nat) (c : Cl) : Prop := gi M 86 (10 * f + i) = nI c.1 ∧ c.1 < 3 ∧ gi M 87 (10 * f + i) = nI c.2.1 ∧ c.2.1 < 100 ∧ (c.1 = 2 ∨ ∃ (ops : List Nat) (a : Nat), 100 * f ≤ a ∧ a + ops.length ≤ 100 * f + 100 ∧ gi M 88 (10 * f + i) = nI a ∧ gi M 89 (10 * f + i) = nI (a + ops.length) ∧ (∀ j op, ops[j]? = some op → gi M 90 (a + j) = encR op ∧ (op < 1800 ∨ op = 30001 ∨ op = 30002 ∨ op = 30003)) ∧ depB 100 ops 0 = true ∧ ∀ F, runB F ops [] = [c.2.2 F])
def RMl (L : Nat → List Cl) (M : Hp) : Prop := ∀ f : Nat, f < 6 → f < (gi M 76 11).toNatClampNeg → gi M 85 f = nI (L f).length ∧ (L f).length ≤ 10 ∧ ∀ (i : Nat) (c : Cl), (L f)[i]? = some c → clOk M f i c
def RCd (M σ : Hp) : Prop := ∀ k j a b : Nat, mp k j = some (a, b) → gi σ k j = gi M a b
def RCn (σ : Hp) : Prop := ∀ n : Nat, n < 8 → gi σ (8 + 2 * n) 0 = nI n ∧ gi σ (31 + 2 * n) 0 = nI n
def RCt (M σ : Hp) : Prop := ∀ t i : Nat, t < 6 → i < 60 → gl σ (70 + t) i = gl M 115 (60 * t + i)
def RCz (σ : Hp) : Prop := ∀ n : Nat, n < 8 → gi σ 5 (3 * n + 2) = 0 ∧ gi σ 28 (3 * n + 2) = 0
/-- the first object holds what M and L say -/
def RC (L : Nat → List Cl) (M σ : Hp) : Prop := RF σ ∧ RCd M σ ∧ RCn σ ∧ RCt M σ ∧ RCl L M σ
/-- what of the second object counts -/
def cnt (k j : Nat) : Bool := (decide (76 ≤ k ∧ k < 116) && !(decide (k = 91 ∨ k = 93 ∨ k = 94))) && !(decide (k = 76 ∧ (j = 14 ∨ j = 15 ∨ j = 24 ∨ j = 25 ∨ j = 26)))
/-- the second object holds what M says -/
def RM (M σ : Hp) : Prop := RF σ ∧ ∀ k j : Nat, cnt k j = true → gi σ k j = gi M k j ∧ gl σ k j = gl M k j
/-- the first, the second object's cells stay -/
def Sc (σ σ' : Hp) : Prop := ∀ k j : Nat, k < 76 → gi σ' k j = gi σ k j ∧ gl σ' k j = gl σ k j
def Sm (σ σ' : Hp) : Prop := ∀ k j : Nat, 76 ≤ k → gi σ' k j = gi σ k j ∧ gl σ' k j = gl σ k j
def mW (M : Hp) : Nat := (gi M 76 0).toNatClampNeg
def mE (M : Hp) : Nat := (gi M 76 1).toNatClampNeg
def mD (M : Hp) : Nat := (gi M 76 2).toNatClampNeg
/-- fields of the fair as it is, as its image has it -/
def fdN (M : Hp) (f j : Nat) : Int32 := match f with
  | 0 => gi M 76 0 | 1 => gi M 77 j | 2 => gi M 76 1 | 3 => gi M 78 j | 4 => gi M 79 j | 5 => gi M 80 j | 6 => gi M 81 j | 7 => gi M 82 j | 8 => gi M 83 j | 9 => gi M 76 2 | 10 => gi M 76 3 | 11 => gi M 76 12 | 12 => gi M 76 30 | 13 => gi M 95 j | 14 => gi M 96 j | 15 => gi M 76 33 | 16 => gi M 97 j | 17 => gi M 98 j | _ => gi M 99 j
def fdI (M : Hp) (f j : Nat) : Int32 := match f with
  | 0 => gi M 76 39 | 1 => gi M 100 j | 2 => gi M 76 40 | 3 => gi M 101 j | 4 => gi M 102 j | 5 => gi M 103 j | 6 => gi M 104 j | 7 => gi M 105 j | 8 => gi M 106 j | 9 => gi M 76 41 | 10 => gi M 76 42 | 11 => gi M 76 38 | 12 => gi M 76 43 | 13 => gi M 107 j | 14 => gi M 111 j | 15 => gi M 76 44 | 16 => gi M 108 j | 17 => gi M 109 j | _ => gi M 110 j
def cN (x : Int32) : Nat := x.toNatClampNeg
/-- x is a number below n -/
def isN (x : Int32) (n : Nat) : Prop := x = nI (cN x) ∧ cN x < n
def InvF (g : Nat → Nat → Int32) (laws : Int32) : Prop :=
  isN (g 0 0) 7 ∧ isN (g 2 0) 9 ∧ isN (g 9 0) 10000 ∧ isN (g 10 0) 10000000 ∧ (g 11 0 = -1 ∨ (isN (g 11 0) 6 ∧ cN (g 11 0) < cN laws)) ∧ isN (g 12 0) 9 ∧ isN (g 15 0) 9 ∧
  (∀ j, j < cN (g 0 0) → isN (g 1 j) 31 ∧ 1 ≤ cN (g 1 j)) ∧
  (∀ n, n < cN (g 2 0) → isN (g 3 n) 7 ∧ isN (g 4 n) 10 ∧ isN (g 5 n) (2 ^ cN (g 0 0)) ∧ isN (g 6 n) 100 ∧ isN (g 7 n) 10000 ∧ cN (g 7 n) ≤ cN (g 9 0) ∧ ∀ i, i < 4 → isN (g 8 (4 * n + i)) 10) ∧
  (∀ k, k < cN (g 12 0) → isN (g 13 k) (cN (g 2 0)) ∧ isN (g 14 k) 2) ∧
  (∀ k, k < cN (g 15 0) → isN (g 16 k) (cN (g 2 0)) ∧ isN (g 17 k) (cN (g 0 0)) ∧ isN (g 18 k) 10000)
def Inv (L : Nat → List Cl) (M : Hp) : Prop := isN (gi M 76 11) 7 ∧ InvF (fdN M) (gi M 76 11) ∧ InvF (fdI M) (gi M 76 11) ∧ RMl L M ∧
  isN (gi M 76 13) 101 ∧ (∀ j, j < 100 → isN (gi M 84 j) 128) ∧ isN (gi M 76 37) 2 ∧ isN (gi M 76 57) 1000 ∧
  (∀ t, t < 6 → isN (gi M 114 t) 61 ∧ (gi M 113 t = -1 ∧ gi M 114 t = 0 ∨ isN (gi M 113 t) 5)) ∧
  (gi M 92 0 = 109 ∧ gi M 92 1 = 111 ∧ gi M 92 2 = 114 ∧ gi M 92 3 = 101 ∧ gi M 92 4 = 116 ∧ gi M 92 5 = 97 ∧ gi M 92 6 = 120 ∧ gi M 92 7 = 98 ∧ gi M 92 8 = 97 ∧ gi M 92 9 = 115 ∧ gi M 92 10 = 101)
/-! the questions, over M and L -/
abbrev rng (x : Int32) (n : Nat) : Prop := 0 ≤ x ∧ x < nI n
abbrev hasB (set : Int32) (k : Int32) : Prop := ¬ (set >>> (k &&& 31)) &&& 1 = 0
def sumI (f : Nat → Int32) : Nat → Int32
  | 0 => 0
  | n + 1 => sumI f n + f n
def orI (f : Nat → Int32) : Nat → Int32
  | 0 => 0
  | n + 1 => orI f n ||| f n
