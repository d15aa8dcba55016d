/-! the reader of the second object: signs, numbers, words, tests-/
def TY (s : Hp) (n : Nat) (ch : Nat → Nat) : Prop := n ≤ 100 ∧ gi s 76 13 = nI n ∧ (∀ p, p < n → gi s 84 p = nI (ch p) ∧ ch p < 128) ∧ ∀ q, n ≤ q → ch q = 255
def Ws (s : Hp) : List Nat → Prop
  | [] => True
  | x :: W => gi s 91 W.length = nI x ∧ Ws s W
/-- what has been written of law f -/
def EM (s : Hp) (f : Nat) (E : List Nat) : Prop := gi s 76 24 = nI (100 * f + E.length) ∧ ∀ j op, E[j]? = some op → gi s 90 (100 * f + j) = encR op
def S0 (s : Hp) (f n : Nat) (ch : Nat → Nat) (p : Nat) (E : List Nat) : Prop := TY s n ch ∧ p ≤ n ∧ gi s 76 14 = nI p ∧ EM s f E
def ST (s : Hp) (f n : Nat) (ch : Nat → Nat) (p : Nat) (E W : List Nat) : Prop := S0 s f n ch p E ∧ gi s 76 25 = nI W.length ∧ gi s 76 26 = nI (brk W) ∧ Ws s W
/-- what else may change while clause c of law f is read -/
def FQ (f c : Nat) (k j : Nat) : Prop := (k = 76 ∧ (j = 14 ∨ j = 15 ∨ j = 24 ∨ j = 25 ∨ j = 26)) ∨ k = 91 ∨ (k = 90 ∧ 100 * f ≤ j ∧ j < 100 * f + 100) ∨ ((k = 88 ∨ k = 89) ∧ j = c)
def Fq (P : Nat → Nat → Prop) (s t : Hp) : Prop := (∀ k j, ¬ P k j → gi t k j = gi s k j) ∧ (∀ k j, gl t k j = gl s k j) ∧ ∀ k j, gr t k j = gr s k j
theorem Fq.rfl {P : Nat → Nat → Prop} {s : Hp} : Fq P s s := ⟨fun _ _ _ => Eq.refl _, fun _ _ => Eq.refl _, fun _ _ => Eq.refl _⟩
theorem Fq.trans {P : Nat → Nat → Prop} {s t u : Hp} (h : Fq P s t) (g : Fq P t u) : Fq P s u := ⟨fun k j hk => (g.1 k j hk).trans (h.1 k j hk), fun k j => (g.2.1 k j).trans (h.2.1 k j), fun k j => (g.2.2 k j).trans (h.2.2 k j)⟩
theorem Fq.set {P : Nat → Nat → Prop} {s t : Hp} (h : Fq P s t) {a b : Nat} {x : Int32} (hp : P a b) : Fq P s (si t a b x) := ⟨fun k j hk => by
  have e : ¬ (k = a ∧ j = b) := by
    rintro ⟨rfl, rfl⟩
    exact hk hp
  have e2 : gi (si t a b x) k j = gi t k j := by simp [gi, si, e]
  exact e2.trans (h.1 k j hk), h.2.1, h.2.2⟩
theorem Fq.mono {P Q : Nat → Nat → Prop} {s t : Hp} (h : Fq P s t) (hPQ : ∀ k j, P k j → Q k j) : Fq Q s t := ⟨fun k j hk => h.1 k j (fun hp => hk (hPQ k j hp)), h.2⟩
theorem Fq.rf {P : Nat → Nat → Prop} {s t : Hp} (h : Fq P s t) (hR : RF s) : RF t := fun q hq => (h.2.2 _ _).trans (hR q hq)
theorem Ws.s1 {s : Hp} {a b : Nat} {x : Int32} (ha : a ≠ 91) : ∀ {W : List Nat}, Ws s W → Ws (si s a b x) W
  | [], _ => trivial
  | y :: W, h => ⟨(gi_ne (Ne.symm ha)).trans h.1, Ws.s1 ha h.2⟩
theorem Ws.up {s : Hp} {b : Nat} {x : Int32} : ∀ {W : List Nat}, W.length ≤ b → Ws s W → Ws (si s 91 b x) W
  | [], _, _ => trivial
  | y :: W, hb, h => ⟨(gi_nj (by have : W.length + 1 ≤ b := hb; omega)).trans h.1, Ws.up (by have : W.length + 1 ≤ b := hb; omega) h.2⟩
theorem TY.s1 {s : Hp} {n a b : Nat} {ch : Nat → Nat} {x : Int32} (h : TY s n ch) (ha : ¬ (a = 76 ∧ b = 13)) (ha2 : a ≠ 84) : TY (si s a b x) n ch := ⟨h.1, by
  have e : ¬ (76 = a ∧ 13 = b) := by rintro ⟨rfl, rfl⟩; exact ha ⟨Eq.refl _, Eq.refl _⟩
  have e2 : gi (si s a b x) 76 13 = gi s 76 13 := by simp [gi, si, e]
  exact e2.trans h.2.1, fun p hp => ⟨(gi_ne (Ne.symm ha2)).trans (h.2.2.1 p hp).1, (h.2.2.1 p hp).2⟩, h.2.2.2⟩
section MRS
variable {s : Hp} {f n p : Nat} {ch : Nat → Nat} {E W : List Nat}
theorem S0.le (h : S0 s f n ch p E) : p ≤ n := h.2.1
theorem S0.ty (h : S0 s f n ch p E) : TY s n ch := h.1
theorem S0.g14 (h : S0 s f n ch p E) : gi s 76 14 = nI p := h.2.2.1
theorem S0.g24 (h : S0 s f n ch p E) : gi s 76 24 = nI (100 * f + E.length) := h.2.2.2.1
theorem ST.g25 (h : ST s f n ch p E W) : gi s 76 25 = nI W.length := h.2.1
theorem ST.g26 (h : ST s f n ch p E W) : gi s 76 26 = nI (brk W) := h.2.2.1
theorem S0.at (h : S0 s f n ch p E) {q : Nat} (hq : q ≤ n) : S0 (si s 76 14 (nI q)) f n ch q E := ⟨h.1.s1 (by decide) (by decide), hq, gi_eq, (gi_nj (by decide)).trans h.2.2.2.1, fun j op hj => (gi_ne (by decide)).trans (h.2.2.2.2 j op hj)⟩
theorem S0.ot (h : S0 s f n ch p E) {b : Nat} {x : Int32} (hb : b = 15 ∨ b = 25 ∨ b = 26) : S0 (si s 76 b x) f n ch p E := ⟨h.1.s1 (by omega) (by decide), h.2.1, (gi_nj (by omega)).trans h.2.2.1, (gi_nj (by omega)).trans h.2.2.2.1, fun j op hj => (gi_ne (by decide)).trans (h.2.2.2.2 j op hj)⟩
theorem S0.ar (h : S0 s f n ch p E) {a b : Nat} {x : Int32} (ha : a = 91 ∨ (85 ≤ a ∧ a ≤ 89)) : S0 (si s a b x) f n ch p E := ⟨h.1.s1 (by omega) (by omega), h.2.1, (gi_ne (by omega)).trans h.2.2.1, (gi_ne (by omega)).trans h.2.2.2.1, fun j op hj => (gi_ne (by omega)).trans (h.2.2.2.2 j op hj)⟩
theorem S0.em (h : S0 s f n ch p E) {op : Nat} {x : Int32} (hx : x = encR op) : S0 (si (si s 90 (100 * f + E.length) x) 76 24 (nI (100 * f + E.length + 1))) f n ch p (E ++ [op]) := by
  refine ⟨(h.1.s1 (by omega) (by decide)).s1 (by decide) (by decide), h.2.1, (gi_nj (by decide)).trans ((gi_ne (by decide)).trans h.2.2.1), ?_, fun j o hj => ?_⟩
  · rw [gi_eq, List.length_append, List.length_singleton, Nat.add_assoc]
  · rw [gi_ne (by decide)]
    by_cases e : j < E.length
    · rw [List.getElem?_append_left e] at hj
      rw [gi_nj (by omega)]
      exact h.2.2.2.2 j o hj
    · rw [List.getElem?_append_right (by omega)] at hj
      have e0 : j - E.length < 1 := (List.getElem?_eq_some_iff.mp hj).1
      have e1 : j = E.length := by omega
      subst e1
      rw [Nat.sub_self] at hj
      cases hj
      rw [gi_eq]
      exact hx
theorem ST.at (h : ST s f n ch p E W) {q : Nat} (hq : q ≤ n) : ST (si s 76 14 (nI q)) f n ch q E W := ⟨h.1.at hq, (gi_nj (by decide)).trans h.2.1, (gi_nj (by decide)).trans h.2.2.1, Ws.s1 (by decide) h.2.2.2⟩
theorem ST.em (h : ST s f n ch p E W) {op : Nat} {x : Int32} (hx : x = encR op) : ST (si (si s 90 (100 * f + E.length) x) 76 24 (nI (100 * f + E.length + 1))) f n ch p (E ++ [op]) W := ⟨h.1.em hx, (gi_nj (by decide)).trans ((gi_ne (by decide)).trans h.2.1), (gi_nj (by decide)).trans ((gi_ne (by decide)).trans h.2.2.1), Ws.s1 (by decide) (Ws.s1 (by decide) h.2.2.2)⟩
theorem ST.ar (h : ST s f n ch p E W) {a b : Nat} {x : Int32} (ha : 85 ≤ a ∧ a ≤ 89) : ST (si s a b x) f n ch p E W := ⟨h.1.ar (Or.inr ha), (gi_ne (by omega)).trans h.2.1, (gi_ne (by omega)).trans h.2.2.1, Ws.s1 (by omega) h.2.2.2⟩
theorem ST.push (h : ST s f n ch p E W) {x : Nat} (hx : x = 33 ∨ x = 40) (hp : p < n) : ST (si (si (si (si s 76 26 (nI (brk W + 1))) 91 W.length (nI x)) 76 25 (nI (W.length + 1))) 76 14 (nI (p + 1))) f n ch (p + 1) E (x :: W) := by
  refine ⟨(((h.1.ot (Or.inr (Or.inr rfl))).ar (Or.inl rfl)).ot (Or.inr (Or.inl rfl))).at (by omega), (gi_nj (by decide)).trans gi_eq, ?_, (gi_ne (by decide)).trans ((gi_ne (by decide)).trans gi_eq), Ws.s1 (by decide) (Ws.s1 (by decide) (Ws.up (Nat.le_refl _) (Ws.s1 (by decide) h.2.2.2)))⟩
  rw [gi_nj (by decide), gi_nj (by decide), gi_ne (by decide), gi_eq]
  show nI (brk W + 1) = nI (brk W + if x = 33 ∨ x = 40 then 1 else 0)
  rw [if_pos hx]
theorem ST.push2 (h : ST s f n ch p E W) {x : Nat} (hx : x = 38 ∨ x = 124) (hp : p < n) : ST (si (si (si s 91 W.length (nI x)) 76 25 (nI (W.length + 1))) 76 14 (nI (p + 1))) f n ch (p + 1) E (x :: W) := by
  refine ⟨((h.1.ar (Or.inl rfl)).ot (Or.inr (Or.inl rfl))).at (by omega), (gi_nj (by decide)).trans gi_eq, ?_, (gi_ne (by decide)).trans ((gi_ne (by decide)).trans gi_eq), Ws.s1 (by decide) (Ws.s1 (by decide) (Ws.up (Nat.le_refl _) h.2.2.2))⟩
  rw [gi_nj (by decide), gi_nj (by decide), gi_ne (by decide), h.2.2.1]
  show nI (brk W) = nI (brk W + if x = 33 ∨ x = 40 then 1 else 0)
  rw [if_neg (by omega)]
  rfl
theorem ST.popB {x : Nat} (h : ST s f n ch p E (x :: W)) (hx : x = 33 ∨ x = 40) : ST (si (si s 76 25 (nI W.length)) 76 26 (nI (brk W))) f n ch p E W := ⟨(h.1.ot (Or.inr (Or.inl rfl))).ot (Or.inr (Or.inr rfl)), (gi_nj (by decide)).trans gi_eq, gi_eq, Ws.s1 (by decide) (Ws.s1 (by decide) h.2.2.2.2)⟩
theorem ST.popE {x op : Nat} {y : Int32} (h : ST s f n ch p E (x :: W)) (hx : ¬ (x = 33 ∨ x = 40)) (hy : y = encR op) : ST (si (si (si s 76 25 (nI W.length)) 90 (100 * f + E.length) y) 76 24 (nI (100 * f + E.length + 1))) f n ch p (E ++ [op]) W := by
  refine ⟨(h.1.ot (Or.inr (Or.inl rfl))).em hy, (gi_nj (by decide)).trans ((gi_ne (by decide)).trans gi_eq), ?_, Ws.s1 (by decide) (Ws.s1 (by decide) (Ws.s1 (by decide) h.2.2.2.2))⟩
  rw [gi_nj (by decide), gi_ne (by decide), gi_nj (by decide), h.2.2.1]
  show nI (brk W + if x = 33 ∨ x = 40 then 1 else 0) = nI (brk W)
  rw [if_neg hx]
  rfl
end MRS
def nx (ch : Nat → Nat) (n p : Nat) : Int32 := if p < n then nI (ch p) else -1
theorem TY.lt {s : Hp} {n : Nat} {ch : Nat → Nat} (h : TY s n ch) {p : Nat} (hp : ch p ≠ 255) : p < n := by
  by_cases h2 : p < n
  · exact h2
  · exact absurd (h.2.2.2 p (by omega)) hp
theorem nx_eq {s : Hp} {n : Nat} {ch : Nat → Nat} (h : TY s n ch) {p c : Nat} (hc : c < 128) : nx ch n p = nI c ↔ ch p = c := by
  unfold nx
  by_cases hp : p < n
  · rw [if_pos hp]
    exact nI_eq (by have := (h.2.2.1 p hp).2; omega) (by omega)
  · rw [if_neg hp, h.2.2.2 p (by omega)]
    constructor
    · intro e
      exact absurd (nI_pos (n := c) (by omega)) (by rw [← e]; decide)
    · intro e
      omega
theorem nx_in {s : Hp} {n : Nat} {ch : Nat → Nat} (h : TY s n ch) {p a b : Nat} (hb : b < 128) (hab : a ≤ b) : (nI a ≤ nx ch n p ∧ nx ch n p ≤ nI b) ↔ (a ≤ ch p ∧ ch p ≤ b) := by
  unfold nx
  by_cases hp : p < n
  · rw [if_pos hp, nI_leI (by omega) (by have := (h.2.2.1 p hp).2; omega), nI_leI (by have := (h.2.2.1 p hp).2; omega) (by omega)]
  · rw [if_neg hp, h.2.2.2 p (by omega)]
    constructor
    · intro e
      have h0 : (0 : Int32) ≤ -1 := Int32.le_trans (nI_pos' (by omega)) e.1
      exact absurd h0 (by decide)
    · intro e
      omega
def Fsc (f : Nat) (k j : Nat) : Prop := (k = 76 ∧ (j = 14 ∨ j = 15 ∨ j = 24 ∨ j = 25 ∨ j = 26)) ∨ k = 91 ∨ (k = 90 ∧ 100 * f ≤ j ∧ j < 100 * f + 100)
theorem Fsc.q {f c : Nat} : ∀ k j, Fsc f k j → FQ f c k j := fun k j h => by
  unfold Fsc at h
  unfold FQ
  omega
theorem Fsc14 {f : Nat} : Fsc f 76 14 := Or.inl ⟨rfl, Or.inl rfl⟩
theorem Fsc24 {f : Nat} : Fsc f 76 24 := Or.inl ⟨rfl, Or.inr (Or.inr (Or.inl rfl))⟩
theorem Fsc25 {f : Nat} : Fsc f 76 25 := Or.inl ⟨rfl, Or.inr (Or.inr (Or.inr (Or.inl rfl)))⟩
theorem Fsc26 {f : Nat} : Fsc f 76 26 := Or.inl ⟨rfl, Or.inr (Or.inr (Or.inr (Or.inr rfl)))⟩
theorem Fsc90 {f j : Nat} (h : j < 100) : Fsc f 90 (100 * f + j) := Or.inr (Or.inr ⟨rfl, by omega, by omega⟩)
theorem FQ14 {f c : Nat} : FQ f c 76 14 := Or.inl ⟨rfl, Or.inl rfl⟩
theorem FQ15 {f c : Nat} : FQ f c 76 15 := Or.inl ⟨rfl, Or.inr (Or.inl rfl)⟩
theorem FQ24 {f c : Nat} : FQ f c 76 24 := Or.inl ⟨rfl, Or.inr (Or.inr (Or.inl rfl))⟩
theorem FQ25 {f c : Nat} : FQ f c 76 25 := Or.inl ⟨rfl, Or.inr (Or.inr (Or.inr (Or.inl rfl)))⟩
theorem FQ26 {f c : Nat} : FQ f c 76 26 := Or.inl ⟨rfl, Or.inr (Or.inr (Or.inr (Or.inr rfl)))⟩
theorem FQ91 {f c j : Nat} : FQ f c 91 j := Or.inr (Or.inl rfl)
theorem FQ90 {f c j : Nat} (h : j < 100) : FQ f c 90 (100 * f + j) := Or.inr (Or.inr (Or.inl ⟨rfl, by omega, by omega⟩))
theorem FQc {f c k : Nat} (h : k = 88 ∨ k = 89) : FQ f c k c := Or.inr (Or.inr (Or.inr ⟨h, rfl⟩))
theorem m_next {l : Launch} {G : GT} {ch : Nat → Nat} {s : Hp} {n p : Nat} (hR : RF s) (hT : TY s n ch) (hp : gi s 76 14 = nI p) (hle : p ≤ n) : MM l G mM_next 0 0 0 [.ref 76] KA s (PE (some (.int (nx ch n p))) KA s) := by
  refine MM.of (loc := [(0, .ref 76)]) (by decide +kernel) rfl (Nat.le_of_ble_eq_true rfl) ?_
  have h100 := hT.1
  by_cases hpn : p < n
  · have hx := hT.2.2.1 p hpn
    rw [show nx ch n p = nI (ch p) from if_pos hpn]
    refine V_aload_n dM_next_0 rfl ?_
    refine V_getE (x := nI p) dM_next_1 flM_53 k76 rfl hp ?_
    refine V_aload_n dM_next_4 rfl ?_
    refine V_getE (x := nI n) dM_next_5 flM_50 k76 rfl hT.2.1 ?_
    refine V_icmp_ge (tgt := 23) dM_next_8 rfl (fun h => absurd h (nI_ge hpn (by omega))) (fun _ => ?_)
    refine V_aload_n dM_next_11 rfl ?_
    refine V_getR (a := 84) dM_next_12 flM_59 k76 rfl (r76_16 hR) ?_
    refine V_aload_n dM_next_15 rfl ?_
    refine V_getE (x := nI p) dM_next_16 flM_53 k76 rfl hp ?_
    refine V_ialdN (j := p) dM_next_19 k84 rfl (by omega) (by decide) ?_
    refine V_topI (x' := nI (ch p)) hx.1 ?_
    refine V_goto (tgt := 24) dM_next_20 rfl ?_
    exact V_iret dM_next_24 rfl rfl ⟨rfl, rfl, rfl⟩
  · rw [show nx ch n p = -1 from if_neg hpn]
    refine V_aload_n dM_next_0 rfl ?_
    refine V_getE (x := nI p) dM_next_1 flM_53 k76 rfl hp ?_
    refine V_aload_n dM_next_4 rfl ?_
    refine V_getE (x := nI n) dM_next_5 flM_50 k76 rfl hT.2.1 ?_
    refine V_icmp_ge (tgt := 23) dM_next_8 rfl (fun _ => ?_) (fun h => absurd h (not_not_intro (nI_le (a := n) (b := p) (by omega) (by omega))))
    refine V_iconst (v := -1) dM_next_23 (by decide) ?_
    exact V_iret dM_next_24 rfl rfl ⟨rfl, rfl, rfl⟩
theorem m_takes {l : Launch} {G : GT} {ch : Nat → Nat} {s : Hp} {n p : Nat} (hR : RF s) (hT : TY s n ch) (hp : gi s 76 14 = nI p) (hle : p ≤ n) {c : Nat} (hc : c < 128) : MM l G mM_takes 1 0 0 [.ref 76, .int (nI c)] KA s (fun r k t => (ch p = c ∧ r = some (.int 1) ∧ KA = k ∧ si s 76 14 (nI (p + 1)) = t) ∨ (¬ ch p = c ∧ r = some (.int 0) ∧ KA = k ∧ s = t)) := by
  refine MM.of (loc := [(0, .ref 76), (1, .int (nI c))]) (by decide +kernel) rfl (Nat.le_of_ble_eq_true rfl) ?_
  refine V_aload_n dM_takes_0 rfl ?_
  refine V_callV (as := []) (rest := []) (bs' := 0) rfl dM_takes_1 cmM_next cvM_next mlM_224 (Or.inl ⟨_, _, _, _, _, rfl, k76, by decide, rfl⟩) rfl rfl (m_next hR hT hp hle) (by decide) (Nat.le_refl _) (by decide) (Nat.le_of_ble_eq_true rfl) ?_
  rintro _ _ _ ⟨rfl, rfl, rfl⟩ -
  refine V_one ?_
  refine V_iload_n dM_takes_4 rfl ?_
  refine V_icmp_eq (tgt := 10) dM_takes_5 rfl (fun c5 => ?_) (fun c5 => ?_)
  · have e5 : ch p = c := (nx_eq hT hc).mp c5
    refine V_aload_n dM_takes_10 rfl ?_
    refine V_dup dM_takes_11 rfl ?_
    refine V_getE (x := nI p) dM_takes_12 flM_53 k76 rfl hp ?_
    refine V_iconst (v := 1) dM_takes_15 (by decide) ?_
    refine V_iadd dM_takes_16 ?_
    refine V_topI (x' := nI (p + 1)) (nI_1 _) ?_
    refine V_putI dM_takes_17 flM_53 (fpM_14 _) (Or.inl rfl) k76 rfl ?_
    refine V_iconst (v := 1) dM_takes_20 (by decide) ?_
    exact V_zret dM_takes_21 rfl rfl rfl (Or.inl ⟨e5, rfl, rfl, rfl⟩)
  · have e5 : ¬ ch p = c := fun e => c5 ((nx_eq hT hc).mpr e)
    refine V_iconst (v := 0) dM_takes_8 (by decide) ?_
    exact V_zret dM_takes_9 rfl rfl rfl (Or.inr ⟨e5, rfl, rfl, rfl⟩)
theorem dgt_iff {s : Hp} {n p : Nat} {ch : Nat → Nat} (hT : TY s n ch) : ((48 : Int32) ≤ nx ch n p ∧ nx ch n p ≤ 57) ↔ dgt ch p = true := (nx_in hT (a := 48) (b := 57) (by decide) (by decide)).trans decide_eq_true_iff.symm
theorem m_isDigit {l : Launch} {G : GT} {ch : Nat → Nat} {s : Hp} {n p : Nat} (hR : RF s) (hT : TY s n ch) (hp : gi s 76 14 = nI p) (hle : p ≤ n) : MM l G mM_isDigit 1 0 0 [.ref 76] KA s (PZ (dgt ch p = true) KA s) := by
  refine MM.of (loc := [(0, .ref 76)]) (by decide +kernel) rfl (Nat.le_of_ble_eq_true rfl) ?_
  refine V_aload_n dM_isDigit_0 rfl ?_
  refine V_aload_n dM_isDigit_1 rfl ?_
  refine V_callV (as := []) (rest := [.ref 76]) (bs' := 0) rfl dM_isDigit_2 cmM_next cvM_next mlM_224 (Or.inl ⟨_, _, _, _, _, rfl, k76, by decide, rfl⟩) rfl rfl (m_next hR hT hp hle) (by decide) (Nat.le_refl _) (by decide) (Nat.le_of_ble_eq_true rfl) ?_
  rintro _ _ _ ⟨rfl, rfl, rfl⟩ -
  refine V_one ?_
  refine V_bipush (v := 48) dM_isDigit_5 (by decide) ?_
  refine V_bipush (v := 57) dM_isDigit_7 (by decide) ?_
  refine V_callV (as := [.int (nx ch n p), .int 48, .int 57]) (rest := []) (bs' := 0) rfl dM_isDigit_9 cmM_in cvM_in mlM_203 (Or.inl ⟨_, _, _, _, _, rfl, k76, by decide, rfl⟩) rfl rfl (m_in (nx ch n p) 48 57) (by decide) (Nat.le_refl _) (by decide) (Nat.le_of_ble_eq_true rfl) ?_
  rintro _ _ _ (⟨hb, rfl, rfl, rfl⟩ | ⟨hb, rfl, rfl, rfl⟩) -
  · refine V_one ?_
    exact V_zret dM_isDigit_12 rfl rfl rfl (Or.inl ⟨(dgt_iff hT).mp hb, rfl, rfl, rfl⟩)
  · refine V_one ?_
    exact V_zret dM_isDigit_12 rfl rfl rfl (Or.inr ⟨fun q => hb ((dgt_iff hT).mpr q), rfl, rfl, rfl⟩)
def N15 (k j : Nat) : Prop := k = 76 ∧ (j = 14 ∨ j = 15)
theorem mdg_a (a c : Nat) (h : 48 ≤ c) : (10 : Int32) * nI a + nI c - 48 = nI (10 * a + (c - 48)) := by
  rw [show (10 : Int32) = nI 10 from rfl, show (48 : Int32) = nI 48 from rfl, pk_mul, nI_add, pk_sub (by omega), show 10 * a + c - 48 = 10 * a + (c - 48) by omega]
theorem mdg_0 (c : Nat) (h : 48 ≤ c) : (0 : Int32) + nI c - 48 = nI (c - 48) := by
  rw [Int32.zero_add, show (48 : Int32) = nI 48 from rfl, pk_sub h]
theorem m_number {l : Launch} {G : GT} {ch : Nat → Nat} {s : Hp} {n p : Nat} (hR : RF s) (hT : TY s n ch) (hp : gi s 76 14 = nI p) (hle : p ≤ n) : MM l G mM_takesNumber 2 0 0 [.ref 76] KA s (fun r k t => (0 < nuL ch p ∧ r = some (.int 1) ∧ KA = k ∧ Fq N15 s t ∧ gi t 76 14 = nI (p + nuL ch p) ∧ gi t 76 15 = nI (nuV ch p)) ∨ (nuL ch p = 0 ∧ r = some (.int 0) ∧ KA = k ∧ s = t)) := by
  refine MM.of (loc := [(0, .ref 76)]) (by decide +kernel) rfl (Nat.le_of_ble_eq_true rfl) ?_
  have hR0 := hR
  have hF : Fq N15 s s := Fq.rfl
  have h100 := hT.1
  by_cases g0 : dgt ch p = true
  · have hlt0 : p < n := hT.lt (by have := of_decide_eq_true g0; omega)
    by_cases g1 : dgt ch (p + 1) = true
    · have hlt1 : p + 1 < n := hT.lt (by have := of_decide_eq_true g1; omega)
      have hnu : nuL ch p = 2 := by simp [nuL, g0, g1]
      have hnv : nuV ch p = 10 * (ch p - 48) + (ch (p + 1) - 48) := by simp [nuV, g0, g1]
      refine V_aload_n dM_takesNumber_0 rfl ?_
      refine V_callV (as := []) (rest := []) (bs' := 0) rfl dM_takesNumber_1 cmM_isDigit cvM_isDigit mlM_231 (Or.inl ⟨_, _, _, _, _, rfl, k76, by decide, rfl⟩) rfl rfl (m_isDigit hR hT hp hle) (by decide) (Nat.le_refl _) (by decide) (Nat.le_of_ble_eq_true rfl) ?_
      rintro _ _ _ (⟨hb, rfl, rfl, rfl⟩ | ⟨hb, rfl, rfl, rfl⟩) -
      · refine V_one ?_
        refine V_if_ne (tgt := 9) dM_takesNumber_4 rfl (fun _ => ?_) (fun h => absurd h (by decide))
        refine V_aload_n dM_takesNumber_9 rfl ?_
        refine V_iconst (v := 0) dM_takesNumber_10 (by decide) ?_
        refine V_putI dM_takesNumber_11 flM_56 (fpM_15 _) (Or.inl rfl) k76 rfl ?_
        have hT : TY (si s 76 15 0) n ch := hT.s1 (by decide) (by decide)
        have hp : gi (si s 76 15 0) 76 14 = nI p := (gi_nj (by decide)).trans hp
        have hF : Fq N15 s (si s 76 15 0) := hF.set (by unfold N15; omega)
        have hR : RF (si s 76 15 0) := hF.rf hR0
        refine V_iconst (v := 0) dM_takesNumber_14 (by decide) ?_
        refine V_istore_n (loc' := [(1, .int 0), (0, .ref 76)]) dM_takesNumber_15 (by decide) rfl ?_
        refine V_iload_n dM_takesNumber_16 rfl ?_
        refine V_iconst (v := 2) dM_takesNumber_17 (by decide) ?_
        refine V_icmp_ge (tgt := 63) dM_takesNumber_18 rfl (fun h => absurd h (by decide)) (fun _ => ?_)
        refine V_aload_n dM_takesNumber_21 rfl ?_
        refine V_callV (as := []) (rest := []) (bs' := 0) rfl dM_takesNumber_22 cmM_isDigit cvM_isDigit mlM_231 (Or.inl ⟨_, _, _, _, _, rfl, k76, by decide, rfl⟩) rfl rfl (m_isDigit hR hT hp hle) (by decide) (Nat.le_refl _) (by decide) (Nat.le_of_ble_eq_true rfl) ?_
        rintro _ _ _ (⟨hb, rfl, rfl, rfl⟩ | ⟨hb, rfl, rfl, rfl⟩) -
        · refine V_one ?_
          refine V_if_eq (tgt := 63) dM_takesNumber_25 rfl (fun h => absurd h (by decide)) (fun _ => ?_)
          refine V_aload_n dM_takesNumber_28 rfl ?_
          refine V_bipush (v := 10) dM_takesNumber_29 (by decide) ?_
          refine V_aload_n dM_takesNumber_31 rfl ?_
          refine V_getE (x := 0) dM_takesNumber_32 flM_56 k76 rfl (by simp only [gi, si]; simp) ?_
          refine V_imul dM_takesNumber_35 ?_
          refine V_topI (x' := 0) (by decide) ?_
          refine V_aload_n dM_takesNumber_36 rfl ?_
          refine V_callV (as := []) (rest := [.int 0, .ref 76]) (bs' := 0) rfl dM_takesNumber_37 cmM_next cvM_next mlM_224 (Or.inl ⟨_, _, _, _, _, rfl, k76, by decide, rfl⟩) rfl rfl (m_next hR hT hp hle) (by decide) (Nat.le_refl _) (by decide) (Nat.le_of_ble_eq_true rfl) ?_
          rintro _ _ _ ⟨rfl, rfl, rfl⟩ -
          refine V_one ?_
          refine V_topI (x' := nI (ch p)) (if_pos hlt0) ?_
          refine V_iadd dM_takesNumber_40 ?_
          refine V_bipush (v := 48) dM_takesNumber_41 (by decide) ?_
          refine V_isub dM_takesNumber_43 ?_
          refine V_topI (x' := nI (ch p - 48)) (mdg_0 _ (of_decide_eq_true g0).1) ?_
          refine V_putI dM_takesNumber_44 flM_56 (fpM_15 _) (Or.inl rfl) k76 rfl ?_
          have hT : TY (si (si s 76 15 0) 76 15 (nI (ch p - 48))) n ch := hT.s1 (by decide) (by decide)
          have hp : gi (si (si s 76 15 0) 76 15 (nI (ch p - 48))) 76 14 = nI p := (gi_nj (by decide)).trans hp
          have hF : Fq N15 s (si (si s 76 15 0) 76 15 (nI (ch p - 48))) := hF.set (by unfold N15; omega)
          have hR : RF (si (si s 76 15 0) 76 15 (nI (ch p - 48))) := hF.rf hR0
          refine V_aload_n dM_takesNumber_47 rfl ?_
          refine V_dup dM_takesNumber_48 rfl ?_
          refine V_getE (x := nI p) dM_takesNumber_49 flM_53 k76 rfl hp ?_
          refine V_iconst (v := 1) dM_takesNumber_52 (by decide) ?_
          refine V_iadd dM_takesNumber_53 ?_
          refine V_topI (x' := nI (p + 1)) (nI_1 _) ?_
          refine V_putI dM_takesNumber_54 flM_53 (fpM_14 _) (Or.inl rfl) k76 rfl ?_
          have hT : TY (si (si (si s 76 15 0) 76 15 (nI (ch p - 48))) 76 14 (nI (p + 1))) n ch := hT.s1 (by decide) (by decide)
          have hp : gi (si (si (si s 76 15 0) 76 15 (nI (ch p - 48))) 76 14 (nI (p + 1))) 76 14 = nI (p + 1) := gi_eq
          have hle : p + 1 ≤ n := by have := hlt0; omega
          have hF : Fq N15 s (si (si (si s 76 15 0) 76 15 (nI (ch p - 48))) 76 14 (nI (p + 1))) := hF.set (by unfold N15; omega)
          have hR : RF (si (si (si s 76 15 0) 76 15 (nI (ch p - 48))) 76 14 (nI (p + 1))) := hF.rf hR0
          refine V_iinc (v := 1) (loc' := [(1, .int 1), (0, .ref 76)]) dM_takesNumber_57 rfl (by decide) (by decide) rfl ?_
          refine V_goto (tgt := 16) dM_takesNumber_60 rfl ?_
          refine V_iload_n dM_takesNumber_16 rfl ?_
          refine V_iconst (v := 2) dM_takesNumber_17 (by decide) ?_
          refine V_icmp_ge (tgt := 63) dM_takesNumber_18 rfl (fun h => absurd h (by decide)) (fun _ => ?_)
          refine V_aload_n dM_takesNumber_21 rfl ?_
          refine V_callV (as := []) (rest := []) (bs' := 0) rfl dM_takesNumber_22 cmM_isDigit cvM_isDigit mlM_231 (Or.inl ⟨_, _, _, _, _, rfl, k76, by decide, rfl⟩) rfl rfl (m_isDigit hR hT hp hle) (by decide) (Nat.le_refl _) (by decide) (Nat.le_of_ble_eq_true rfl) ?_
          rintro _ _ _ (⟨hb, rfl, rfl, rfl⟩ | ⟨hb, rfl, rfl, rfl⟩) -
          · refine V_one ?_
            refine V_if_eq (tgt := 63) dM_takesNumber_25 rfl (fun h => absurd h (by decide)) (fun _ => ?_)
            refine V_aload_n dM_takesNumber_28 rfl ?_
            refine V_bipush (v := 10) dM_takesNumber_29 (by decide) ?_
            refine V_aload_n dM_takesNumber_31 rfl ?_
            refine V_getE (x := nI (ch p - 48)) dM_takesNumber_32 flM_56 k76 rfl (by simp only [gi, si]; simp) ?_
            refine V_imul dM_takesNumber_35 ?_
            refine V_aload_n dM_takesNumber_36 rfl ?_
            refine V_callV (as := []) (rest := [.int (10 * (nI (ch p - 48))), .ref 76]) (bs' := 0) rfl dM_takesNumber_37 cmM_next cvM_next mlM_224 (Or.inl ⟨_, _, _, _, _, rfl, k76, by decide, rfl⟩) rfl rfl (m_next hR hT hp hle) (by decide) (Nat.le_refl _) (by decide) (Nat.le_of_ble_eq_true rfl) ?_
            rintro _ _ _ ⟨rfl, rfl, rfl⟩ -
            refine V_one ?_
            refine V_topI (x' := nI (ch (p + 1))) (if_pos hlt1) ?_
            refine V_iadd dM_takesNumber_40 ?_
            refine V_bipush (v := 48) dM_takesNumber_41 (by decide) ?_
            refine V_isub dM_takesNumber_43 ?_
            refine V_topI (x' := nI (10 * (ch p - 48) + (ch (p + 1) - 48))) (mdg_a _ _ (of_decide_eq_true g1).1) ?_
            refine V_putI dM_takesNumber_44 flM_56 (fpM_15 _) (Or.inl rfl) k76 rfl ?_
            have hT : TY (si (si (si (si s 76 15 0) 76 15 (nI (ch p - 48))) 76 14 (nI (p + 1))) 76 15 (nI (10 * (ch p - 48) + (ch (p + 1) - 48)))) n ch := hT.s1 (by decide) (by decide)
            have hp : gi (si (si (si (si s 76 15 0) 76 15 (nI (ch p - 48))) 76 14 (nI (p + 1))) 76 15 (nI (10 * (ch p - 48) + (ch (p + 1) - 48)))) 76 14 = nI (p + 1) := (gi_nj (by decide)).trans hp
            have hF : Fq N15 s (si (si (si (si s 76 15 0) 76 15 (nI (ch p - 48))) 76 14 (nI (p + 1))) 76 15 (nI (10 * (ch p - 48) + (ch (p + 1) - 48)))) := hF.set (by unfold N15; omega)
            have hR : RF (si (si (si (si s 76 15 0) 76 15 (nI (ch p - 48))) 76 14 (nI (p + 1))) 76 15 (nI (10 * (ch p - 48) + (ch (p + 1) - 48)))) := hF.rf hR0
            refine V_aload_n dM_takesNumber_47 rfl ?_
            refine V_dup dM_takesNumber_48 rfl ?_
            refine V_getE (x := nI (p + 1)) dM_takesNumber_49 flM_53 k76 rfl hp ?_
            refine V_iconst (v := 1) dM_takesNumber_52 (by decide) ?_
            refine V_iadd dM_takesNumber_53 ?_
            refine V_topI (x' := nI (p + 2)) (nI_1 _) ?_
            refine V_putI dM_takesNumber_54 flM_53 (fpM_14 _) (Or.inl rfl) k76 rfl ?_
            have hT : TY (si (si (si (si (si s 76 15 0) 76 15 (nI (ch p - 48))) 76 14 (nI (p + 1))) 76 15 (nI (10 * (ch p - 48) + (ch (p + 1) - 48)))) 76 14 (nI (p + 2))) n ch := hT.s1 (by decide) (by decide)
            have hp : gi (si (si (si (si (si s 76 15 0) 76 15 (nI (ch p - 48))) 76 14 (nI (p + 1))) 76 15 (nI (10 * (ch p - 48) + (ch (p + 1) - 48)))) 76 14 (nI (p + 2))) 76 14 = nI (p + 2) := gi_eq
            have hle : p + 2 ≤ n := by have := hlt1; omega
            have hF : Fq N15 s (si (si (si (si (si s 76 15 0) 76 15 (nI (ch p - 48))) 76 14 (nI (p + 1))) 76 15 (nI (10 * (ch p - 48) + (ch (p + 1) - 48)))) 76 14 (nI (p + 2))) := hF.set (by unfold N15; omega)
            have hR : RF (si (si (si (si (si s 76 15 0) 76 15 (nI (ch p - 48))) 76 14 (nI (p + 1))) 76 15 (nI (10 * (ch p - 48) + (ch (p + 1) - 48)))) 76 14 (nI (p + 2))) := hF.rf hR0
            refine V_iinc (v := 2) (loc' := [(1, .int 2), (0, .ref 76)]) dM_takesNumber_57 rfl (by decide) (by decide) rfl ?_
            refine V_goto (tgt := 16) dM_takesNumber_60 rfl ?_
            refine V_iload_n dM_takesNumber_16 rfl ?_
            refine V_iconst (v := 2) dM_takesNumber_17 (by decide) ?_
            refine V_icmp_ge (tgt := 63) dM_takesNumber_18 rfl (fun _ => ?_) (fun h => absurd h (by decide))
            refine V_iconst (v := 1) dM_takesNumber_63 (by decide) ?_
            refine V_zret dM_takesNumber_64 rfl rfl rfl ?_
            refine Or.inl ⟨by omega, rfl, rfl, hF, by rw [hnu]; exact hp, ?_⟩
            rw [hnv]
            simp only [gi, si]; simp
          · refine V_one ?_
            exact absurd g1 hb --done
        · refine V_one ?_
          exact absurd g0 hb --done
      · refine V_one ?_
        exact absurd g0 hb --done
    · have hnu : nuL ch p = 1 := by simp [nuL, g0, g1]
      have hnv : nuV ch p = ch p - 48 := by simp [nuV, g0, g1]
      refine V_aload_n dM_takesNumber_0 rfl ?_
      refine V_callV (as := []) (rest := []) (bs' := 0) rfl dM_takesNumber_1 cmM_isDigit cvM_isDigit mlM_231 (Or.inl ⟨_, _, _, _, _, rfl, k76, by decide, rfl⟩) rfl rfl (m_isDigit hR hT hp hle) (by decide) (Nat.le_refl _) (by decide) (Nat.le_of_ble_eq_true rfl) ?_
      rintro _ _ _ (⟨hb, rfl, rfl, rfl⟩ | ⟨hb, rfl, rfl, rfl⟩) -
      · refine V_one ?_
        refine V_if_ne (tgt := 9) dM_takesNumber_4 rfl (fun _ => ?_) (fun h => absurd h (by decide))
        refine V_aload_n dM_takesNumber_9 rfl ?_
        refine V_iconst (v := 0) dM_takesNumber_10 (by decide) ?_
        refine V_putI dM_takesNumber_11 flM_56 (fpM_15 _) (Or.inl rfl) k76 rfl ?_
        have hT : TY (si s 76 15 0) n ch := hT.s1 (by decide) (by decide)
        have hp : gi (si s 76 15 0) 76 14 = nI p := (gi_nj (by decide)).trans hp
        have hF : Fq N15 s (si s 76 15 0) := hF.set (by unfold N15; omega)
        have hR : RF (si s 76 15 0) := hF.rf hR0
        refine V_iconst (v := 0) dM_takesNumber_14 (by decide) ?_
        refine V_istore_n (loc' := [(1, .int 0), (0, .ref 76)]) dM_takesNumber_15 (by decide) rfl ?_
        refine V_iload_n dM_takesNumber_16 rfl ?_
        refine V_iconst (v := 2) dM_takesNumber_17 (by decide) ?_
        refine V_icmp_ge (tgt := 63) dM_takesNumber_18 rfl (fun h => absurd h (by decide)) (fun _ => ?_)
        refine V_aload_n dM_takesNumber_21 rfl ?_
        refine V_callV (as := []) (rest := []) (bs' := 0) rfl dM_takesNumber_22 cmM_isDigit cvM_isDigit mlM_231 (Or.inl ⟨_, _, _, _, _, rfl, k76, by decide, rfl⟩) rfl rfl (m_isDigit hR hT hp hle) (by decide) (Nat.le_refl _) (by decide) (Nat.le_of_ble_eq_true rfl) ?_
        rintro _ _ _ (⟨hb, rfl, rfl, rfl⟩ | ⟨hb, rfl, rfl, rfl⟩) -
        · refine V_one ?_
          refine V_if_eq (tgt := 63) dM_takesNumber_25 rfl (fun h => absurd h (by decide)) (fun _ => ?_)
          refine V_aload_n dM_takesNumber_28 rfl ?_
          refine V_bipush (v := 10) dM_takesNumber_29 (by decide) ?_
          refine V_aload_n dM_takesNumber_31 rfl ?_
          refine V_getE (x := 0) dM_takesNumber_32 flM_56 k76 rfl (by simp only [gi, si]; simp) ?_
          refine V_imul dM_takesNumber_35 ?_
          refine V_topI (x' := 0) (by decide) ?_
          refine V_aload_n dM_takesNumber_36 rfl ?_
          refine V_callV (as := []) (rest := [.int 0, .ref 76]) (bs' := 0) rfl dM_takesNumber_37 cmM_next cvM_next mlM_224 (Or.inl ⟨_, _, _, _, _, rfl, k76, by decide, rfl⟩) rfl rfl (m_next hR hT hp hle) (by decide) (Nat.le_refl _) (by decide) (Nat.le_of_ble_eq_true rfl) ?_
          rintro _ _ _ ⟨rfl, rfl, rfl⟩ -
          refine V_one ?_
          refine V_topI (x' := nI (ch p)) (if_pos hlt0) ?_
          refine V_iadd dM_takesNumber_40 ?_
          refine V_bipush (v := 48) dM_takesNumber_41 (by decide) ?_
          refine V_isub dM_takesNumber_43 ?_
          refine V_topI (x' := nI (ch p - 48)) (mdg_0 _ (of_decide_eq_true g0).1) ?_
          refine V_putI dM_takesNumber_44 flM_56 (fpM_15 _) (Or.inl rfl) k76 rfl ?_
          have hT : TY (si (si s 76 15 0) 76 15 (nI (ch p - 48))) n ch := hT.s1 (by decide) (by decide)
          have hp : gi (si (si s 76 15 0) 76 15 (nI (ch p - 48))) 76 14 = nI p := (gi_nj (by decide)).trans hp
          have hF : Fq N15 s (si (si s 76 15 0) 76 15 (nI (ch p - 48))) := hF.set (by unfold N15; omega)
          have hR : RF (si (si s 76 15 0) 76 15 (nI (ch p - 48))) := hF.rf hR0
          refine V_aload_n dM_takesNumber_47 rfl ?_
          refine V_dup dM_takesNumber_48 rfl ?_
          refine V_getE (x := nI p) dM_takesNumber_49 flM_53 k76 rfl hp ?_
          refine V_iconst (v := 1) dM_takesNumber_52 (by decide) ?_
          refine V_iadd dM_takesNumber_53 ?_
          refine V_topI (x' := nI (p + 1)) (nI_1 _) ?_
          refine V_putI dM_takesNumber_54 flM_53 (fpM_14 _) (Or.inl rfl) k76 rfl ?_
          have hT : TY (si (si (si s 76 15 0) 76 15 (nI (ch p - 48))) 76 14 (nI (p + 1))) n ch := hT.s1 (by decide) (by decide)
          have hp : gi (si (si (si s 76 15 0) 76 15 (nI (ch p - 48))) 76 14 (nI (p + 1))) 76 14 = nI (p + 1) := gi_eq
          have hle : p + 1 ≤ n := by have := hlt0; omega
          have hF : Fq N15 s (si (si (si s 76 15 0) 76 15 (nI (ch p - 48))) 76 14 (nI (p + 1))) := hF.set (by unfold N15; omega)
          have hR : RF (si (si (si s 76 15 0) 76 15 (nI (ch p - 48))) 76 14 (nI (p + 1))) := hF.rf hR0
          refine V_iinc (v := 1) (loc' := [(1, .int 1), (0, .ref 76)]) dM_takesNumber_57 rfl (by decide) (by decide) rfl ?_
          refine V_goto (tgt := 16) dM_takesNumber_60 rfl ?_
          refine V_iload_n dM_takesNumber_16 rfl ?_
          refine V_iconst (v := 2) dM_takesNumber_17 (by decide) ?_
          refine V_icmp_ge (tgt := 63) dM_takesNumber_18 rfl (fun h => absurd h (by decide)) (fun _ => ?_)
          refine V_aload_n dM_takesNumber_21 rfl ?_
          refine V_callV (as := []) (rest := []) (bs' := 0) rfl dM_takesNumber_22 cmM_isDigit cvM_isDigit mlM_231 (Or.inl ⟨_, _, _, _, _, rfl, k76, by decide, rfl⟩) rfl rfl (m_isDigit hR hT hp hle) (by decide) (Nat.le_refl _) (by decide) (Nat.le_of_ble_eq_true rfl) ?_
          rintro _ _ _ (⟨hb, rfl, rfl, rfl⟩ | ⟨hb, rfl, rfl, rfl⟩) -
          · refine V_one ?_
            exact absurd hb g1 --done
          · refine V_one ?_
            refine V_if_eq (tgt := 63) dM_takesNumber_25 rfl (fun _ => ?_) (fun h => absurd h (by decide))
            refine V_iconst (v := 1) dM_takesNumber_63 (by decide) ?_
            refine V_zret dM_takesNumber_64 rfl rfl rfl ?_
            refine Or.inl ⟨by omega, rfl, rfl, hF, by rw [hnu]; exact hp, ?_⟩
            rw [hnv]
            simp only [gi, si]; simp
        · refine V_one ?_
          exact absurd g0 hb --done
      · refine V_one ?_
        exact absurd g0 hb --done
  · have hnu : nuL ch p = 0 := by simp [nuL, g0]
    refine V_aload_n dM_takesNumber_0 rfl ?_
    refine V_callV (as := []) (rest := []) (bs' := 0) rfl dM_takesNumber_1 cmM_isDigit cvM_isDigit mlM_231 (Or.inl ⟨_, _, _, _, _, rfl, k76, by decide, rfl⟩) rfl rfl (m_isDigit hR hT hp hle) (by decide) (Nat.le_refl _) (by decide) (Nat.le_of_ble_eq_true rfl) ?_
    rintro _ _ _ (⟨hb, rfl, rfl, rfl⟩ | ⟨hb, rfl, rfl, rfl⟩) -
    · refine V_one ?_
      exact absurd hb g0 --done
    · refine V_one ?_
      refine V_if_ne (tgt := 9) dM_takesNumber_4 rfl (fun h => absurd h (by decide)) (fun _ => ?_)
      refine V_iconst (v := 0) dM_takesNumber_7 (by decide) ?_
      exact V_zret dM_takesNumber_8 rfl rfl rfl (Or.inr ⟨hnu, rfl, rfl, rfl⟩)
