/-! the reader of the first object: signs, words, numbers, tests -/
/-- the text: n signs, ch says which -/
def TX (σ : Hp) (n : Nat) (ch : Nat → Nat) : Prop := n ≤ 100 ∧ (∀ p, p < n → gi σ 48 p = nI (ch p) ∧ ch p < 128) ∧ ∀ q, n ≤ q → ch q = 255
/-- the reader stands at p, has written ops to the rows of law f, knows the base b -/
def RS (σ s : Hp) (f n p b : Nat) (ops : List Nat) : Prop := (∀ k j, k ≠ 58 → k ≠ 50 + f → gi s k j = gi σ k j) ∧ (∀ k j, gl s k j = gl σ k j) ∧ (∀ k j, ¬ (k = 58 ∧ j = 2) → gr s k j = gr σ k j) ∧ gr s 58 2 = some (50 + f) ∧ gi s 58 1 = nI n ∧ gi s 58 3 = nI p ∧ gi s 58 4 = nI ops.length ∧ gi s 58 5 = nI b ∧ (∀ j op, ops[j]? = some op → gi s (50 + f) j = encC op) ∧ p ≤ n
theorem grl_58 : ∀ q ∈ grl, ¬ (q.1 = 58 ∧ q.2.1 = 2) := by decide +kernel
section RSS
variable {σ s : Hp} {f n p b : Nat} {ops : List Nat} {ch : Nat → Nat}
theorem RS.rf (h : RS σ s f n p b ops) (hR : RF σ) : RF s := fun q hq => (h.2.2.1 _ _ (grl_58 q hq)).trans (hR q hq)
theorem RS.g1 (h : RS σ s f n p b ops) : gi s 58 1 = nI n := h.2.2.2.2.1
theorem RS.g2 (h : RS σ s f n p b ops) : gr s 58 2 = some (50 + f) := h.2.2.2.1
theorem RS.g3 (h : RS σ s f n p b ops) : gi s 58 3 = nI p := h.2.2.2.2.2.1
theorem RS.g4 (h : RS σ s f n p b ops) : gi s 58 4 = nI ops.length := h.2.2.2.2.2.2.1
theorem RS.g5 (h : RS σ s f n p b ops) : gi s 58 5 = nI b := h.2.2.2.2.2.2.2.1
theorem RS.le (h : RS σ s f n p b ops) : p ≤ n := h.2.2.2.2.2.2.2.2.2
theorem RS.tx (h : RS σ s f n p b ops) (hf : f < 6) (hT : TX σ n ch) : TX s n ch := ⟨hT.1, fun q hq => ⟨(h.1 48 q (by omega) (by omega)).trans (hT.2.1 q hq).1, (hT.2.1 q hq).2⟩, hT.2.2⟩
theorem RS.at (h : RS σ s f n p b ops) (hf : f < 6) {q : Nat} (hq : q ≤ n) : RS σ (si s 58 3 (nI q)) f n q b ops := by
  obtain ⟨a1, a2, a3, a4, a5, a6, a7, a8, a9, a10⟩ := h
  refine ⟨fun k j hk hk2 => (gi_ne hk).trans (a1 k j hk hk2), a2, a3, a4, (gi_nj (by decide)).trans a5, gi_eq, (gi_nj (by decide)).trans a7, (gi_nj (by decide)).trans a8, fun j op hj => (gi_ne (by omega)).trans (a9 j op hj), hq⟩
theorem RS.nu (h : RS σ s f n p b ops) (hf : f < 6) {x : Int32} : RS σ (si s 58 6 x) f n p b ops := by
  obtain ⟨a1, a2, a3, a4, a5, a6, a7, a8, a9, a10⟩ := h
  refine ⟨fun k j hk hk2 => (gi_ne hk).trans (a1 k j hk hk2), a2, a3, a4, (gi_nj (by decide)).trans a5, (gi_nj (by decide)).trans a6, (gi_nj (by decide)).trans a7, (gi_nj (by decide)).trans a8, fun j op hj => (gi_ne (by omega)).trans (a9 j op hj), a10⟩
theorem RS.ba (h : RS σ s f n p b ops) (hf : f < 6) {c : Nat} : RS σ (si s 58 5 (nI c)) f n p c ops := by
  obtain ⟨a1, a2, a3, a4, a5, a6, a7, a8, a9, a10⟩ := h
  refine ⟨fun k j hk hk2 => (gi_ne hk).trans (a1 k j hk hk2), a2, a3, a4, (gi_nj (by decide)).trans a5, (gi_nj (by decide)).trans a6, (gi_nj (by decide)).trans a7, gi_eq, fun j op hj => (gi_ne (by omega)).trans (a9 j op hj), a10⟩
theorem RS.wr (h : RS σ s f n p b ops) (hf : f < 6) {op : Nat} {x : Int32} (hx : x = encC op) : RS σ (si (si s (50 + f) ops.length x) 58 4 (nI (ops.length + 1))) f n p b (ops ++ [op]) := by
  obtain ⟨a1, a2, a3, a4, a5, a6, a7, a8, a9, a10⟩ := h
  have hne : ∀ j, (58 : Nat) ≠ 50 + f := fun _ => by omega
  refine ⟨fun k j hk hk2 => (gi_ne hk).trans ((gi_ne hk2).trans (a1 k j hk hk2)), a2, a3, a4, (gi_nj (by decide)).trans ((gi_ne (by omega)).trans a5), (gi_nj (by decide)).trans ((gi_ne (by omega)).trans a6), ?_, (gi_nj (by decide)).trans ((gi_ne (by omega)).trans a8), fun j o hj => ?_, a10⟩
  · rw [gi_eq, List.length_append, List.length_singleton]
  · rw [gi_ne (by omega)]
    by_cases e : j < ops.length
    · rw [List.getElem?_append_left e] at hj
      rw [gi_nj (by omega)]
      exact a9 j o hj
    · rw [List.getElem?_append_right (by omega)] at hj
      have e0 : j - ops.length < 1 := (List.getElem?_eq_some_iff.mp hj).1
      have e1 : j = ops.length := by omega
      subst e1
      rw [Nat.sub_self] at hj
      cases hj
      rw [gi_eq]
      exact hx
end RSS
theorem kSF : ∀ f : Nat, f < 6 → KA[50 + f]? = some (20, 100) := by decide
theorem dg_a (a c : Nat) (h : 48 ≤ c) : nI a * 10 + (nI c - 48) = nI (10 * a + (c - 48)) := by
  rw [show (10 : Int32) = nI 10 from rfl, show (48 : Int32) = nI 48 from rfl, pk_mul, pk_sub h, nI_add, Nat.mul_comm]
theorem dg_0 (c : Nat) (h : 48 ≤ c) : (0 : Int32) * 10 + (nI c - 48) = nI (c - 48) := by
  have := dg_a 0 c h
  rw [Nat.mul_zero, Nat.zero_add] at this
  exact this
theorem dg_n {c : Nat} (h : c < 48) : nI c - 48 < 0 := pk_sneg (b := 48) (by decide) h
theorem dg_p {c : Nat} (h : 48 ≤ c) (h2 : c < 128) : ¬ nI c - 48 < 0 := by
  rw [show (48 : Int32) = nI 48 from rfl, pk_sub h]
  exact nI_pos (by omega)
theorem dg_9 {c : Nat} (h : 48 ≤ c) (h2 : c ≤ 57) : nI c - 48 ≤ 9 := by
  rw [show (48 : Int32) = nI 48 from rfl, pk_sub h]
  exact nI_le (b := 9) (by omega) (by decide)
theorem dg_10 {c : Nat} (h : 57 < c) (h2 : c < 128) : ¬ nI c - 48 ≤ 9 := by
  rw [show (48 : Int32) = nI 48 from rfl, pk_sub (by omega)]
  exact nI_ge (a := 9) (by omega) (by omega)
theorem dgT {ch : Nat → Nat} {q : Nat} (h : 48 ≤ ch q ∧ ch q ≤ 57) : dgt ch q = true := decide_eq_true h
theorem dgF {ch : Nat → Nat} {q : Nat} (h : ¬ (48 ≤ ch q ∧ ch q ≤ 57)) : dgt ch q = false := decide_eq_false h
theorem tri {σ : Hp} {n : Nat} {ch : Nat → Nat} (hT : TX σ n ch) (q : Nat) : (n ≤ q ∧ ch q = 255) ∨ (q < n ∧ gi σ 48 q = nI (ch q) ∧ ch q < 48) ∨ (q < n ∧ gi σ 48 q = nI (ch q) ∧ 57 < ch q ∧ ch q < 128) ∨ (q < n ∧ gi σ 48 q = nI (ch q) ∧ 48 ≤ ch q ∧ ch q ≤ 57) := by
  by_cases h : q < n
  · have := hT.2.1 q h
    by_cases h1 : ch q < 48
    · exact Or.inr (Or.inl ⟨h, this.1, h1⟩)
    · by_cases h2 : 57 < ch q
      · exact Or.inr (Or.inr (Or.inl ⟨h, this.1, h2, this.2⟩))
      · exact Or.inr (Or.inr (Or.inr ⟨h, this.1, by omega, by omega⟩))
  · exact Or.inl ⟨by omega, hT.2.2 q (by omega)⟩
theorem tx_n {σ : Hp} {n : Nat} {ch : Nat → Nat} (hT : TX σ n ch) (q : Nat) : ch q < 256 := by
  by_cases h : q < n
  · have := (hT.2.1 q h).2
    omega
  · rw [hT.2.2 q (by omega)]
    decide
/-- a test of one sign; steps written -/
def TK (σ s : Hp) (f n p b : Nat) (ops : List Nat) (P : Prop) : Option Value → List Kd → Hp → Prop := fun r k t => (P ∧ r = some (.int 1) ∧ KA = k ∧ RS σ t f n (p + 1) b ops) ∨ (¬ P ∧ r = some (.int 0) ∧ KA = k ∧ s = t)
theorem c_rsign {l : Launch} {G : GT} {ch : Nat → Nat} {σ s : Hp} {f n p b : Nat} {ops : List Nat} (hR0 : RF σ) (hf : f < 6) (hT : TX σ n ch) (hS : RS σ s f n p b ops) : MM l G mR_sign 0 0 0 [.ref 58] KA s (PE (some (.int (nI (ch p)))) KA s) := by
  have hR := hS.rf hR0
  have hTs := hS.tx hf hT
  have hle := hS.le
  have h100 := hT.1
  refine MM.of (loc := [(0, .ref 58)]) (by decide +kernel) rfl (Nat.le_of_ble_eq_true rfl) ?_
  by_cases hp : p < n
  · have hx := hTs.2.1 p hp
    refine V_aload_n dR_sign_0 rfl ?_
    refine V_getE (x := nI p) dR_sign_1 flR_22 k58 rfl hS.g3 ?_
    refine V_aload_n dR_sign_4 rfl ?_
    refine V_getE (x := nI n) dR_sign_5 flR_18 k58 rfl hS.g1 ?_
    refine V_icmp_ge (tgt := 36) dR_sign_8 rfl (fun h => absurd h (nI_ge hp (by omega))) (fun _ => ?_)
    refine V_aload_n dR_sign_11 rfl ?_
    refine V_getE (x := nI p) dR_sign_12 flR_22 k58 rfl hS.g3 ?_
    refine V_aload_n dR_sign_15 rfl ?_
    refine V_getR (a := 48) dR_sign_16 flR_15 k58 rfl (r58_0 hR) ?_
    refine V_alen (t0 := 0) (v := 100) dR_sign_19 k48 (by decide) rfl (by decide) ?_
    refine V_icmp_ge (tgt := 36) dR_sign_20 rfl (fun h => absurd h (nI_ge (a := p) (b := 100) (by omega) (by decide))) (fun _ => ?_)
    refine V_aload_n dR_sign_23 rfl ?_
    refine V_getR (a := 48) dR_sign_24 flR_15 k58 rfl (r58_0 hR) ?_
    refine V_aload_n dR_sign_27 rfl ?_
    refine V_getE (x := nI p) dR_sign_28 flR_22 k58 rfl hS.g3 ?_
    refine V_ialdN (j := p) dR_sign_31 k48 rfl (by omega) (by decide) ?_
    refine V_topI (x' := nI (ch p)) hx.1 ?_
    refine V_i2c dR_sign_32 ?_
    refine V_topI (x' := nI (ch p)) (i2c_n _ (by omega)) ?_
    refine V_goto (tgt := 39) dR_sign_33 rfl ?_
    exact V_zret dR_sign_39 rfl (nar_c _ (by omega)) rfl ⟨rfl, rfl, rfl⟩
  · have hx := hTs.2.2 p (by omega)
    refine V_aload_n dR_sign_0 rfl ?_
    refine V_getE (x := nI p) dR_sign_1 flR_22 k58 rfl hS.g3 ?_
    refine V_aload_n dR_sign_4 rfl ?_
    refine V_getE (x := nI n) dR_sign_5 flR_18 k58 rfl hS.g1 ?_
    refine V_icmp_ge (tgt := 36) dR_sign_8 rfl (fun _ => ?_) (fun h => absurd h (not_not_intro (nI_le (a := n) (b := p) (by omega) (by omega))))
    refine V_sipush (v := 255) dR_sign_36 (by decide) ?_
    refine V_zret dR_sign_39 rfl (nar_c 255 (by decide)) rfl ?_
    rw [hx]
    exact ⟨rfl, rfl, rfl⟩
theorem c_rtakes {l : Launch} {G : GT} {ch : Nat → Nat} {σ s : Hp} {f n p b : Nat} {ops : List Nat} (hR0 : RF σ) (hf : f < 6) (hT : TX σ n ch) (hS : RS σ s f n p b ops) {c : Nat} (hc : c < 128) : MM l G mR_takes 1 0 0 [.ref 58, .int (nI c)] KA s (TK σ s f n p b ops (ch p = c)) := by
  have hR := hS.rf hR0
  have hTs := hS.tx hf hT
  have hle := hS.le
  have h100 := hT.1
  have hcc := tx_n hT p
  refine MM.of (loc := [(0, .ref 58), (1, .int (nI c))]) (by decide +kernel) rfl (Nat.le_of_ble_eq_true rfl) ?_
  refine V_aload_n dR_takes_0 rfl ?_
  refine V_callV (as := []) (rest := []) (bs' := 0) rfl dR_takes_1 cmR_sign cvR_sign mlR_39 (Or.inl ⟨_, _, _, _, _, rfl, k58, by decide, rfl⟩) rfl rfl (c_rsign hR0 hf hT hS) (by decide) (Nat.le_refl _) (by decide) (Nat.le_of_ble_eq_true rfl) ?_
  rintro _ _ _ ⟨rfl, rfl, rfl⟩ -
  refine V_one ?_
  refine V_iload_n dR_takes_4 rfl ?_
  refine V_icmp_eq (tgt := 10) dR_takes_5 rfl (fun c5 => ?_) (fun c5 => ?_)
  · have e5 : ch p = c := (nI_eq (by omega) (by omega)).mp c5
    have hp : p < n := by
      by_cases h : p < n
      · exact h
      · have := hT.2.2 p (by omega)
        omega
    refine V_aload_n dR_takes_10 rfl ?_
    refine V_dup dR_takes_11 rfl ?_
    refine V_getE (x := nI p) dR_takes_12 flR_22 k58 rfl hS.g3 ?_
    refine V_iconst (v := 1) dR_takes_15 (by decide) ?_
    refine V_iadd dR_takes_16 ?_
    refine V_topI (x' := nI (p + 1)) (nI_1 _) ?_
    refine V_putI dR_takes_17 flR_22 (fpR_3 _) (Or.inl rfl) k58 rfl ?_
    have hS := hS.at hf (q := p + 1) (by omega)
    have hR := hS.rf hR0
    have hTs := hS.tx hf hT
    refine V_iconst (v := 1) dR_takes_20 (by decide) ?_
    exact V_zret dR_takes_21 rfl rfl rfl (Or.inl ⟨e5, rfl, rfl, hS⟩)
  · have e5 : ¬ ch p = c := fun e => c5 (by rw [e])
    refine V_iconst (v := 0) dR_takes_8 (by decide) ?_
    exact V_zret dR_takes_9 rfl rfl rfl (Or.inr ⟨e5, rfl, rfl, rfl⟩)
theorem c_rwrites {l : Launch} {G : GT} {ch : Nat → Nat} {σ s : Hp} {f n p b : Nat} {ops : List Nat} (hR0 : RF σ) (hf : f < 6) (hT : TX σ n ch) (hS : RS σ s f n p b ops) {op : Nat} {x : Int32} (hx : x = encC op) (hl : ops.length < 100) : MM l G mR_writes 0 0 0 [.ref 58, .int x] KA s (fun r k t => r = some (.int 1) ∧ KA = k ∧ RS σ t f n p b (ops ++ [op])) := by
  have hR := hS.rf hR0
  have hTs := hS.tx hf hT
  have hle := hS.le
  have h100 := hT.1
  refine MM.of (loc := [(0, .ref 58), (1, .int x)]) (by decide +kernel) rfl (Nat.le_of_ble_eq_true rfl) ?_
  refine V_aload_n dR_writes_0 rfl ?_
  refine V_getE (x := nI (ops).length) dR_writes_1 flR_25 k58 rfl hS.g4 ?_
  refine V_aload_n dR_writes_4 rfl ?_
  refine V_getR (a := 50 + f) dR_writes_5 flR_9 k58 rfl hS.g2 ?_
  refine V_alen (t0 := 0) (v := 100) dR_writes_8 (kSF f hf) (by decide) rfl (by decide) ?_
  refine V_icmp_lt (tgt := 14) dR_writes_9 rfl (fun _ => ?_) (fun h => absurd h (not_not_intro (nI_lt (b := 100) hl (by decide))))
  refine V_aload_n dR_writes_14 rfl ?_
  refine V_getR (a := 50 + f) dR_writes_15 flR_9 k58 rfl hS.g2 ?_
  refine V_aload_n dR_writes_18 rfl ?_
  refine V_getE (x := nI (ops).length) dR_writes_19 flR_25 k58 rfl hS.g4 ?_
  refine V_iload_n dR_writes_22 rfl ?_
  refine V_iastN (j := ops.length) dR_writes_23 (kSF f hf) rfl hl (by decide) ?_
  refine V_aload_n dR_writes_24 rfl ?_
  refine V_dup dR_writes_25 rfl ?_
  refine V_getE (x := nI ops.length) dR_writes_26 flR_25 k58 rfl ((gi_ne (by omega)).trans hS.g4) ?_
  refine V_iconst (v := 1) dR_writes_29 (by decide) ?_
  refine V_iadd dR_writes_30 ?_
  refine V_topI (x' := nI (ops.length + 1)) (nI_1 _) ?_
  refine V_putI dR_writes_31 flR_25 (fpR_4 _) (Or.inl rfl) k58 rfl ?_
  have hS := hS.wr hf hx
  refine V_iconst (v := 1) dR_writes_34 (by decide) ?_
  exact V_zret dR_writes_35 rfl rfl rfl ⟨rfl, rfl, hS⟩
theorem c_rnumber {l : Launch} {G : GT} {ch : Nat → Nat} {σ s : Hp} {f n p b : Nat} {ops : List Nat} (hR0 : RF σ) (hf : f < 6) (hT : TX σ n ch) (hS : RS σ s f n p b ops) : MM l G mR_takesNumber 0 0 0 [.ref 58] KA s (fun r k t => (0 < nuL ch p ∧ r = some (.int 1) ∧ KA = k ∧ RS σ t f n (p + nuL ch p) b ops ∧ gi t 58 6 = nI (nuV ch p)) ∨ (nuL ch p = 0 ∧ r = some (.int 0) ∧ KA = k ∧ RS σ t f n p b ops)) := by
  have hR := hS.rf hR0
  have hTs := hS.tx hf hT
  have hle := hS.le
  have h100 := hT.1
  refine MM.of (loc := [(0, .ref 58)]) (by decide +kernel) rfl (Nat.le_of_ble_eq_true rfl) ?_
  rcases tri hT p with ⟨h0, hc0⟩ | ⟨h0, hx0, hc0⟩ | ⟨h0, hx0, hc0, hd0⟩ | ⟨h0, hx0, hc0, hd0⟩
  · skip
    have hnu : nuL ch p = 0 := by simp [nuL, dgt]; omega
    refine V_aload_n dR_takesNumber_0 rfl ?_
    refine V_getE (x := nI p) dR_takesNumber_1 flR_22 k58 rfl hS.g3 ?_
    refine V_istore_n (loc' := [(1, .int (nI p)), (0, .ref 58)]) dR_takesNumber_4 (by decide) rfl ?_
    refine V_aload_n dR_takesNumber_5 rfl ?_
    refine V_iconst (v := 0) dR_takesNumber_6 (by decide) ?_
    refine V_putI dR_takesNumber_7 flR_61 (fpR_6 _) (Or.inl rfl) k58 rfl ?_
    have hS := hS.nu hf (x := 0)
    have hR := hS.rf hR0
    have hTs := hS.tx hf hT
    refine V_iconst (v := 0) dR_takesNumber_10 (by decide) ?_
    refine V_istore_n (loc' := [(2, .int 0), (1, .int (nI p)), (0, .ref 58)]) dR_takesNumber_11 (by decide) rfl ?_
    refine V_iload_n dR_takesNumber_12 rfl ?_
    refine V_iconst (v := 2) dR_takesNumber_13 (by decide) ?_
    refine V_icmp_ge (tgt := 95) dR_takesNumber_14 rfl (fun h => absurd h (by decide)) (fun _ => ?_)
    refine V_aload_n dR_takesNumber_17 rfl ?_
    refine V_getE (x := nI p) dR_takesNumber_18 flR_22 k58 rfl hS.g3 ?_
    refine V_aload_n dR_takesNumber_21 rfl ?_
    refine V_getE (x := nI n) dR_takesNumber_22 flR_18 k58 rfl hS.g1 ?_
    refine V_icmp_ge (tgt := 95) dR_takesNumber_25 rfl (fun _ => ?_) (fun h => absurd h (not_not_intro (nI_le (a := n) (b := p) (by omega) (by omega))))
    refine V_aload_n dR_takesNumber_95 rfl ?_
    refine V_getE (x := nI p) dR_takesNumber_96 flR_22 k58 rfl hS.g3 ?_
    refine V_iload_n dR_takesNumber_99 rfl ?_
    refine V_icmp_le (tgt := 107) dR_takesNumber_100 rfl (fun _ => ?_) (fun h => absurd h (not_not_intro (nI_le (Nat.le_refl _) (by omega))))
    refine V_iconst (v := 0) dR_takesNumber_107 (by decide) ?_
    exact V_zret dR_takesNumber_108 rfl rfl rfl (Or.inr ⟨hnu, rfl, rfl, hS⟩)
  · skip
    have hnu : nuL ch p = 0 := by simp [nuL, dgt]; omega
    refine V_aload_n dR_takesNumber_0 rfl ?_
    refine V_getE (x := nI p) dR_takesNumber_1 flR_22 k58 rfl hS.g3 ?_
    refine V_istore_n (loc' := [(1, .int (nI p)), (0, .ref 58)]) dR_takesNumber_4 (by decide) rfl ?_
    refine V_aload_n dR_takesNumber_5 rfl ?_
    refine V_iconst (v := 0) dR_takesNumber_6 (by decide) ?_
    refine V_putI dR_takesNumber_7 flR_61 (fpR_6 _) (Or.inl rfl) k58 rfl ?_
    have hS := hS.nu hf (x := 0)
    have hR := hS.rf hR0
    have hTs := hS.tx hf hT
    refine V_iconst (v := 0) dR_takesNumber_10 (by decide) ?_
    refine V_istore_n (loc' := [(2, .int 0), (1, .int (nI p)), (0, .ref 58)]) dR_takesNumber_11 (by decide) rfl ?_
    refine V_iload_n dR_takesNumber_12 rfl ?_
    refine V_iconst (v := 2) dR_takesNumber_13 (by decide) ?_
    refine V_icmp_ge (tgt := 95) dR_takesNumber_14 rfl (fun h => absurd h (by decide)) (fun _ => ?_)
    refine V_aload_n dR_takesNumber_17 rfl ?_
    refine V_getE (x := nI p) dR_takesNumber_18 flR_22 k58 rfl hS.g3 ?_
    refine V_aload_n dR_takesNumber_21 rfl ?_
    refine V_getE (x := nI n) dR_takesNumber_22 flR_18 k58 rfl hS.g1 ?_
    refine V_icmp_ge (tgt := 95) dR_takesNumber_25 rfl (fun h => absurd h (nI_ge (a := p) (b := n) (by omega) (by omega))) (fun _ => ?_)
    refine V_aload_n dR_takesNumber_28 rfl ?_
    refine V_getE (x := nI p) dR_takesNumber_29 flR_22 k58 rfl hS.g3 ?_
    refine V_aload_n dR_takesNumber_32 rfl ?_
    refine V_getR (a := 48) dR_takesNumber_33 flR_15 k58 rfl (r58_0 hR) ?_
    refine V_alen (t0 := 0) (v := 100) dR_takesNumber_36 k48 (by decide) rfl (by decide) ?_
    refine V_icmp_ge (tgt := 95) dR_takesNumber_37 rfl (fun h => absurd h (nI_ge (a := p) (b := 100) (by omega) (by decide))) (fun _ => ?_)
    refine V_aload_n dR_takesNumber_40 rfl ?_
    refine V_getR (a := 48) dR_takesNumber_41 flR_15 k58 rfl (r58_0 hR) ?_
    refine V_aload_n dR_takesNumber_44 rfl ?_
    refine V_getE (x := nI p) dR_takesNumber_45 flR_22 k58 rfl hS.g3 ?_
    refine V_ialdN (j := p) dR_takesNumber_48 k48 rfl (by omega) (by decide) ?_
    refine V_topI (x' := nI (ch p)) ((hTs.2.1 _ (by omega)).1) ?_
    refine V_bipush (v := 48) dR_takesNumber_49 (by decide) ?_
    refine V_isub dR_takesNumber_51 ?_
    refine V_istore_n (loc' := [(3, .int ((nI (ch p)) - 48)), (2, .int 0), (1, .int (nI p)), (0, .ref 58)]) dR_takesNumber_52 (by decide) rfl ?_
    refine V_iload_n dR_takesNumber_53 rfl ?_
    refine V_if_lt (tgt := 95) dR_takesNumber_54 rfl (fun _ => ?_) (fun h => absurd h (not_not_intro (dg_n (by omega))))
    refine V_aload_n dR_takesNumber_95 rfl ?_
    refine V_getE (x := nI p) dR_takesNumber_96 flR_22 k58 rfl hS.g3 ?_
    refine V_iload_n dR_takesNumber_99 rfl ?_
    refine V_icmp_le (tgt := 107) dR_takesNumber_100 rfl (fun _ => ?_) (fun h => absurd h (not_not_intro (nI_le (Nat.le_refl _) (by omega))))
    refine V_iconst (v := 0) dR_takesNumber_107 (by decide) ?_
    exact V_zret dR_takesNumber_108 rfl rfl rfl (Or.inr ⟨hnu, rfl, rfl, hS⟩)
  · skip
    have hnu : nuL ch p = 0 := by simp [nuL, dgt]; omega
    refine V_aload_n dR_takesNumber_0 rfl ?_
    refine V_getE (x := nI p) dR_takesNumber_1 flR_22 k58 rfl hS.g3 ?_
    refine V_istore_n (loc' := [(1, .int (nI p)), (0, .ref 58)]) dR_takesNumber_4 (by decide) rfl ?_
    refine V_aload_n dR_takesNumber_5 rfl ?_
    refine V_iconst (v := 0) dR_takesNumber_6 (by decide) ?_
    refine V_putI dR_takesNumber_7 flR_61 (fpR_6 _) (Or.inl rfl) k58 rfl ?_
    have hS := hS.nu hf (x := 0)
    have hR := hS.rf hR0
    have hTs := hS.tx hf hT
    refine V_iconst (v := 0) dR_takesNumber_10 (by decide) ?_
    refine V_istore_n (loc' := [(2, .int 0), (1, .int (nI p)), (0, .ref 58)]) dR_takesNumber_11 (by decide) rfl ?_
    refine V_iload_n dR_takesNumber_12 rfl ?_
    refine V_iconst (v := 2) dR_takesNumber_13 (by decide) ?_
    refine V_icmp_ge (tgt := 95) dR_takesNumber_14 rfl (fun h => absurd h (by decide)) (fun _ => ?_)
    refine V_aload_n dR_takesNumber_17 rfl ?_
    refine V_getE (x := nI p) dR_takesNumber_18 flR_22 k58 rfl hS.g3 ?_
    refine V_aload_n dR_takesNumber_21 rfl ?_
    refine V_getE (x := nI n) dR_takesNumber_22 flR_18 k58 rfl hS.g1 ?_
    refine V_icmp_ge (tgt := 95) dR_takesNumber_25 rfl (fun h => absurd h (nI_ge (a := p) (b := n) (by omega) (by omega))) (fun _ => ?_)
    refine V_aload_n dR_takesNumber_28 rfl ?_
    refine V_getE (x := nI p) dR_takesNumber_29 flR_22 k58 rfl hS.g3 ?_
    refine V_aload_n dR_takesNumber_32 rfl ?_
    refine V_getR (a := 48) dR_takesNumber_33 flR_15 k58 rfl (r58_0 hR) ?_
    refine V_alen (t0 := 0) (v := 100) dR_takesNumber_36 k48 (by decide) rfl (by decide) ?_
    refine V_icmp_ge (tgt := 95) dR_takesNumber_37 rfl (fun h => absurd h (nI_ge (a := p) (b := 100) (by omega) (by decide))) (fun _ => ?_)
    refine V_aload_n dR_takesNumber_40 rfl ?_
    refine V_getR (a := 48) dR_takesNumber_41 flR_15 k58 rfl (r58_0 hR) ?_
    refine V_aload_n dR_takesNumber_44 rfl ?_
    refine V_getE (x := nI p) dR_takesNumber_45 flR_22 k58 rfl hS.g3 ?_
    refine V_ialdN (j := p) dR_takesNumber_48 k48 rfl (by omega) (by decide) ?_
    refine V_topI (x' := nI (ch p)) ((hTs.2.1 _ (by omega)).1) ?_
    refine V_bipush (v := 48) dR_takesNumber_49 (by decide) ?_
    refine V_isub dR_takesNumber_51 ?_
    refine V_istore_n (loc' := [(3, .int ((nI (ch p)) - 48)), (2, .int 0), (1, .int (nI p)), (0, .ref 58)]) dR_takesNumber_52 (by decide) rfl ?_
    refine V_iload_n dR_takesNumber_53 rfl ?_
    refine V_if_lt (tgt := 95) dR_takesNumber_54 rfl (fun h => absurd h (dg_p (by omega) (by omega))) (fun _ => ?_)
    refine V_iload_n dR_takesNumber_57 rfl ?_
    refine V_bipush (v := 9) dR_takesNumber_58 (by decide) ?_
    refine V_icmp_le (tgt := 66) dR_takesNumber_60 rfl (fun h => absurd h (dg_10 (by omega) (by omega))) (fun _ => ?_)
    refine V_goto (tgt := 95) dR_takesNumber_63 rfl ?_
    refine V_aload_n dR_takesNumber_95 rfl ?_
    refine V_getE (x := nI p) dR_takesNumber_96 flR_22 k58 rfl hS.g3 ?_
    refine V_iload_n dR_takesNumber_99 rfl ?_
    refine V_icmp_le (tgt := 107) dR_takesNumber_100 rfl (fun _ => ?_) (fun h => absurd h (not_not_intro (nI_le (Nat.le_refl _) (by omega))))
    refine V_iconst (v := 0) dR_takesNumber_107 (by decide) ?_
    exact V_zret dR_takesNumber_108 rfl rfl rfl (Or.inr ⟨hnu, rfl, rfl, hS⟩)
  · rcases tri hT (p + 1) with ⟨h1, hc1⟩ | ⟨h1, hx1, hc1⟩ | ⟨h1, hx1, hc1, hd1⟩ | ⟨h1, hx1, hc1, hd1⟩
    · skip
      have g0 : dgt ch p = true := dgT (by omega)
      have g1 : dgt ch (p + 1) = false := dgF (by omega)
      have hnu : nuL ch p = 1 := by simp [nuL, g0, g1]
      have hnv : nuV ch p = ch p - 48 := by simp [nuV, g0, g1]
      refine V_aload_n dR_takesNumber_0 rfl ?_
      refine V_getE (x := nI p) dR_takesNumber_1 flR_22 k58 rfl hS.g3 ?_
      refine V_istore_n (loc' := [(1, .int (nI p)), (0, .ref 58)]) dR_takesNumber_4 (by decide) rfl ?_
      refine V_aload_n dR_takesNumber_5 rfl ?_
      refine V_iconst (v := 0) dR_takesNumber_6 (by decide) ?_
      refine V_putI dR_takesNumber_7 flR_61 (fpR_6 _) (Or.inl rfl) k58 rfl ?_
      have hS := hS.nu hf (x := 0)
      have hR := hS.rf hR0
      have hTs := hS.tx hf hT
      refine V_iconst (v := 0) dR_takesNumber_10 (by decide) ?_
      refine V_istore_n (loc' := [(2, .int 0), (1, .int (nI p)), (0, .ref 58)]) dR_takesNumber_11 (by decide) rfl ?_
      refine V_iload_n dR_takesNumber_12 rfl ?_
      refine V_iconst (v := 2) dR_takesNumber_13 (by decide) ?_
      refine V_icmp_ge (tgt := 95) dR_takesNumber_14 rfl (fun h => absurd h (by decide)) (fun _ => ?_)
      refine V_aload_n dR_takesNumber_17 rfl ?_
      refine V_getE (x := nI p) dR_takesNumber_18 flR_22 k58 rfl hS.g3 ?_
      refine V_aload_n dR_takesNumber_21 rfl ?_
      refine V_getE (x := nI n) dR_takesNumber_22 flR_18 k58 rfl hS.g1 ?_
      refine V_icmp_ge (tgt := 95) dR_takesNumber_25 rfl (fun h => absurd h (nI_ge (a := p) (b := n) (by omega) (by omega))) (fun _ => ?_)
      refine V_aload_n dR_takesNumber_28 rfl ?_
      refine V_getE (x := nI p) dR_takesNumber_29 flR_22 k58 rfl hS.g3 ?_
      refine V_aload_n dR_takesNumber_32 rfl ?_
      refine V_getR (a := 48) dR_takesNumber_33 flR_15 k58 rfl (r58_0 hR) ?_
      refine V_alen (t0 := 0) (v := 100) dR_takesNumber_36 k48 (by decide) rfl (by decide) ?_
      refine V_icmp_ge (tgt := 95) dR_takesNumber_37 rfl (fun h => absurd h (nI_ge (a := p) (b := 100) (by omega) (by decide))) (fun _ => ?_)
      refine V_aload_n dR_takesNumber_40 rfl ?_
      refine V_getR (a := 48) dR_takesNumber_41 flR_15 k58 rfl (r58_0 hR) ?_
      refine V_aload_n dR_takesNumber_44 rfl ?_
      refine V_getE (x := nI p) dR_takesNumber_45 flR_22 k58 rfl hS.g3 ?_
      refine V_ialdN (j := p) dR_takesNumber_48 k48 rfl (by omega) (by decide) ?_
      refine V_topI (x' := nI (ch p)) ((hTs.2.1 _ (by omega)).1) ?_
      refine V_bipush (v := 48) dR_takesNumber_49 (by decide) ?_
      refine V_isub dR_takesNumber_51 ?_
      refine V_istore_n (loc' := [(3, .int ((nI (ch p)) - 48)), (2, .int 0), (1, .int (nI p)), (0, .ref 58)]) dR_takesNumber_52 (by decide) rfl ?_
      refine V_iload_n dR_takesNumber_53 rfl ?_
      refine V_if_lt (tgt := 95) dR_takesNumber_54 rfl (fun h => absurd h (dg_p (by omega) (by omega))) (fun _ => ?_)
      refine V_iload_n dR_takesNumber_57 rfl ?_
      refine V_bipush (v := 9) dR_takesNumber_58 (by decide) ?_
      refine V_icmp_le (tgt := 66) dR_takesNumber_60 rfl (fun _ => ?_) (fun h => absurd h (not_not_intro (dg_9 (by omega) (by omega))))
      refine V_aload_n dR_takesNumber_66 rfl ?_
      refine V_aload_n dR_takesNumber_67 rfl ?_
      refine V_getE (x := 0) dR_takesNumber_68 flR_61 k58 rfl (by simp only [gi, si]; simp) ?_
      refine V_bipush (v := 10) dR_takesNumber_71 (by decide) ?_
      refine V_imul dR_takesNumber_73 ?_
      refine V_topI (x' := 0) (by decide) ?_
      refine V_iload_n dR_takesNumber_74 rfl ?_
      refine V_iadd dR_takesNumber_75 ?_
      refine V_topI (x' := nI (ch p - 48)) (dg_0 _ (by omega)) ?_
      refine V_putI dR_takesNumber_76 flR_61 (fpR_6 _) (Or.inl rfl) k58 rfl ?_
      have hS := hS.nu hf (x := nI (ch p - 48))
      have hR := hS.rf hR0
      have hTs := hS.tx hf hT
      refine V_aload_n dR_takesNumber_79 rfl ?_
      refine V_dup dR_takesNumber_80 rfl ?_
      refine V_getE (x := nI p) dR_takesNumber_81 flR_22 k58 rfl hS.g3 ?_
      refine V_iconst (v := 1) dR_takesNumber_84 (by decide) ?_
      refine V_iadd dR_takesNumber_85 ?_
      refine V_topI (x' := nI (p + 1)) (nI_1 _) ?_
      refine V_putI dR_takesNumber_86 flR_22 (fpR_3 _) (Or.inl rfl) k58 rfl ?_
      have hS := hS.at hf (q := p + 1) (by omega)
      have hR := hS.rf hR0
      have hTs := hS.tx hf hT
      refine V_iinc (v := 1) (loc' := [(2, .int 1), (3, .int ((nI (ch p)) - 48)), (1, .int (nI p)), (0, .ref 58)]) dR_takesNumber_89 rfl (by decide) (by decide) rfl ?_
      refine V_goto (tgt := 12) dR_takesNumber_92 rfl ?_
      refine V_iload_n dR_takesNumber_12 rfl ?_
      refine V_iconst (v := 2) dR_takesNumber_13 (by decide) ?_
      refine V_icmp_ge (tgt := 95) dR_takesNumber_14 rfl (fun h => absurd h (by decide)) (fun _ => ?_)
      refine V_aload_n dR_takesNumber_17 rfl ?_
      refine V_getE (x := nI (p + 1)) dR_takesNumber_18 flR_22 k58 rfl hS.g3 ?_
      refine V_aload_n dR_takesNumber_21 rfl ?_
      refine V_getE (x := nI n) dR_takesNumber_22 flR_18 k58 rfl hS.g1 ?_
      refine V_icmp_ge (tgt := 95) dR_takesNumber_25 rfl (fun _ => ?_) (fun h => absurd h (not_not_intro (nI_le (a := n) (b := p + 1) (by omega) (by omega))))
      refine V_aload_n dR_takesNumber_95 rfl ?_
      refine V_getE (x := nI (p + 1)) dR_takesNumber_96 flR_22 k58 rfl hS.g3 ?_
      refine V_iload_n dR_takesNumber_99 rfl ?_
      refine V_icmp_le (tgt := 107) dR_takesNumber_100 rfl (fun h => absurd h (nI_ge (a := p) (b := p + 1) (by omega) (by omega))) (fun _ => ?_)
      refine V_iconst (v := 1) dR_takesNumber_103 (by decide) ?_
      refine V_goto (tgt := 108) dR_takesNumber_104 rfl ?_
      refine V_zret dR_takesNumber_108 rfl rfl rfl ?_
      refine Or.inl ⟨by omega, rfl, rfl, ?_, by rw [hnv]; simp only [gi, si]; simp⟩
      rw [hnu]
      exact hS
    · skip
      have g0 : dgt ch p = true := dgT (by omega)
      have g1 : dgt ch (p + 1) = false := dgF (by omega)
      have hnu : nuL ch p = 1 := by simp [nuL, g0, g1]
      have hnv : nuV ch p = ch p - 48 := by simp [nuV, g0, g1]
      refine V_aload_n dR_takesNumber_0 rfl ?_
      refine V_getE (x := nI p) dR_takesNumber_1 flR_22 k58 rfl hS.g3 ?_
      refine V_istore_n (loc' := [(1, .int (nI p)), (0, .ref 58)]) dR_takesNumber_4 (by decide) rfl ?_
      refine V_aload_n dR_takesNumber_5 rfl ?_
      refine V_iconst (v := 0) dR_takesNumber_6 (by decide) ?_
      refine V_putI dR_takesNumber_7 flR_61 (fpR_6 _) (Or.inl rfl) k58 rfl ?_
      have hS := hS.nu hf (x := 0)
      have hR := hS.rf hR0
      have hTs := hS.tx hf hT
      refine V_iconst (v := 0) dR_takesNumber_10 (by decide) ?_
      refine V_istore_n (loc' := [(2, .int 0), (1, .int (nI p)), (0, .ref 58)]) dR_takesNumber_11 (by decide) rfl ?_
      refine V_iload_n dR_takesNumber_12 rfl ?_
      refine V_iconst (v := 2) dR_takesNumber_13 (by decide) ?_
      refine V_icmp_ge (tgt := 95) dR_takesNumber_14 rfl (fun h => absurd h (by decide)) (fun _ => ?_)
      refine V_aload_n dR_takesNumber_17 rfl ?_
      refine V_getE (x := nI p) dR_takesNumber_18 flR_22 k58 rfl hS.g3 ?_
      refine V_aload_n dR_takesNumber_21 rfl ?_
      refine V_getE (x := nI n) dR_takesNumber_22 flR_18 k58 rfl hS.g1 ?_
      refine V_icmp_ge (tgt := 95) dR_takesNumber_25 rfl (fun h => absurd h (nI_ge (a := p) (b := n) (by omega) (by omega))) (fun _ => ?_)
      refine V_aload_n dR_takesNumber_28 rfl ?_
      refine V_getE (x := nI p) dR_takesNumber_29 flR_22 k58 rfl hS.g3 ?_
      refine V_aload_n dR_takesNumber_32 rfl ?_
      refine V_getR (a := 48) dR_takesNumber_33 flR_15 k58 rfl (r58_0 hR) ?_
      refine V_alen (t0 := 0) (v := 100) dR_takesNumber_36 k48 (by decide) rfl (by decide) ?_
      refine V_icmp_ge (tgt := 95) dR_takesNumber_37 rfl (fun h => absurd h (nI_ge (a := p) (b := 100) (by omega) (by decide))) (fun _ => ?_)
      refine V_aload_n dR_takesNumber_40 rfl ?_
      refine V_getR (a := 48) dR_takesNumber_41 flR_15 k58 rfl (r58_0 hR) ?_
      refine V_aload_n dR_takesNumber_44 rfl ?_
      refine V_getE (x := nI p) dR_takesNumber_45 flR_22 k58 rfl hS.g3 ?_
      refine V_ialdN (j := p) dR_takesNumber_48 k48 rfl (by omega) (by decide) ?_
      refine V_topI (x' := nI (ch p)) ((hTs.2.1 _ (by omega)).1) ?_
      refine V_bipush (v := 48) dR_takesNumber_49 (by decide) ?_
      refine V_isub dR_takesNumber_51 ?_
      refine V_istore_n (loc' := [(3, .int ((nI (ch p)) - 48)), (2, .int 0), (1, .int (nI p)), (0, .ref 58)]) dR_takesNumber_52 (by decide) rfl ?_
      refine V_iload_n dR_takesNumber_53 rfl ?_
      refine V_if_lt (tgt := 95) dR_takesNumber_54 rfl (fun h => absurd h (dg_p (by omega) (by omega))) (fun _ => ?_)
      refine V_iload_n dR_takesNumber_57 rfl ?_
      refine V_bipush (v := 9) dR_takesNumber_58 (by decide) ?_
      refine V_icmp_le (tgt := 66) dR_takesNumber_60 rfl (fun _ => ?_) (fun h => absurd h (not_not_intro (dg_9 (by omega) (by omega))))
      refine V_aload_n dR_takesNumber_66 rfl ?_
      refine V_aload_n dR_takesNumber_67 rfl ?_
      refine V_getE (x := 0) dR_takesNumber_68 flR_61 k58 rfl (by simp only [gi, si]; simp) ?_
      refine V_bipush (v := 10) dR_takesNumber_71 (by decide) ?_
      refine V_imul dR_takesNumber_73 ?_
      refine V_topI (x' := 0) (by decide) ?_
      refine V_iload_n dR_takesNumber_74 rfl ?_
      refine V_iadd dR_takesNumber_75 ?_
      refine V_topI (x' := nI (ch p - 48)) (dg_0 _ (by omega)) ?_
      refine V_putI dR_takesNumber_76 flR_61 (fpR_6 _) (Or.inl rfl) k58 rfl ?_
      have hS := hS.nu hf (x := nI (ch p - 48))
      have hR := hS.rf hR0
      have hTs := hS.tx hf hT
      refine V_aload_n dR_takesNumber_79 rfl ?_
      refine V_dup dR_takesNumber_80 rfl ?_
      refine V_getE (x := nI p) dR_takesNumber_81 flR_22 k58 rfl hS.g3 ?_
      refine V_iconst (v := 1) dR_takesNumber_84 (by decide) ?_
      refine V_iadd dR_takesNumber_85 ?_
      refine V_topI (x' := nI (p + 1)) (nI_1 _) ?_
      refine V_putI dR_takesNumber_86 flR_22 (fpR_3 _) (Or.inl rfl) k58 rfl ?_
      have hS := hS.at hf (q := p + 1) (by omega)
      have hR := hS.rf hR0
      have hTs := hS.tx hf hT
      refine V_iinc (v := 1) (loc' := [(2, .int 1), (3, .int ((nI (ch p)) - 48)), (1, .int (nI p)), (0, .ref 58)]) dR_takesNumber_89 rfl (by decide) (by decide) rfl ?_
      refine V_goto (tgt := 12) dR_takesNumber_92 rfl ?_
      refine V_iload_n dR_takesNumber_12 rfl ?_
      refine V_iconst (v := 2) dR_takesNumber_13 (by decide) ?_
      refine V_icmp_ge (tgt := 95) dR_takesNumber_14 rfl (fun h => absurd h (by decide)) (fun _ => ?_)
      refine V_aload_n dR_takesNumber_17 rfl ?_
      refine V_getE (x := nI (p + 1)) dR_takesNumber_18 flR_22 k58 rfl hS.g3 ?_
      refine V_aload_n dR_takesNumber_21 rfl ?_
      refine V_getE (x := nI n) dR_takesNumber_22 flR_18 k58 rfl hS.g1 ?_
      refine V_icmp_ge (tgt := 95) dR_takesNumber_25 rfl (fun h => absurd h (nI_ge (a := p + 1) (b := n) (by omega) (by omega))) (fun _ => ?_)
      refine V_aload_n dR_takesNumber_28 rfl ?_
      refine V_getE (x := nI (p + 1)) dR_takesNumber_29 flR_22 k58 rfl hS.g3 ?_
      refine V_aload_n dR_takesNumber_32 rfl ?_
      refine V_getR (a := 48) dR_takesNumber_33 flR_15 k58 rfl (r58_0 hR) ?_
      refine V_alen (t0 := 0) (v := 100) dR_takesNumber_36 k48 (by decide) rfl (by decide) ?_
      refine V_icmp_ge (tgt := 95) dR_takesNumber_37 rfl (fun h => absurd h (nI_ge (a := p + 1) (b := 100) (by omega) (by decide))) (fun _ => ?_)
      refine V_aload_n dR_takesNumber_40 rfl ?_
      refine V_getR (a := 48) dR_takesNumber_41 flR_15 k58 rfl (r58_0 hR) ?_
      refine V_aload_n dR_takesNumber_44 rfl ?_
      refine V_getE (x := nI (p + 1)) dR_takesNumber_45 flR_22 k58 rfl hS.g3 ?_
      refine V_ialdN (j := p + 1) dR_takesNumber_48 k48 rfl (by omega) (by decide) ?_
      refine V_topI (x' := nI (ch (p + 1))) ((hTs.2.1 _ (by omega)).1) ?_
      refine V_bipush (v := 48) dR_takesNumber_49 (by decide) ?_
      refine V_isub dR_takesNumber_51 ?_
      refine V_istore_n (loc' := [(3, .int ((nI (ch (p + 1))) - 48)), (2, .int 1), (1, .int (nI p)), (0, .ref 58)]) dR_takesNumber_52 (by decide) rfl ?_
      refine V_iload_n dR_takesNumber_53 rfl ?_
      refine V_if_lt (tgt := 95) dR_takesNumber_54 rfl (fun _ => ?_) (fun h => absurd h (not_not_intro (dg_n (by omega))))
      refine V_aload_n dR_takesNumber_95 rfl ?_
      refine V_getE (x := nI (p + 1)) dR_takesNumber_96 flR_22 k58 rfl hS.g3 ?_
      refine V_iload_n dR_takesNumber_99 rfl ?_
      refine V_icmp_le (tgt := 107) dR_takesNumber_100 rfl (fun h => absurd h (nI_ge (a := p) (b := p + 1) (by omega) (by omega))) (fun _ => ?_)
      refine V_iconst (v := 1) dR_takesNumber_103 (by decide) ?_
      refine V_goto (tgt := 108) dR_takesNumber_104 rfl ?_
      refine V_zret dR_takesNumber_108 rfl rfl rfl ?_
      refine Or.inl ⟨by omega, rfl, rfl, ?_, by rw [hnv]; simp only [gi, si]; simp⟩
      rw [hnu]
      exact hS
    · skip
      have g0 : dgt ch p = true := dgT (by omega)
      have g1 : dgt ch (p + 1) = false := dgF (by omega)
      have hnu : nuL ch p = 1 := by simp [nuL, g0, g1]
      have hnv : nuV ch p = ch p - 48 := by simp [nuV, g0, g1]
      refine V_aload_n dR_takesNumber_0 rfl ?_
      refine V_getE (x := nI p) dR_takesNumber_1 flR_22 k58 rfl hS.g3 ?_
      refine V_istore_n (loc' := [(1, .int (nI p)), (0, .ref 58)]) dR_takesNumber_4 (by decide) rfl ?_
      refine V_aload_n dR_takesNumber_5 rfl ?_
      refine V_iconst (v := 0) dR_takesNumber_6 (by decide) ?_
      refine V_putI dR_takesNumber_7 flR_61 (fpR_6 _) (Or.inl rfl) k58 rfl ?_
      have hS := hS.nu hf (x := 0)
      have hR := hS.rf hR0
      have hTs := hS.tx hf hT
      refine V_iconst (v := 0) dR_takesNumber_10 (by decide) ?_
      refine V_istore_n (loc' := [(2, .int 0), (1, .int (nI p)), (0, .ref 58)]) dR_takesNumber_11 (by decide) rfl ?_
      refine V_iload_n dR_takesNumber_12 rfl ?_
      refine V_iconst (v := 2) dR_takesNumber_13 (by decide) ?_
      refine V_icmp_ge (tgt := 95) dR_takesNumber_14 rfl (fun h => absurd h (by decide)) (fun _ => ?_)
      refine V_aload_n dR_takesNumber_17 rfl ?_
      refine V_getE (x := nI p) dR_takesNumber_18 flR_22 k58 rfl hS.g3 ?_
      refine V_aload_n dR_takesNumber_21 rfl ?_
      refine V_getE (x := nI n) dR_takesNumber_22 flR_18 k58 rfl hS.g1 ?_
      refine V_icmp_ge (tgt := 95) dR_takesNumber_25 rfl (fun h => absurd h (nI_ge (a := p) (b := n) (by omega) (by omega))) (fun _ => ?_)
      refine V_aload_n dR_takesNumber_28 rfl ?_
      refine V_getE (x := nI p) dR_takesNumber_29 flR_22 k58 rfl hS.g3 ?_
      refine V_aload_n dR_takesNumber_32 rfl ?_
      refine V_getR (a := 48) dR_takesNumber_33 flR_15 k58 rfl (r58_0 hR) ?_
      refine V_alen (t0 := 0) (v := 100) dR_takesNumber_36 k48 (by decide) rfl (by decide) ?_
      refine V_icmp_ge (tgt := 95) dR_takesNumber_37 rfl (fun h => absurd h (nI_ge (a := p) (b := 100) (by omega) (by decide))) (fun _ => ?_)
      refine V_aload_n dR_takesNumber_40 rfl ?_
      refine V_getR (a := 48) dR_takesNumber_41 flR_15 k58 rfl (r58_0 hR) ?_
      refine V_aload_n dR_takesNumber_44 rfl ?_
      refine V_getE (x := nI p) dR_takesNumber_45 flR_22 k58 rfl hS.g3 ?_
      refine V_ialdN (j := p) dR_takesNumber_48 k48 rfl (by omega) (by decide) ?_
      refine V_topI (x' := nI (ch p)) ((hTs.2.1 _ (by omega)).1) ?_
      refine V_bipush (v := 48) dR_takesNumber_49 (by decide) ?_
      refine V_isub dR_takesNumber_51 ?_
      refine V_istore_n (loc' := [(3, .int ((nI (ch p)) - 48)), (2, .int 0), (1, .int (nI p)), (0, .ref 58)]) dR_takesNumber_52 (by decide) rfl ?_
      refine V_iload_n dR_takesNumber_53 rfl ?_
      refine V_if_lt (tgt := 95) dR_takesNumber_54 rfl (fun h => absurd h (dg_p (by omega) (by omega))) (fun _ => ?_)
      refine V_iload_n dR_takesNumber_57 rfl ?_
      refine V_bipush (v := 9) dR_takesNumber_58 (by decide) ?_
      refine V_icmp_le (tgt := 66) dR_takesNumber_60 rfl (fun _ => ?_) (fun h => absurd h (not_not_intro (dg_9 (by omega) (by omega))))
      refine V_aload_n dR_takesNumber_66 rfl ?_
      refine V_aload_n dR_takesNumber_67 rfl ?_
      refine V_getE (x := 0) dR_takesNumber_68 flR_61 k58 rfl (by simp only [gi, si]; simp) ?_
      refine V_bipush (v := 10) dR_takesNumber_71 (by decide) ?_
      refine V_imul dR_takesNumber_73 ?_
      refine V_topI (x' := 0) (by decide) ?_
      refine V_iload_n dR_takesNumber_74 rfl ?_
      refine V_iadd dR_takesNumber_75 ?_
      refine V_topI (x' := nI (ch p - 48)) (dg_0 _ (by omega)) ?_
      refine V_putI dR_takesNumber_76 flR_61 (fpR_6 _) (Or.inl rfl) k58 rfl ?_
      have hS := hS.nu hf (x := nI (ch p - 48))
      have hR := hS.rf hR0
      have hTs := hS.tx hf hT
      refine V_aload_n dR_takesNumber_79 rfl ?_
      refine V_dup dR_takesNumber_80 rfl ?_
      refine V_getE (x := nI p) dR_takesNumber_81 flR_22 k58 rfl hS.g3 ?_
      refine V_iconst (v := 1) dR_takesNumber_84 (by decide) ?_
      refine V_iadd dR_takesNumber_85 ?_
      refine V_topI (x' := nI (p + 1)) (nI_1 _) ?_
      refine V_putI dR_takesNumber_86 flR_22 (fpR_3 _) (Or.inl rfl) k58 rfl ?_
      have hS := hS.at hf (q := p + 1) (by omega)
      have hR := hS.rf hR0
      have hTs := hS.tx hf hT
      refine V_iinc (v := 1) (loc' := [(2, .int 1), (3, .int ((nI (ch p)) - 48)), (1, .int (nI p)), (0, .ref 58)]) dR_takesNumber_89 rfl (by decide) (by decide) rfl ?_
      refine V_goto (tgt := 12) dR_takesNumber_92 rfl ?_
      refine V_iload_n dR_takesNumber_12 rfl ?_
      refine V_iconst (v := 2) dR_takesNumber_13 (by decide) ?_
      refine V_icmp_ge (tgt := 95) dR_takesNumber_14 rfl (fun h => absurd h (by decide)) (fun _ => ?_)
      refine V_aload_n dR_takesNumber_17 rfl ?_
      refine V_getE (x := nI (p + 1)) dR_takesNumber_18 flR_22 k58 rfl hS.g3 ?_
      refine V_aload_n dR_takesNumber_21 rfl ?_
      refine V_getE (x := nI n) dR_takesNumber_22 flR_18 k58 rfl hS.g1 ?_
      refine V_icmp_ge (tgt := 95) dR_takesNumber_25 rfl (fun h => absurd h (nI_ge (a := p + 1) (b := n) (by omega) (by omega))) (fun _ => ?_)
      refine V_aload_n dR_takesNumber_28 rfl ?_
      refine V_getE (x := nI (p + 1)) dR_takesNumber_29 flR_22 k58 rfl hS.g3 ?_
      refine V_aload_n dR_takesNumber_32 rfl ?_
      refine V_getR (a := 48) dR_takesNumber_33 flR_15 k58 rfl (r58_0 hR) ?_
      refine V_alen (t0 := 0) (v := 100) dR_takesNumber_36 k48 (by decide) rfl (by decide) ?_
      refine V_icmp_ge (tgt := 95) dR_takesNumber_37 rfl (fun h => absurd h (nI_ge (a := p + 1) (b := 100) (by omega) (by decide))) (fun _ => ?_)
      refine V_aload_n dR_takesNumber_40 rfl ?_
      refine V_getR (a := 48) dR_takesNumber_41 flR_15 k58 rfl (r58_0 hR) ?_
      refine V_aload_n dR_takesNumber_44 rfl ?_
      refine V_getE (x := nI (p + 1)) dR_takesNumber_45 flR_22 k58 rfl hS.g3 ?_
      refine V_ialdN (j := p + 1) dR_takesNumber_48 k48 rfl (by omega) (by decide) ?_
      refine V_topI (x' := nI (ch (p + 1))) ((hTs.2.1 _ (by omega)).1) ?_
      refine V_bipush (v := 48) dR_takesNumber_49 (by decide) ?_
      refine V_isub dR_takesNumber_51 ?_
      refine V_istore_n (loc' := [(3, .int ((nI (ch (p + 1))) - 48)), (2, .int 1), (1, .int (nI p)), (0, .ref 58)]) dR_takesNumber_52 (by decide) rfl ?_
      refine V_iload_n dR_takesNumber_53 rfl ?_
      refine V_if_lt (tgt := 95) dR_takesNumber_54 rfl (fun h => absurd h (dg_p (by omega) (by omega))) (fun _ => ?_)
      refine V_iload_n dR_takesNumber_57 rfl ?_
      refine V_bipush (v := 9) dR_takesNumber_58 (by decide) ?_
      refine V_icmp_le (tgt := 66) dR_takesNumber_60 rfl (fun h => absurd h (dg_10 (by omega) (by omega))) (fun _ => ?_)
      refine V_goto (tgt := 95) dR_takesNumber_63 rfl ?_
      refine V_aload_n dR_takesNumber_95 rfl ?_
      refine V_getE (x := nI (p + 1)) dR_takesNumber_96 flR_22 k58 rfl hS.g3 ?_
      refine V_iload_n dR_takesNumber_99 rfl ?_
      refine V_icmp_le (tgt := 107) dR_takesNumber_100 rfl (fun h => absurd h (nI_ge (a := p) (b := p + 1) (by omega) (by omega))) (fun _ => ?_)
      refine V_iconst (v := 1) dR_takesNumber_103 (by decide) ?_
      refine V_goto (tgt := 108) dR_takesNumber_104 rfl ?_
      refine V_zret dR_takesNumber_108 rfl rfl rfl ?_
      refine Or.inl ⟨by omega, rfl, rfl, ?_, by rw [hnv]; simp only [gi, si]; simp⟩
      rw [hnu]
      exact hS
    · skip
      have g0 : dgt ch p = true := dgT (by omega)
      have g1 : dgt ch (p + 1) = true := dgT (by omega)
      have hnu : nuL ch p = 2 := by simp [nuL, g0, g1]
      have hnv : nuV ch p = 10 * (ch p - 48) + (ch (p + 1) - 48) := by simp [nuV, g0, g1]
      refine V_aload_n dR_takesNumber_0 rfl ?_
      refine V_getE (x := nI p) dR_takesNumber_1 flR_22 k58 rfl hS.g3 ?_
      refine V_istore_n (loc' := [(1, .int (nI p)), (0, .ref 58)]) dR_takesNumber_4 (by decide) rfl ?_
      refine V_aload_n dR_takesNumber_5 rfl ?_
      refine V_iconst (v := 0) dR_takesNumber_6 (by decide) ?_
      refine V_putI dR_takesNumber_7 flR_61 (fpR_6 _) (Or.inl rfl) k58 rfl ?_
      have hS := hS.nu hf (x := 0)
      have hR := hS.rf hR0
      have hTs := hS.tx hf hT
      refine V_iconst (v := 0) dR_takesNumber_10 (by decide) ?_
      refine V_istore_n (loc' := [(2, .int 0), (1, .int (nI p)), (0, .ref 58)]) dR_takesNumber_11 (by decide) rfl ?_
      refine V_iload_n dR_takesNumber_12 rfl ?_
      refine V_iconst (v := 2) dR_takesNumber_13 (by decide) ?_
      refine V_icmp_ge (tgt := 95) dR_takesNumber_14 rfl (fun h => absurd h (by decide)) (fun _ => ?_)
      refine V_aload_n dR_takesNumber_17 rfl ?_
      refine V_getE (x := nI p) dR_takesNumber_18 flR_22 k58 rfl hS.g3 ?_
      refine V_aload_n dR_takesNumber_21 rfl ?_
      refine V_getE (x := nI n) dR_takesNumber_22 flR_18 k58 rfl hS.g1 ?_
      refine V_icmp_ge (tgt := 95) dR_takesNumber_25 rfl (fun h => absurd h (nI_ge (a := p) (b := n) (by omega) (by omega))) (fun _ => ?_)
      refine V_aload_n dR_takesNumber_28 rfl ?_
      refine V_getE (x := nI p) dR_takesNumber_29 flR_22 k58 rfl hS.g3 ?_
      refine V_aload_n dR_takesNumber_32 rfl ?_
      refine V_getR (a := 48) dR_takesNumber_33 flR_15 k58 rfl (r58_0 hR) ?_
      refine V_alen (t0 := 0) (v := 100) dR_takesNumber_36 k48 (by decide) rfl (by decide) ?_
      refine V_icmp_ge (tgt := 95) dR_takesNumber_37 rfl (fun h => absurd h (nI_ge (a := p) (b := 100) (by omega) (by decide))) (fun _ => ?_)
      refine V_aload_n dR_takesNumber_40 rfl ?_
      refine V_getR (a := 48) dR_takesNumber_41 flR_15 k58 rfl (r58_0 hR) ?_
      refine V_aload_n dR_takesNumber_44 rfl ?_
      refine V_getE (x := nI p) dR_takesNumber_45 flR_22 k58 rfl hS.g3 ?_
      refine V_ialdN (j := p) dR_takesNumber_48 k48 rfl (by omega) (by decide) ?_
      refine V_topI (x' := nI (ch p)) ((hTs.2.1 _ (by omega)).1) ?_
      refine V_bipush (v := 48) dR_takesNumber_49 (by decide) ?_
      refine V_isub dR_takesNumber_51 ?_
      refine V_istore_n (loc' := [(3, .int ((nI (ch p)) - 48)), (2, .int 0), (1, .int (nI p)), (0, .ref 58)]) dR_takesNumber_52 (by decide) rfl ?_
      refine V_iload_n dR_takesNumber_53 rfl ?_
      refine V_if_lt (tgt := 95) dR_takesNumber_54 rfl (fun h => absurd h (dg_p (by omega) (by omega))) (fun _ => ?_)
      refine V_iload_n dR_takesNumber_57 rfl ?_
      refine V_bipush (v := 9) dR_takesNumber_58 (by decide) ?_
      refine V_icmp_le (tgt := 66) dR_takesNumber_60 rfl (fun _ => ?_) (fun h => absurd h (not_not_intro (dg_9 (by omega) (by omega))))
      refine V_aload_n dR_takesNumber_66 rfl ?_
      refine V_aload_n dR_takesNumber_67 rfl ?_
      refine V_getE (x := 0) dR_takesNumber_68 flR_61 k58 rfl (by simp only [gi, si]; simp) ?_
      refine V_bipush (v := 10) dR_takesNumber_71 (by decide) ?_
      refine V_imul dR_takesNumber_73 ?_
      refine V_topI (x' := 0) (by decide) ?_
      refine V_iload_n dR_takesNumber_74 rfl ?_
      refine V_iadd dR_takesNumber_75 ?_
      refine V_topI (x' := nI (ch p - 48)) (dg_0 _ (by omega)) ?_
      refine V_putI dR_takesNumber_76 flR_61 (fpR_6 _) (Or.inl rfl) k58 rfl ?_
      have hS := hS.nu hf (x := nI (ch p - 48))
      have hR := hS.rf hR0
      have hTs := hS.tx hf hT
      refine V_aload_n dR_takesNumber_79 rfl ?_
      refine V_dup dR_takesNumber_80 rfl ?_
      refine V_getE (x := nI p) dR_takesNumber_81 flR_22 k58 rfl hS.g3 ?_
      refine V_iconst (v := 1) dR_takesNumber_84 (by decide) ?_
      refine V_iadd dR_takesNumber_85 ?_
      refine V_topI (x' := nI (p + 1)) (nI_1 _) ?_
      refine V_putI dR_takesNumber_86 flR_22 (fpR_3 _) (Or.inl rfl) k58 rfl ?_
      have hS := hS.at hf (q := p + 1) (by omega)
      have hR := hS.rf hR0
      have hTs := hS.tx hf hT
      refine V_iinc (v := 1) (loc' := [(2, .int 1), (3, .int ((nI (ch p)) - 48)), (1, .int (nI p)), (0, .ref 58)]) dR_takesNumber_89 rfl (by decide) (by decide) rfl ?_
      refine V_goto (tgt := 12) dR_takesNumber_92 rfl ?_
      refine V_iload_n dR_takesNumber_12 rfl ?_
      refine V_iconst (v := 2) dR_takesNumber_13 (by decide) ?_
      refine V_icmp_ge (tgt := 95) dR_takesNumber_14 rfl (fun h => absurd h (by decide)) (fun _ => ?_)
      refine V_aload_n dR_takesNumber_17 rfl ?_
      refine V_getE (x := nI (p + 1)) dR_takesNumber_18 flR_22 k58 rfl hS.g3 ?_
      refine V_aload_n dR_takesNumber_21 rfl ?_
      refine V_getE (x := nI n) dR_takesNumber_22 flR_18 k58 rfl hS.g1 ?_
      refine V_icmp_ge (tgt := 95) dR_takesNumber_25 rfl (fun h => absurd h (nI_ge (a := p + 1) (b := n) (by omega) (by omega))) (fun _ => ?_)
      refine V_aload_n dR_takesNumber_28 rfl ?_
      refine V_getE (x := nI (p + 1)) dR_takesNumber_29 flR_22 k58 rfl hS.g3 ?_
      refine V_aload_n dR_takesNumber_32 rfl ?_
      refine V_getR (a := 48) dR_takesNumber_33 flR_15 k58 rfl (r58_0 hR) ?_
      refine V_alen (t0 := 0) (v := 100) dR_takesNumber_36 k48 (by decide) rfl (by decide) ?_
      refine V_icmp_ge (tgt := 95) dR_takesNumber_37 rfl (fun h => absurd h (nI_ge (a := p + 1) (b := 100) (by omega) (by decide))) (fun _ => ?_)
      refine V_aload_n dR_takesNumber_40 rfl ?_
      refine V_getR (a := 48) dR_takesNumber_41 flR_15 k58 rfl (r58_0 hR) ?_
      refine V_aload_n dR_takesNumber_44 rfl ?_
      refine V_getE (x := nI (p + 1)) dR_takesNumber_45 flR_22 k58 rfl hS.g3 ?_
      refine V_ialdN (j := p + 1) dR_takesNumber_48 k48 rfl (by omega) (by decide) ?_
      refine V_topI (x' := nI (ch (p + 1))) ((hTs.2.1 _ (by omega)).1) ?_
      refine V_bipush (v := 48) dR_takesNumber_49 (by decide) ?_
      refine V_isub dR_takesNumber_51 ?_
      refine V_istore_n (loc' := [(3, .int ((nI (ch (p + 1))) - 48)), (2, .int 1), (1, .int (nI p)), (0, .ref 58)]) dR_takesNumber_52 (by decide) rfl ?_
      refine V_iload_n dR_takesNumber_53 rfl ?_
      refine V_if_lt (tgt := 95) dR_takesNumber_54 rfl (fun h => absurd h (dg_p (by omega) (by omega))) (fun _ => ?_)
      refine V_iload_n dR_takesNumber_57 rfl ?_
      refine V_bipush (v := 9) dR_takesNumber_58 (by decide) ?_
      refine V_icmp_le (tgt := 66) dR_takesNumber_60 rfl (fun _ => ?_) (fun h => absurd h (not_not_intro (dg_9 (by omega) (by omega))))
      refine V_aload_n dR_takesNumber_66 rfl ?_
      refine V_aload_n dR_takesNumber_67 rfl ?_
      refine V_getE (x := nI (ch p - 48)) dR_takesNumber_68 flR_61 k58 rfl (by simp only [gi, si]; simp) ?_
      refine V_bipush (v := 10) dR_takesNumber_71 (by decide) ?_
      refine V_imul dR_takesNumber_73 ?_
      refine V_iload_n dR_takesNumber_74 rfl ?_
      refine V_iadd dR_takesNumber_75 ?_
      refine V_topI (x' := nI (10 * (ch p - 48) + (ch (p + 1) - 48))) (dg_a _ _ (by omega)) ?_
      refine V_putI dR_takesNumber_76 flR_61 (fpR_6 _) (Or.inl rfl) k58 rfl ?_
      have hS := hS.nu hf (x := nI (10 * (ch p - 48) + (ch (p + 1) - 48)))
      have hR := hS.rf hR0
      have hTs := hS.tx hf hT
      refine V_aload_n dR_takesNumber_79 rfl ?_
      refine V_dup dR_takesNumber_80 rfl ?_
      refine V_getE (x := nI (p + 1)) dR_takesNumber_81 flR_22 k58 rfl hS.g3 ?_
      refine V_iconst (v := 1) dR_takesNumber_84 (by decide) ?_
      refine V_iadd dR_takesNumber_85 ?_
      refine V_topI (x' := nI (p + 1 + 1)) (nI_1 _) ?_
      refine V_putI dR_takesNumber_86 flR_22 (fpR_3 _) (Or.inl rfl) k58 rfl ?_
      have hS := hS.at hf (q := p + 2) (by omega)
      have hR := hS.rf hR0
      have hTs := hS.tx hf hT
      refine V_iinc (v := 2) (loc' := [(2, .int 2), (3, .int ((nI (ch (p + 1))) - 48)), (1, .int (nI p)), (0, .ref 58)]) dR_takesNumber_89 rfl (by decide) (by decide) rfl ?_
      refine V_goto (tgt := 12) dR_takesNumber_92 rfl ?_
      refine V_iload_n dR_takesNumber_12 rfl ?_
      refine V_iconst (v := 2) dR_takesNumber_13 (by decide) ?_
      refine V_icmp_ge (tgt := 95) dR_takesNumber_14 rfl (fun _ => ?_) (fun h => absurd h (by decide))
      refine V_aload_n dR_takesNumber_95 rfl ?_
      refine V_getE (x := nI (p + 2)) dR_takesNumber_96 flR_22 k58 rfl hS.g3 ?_
      refine V_iload_n dR_takesNumber_99 rfl ?_
      refine V_icmp_le (tgt := 107) dR_takesNumber_100 rfl (fun h => absurd h (nI_ge (a := p) (b := p + 2) (by omega) (by omega))) (fun _ => ?_)
      refine V_iconst (v := 1) dR_takesNumber_103 (by decide) ?_
      refine V_goto (tgt := 108) dR_takesNumber_104 rfl ?_
      refine V_zret dR_takesNumber_108 rfl rfl rfl ?_
      refine Or.inl ⟨by omega, rfl, rfl, ?_, by rw [hnv]; simp only [gi, si]; simp⟩
      rw [hnu]
      exact hS
