/-! the reader of the first object: tests, words, bases -/
/-- one part of the text: r says what is found from p on -/
def RP (σ : Hp) (f n b : Nat) (ops : List Nat) (q : Rs) : Option Value → List Kd → Hp → Prop := fun r k t => (q.1 = true ∧ r = some (.int 1) ∧ KA = k ∧ RS σ t f n q.2.1 b (ops ++ q.2.2.1)) ∨ (q.1 = false ∧ r = some (.int 0) ∧ KA = k ∧ ∃ (b' : Nat) (o : List Nat), RS σ t f n q.2.1 b' o)
theorem ixT3 : ∀ c : Nat, c < 256 → ixF ((nI c).toInt8.toInt32) (strB.getD 3 []) 0 = if ltr c = 6 then -1 else nI (ltr c) := by decide +kernel
theorem ixT4 : ∀ c : Nat, c < 256 → ixF ((nI c).toInt8.toInt32) (strB.getD 4 []) 0 = if 60 ≤ c ∧ c ≤ 62 then nI (c - 60) else -1 := by decide +kernel
def wdP (ch : Nat → Nat) : List Nat → Nat → Bool × Nat
  | [], p => (true, p)
  | c :: w, p => if ch p = c then wdP ch w (p + 1) else (false, p)
def wdL : List (List Nat) := [[98, 97, 115, 101, 32], [109, 111, 114, 101, 32], [116, 97, 120, 32]]
theorem enc_lt {op : Nat} (h : op < 1800) : encC op = nI op := by
  unfold encC
  rw [if_neg (by omega), if_neg (by omega), if_neg (by omega)]
theorem c_qtest {l : Launch} {G : GT} {σ : Hp} (a b c : Int32) : MM l G mQ_test 0 0 0 [.int a, .int b, .int c] KA σ (PE (some (.int ((a * 3 + b) * 100 + c))) KA σ) := by
  refine MM.of (loc := [(0, .int a), (1, .int b), (2, .int c)]) (by decide +kernel) rfl (Nat.le_of_ble_eq_true rfl) ?_
  refine V_iload_n dQ_test_0 rfl ?_
  refine V_iconst (v := 3) dQ_test_1 (by decide) ?_
  refine V_imul dQ_test_2 ?_
  refine V_iload_n dQ_test_3 rfl ?_
  refine V_iadd dQ_test_4 ?_
  refine V_bipush (v := 100) dQ_test_5 (by decide) ?_
  refine V_imul dQ_test_7 ?_
  refine V_iload_n dQ_test_8 rfl ?_
  refine V_iadd dQ_test_9 ?_
  exact V_iret dQ_test_10 rfl rfl ⟨rfl, rfl, rfl⟩
theorem tsO_I (ch : Nat → Nat) (p : Nat) : (nI (ltr (ch p)) * 3 + nI (ch (p + 1) - 60)) * 100 + nI (nuV ch (p + 2)) = nI (tsO ch p) := by
  rw [show (3 : Int32) = nI 3 from rfl, show (100 : Int32) = nI 100 from rfl, pk_mul, nI_add, pk_mul, nI_add]
  rfl
theorem c_rtest {l : Launch} {G : GT} {ch : Nat → Nat} {σ s : Hp} {f n p b : Nat} {ops : List Nat} (hR0 : RF σ) (hf : f < 6) (hT : TX σ n ch) (hS : RS σ s f n p b ops) (hl : ops.length ≤ p) : MM l G mR_test 4 0 0 [.ref 58] KA s (RP σ f n b ops (tsP ch p)) := by
  have hR := hS.rf hR0
  have hTs := hS.tx hf hT
  have hle := hS.le
  have h100 := hT.1
  refine MM.of (loc := [(0, .ref 58)]) (by decide +kernel) rfl (Nat.le_of_ble_eq_true rfl) ?_
  refine V_ldcS (i := 3) (tx := "ekswcd") rfl (by decide) rfl dR_test_0 ?_
  refine V_aload_n dR_test_2 rfl ?_
  refine V_callV (as := []) (rest := [.float (UInt32.ofNat (10 + 3))]) (bs' := 0) rfl dR_test_3 cmR_sign cvR_sign mlR_39 (Or.inl ⟨_, _, _, _, _, rfl, k58, by decide, rfl⟩) rfl rfl (c_rsign hR0 hf hT hS) (by decide) (Nat.le_refl _) (by decide) (Nat.le_of_ble_eq_true rfl) ?_
  rintro _ _ _ ⟨rfl, rfl, rfl⟩ -
  refine V_one ?_
  refine V_callV (as := [.int (nI (ch p))]) (rest := []) (bs' := 0) rfl dR_test_6 cmJS_indexOf_0f7a4 cvJS_indexOf_0f7a4 mlR_79 (Or.inr ⟨_, by decide, rfl, rfl⟩) rfl rfl (j_indexOf (i := 3) (by decide) (tx_n hT p)) (by decide) (Nat.le_refl _) (by decide) (Nat.le_of_ble_eq_true rfl) ?_
  rintro _ _ _ ⟨rfl, rfl, rfl⟩ -
  refine V_one ?_
  refine V_topI (x' := if ltr (ch p) = 6 then -1 else nI (ltr (ch p))) (ixT3 _ (tx_n hT p)) ?_
  refine V_istore_n (loc' := [(1, .int (if ltr (ch p) = 6 then -1 else nI (ltr (ch p)))), (0, .ref 58)]) dR_test_9 (by decide) rfl ?_
  refine V_iload_n dR_test_10 rfl ?_
  refine V_if_ge (tgt := 16) dR_test_11 rfl (fun c11 => ?_) (fun c11 => ?_)
  · have e11 : ¬ ltr (ch p) = 6 := by
      intro h
      rw [if_pos h] at c11
      exact absurd c11 (by decide)
    have hp : p < n := by
      by_cases h : p < n
      · exact h
      · exact absurd (by rw [hT.2.2 p (by omega)]; exact ltr_255) e11
    refine V_aload_n dR_test_16 rfl ?_
    refine V_dup dR_test_17 rfl ?_
    refine V_getE (x := nI p) dR_test_18 flR_22 k58 rfl hS.g3 ?_
    refine V_iconst (v := 1) dR_test_21 (by decide) ?_
    refine V_iadd dR_test_22 ?_
    refine V_topI (x' := nI (p + 1)) (nI_1 _) ?_
    refine V_putI dR_test_23 flR_22 (fpR_3 _) (Or.inl rfl) k58 rfl ?_
    have hS := hS.at hf (q := p + 1) (by omega)
    have hR := hS.rf hR0
    have hTs := hS.tx hf hT
    refine V_ldcS (i := 4) (tx := "<=>") rfl (by decide) rfl dR_test_26 ?_
    refine V_aload_n dR_test_28 rfl ?_
    refine V_callV (as := []) (rest := [.float (UInt32.ofNat (10 + 4))]) (bs' := 0) rfl dR_test_29 cmR_sign cvR_sign mlR_39 (Or.inl ⟨_, _, _, _, _, rfl, k58, by decide, rfl⟩) rfl rfl (c_rsign hR0 hf hT hS) (by decide) (Nat.le_refl _) (by decide) (Nat.le_of_ble_eq_true rfl) ?_
    rintro _ _ _ ⟨rfl, rfl, rfl⟩ -
    refine V_one ?_
    refine V_callV (as := [.int (nI (ch (p + 1)))]) (rest := []) (bs' := 0) rfl dR_test_32 cmJS_indexOf_0f7a4 cvJS_indexOf_0f7a4 mlR_79 (Or.inr ⟨_, by decide, rfl, rfl⟩) rfl rfl (j_indexOf (i := 4) (by decide) (tx_n hT (p + 1))) (by decide) (Nat.le_refl _) (by decide) (Nat.le_of_ble_eq_true rfl) ?_
    rintro _ _ _ ⟨rfl, rfl, rfl⟩ -
    refine V_one ?_
    refine V_topI (x' := if 60 ≤ ch (p + 1) ∧ ch (p + 1) ≤ 62 then nI (ch (p + 1) - 60) else -1) (ixT4 _ (tx_n hT (p + 1))) ?_
    refine V_istore_n (loc' := [(2, .int (if 60 ≤ ch (p + 1) ∧ ch (p + 1) ≤ 62 then nI (ch (p + 1) - 60) else -1)), (1, .int (if ltr (ch p) = 6 then -1 else nI (ltr (ch p)))), (0, .ref 58)]) dR_test_35 (by decide) rfl ?_
    refine V_iload_n dR_test_36 rfl ?_
    refine V_if_ge (tgt := 42) dR_test_37 rfl (fun c37 => ?_) (fun c37 => ?_)
    · have e37 : 60 ≤ ch (p + 1) ∧ ch (p + 1) ≤ 62 := by
        by_cases h : 60 ≤ ch (p + 1) ∧ ch (p + 1) ≤ 62
        · exact h
        · rw [if_neg h] at c37
          exact absurd c37 (by decide)
      have hp1 : p + 1 < n := by
        by_cases h : p + 1 < n
        · exact h
        · have := hT.2.2 (p + 1) (by omega)
          omega
      refine V_aload_n dR_test_42 rfl ?_
      refine V_dup dR_test_43 rfl ?_
      refine V_getE (x := nI (p + 1)) dR_test_44 flR_22 k58 rfl hS.g3 ?_
      refine V_iconst (v := 1) dR_test_47 (by decide) ?_
      refine V_iadd dR_test_48 ?_
      refine V_topI (x' := nI (p + 1 + 1)) (nI_1 _) ?_
      refine V_putI dR_test_49 flR_22 (fpR_3 _) (Or.inl rfl) k58 rfl ?_
      have hS := hS.at hf (q := p + 1 + 1) (by omega)
      have hR := hS.rf hR0
      have hTs := hS.tx hf hT
      refine V_aload_n dR_test_52 rfl ?_
      refine V_callV (as := []) (rest := []) (bs' := 0) rfl dR_test_53 cmR_takesNumber cvR_takesNumber mlR_58 (Or.inl ⟨_, _, _, _, _, rfl, k58, by decide, rfl⟩) rfl rfl (c_rnumber hR0 hf hT hS) (by decide) (Nat.le_refl _) (by decide) (Nat.le_of_ble_eq_true rfl) ?_
      rintro _ _ m53 (⟨hb53, rfl, rfl, hS, hnum⟩ | ⟨hb53, rfl, rfl, hS⟩) -
      · refine V_one ?_
        have hR := hS.rf hR0
        have hTs := hS.tx hf hT
        refine V_if_eq (tgt := 79) dR_test_56 rfl (fun h => absurd h (by decide)) (fun _ => ?_)
        refine V_aload_n dR_test_59 rfl ?_
        refine V_iload_n dR_test_60 rfl ?_
        refine V_iload_n dR_test_61 rfl ?_
        refine V_aload_n dR_test_62 rfl ?_
        refine V_getE (x := nI (nuV ch (p + 2))) dR_test_63 flR_61 k58 rfl hnum ?_
        refine V_callS (as := [.int (if ltr (ch p) = 6 then -1 else nI (ltr (ch p))), .int (if 60 ≤ ch (p + 1) ∧ ch (p + 1) ≤ 62 then nI (ch (p + 1) - 60) else -1), .int (nI (nuV ch (p + 2)))]) (rest := [.ref 58]) (bs' := 0) rfl dR_test_66 cmQ_test stQ_test mlR_87 rfl rfl (c_qtest _ _ _) (by decide) (Nat.le_refl _) (by decide) (Nat.le_of_ble_eq_true rfl) ?_
        rintro _ _ _ ⟨rfl, rfl, rfl⟩ -
        refine V_one ?_
        refine V_topI (x' := nI (tsO ch p)) (by rw [if_neg e11, if_pos e37]; exact tsO_I ch p) ?_
        refine V_callV (as := [.int (nI (tsO ch p))]) (rest := []) (bs' := 0) rfl dR_test_69 cmR_writes cvR_writes mlR_68 (Or.inl ⟨_, _, _, _, _, rfl, k58, by decide, rfl⟩) rfl rfl (c_rwrites hR0 hf hT hS (op := tsO ch p) (by rw [enc_lt (tsO_lt e11 (by omega))]) (by omega)) (by decide) (Nat.le_refl _) (by decide) (Nat.le_of_ble_eq_true rfl) ?_
        rintro _ _ m69 ⟨rfl, rfl, hS⟩ -
        refine V_one ?_
        have hR := hS.rf hR0
        have hTs := hS.tx hf hT
        refine V_if_eq (tgt := 79) dR_test_72 rfl (fun h => absurd h (by decide)) (fun _ => ?_)
        refine V_iconst (v := 1) dR_test_75 (by decide) ?_
        refine V_goto (tgt := 80) dR_test_76 rfl ?_
        refine V_zret dR_test_80 rfl rfl rfl ?_
        have et : tsP ch p = (true, p + 2 + nuL ch (p + 2), [tsO ch p], [tsO ch p]) := by rw [tsP, if_neg e11, if_pos e37, if_neg (fun e => absurd hb53 (by rw [show p + 1 + 1 = p + 2 from rfl, e]; decide))]
        rw [et]
        exact Or.inl ⟨rfl, rfl, rfl, hS⟩
      · refine V_one ?_
        have hR := hS.rf hR0
        have hTs := hS.tx hf hT
        refine V_if_eq (tgt := 79) dR_test_56 rfl (fun _ => ?_) (fun h => absurd h (by decide))
        refine V_iconst (v := 0) dR_test_79 (by decide) ?_
        refine V_zret dR_test_80 rfl rfl rfl ?_
        have et : tsP ch p = (false, p + 2, [], []) := by rw [tsP, if_neg e11, if_pos e37, if_pos hb53]
        rw [et]
        exact Or.inr ⟨rfl, rfl, rfl, b, ops, hS⟩
    · have e37 : ¬ (60 ≤ ch (p + 1) ∧ ch (p + 1) ≤ 62) := by
        intro h
        rw [if_pos h] at c37
        exact c37 (nI_pos' (by omega))
      refine V_iconst (v := 0) dR_test_40 (by decide) ?_
      refine V_zret dR_test_41 rfl rfl rfl ?_
      refine Or.inr ⟨?_, rfl, rfl, b, ops, ?_⟩
      · rw [tsP, if_neg e11, if_neg e37]
      · rw [tsP, if_neg e11, if_neg e37]; exact hS
  · have e11 : ltr (ch p) = 6 := by
      by_cases h : ltr (ch p) = 6
      · exact h
      · rw [if_neg h] at c11
        exact absurd (nI_pos' (by have := ltr_le (ch p); omega)) c11
    refine V_iconst (v := 0) dR_test_14 (by decide) ?_
    refine V_zret dR_test_15 rfl rfl rfl ?_
    refine Or.inr ⟨?_, rfl, rfl, b, ops, ?_⟩
    · rw [tsP, if_pos e11]
    · rw [tsP, if_pos e11]; exact hS
theorem c_rbase {l : Launch} {G : GT} {ch : Nat → Nat} {σ s : Hp} {f n p b : Nat} {ops : List Nat} (hR0 : RF σ) (hf : f < 6) (hT : TX σ n ch) (hS : RS σ s f n p b ops) : MM l G mR_takesBase 1 0 0 [.ref 58] KA s (fun r k t => (0 < nuL ch p ∧ r = some (.int 1) ∧ KA = k ∧ RS σ t f n (p + nuL ch p) (nuV ch p) ops) ∨ (nuL ch p = 0 ∧ r = some (.int 0) ∧ KA = k ∧ RS σ t f n p b ops)) := by
  have hR := hS.rf hR0
  have hTs := hS.tx hf hT
  have hle := hS.le
  have h100 := hT.1
  refine MM.of (loc := [(0, .ref 58)]) (by decide +kernel) rfl (Nat.le_of_ble_eq_true rfl) ?_
  refine V_aload_n dR_takesBase_0 rfl ?_
  refine V_callV (as := []) (rest := []) (bs' := 0) rfl dR_takesBase_1 cmR_takesNumber cvR_takesNumber mlR_58 (Or.inl ⟨_, _, _, _, _, rfl, k58, by decide, rfl⟩) rfl rfl (c_rnumber hR0 hf hT hS) (by decide) (Nat.le_refl _) (by decide) (Nat.le_of_ble_eq_true rfl) ?_
  rintro _ _ m1 (⟨hb1, rfl, rfl, hS, hnum⟩ | ⟨hb1, rfl, rfl, hS⟩) -
  · refine V_one ?_
    have hR := hS.rf hR0
    have hTs := hS.tx hf hT
    refine V_if_ne (tgt := 9) dR_takesBase_4 rfl (fun _ => ?_) (fun h => absurd h (by decide))
    refine V_aload_n dR_takesBase_9 rfl ?_
    refine V_aload_n dR_takesBase_10 rfl ?_
    refine V_getE (x := nI (nuV ch p)) dR_takesBase_11 flR_61 k58 rfl hnum ?_
    refine V_putI dR_takesBase_14 flR_28 (fpR_5 _) (Or.inl rfl) k58 rfl ?_
    have hS := hS.ba hf (c := nuV ch p)
    have hR := hS.rf hR0
    refine V_iconst (v := 1) dR_takesBase_17 (by decide) ?_
    exact V_zret dR_takesBase_18 rfl rfl rfl (Or.inl ⟨hb1, rfl, rfl, hS⟩)
  · refine V_one ?_
    have hR := hS.rf hR0
    have hTs := hS.tx hf hT
    refine V_if_ne (tgt := 9) dR_takesBase_4 rfl (fun h => absurd h (by decide)) (fun _ => ?_)
    refine V_iconst (v := 0) dR_takesBase_7 (by decide) ?_
    exact V_zret dR_takesBase_8 rfl rfl rfl (Or.inr ⟨hb1, rfl, rfl, hS⟩)
theorem c_rword0 {l : Launch} {G : GT} {ch : Nat → Nat} {σ s : Hp} {f n p b : Nat} {ops : List Nat} (hR0 : RF σ) (hf : f < 6) (hT : TX σ n ch) (hS : RS σ s f n p b ops) : MM l G mR_takesWord 4 0 0 [.ref 58, .float (UInt32.ofNat (10 + 0))] KA s (fun r k t => ((wdP ch (wdL.getD 0 []) p).1 = true ∧ r = some (.int 1) ∧ KA = k ∧ RS σ t f n (wdP ch (wdL.getD 0 []) p).2 b ops) ∨ ((wdP ch (wdL.getD 0 []) p).1 = false ∧ r = some (.int 0) ∧ KA = k ∧ ∃ b' : Nat, RS σ t f n (wdP ch (wdL.getD 0 []) p).2 b' ops)) := by
  have hR := hS.rf hR0
  have hTs := hS.tx hf hT
  have hle := hS.le
  have h100 := hT.1
  refine MM.of (loc := [(0, .ref 58), (1, .float (UInt32.ofNat (10 + 0)))]) (by decide +kernel) rfl (Nat.le_of_ble_eq_true rfl) ?_
  refine V_iconst (v := 0) dR_takesWord_0 (by decide) ?_
  refine V_istore_n (loc' := [(2, .int 0), (0, .ref 58), (1, .float (UInt32.ofNat (10 + 0)))]) dR_takesWord_1 (by decide) rfl ?_
  refine V_iload_n dR_takesWord_2 rfl ?_
  refine V_aload_nO dR_takesWord_3 rfl ?_
  refine V_callV (as := []) (rest := [.int 0]) (bs' := 0) rfl dR_takesWord_4 cmJS_length_8abf5 cvJS_length_8abf5 mlR_90 (Or.inr ⟨0, by decide, rfl, rfl⟩) rfl rfl (j_length (i := 0) (by decide)) (by decide) (Nat.le_refl _) (by decide) (Nat.le_of_ble_eq_true rfl) ?_
  rintro _ _ _ ⟨rfl, rfl, rfl⟩ -
  refine V_one ?_
  refine V_icmp_ge (tgt := 30) dR_takesWord_7 rfl (fun h => absurd h (by decide)) (fun _ => ?_)
  refine V_aload_n dR_takesWord_10 rfl ?_
  refine V_aload_nO dR_takesWord_11 rfl ?_
  refine V_iload_n dR_takesWord_12 rfl ?_
  refine V_callV (as := [.int 0]) (rest := [.ref 58]) (bs' := 0) rfl dR_takesWord_13 cmJS_charAt_5068e cvJS_charAt_5068e mlR_93 (Or.inr ⟨0, by decide, rfl, rfl⟩) rfl rfl (j_charAt (i := 0) (j := 0) (by decide) (by decide)) (by decide) (Nat.le_refl _) (by decide) (Nat.le_of_ble_eq_true rfl) ?_
  rintro _ _ _ ⟨rfl, rfl, rfl⟩ -
  refine V_one ?_
  refine V_callV (as := [.int (nI 98)]) (rest := []) (bs' := 0) rfl dR_takesWord_16 cmR_takes cvR_takes mlR_31 (Or.inl ⟨_, _, _, _, _, rfl, k58, by decide, rfl⟩) rfl rfl (c_rtakes hR0 hf hT hS (c := 98) (by decide)) (by decide) (Nat.le_refl _) (by decide) (Nat.le_of_ble_eq_true rfl) ?_
  rintro _ _ m0 (⟨hw0, rfl, rfl, hS⟩ | ⟨hw0, rfl, rfl, rfl⟩) -
  · refine V_one ?_
    have hR := hS.rf hR0
    have hTs := hS.tx hf hT
    refine V_if_ne (tgt := 24) dR_takesWord_19 rfl (fun _ => ?_) (fun h => absurd h (by decide))
    refine V_iinc (v := 1) (loc' := [(2, .int 1), (0, .ref 58), (1, .float (UInt32.ofNat (10 + 0)))]) dR_takesWord_24 rfl (by decide) (by decide) rfl ?_
    refine V_goto (tgt := 2) dR_takesWord_27 rfl ?_
    refine V_iload_n dR_takesWord_2 rfl ?_
    refine V_aload_nO dR_takesWord_3 rfl ?_
    refine V_callV (as := []) (rest := [.int 1]) (bs' := 0) rfl dR_takesWord_4 cmJS_length_8abf5 cvJS_length_8abf5 mlR_90 (Or.inr ⟨0, by decide, rfl, rfl⟩) rfl rfl (j_length (i := 0) (by decide)) (by decide) (Nat.le_refl _) (by decide) (Nat.le_of_ble_eq_true rfl) ?_
    rintro _ _ _ ⟨rfl, rfl, rfl⟩ -
    refine V_one ?_
    refine V_icmp_ge (tgt := 30) dR_takesWord_7 rfl (fun h => absurd h (by decide)) (fun _ => ?_)
    refine V_aload_n dR_takesWord_10 rfl ?_
    refine V_aload_nO dR_takesWord_11 rfl ?_
    refine V_iload_n dR_takesWord_12 rfl ?_
    refine V_callV (as := [.int 1]) (rest := [.ref 58]) (bs' := 0) rfl dR_takesWord_13 cmJS_charAt_5068e cvJS_charAt_5068e mlR_93 (Or.inr ⟨0, by decide, rfl, rfl⟩) rfl rfl (j_charAt (i := 0) (j := 1) (by decide) (by decide)) (by decide) (Nat.le_refl _) (by decide) (Nat.le_of_ble_eq_true rfl) ?_
    rintro _ _ _ ⟨rfl, rfl, rfl⟩ -
    refine V_one ?_
    refine V_callV (as := [.int (nI 97)]) (rest := []) (bs' := 0) rfl dR_takesWord_16 cmR_takes cvR_takes mlR_31 (Or.inl ⟨_, _, _, _, _, rfl, k58, by decide, rfl⟩) rfl rfl (c_rtakes hR0 hf hT hS (c := 97) (by decide)) (by decide) (Nat.le_refl _) (by decide) (Nat.le_of_ble_eq_true rfl) ?_
    rintro _ _ m1 (⟨hw1, rfl, rfl, hS⟩ | ⟨hw1, rfl, rfl, rfl⟩) -
    · refine V_one ?_
      have hR := hS.rf hR0
      have hTs := hS.tx hf hT
      refine V_if_ne (tgt := 24) dR_takesWord_19 rfl (fun _ => ?_) (fun h => absurd h (by decide))
      refine V_iinc (v := 2) (loc' := [(2, .int 2), (0, .ref 58), (1, .float (UInt32.ofNat (10 + 0)))]) dR_takesWord_24 rfl (by decide) (by decide) rfl ?_
      refine V_goto (tgt := 2) dR_takesWord_27 rfl ?_
      refine V_iload_n dR_takesWord_2 rfl ?_
      refine V_aload_nO dR_takesWord_3 rfl ?_
      refine V_callV (as := []) (rest := [.int 2]) (bs' := 0) rfl dR_takesWord_4 cmJS_length_8abf5 cvJS_length_8abf5 mlR_90 (Or.inr ⟨0, by decide, rfl, rfl⟩) rfl rfl (j_length (i := 0) (by decide)) (by decide) (Nat.le_refl _) (by decide) (Nat.le_of_ble_eq_true rfl) ?_
      rintro _ _ _ ⟨rfl, rfl, rfl⟩ -
      refine V_one ?_
      refine V_icmp_ge (tgt := 30) dR_takesWord_7 rfl (fun h => absurd h (by decide)) (fun _ => ?_)
      refine V_aload_n dR_takesWord_10 rfl ?_
      refine V_aload_nO dR_takesWord_11 rfl ?_
      refine V_iload_n dR_takesWord_12 rfl ?_
      refine V_callV (as := [.int 2]) (rest := [.ref 58]) (bs' := 0) rfl dR_takesWord_13 cmJS_charAt_5068e cvJS_charAt_5068e mlR_93 (Or.inr ⟨0, by decide, rfl, rfl⟩) rfl rfl (j_charAt (i := 0) (j := 2) (by decide) (by decide)) (by decide) (Nat.le_refl _) (by decide) (Nat.le_of_ble_eq_true rfl) ?_
      rintro _ _ _ ⟨rfl, rfl, rfl⟩ -
      refine V_one ?_
      refine V_callV (as := [.int (nI 115)]) (rest := []) (bs' := 0) rfl dR_takesWord_16 cmR_takes cvR_takes mlR_31 (Or.inl ⟨_, _, _, _, _, rfl, k58, by decide, rfl⟩) rfl rfl (c_rtakes hR0 hf hT hS (c := 115) (by decide)) (by decide) (Nat.le_refl _) (by decide) (Nat.le_of_ble_eq_true rfl) ?_
      rintro _ _ m2 (⟨hw2, rfl, rfl, hS⟩ | ⟨hw2, rfl, rfl, rfl⟩) -
      · refine V_one ?_
        have hR := hS.rf hR0
        have hTs := hS.tx hf hT
        refine V_if_ne (tgt := 24) dR_takesWord_19 rfl (fun _ => ?_) (fun h => absurd h (by decide))
        refine V_iinc (v := 3) (loc' := [(2, .int 3), (0, .ref 58), (1, .float (UInt32.ofNat (10 + 0)))]) dR_takesWord_24 rfl (by decide) (by decide) rfl ?_
        refine V_goto (tgt := 2) dR_takesWord_27 rfl ?_
        refine V_iload_n dR_takesWord_2 rfl ?_
        refine V_aload_nO dR_takesWord_3 rfl ?_
        refine V_callV (as := []) (rest := [.int 3]) (bs' := 0) rfl dR_takesWord_4 cmJS_length_8abf5 cvJS_length_8abf5 mlR_90 (Or.inr ⟨0, by decide, rfl, rfl⟩) rfl rfl (j_length (i := 0) (by decide)) (by decide) (Nat.le_refl _) (by decide) (Nat.le_of_ble_eq_true rfl) ?_
        rintro _ _ _ ⟨rfl, rfl, rfl⟩ -
        refine V_one ?_
        refine V_icmp_ge (tgt := 30) dR_takesWord_7 rfl (fun h => absurd h (by decide)) (fun _ => ?_)
        refine V_aload_n dR_takesWord_10 rfl ?_
        refine V_aload_nO dR_takesWord_11 rfl ?_
        refine V_iload_n dR_takesWord_12 rfl ?_
        refine V_callV (as := [.int 3]) (rest := [.ref 58]) (bs' := 0) rfl dR_takesWord_13 cmJS_charAt_5068e cvJS_charAt_5068e mlR_93 (Or.inr ⟨0, by decide, rfl, rfl⟩) rfl rfl (j_charAt (i := 0) (j := 3) (by decide) (by decide)) (by decide) (Nat.le_refl _) (by decide) (Nat.le_of_ble_eq_true rfl) ?_
        rintro _ _ _ ⟨rfl, rfl, rfl⟩ -
        refine V_one ?_
        refine V_callV (as := [.int (nI 101)]) (rest := []) (bs' := 0) rfl dR_takesWord_16 cmR_takes cvR_takes mlR_31 (Or.inl ⟨_, _, _, _, _, rfl, k58, by decide, rfl⟩) rfl rfl (c_rtakes hR0 hf hT hS (c := 101) (by decide)) (by decide) (Nat.le_refl _) (by decide) (Nat.le_of_ble_eq_true rfl) ?_
        rintro _ _ m3 (⟨hw3, rfl, rfl, hS⟩ | ⟨hw3, rfl, rfl, rfl⟩) -
        · refine V_one ?_
          have hR := hS.rf hR0
          have hTs := hS.tx hf hT
          refine V_if_ne (tgt := 24) dR_takesWord_19 rfl (fun _ => ?_) (fun h => absurd h (by decide))
          refine V_iinc (v := 4) (loc' := [(2, .int 4), (0, .ref 58), (1, .float (UInt32.ofNat (10 + 0)))]) dR_takesWord_24 rfl (by decide) (by decide) rfl ?_
          refine V_goto (tgt := 2) dR_takesWord_27 rfl ?_
          refine V_iload_n dR_takesWord_2 rfl ?_
          refine V_aload_nO dR_takesWord_3 rfl ?_
          refine V_callV (as := []) (rest := [.int 4]) (bs' := 0) rfl dR_takesWord_4 cmJS_length_8abf5 cvJS_length_8abf5 mlR_90 (Or.inr ⟨0, by decide, rfl, rfl⟩) rfl rfl (j_length (i := 0) (by decide)) (by decide) (Nat.le_refl _) (by decide) (Nat.le_of_ble_eq_true rfl) ?_
          rintro _ _ _ ⟨rfl, rfl, rfl⟩ -
          refine V_one ?_
          refine V_icmp_ge (tgt := 30) dR_takesWord_7 rfl (fun h => absurd h (by decide)) (fun _ => ?_)
          refine V_aload_n dR_takesWord_10 rfl ?_
          refine V_aload_nO dR_takesWord_11 rfl ?_
          refine V_iload_n dR_takesWord_12 rfl ?_
          refine V_callV (as := [.int 4]) (rest := [.ref 58]) (bs' := 0) rfl dR_takesWord_13 cmJS_charAt_5068e cvJS_charAt_5068e mlR_93 (Or.inr ⟨0, by decide, rfl, rfl⟩) rfl rfl (j_charAt (i := 0) (j := 4) (by decide) (by decide)) (by decide) (Nat.le_refl _) (by decide) (Nat.le_of_ble_eq_true rfl) ?_
          rintro _ _ _ ⟨rfl, rfl, rfl⟩ -
          refine V_one ?_
          refine V_callV (as := [.int (nI 32)]) (rest := []) (bs' := 0) rfl dR_takesWord_16 cmR_takes cvR_takes mlR_31 (Or.inl ⟨_, _, _, _, _, rfl, k58, by decide, rfl⟩) rfl rfl (c_rtakes hR0 hf hT hS (c := 32) (by decide)) (by decide) (Nat.le_refl _) (by decide) (Nat.le_of_ble_eq_true rfl) ?_
          rintro _ _ m4 (⟨hw4, rfl, rfl, hS⟩ | ⟨hw4, rfl, rfl, rfl⟩) -
          · refine V_one ?_
            have hR := hS.rf hR0
            have hTs := hS.tx hf hT
            refine V_if_ne (tgt := 24) dR_takesWord_19 rfl (fun _ => ?_) (fun h => absurd h (by decide))
            refine V_iinc (v := 5) (loc' := [(2, .int 5), (0, .ref 58), (1, .float (UInt32.ofNat (10 + 0)))]) dR_takesWord_24 rfl (by decide) (by decide) rfl ?_
            refine V_goto (tgt := 2) dR_takesWord_27 rfl ?_
            refine V_iload_n dR_takesWord_2 rfl ?_
            refine V_aload_nO dR_takesWord_3 rfl ?_
            refine V_callV (as := []) (rest := [.int 5]) (bs' := 0) rfl dR_takesWord_4 cmJS_length_8abf5 cvJS_length_8abf5 mlR_90 (Or.inr ⟨0, by decide, rfl, rfl⟩) rfl rfl (j_length (i := 0) (by decide)) (by decide) (Nat.le_refl _) (by decide) (Nat.le_of_ble_eq_true rfl) ?_
            rintro _ _ _ ⟨rfl, rfl, rfl⟩ -
            refine V_one ?_
            refine V_icmp_ge (tgt := 30) dR_takesWord_7 rfl (fun _ => ?_) (fun h => absurd h (by decide))
            refine V_iconst (v := 1) dR_takesWord_30 (by decide) ?_
            refine V_zret dR_takesWord_31 rfl rfl rfl ?_
            have hz : wdP ch (wdL.getD 0 []) p = (true, p + 1 + 1 + 1 + 1 + 1) := by
              show wdP ch [98, 97, 115, 101, 32] p = _
              rw [wdP, if_pos hw0, wdP, if_pos hw1, wdP, if_pos hw2, wdP, if_pos hw3, wdP, if_pos hw4, wdP]
            rw [hz]
            exact Or.inl ⟨rfl, rfl, rfl, hS⟩
          · refine V_one ?_
            have hz : wdP ch (wdL.getD 0 []) p = (false, p + 1 + 1 + 1 + 1) := by
              show wdP ch [98, 97, 115, 101, 32] p = _
              rw [wdP, if_pos hw0, wdP, if_pos hw1, wdP, if_pos hw2, wdP, if_pos hw3, wdP, if_neg hw4]
            refine V_if_ne (tgt := 24) dR_takesWord_19 rfl (fun h => absurd h (by decide)) (fun _ => ?_)
            refine V_iconst (v := 0) dR_takesWord_22 (by decide) ?_
            exact V_zret dR_takesWord_23 rfl rfl rfl (Or.inr ⟨by rw [hz], rfl, rfl, b, by rw [hz]; exact hS⟩)
        · refine V_one ?_
          have hz : wdP ch (wdL.getD 0 []) p = (false, p + 1 + 1 + 1) := by
            show wdP ch [98, 97, 115, 101, 32] p = _
            rw [wdP, if_pos hw0, wdP, if_pos hw1, wdP, if_pos hw2, wdP, if_neg hw3]
          refine V_if_ne (tgt := 24) dR_takesWord_19 rfl (fun h => absurd h (by decide)) (fun _ => ?_)
          refine V_iconst (v := 0) dR_takesWord_22 (by decide) ?_
          exact V_zret dR_takesWord_23 rfl rfl rfl (Or.inr ⟨by rw [hz], rfl, rfl, b, by rw [hz]; exact hS⟩)
      · refine V_one ?_
        have hz : wdP ch (wdL.getD 0 []) p = (false, p + 1 + 1) := by
          show wdP ch [98, 97, 115, 101, 32] p = _
          rw [wdP, if_pos hw0, wdP, if_pos hw1, wdP, if_neg hw2]
        refine V_if_ne (tgt := 24) dR_takesWord_19 rfl (fun h => absurd h (by decide)) (fun _ => ?_)
        refine V_iconst (v := 0) dR_takesWord_22 (by decide) ?_
        exact V_zret dR_takesWord_23 rfl rfl rfl (Or.inr ⟨by rw [hz], rfl, rfl, b, by rw [hz]; exact hS⟩)
    · refine V_one ?_
      have hz : wdP ch (wdL.getD 0 []) p = (false, p + 1) := by
        show wdP ch [98, 97, 115, 101, 32] p = _
        rw [wdP, if_pos hw0, wdP, if_neg hw1]
      refine V_if_ne (tgt := 24) dR_takesWord_19 rfl (fun h => absurd h (by decide)) (fun _ => ?_)
      refine V_iconst (v := 0) dR_takesWord_22 (by decide) ?_
      exact V_zret dR_takesWord_23 rfl rfl rfl (Or.inr ⟨by rw [hz], rfl, rfl, b, by rw [hz]; exact hS⟩)
  · refine V_one ?_
    have hz : wdP ch (wdL.getD 0 []) p = (false, p) := by
      show wdP ch [98, 97, 115, 101, 32] p = _
      rw [wdP, if_neg hw0]
    refine V_if_ne (tgt := 24) dR_takesWord_19 rfl (fun h => absurd h (by decide)) (fun _ => ?_)
    refine V_iconst (v := 0) dR_takesWord_22 (by decide) ?_
    exact V_zret dR_takesWord_23 rfl rfl rfl (Or.inr ⟨by rw [hz], rfl, rfl, b, by rw [hz]; exact hS⟩)
theorem c_rword1 {l : Launch} {G : GT} {ch : Nat → Nat} {σ s : Hp} {f n p b : Nat} {ops : List Nat} (hR0 : RF σ) (hf : f < 6) (hT : TX σ n ch) (hS : RS σ s f n p b ops) : MM l G mR_takesWord 4 0 0 [.ref 58, .float (UInt32.ofNat (10 + 1))] KA s (fun r k t => ((wdP ch (wdL.getD 1 []) p).1 = true ∧ r = some (.int 1) ∧ KA = k ∧ RS σ t f n (wdP ch (wdL.getD 1 []) p).2 b ops) ∨ ((wdP ch (wdL.getD 1 []) p).1 = false ∧ r = some (.int 0) ∧ KA = k ∧ ∃ b' : Nat, RS σ t f n (wdP ch (wdL.getD 1 []) p).2 b' ops)) := by
  have hR := hS.rf hR0
  have hTs := hS.tx hf hT
  have hle := hS.le
  have h100 := hT.1
  refine MM.of (loc := [(0, .ref 58), (1, .float (UInt32.ofNat (10 + 1)))]) (by decide +kernel) rfl (Nat.le_of_ble_eq_true rfl) ?_
  refine V_iconst (v := 0) dR_takesWord_0 (by decide) ?_
  refine V_istore_n (loc' := [(2, .int 0), (0, .ref 58), (1, .float (UInt32.ofNat (10 + 1)))]) dR_takesWord_1 (by decide) rfl ?_
  refine V_iload_n dR_takesWord_2 rfl ?_
  refine V_aload_nO dR_takesWord_3 rfl ?_
  refine V_callV (as := []) (rest := [.int 0]) (bs' := 0) rfl dR_takesWord_4 cmJS_length_8abf5 cvJS_length_8abf5 mlR_90 (Or.inr ⟨1, by decide, rfl, rfl⟩) rfl rfl (j_length (i := 1) (by decide)) (by decide) (Nat.le_refl _) (by decide) (Nat.le_of_ble_eq_true rfl) ?_
  rintro _ _ _ ⟨rfl, rfl, rfl⟩ -
  refine V_one ?_
  refine V_icmp_ge (tgt := 30) dR_takesWord_7 rfl (fun h => absurd h (by decide)) (fun _ => ?_)
  refine V_aload_n dR_takesWord_10 rfl ?_
  refine V_aload_nO dR_takesWord_11 rfl ?_
  refine V_iload_n dR_takesWord_12 rfl ?_
  refine V_callV (as := [.int 0]) (rest := [.ref 58]) (bs' := 0) rfl dR_takesWord_13 cmJS_charAt_5068e cvJS_charAt_5068e mlR_93 (Or.inr ⟨1, by decide, rfl, rfl⟩) rfl rfl (j_charAt (i := 1) (j := 0) (by decide) (by decide)) (by decide) (Nat.le_refl _) (by decide) (Nat.le_of_ble_eq_true rfl) ?_
  rintro _ _ _ ⟨rfl, rfl, rfl⟩ -
  refine V_one ?_
  refine V_callV (as := [.int (nI 109)]) (rest := []) (bs' := 0) rfl dR_takesWord_16 cmR_takes cvR_takes mlR_31 (Or.inl ⟨_, _, _, _, _, rfl, k58, by decide, rfl⟩) rfl rfl (c_rtakes hR0 hf hT hS (c := 109) (by decide)) (by decide) (Nat.le_refl _) (by decide) (Nat.le_of_ble_eq_true rfl) ?_
  rintro _ _ m0 (⟨hw0, rfl, rfl, hS⟩ | ⟨hw0, rfl, rfl, rfl⟩) -
  · refine V_one ?_
    have hR := hS.rf hR0
    have hTs := hS.tx hf hT
    refine V_if_ne (tgt := 24) dR_takesWord_19 rfl (fun _ => ?_) (fun h => absurd h (by decide))
    refine V_iinc (v := 1) (loc' := [(2, .int 1), (0, .ref 58), (1, .float (UInt32.ofNat (10 + 1)))]) dR_takesWord_24 rfl (by decide) (by decide) rfl ?_
    refine V_goto (tgt := 2) dR_takesWord_27 rfl ?_
    refine V_iload_n dR_takesWord_2 rfl ?_
    refine V_aload_nO dR_takesWord_3 rfl ?_
    refine V_callV (as := []) (rest := [.int 1]) (bs' := 0) rfl dR_takesWord_4 cmJS_length_8abf5 cvJS_length_8abf5 mlR_90 (Or.inr ⟨1, by decide, rfl, rfl⟩) rfl rfl (j_length (i := 1) (by decide)) (by decide) (Nat.le_refl _) (by decide) (Nat.le_of_ble_eq_true rfl) ?_
    rintro _ _ _ ⟨rfl, rfl, rfl⟩ -
    refine V_one ?_
    refine V_icmp_ge (tgt := 30) dR_takesWord_7 rfl (fun h => absurd h (by decide)) (fun _ => ?_)
    refine V_aload_n dR_takesWord_10 rfl ?_
    refine V_aload_nO dR_takesWord_11 rfl ?_
    refine V_iload_n dR_takesWord_12 rfl ?_
    refine V_callV (as := [.int 1]) (rest := [.ref 58]) (bs' := 0) rfl dR_takesWord_13 cmJS_charAt_5068e cvJS_charAt_5068e mlR_93 (Or.inr ⟨1, by decide, rfl, rfl⟩) rfl rfl (j_charAt (i := 1) (j := 1) (by decide) (by decide)) (by decide) (Nat.le_refl _) (by decide) (Nat.le_of_ble_eq_true rfl) ?_
    rintro _ _ _ ⟨rfl, rfl, rfl⟩ -
    refine V_one ?_
    refine V_callV (as := [.int (nI 111)]) (rest := []) (bs' := 0) rfl dR_takesWord_16 cmR_takes cvR_takes mlR_31 (Or.inl ⟨_, _, _, _, _, rfl, k58, by decide, rfl⟩) rfl rfl (c_rtakes hR0 hf hT hS (c := 111) (by decide)) (by decide) (Nat.le_refl _) (by decide) (Nat.le_of_ble_eq_true rfl) ?_
    rintro _ _ m1 (⟨hw1, rfl, rfl, hS⟩ | ⟨hw1, rfl, rfl, rfl⟩) -
    · refine V_one ?_
      have hR := hS.rf hR0
      have hTs := hS.tx hf hT
      refine V_if_ne (tgt := 24) dR_takesWord_19 rfl (fun _ => ?_) (fun h => absurd h (by decide))
      refine V_iinc (v := 2) (loc' := [(2, .int 2), (0, .ref 58), (1, .float (UInt32.ofNat (10 + 1)))]) dR_takesWord_24 rfl (by decide) (by decide) rfl ?_
      refine V_goto (tgt := 2) dR_takesWord_27 rfl ?_
      refine V_iload_n dR_takesWord_2 rfl ?_
      refine V_aload_nO dR_takesWord_3 rfl ?_
      refine V_callV (as := []) (rest := [.int 2]) (bs' := 0) rfl dR_takesWord_4 cmJS_length_8abf5 cvJS_length_8abf5 mlR_90 (Or.inr ⟨1, by decide, rfl, rfl⟩) rfl rfl (j_length (i := 1) (by decide)) (by decide) (Nat.le_refl _) (by decide) (Nat.le_of_ble_eq_true rfl) ?_
      rintro _ _ _ ⟨rfl, rfl, rfl⟩ -
      refine V_one ?_
      refine V_icmp_ge (tgt := 30) dR_takesWord_7 rfl (fun h => absurd h (by decide)) (fun _ => ?_)
      refine V_aload_n dR_takesWord_10 rfl ?_
      refine V_aload_nO dR_takesWord_11 rfl ?_
      refine V_iload_n dR_takesWord_12 rfl ?_
      refine V_callV (as := [.int 2]) (rest := [.ref 58]) (bs' := 0) rfl dR_takesWord_13 cmJS_charAt_5068e cvJS_charAt_5068e mlR_93 (Or.inr ⟨1, by decide, rfl, rfl⟩) rfl rfl (j_charAt (i := 1) (j := 2) (by decide) (by decide)) (by decide) (Nat.le_refl _) (by decide) (Nat.le_of_ble_eq_true rfl) ?_
      rintro _ _ _ ⟨rfl, rfl, rfl⟩ -
      refine V_one ?_
      refine V_callV (as := [.int (nI 114)]) (rest := []) (bs' := 0) rfl dR_takesWord_16 cmR_takes cvR_takes mlR_31 (Or.inl ⟨_, _, _, _, _, rfl, k58, by decide, rfl⟩) rfl rfl (c_rtakes hR0 hf hT hS (c := 114) (by decide)) (by decide) (Nat.le_refl _) (by decide) (Nat.le_of_ble_eq_true rfl) ?_
      rintro _ _ m2 (⟨hw2, rfl, rfl, hS⟩ | ⟨hw2, rfl, rfl, rfl⟩) -
      · refine V_one ?_
        have hR := hS.rf hR0
        have hTs := hS.tx hf hT
        refine V_if_ne (tgt := 24) dR_takesWord_19 rfl (fun _ => ?_) (fun h => absurd h (by decide))
        refine V_iinc (v := 3) (loc' := [(2, .int 3), (0, .ref 58), (1, .float (UInt32.ofNat (10 + 1)))]) dR_takesWord_24 rfl (by decide) (by decide) rfl ?_
        refine V_goto (tgt := 2) dR_takesWord_27 rfl ?_
        refine V_iload_n dR_takesWord_2 rfl ?_
        refine V_aload_nO dR_takesWord_3 rfl ?_
        refine V_callV (as := []) (rest := [.int 3]) (bs' := 0) rfl dR_takesWord_4 cmJS_length_8abf5 cvJS_length_8abf5 mlR_90 (Or.inr ⟨1, by decide, rfl, rfl⟩) rfl rfl (j_length (i := 1) (by decide)) (by decide) (Nat.le_refl _) (by decide) (Nat.le_of_ble_eq_true rfl) ?_
        rintro _ _ _ ⟨rfl, rfl, rfl⟩ -
        refine V_one ?_
        refine V_icmp_ge (tgt := 30) dR_takesWord_7 rfl (fun h => absurd h (by decide)) (fun _ => ?_)
        refine V_aload_n dR_takesWord_10 rfl ?_
        refine V_aload_nO dR_takesWord_11 rfl ?_
        refine V_iload_n dR_takesWord_12 rfl ?_
        refine V_callV (as := [.int 3]) (rest := [.ref 58]) (bs' := 0) rfl dR_takesWord_13 cmJS_charAt_5068e cvJS_charAt_5068e mlR_93 (Or.inr ⟨1, by decide, rfl, rfl⟩) rfl rfl (j_charAt (i := 1) (j := 3) (by decide) (by decide)) (by decide) (Nat.le_refl _) (by decide) (Nat.le_of_ble_eq_true rfl) ?_
        rintro _ _ _ ⟨rfl, rfl, rfl⟩ -
        refine V_one ?_
        refine V_callV (as := [.int (nI 101)]) (rest := []) (bs' := 0) rfl dR_takesWord_16 cmR_takes cvR_takes mlR_31 (Or.inl ⟨_, _, _, _, _, rfl, k58, by decide, rfl⟩) rfl rfl (c_rtakes hR0 hf hT hS (c := 101) (by decide)) (by decide) (Nat.le_refl _) (by decide) (Nat.le_of_ble_eq_true rfl) ?_
        rintro _ _ m3 (⟨hw3, rfl, rfl, hS⟩ | ⟨hw3, rfl, rfl, rfl⟩) -
        · refine V_one ?_
          have hR := hS.rf hR0
          have hTs := hS.tx hf hT
          refine V_if_ne (tgt := 24) dR_takesWord_19 rfl (fun _ => ?_) (fun h => absurd h (by decide))
          refine V_iinc (v := 4) (loc' := [(2, .int 4), (0, .ref 58), (1, .float (UInt32.ofNat (10 + 1)))]) dR_takesWord_24 rfl (by decide) (by decide) rfl ?_
          refine V_goto (tgt := 2) dR_takesWord_27 rfl ?_
          refine V_iload_n dR_takesWord_2 rfl ?_
          refine V_aload_nO dR_takesWord_3 rfl ?_
          refine V_callV (as := []) (rest := [.int 4]) (bs' := 0) rfl dR_takesWord_4 cmJS_length_8abf5 cvJS_length_8abf5 mlR_90 (Or.inr ⟨1, by decide, rfl, rfl⟩) rfl rfl (j_length (i := 1) (by decide)) (by decide) (Nat.le_refl _) (by decide) (Nat.le_of_ble_eq_true rfl) ?_
          rintro _ _ _ ⟨rfl, rfl, rfl⟩ -
          refine V_one ?_
          refine V_icmp_ge (tgt := 30) dR_takesWord_7 rfl (fun h => absurd h (by decide)) (fun _ => ?_)
          refine V_aload_n dR_takesWord_10 rfl ?_
          refine V_aload_nO dR_takesWord_11 rfl ?_
          refine V_iload_n dR_takesWord_12 rfl ?_
          refine V_callV (as := [.int 4]) (rest := [.ref 58]) (bs' := 0) rfl dR_takesWord_13 cmJS_charAt_5068e cvJS_charAt_5068e mlR_93 (Or.inr ⟨1, by decide, rfl, rfl⟩) rfl rfl (j_charAt (i := 1) (j := 4) (by decide) (by decide)) (by decide) (Nat.le_refl _) (by decide) (Nat.le_of_ble_eq_true rfl) ?_
          rintro _ _ _ ⟨rfl, rfl, rfl⟩ -
          refine V_one ?_
          refine V_callV (as := [.int (nI 32)]) (rest := []) (bs' := 0) rfl dR_takesWord_16 cmR_takes cvR_takes mlR_31 (Or.inl ⟨_, _, _, _, _, rfl, k58, by decide, rfl⟩) rfl rfl (c_rtakes hR0 hf hT hS (c := 32) (by decide)) (by decide) (Nat.le_refl _) (by decide) (Nat.le_of_ble_eq_true rfl) ?_
          rintro _ _ m4 (⟨hw4, rfl, rfl, hS⟩ | ⟨hw4, rfl, rfl, rfl⟩) -
          · refine V_one ?_
            have hR := hS.rf hR0
            have hTs := hS.tx hf hT
            refine V_if_ne (tgt := 24) dR_takesWord_19 rfl (fun _ => ?_) (fun h => absurd h (by decide))
            refine V_iinc (v := 5) (loc' := [(2, .int 5), (0, .ref 58), (1, .float (UInt32.ofNat (10 + 1)))]) dR_takesWord_24 rfl (by decide) (by decide) rfl ?_
            refine V_goto (tgt := 2) dR_takesWord_27 rfl ?_
            refine V_iload_n dR_takesWord_2 rfl ?_
            refine V_aload_nO dR_takesWord_3 rfl ?_
            refine V_callV (as := []) (rest := [.int 5]) (bs' := 0) rfl dR_takesWord_4 cmJS_length_8abf5 cvJS_length_8abf5 mlR_90 (Or.inr ⟨1, by decide, rfl, rfl⟩) rfl rfl (j_length (i := 1) (by decide)) (by decide) (Nat.le_refl _) (by decide) (Nat.le_of_ble_eq_true rfl) ?_
            rintro _ _ _ ⟨rfl, rfl, rfl⟩ -
            refine V_one ?_
            refine V_icmp_ge (tgt := 30) dR_takesWord_7 rfl (fun _ => ?_) (fun h => absurd h (by decide))
            refine V_iconst (v := 1) dR_takesWord_30 (by decide) ?_
            refine V_zret dR_takesWord_31 rfl rfl rfl ?_
            have hz : wdP ch (wdL.getD 1 []) p = (true, p + 1 + 1 + 1 + 1 + 1) := by
              show wdP ch [109, 111, 114, 101, 32] p = _
              rw [wdP, if_pos hw0, wdP, if_pos hw1, wdP, if_pos hw2, wdP, if_pos hw3, wdP, if_pos hw4, wdP]
            rw [hz]
            exact Or.inl ⟨rfl, rfl, rfl, hS⟩
          · refine V_one ?_
            have hz : wdP ch (wdL.getD 1 []) p = (false, p + 1 + 1 + 1 + 1) := by
              show wdP ch [109, 111, 114, 101, 32] p = _
              rw [wdP, if_pos hw0, wdP, if_pos hw1, wdP, if_pos hw2, wdP, if_pos hw3, wdP, if_neg hw4]
            refine V_if_ne (tgt := 24) dR_takesWord_19 rfl (fun h => absurd h (by decide)) (fun _ => ?_)
            refine V_iconst (v := 0) dR_takesWord_22 (by decide) ?_
            exact V_zret dR_takesWord_23 rfl rfl rfl (Or.inr ⟨by rw [hz], rfl, rfl, b, by rw [hz]; exact hS⟩)
        · refine V_one ?_
          have hz : wdP ch (wdL.getD 1 []) p = (false, p + 1 + 1 + 1) := by
            show wdP ch [109, 111, 114, 101, 32] p = _
            rw [wdP, if_pos hw0, wdP, if_pos hw1, wdP, if_pos hw2, wdP, if_neg hw3]
          refine V_if_ne (tgt := 24) dR_takesWord_19 rfl (fun h => absurd h (by decide)) (fun _ => ?_)
          refine V_iconst (v := 0) dR_takesWord_22 (by decide) ?_
          exact V_zret dR_takesWord_23 rfl rfl rfl (Or.inr ⟨by rw [hz], rfl, rfl, b, by rw [hz]; exact hS⟩)
      · refine V_one ?_
        have hz : wdP ch (wdL.getD 1 []) p = (false, p + 1 + 1) := by
          show wdP ch [109, 111, 114, 101, 32] p = _
          rw [wdP, if_pos hw0, wdP, if_pos hw1, wdP, if_neg hw2]
        refine V_if_ne (tgt := 24) dR_takesWord_19 rfl (fun h => absurd h (by decide)) (fun _ => ?_)
        refine V_iconst (v := 0) dR_takesWord_22 (by decide) ?_
        exact V_zret dR_takesWord_23 rfl rfl rfl (Or.inr ⟨by rw [hz], rfl, rfl, b, by rw [hz]; exact hS⟩)
    · refine V_one ?_
      have hz : wdP ch (wdL.getD 1 []) p = (false, p + 1) := by
        show wdP ch [109, 111, 114, 101, 32] p = _
        rw [wdP, if_pos hw0, wdP, if_neg hw1]
      refine V_if_ne (tgt := 24) dR_takesWord_19 rfl (fun h => absurd h (by decide)) (fun _ => ?_)
      refine V_iconst (v := 0) dR_takesWord_22 (by decide) ?_
      exact V_zret dR_takesWord_23 rfl rfl rfl (Or.inr ⟨by rw [hz], rfl, rfl, b, by rw [hz]; exact hS⟩)
  · refine V_one ?_
    have hz : wdP ch (wdL.getD 1 []) p = (false, p) := by
      show wdP ch [109, 111, 114, 101, 32] p = _
      rw [wdP, if_neg hw0]
    refine V_if_ne (tgt := 24) dR_takesWord_19 rfl (fun h => absurd h (by decide)) (fun _ => ?_)
    refine V_iconst (v := 0) dR_takesWord_22 (by decide) ?_
    exact V_zret dR_takesWord_23 rfl rfl rfl (Or.inr ⟨by rw [hz], rfl, rfl, b, by rw [hz]; exact hS⟩)
theorem c_rword2 {l : Launch} {G : GT} {ch : Nat → Nat} {σ s : Hp} {f n p b : Nat} {ops : List Nat} (hR0 : RF σ) (hf : f < 6) (hT : TX σ n ch) (hS : RS σ s f n p b ops) : MM l G mR_takesWord 4 0 0 [.ref 58, .float (UInt32.ofNat (10 + 2))] KA s (fun r k t => ((wdP ch (wdL.getD 2 []) p).1 = true ∧ r = some (.int 1) ∧ KA = k ∧ RS σ t f n (wdP ch (wdL.getD 2 []) p).2 b ops) ∨ ((wdP ch (wdL.getD 2 []) p).1 = false ∧ r = some (.int 0) ∧ KA = k ∧ ∃ b' : Nat, RS σ t f n (wdP ch (wdL.getD 2 []) p).2 b' ops)) := by
  have hR := hS.rf hR0
  have hTs := hS.tx hf hT
  have hle := hS.le
  have h100 := hT.1
  refine MM.of (loc := [(0, .ref 58), (1, .float (UInt32.ofNat (10 + 2)))]) (by decide +kernel) rfl (Nat.le_of_ble_eq_true rfl) ?_
  refine V_iconst (v := 0) dR_takesWord_0 (by decide) ?_
  refine V_istore_n (loc' := [(2, .int 0), (0, .ref 58), (1, .float (UInt32.ofNat (10 + 2)))]) dR_takesWord_1 (by decide) rfl ?_
  refine V_iload_n dR_takesWord_2 rfl ?_
  refine V_aload_nO dR_takesWord_3 rfl ?_
  refine V_callV (as := []) (rest := [.int 0]) (bs' := 0) rfl dR_takesWord_4 cmJS_length_8abf5 cvJS_length_8abf5 mlR_90 (Or.inr ⟨2, by decide, rfl, rfl⟩) rfl rfl (j_length (i := 2) (by decide)) (by decide) (Nat.le_refl _) (by decide) (Nat.le_of_ble_eq_true rfl) ?_
  rintro _ _ _ ⟨rfl, rfl, rfl⟩ -
  refine V_one ?_
  refine V_icmp_ge (tgt := 30) dR_takesWord_7 rfl (fun h => absurd h (by decide)) (fun _ => ?_)
  refine V_aload_n dR_takesWord_10 rfl ?_
  refine V_aload_nO dR_takesWord_11 rfl ?_
  refine V_iload_n dR_takesWord_12 rfl ?_
  refine V_callV (as := [.int 0]) (rest := [.ref 58]) (bs' := 0) rfl dR_takesWord_13 cmJS_charAt_5068e cvJS_charAt_5068e mlR_93 (Or.inr ⟨2, by decide, rfl, rfl⟩) rfl rfl (j_charAt (i := 2) (j := 0) (by decide) (by decide)) (by decide) (Nat.le_refl _) (by decide) (Nat.le_of_ble_eq_true rfl) ?_
  rintro _ _ _ ⟨rfl, rfl, rfl⟩ -
  refine V_one ?_
  refine V_callV (as := [.int (nI 116)]) (rest := []) (bs' := 0) rfl dR_takesWord_16 cmR_takes cvR_takes mlR_31 (Or.inl ⟨_, _, _, _, _, rfl, k58, by decide, rfl⟩) rfl rfl (c_rtakes hR0 hf hT hS (c := 116) (by decide)) (by decide) (Nat.le_refl _) (by decide) (Nat.le_of_ble_eq_true rfl) ?_
  rintro _ _ m0 (⟨hw0, rfl, rfl, hS⟩ | ⟨hw0, rfl, rfl, rfl⟩) -
  · refine V_one ?_
    have hR := hS.rf hR0
    have hTs := hS.tx hf hT
    refine V_if_ne (tgt := 24) dR_takesWord_19 rfl (fun _ => ?_) (fun h => absurd h (by decide))
    refine V_iinc (v := 1) (loc' := [(2, .int 1), (0, .ref 58), (1, .float (UInt32.ofNat (10 + 2)))]) dR_takesWord_24 rfl (by decide) (by decide) rfl ?_
    refine V_goto (tgt := 2) dR_takesWord_27 rfl ?_
    refine V_iload_n dR_takesWord_2 rfl ?_
    refine V_aload_nO dR_takesWord_3 rfl ?_
    refine V_callV (as := []) (rest := [.int 1]) (bs' := 0) rfl dR_takesWord_4 cmJS_length_8abf5 cvJS_length_8abf5 mlR_90 (Or.inr ⟨2, by decide, rfl, rfl⟩) rfl rfl (j_length (i := 2) (by decide)) (by decide) (Nat.le_refl _) (by decide) (Nat.le_of_ble_eq_true rfl) ?_
    rintro _ _ _ ⟨rfl, rfl, rfl⟩ -
    refine V_one ?_
    refine V_icmp_ge (tgt := 30) dR_takesWord_7 rfl (fun h => absurd h (by decide)) (fun _ => ?_)
    refine V_aload_n dR_takesWord_10 rfl ?_
    refine V_aload_nO dR_takesWord_11 rfl ?_
    refine V_iload_n dR_takesWord_12 rfl ?_
    refine V_callV (as := [.int 1]) (rest := [.ref 58]) (bs' := 0) rfl dR_takesWord_13 cmJS_charAt_5068e cvJS_charAt_5068e mlR_93 (Or.inr ⟨2, by decide, rfl, rfl⟩) rfl rfl (j_charAt (i := 2) (j := 1) (by decide) (by decide)) (by decide) (Nat.le_refl _) (by decide) (Nat.le_of_ble_eq_true rfl) ?_
    rintro _ _ _ ⟨rfl, rfl, rfl⟩ -
    refine V_one ?_
    refine V_callV (as := [.int (nI 97)]) (rest := []) (bs' := 0) rfl dR_takesWord_16 cmR_takes cvR_takes mlR_31 (Or.inl ⟨_, _, _, _, _, rfl, k58, by decide, rfl⟩) rfl rfl (c_rtakes hR0 hf hT hS (c := 97) (by decide)) (by decide) (Nat.le_refl _) (by decide) (Nat.le_of_ble_eq_true rfl) ?_
    rintro _ _ m1 (⟨hw1, rfl, rfl, hS⟩ | ⟨hw1, rfl, rfl, rfl⟩) -
    · refine V_one ?_
      have hR := hS.rf hR0
      have hTs := hS.tx hf hT
      refine V_if_ne (tgt := 24) dR_takesWord_19 rfl (fun _ => ?_) (fun h => absurd h (by decide))
      refine V_iinc (v := 2) (loc' := [(2, .int 2), (0, .ref 58), (1, .float (UInt32.ofNat (10 + 2)))]) dR_takesWord_24 rfl (by decide) (by decide) rfl ?_
      refine V_goto (tgt := 2) dR_takesWord_27 rfl ?_
      refine V_iload_n dR_takesWord_2 rfl ?_
      refine V_aload_nO dR_takesWord_3 rfl ?_
      refine V_callV (as := []) (rest := [.int 2]) (bs' := 0) rfl dR_takesWord_4 cmJS_length_8abf5 cvJS_length_8abf5 mlR_90 (Or.inr ⟨2, by decide, rfl, rfl⟩) rfl rfl (j_length (i := 2) (by decide)) (by decide) (Nat.le_refl _) (by decide) (Nat.le_of_ble_eq_true rfl) ?_
      rintro _ _ _ ⟨rfl, rfl, rfl⟩ -
      refine V_one ?_
      refine V_icmp_ge (tgt := 30) dR_takesWord_7 rfl (fun h => absurd h (by decide)) (fun _ => ?_)
      refine V_aload_n dR_takesWord_10 rfl ?_
      refine V_aload_nO dR_takesWord_11 rfl ?_
      refine V_iload_n dR_takesWord_12 rfl ?_
      refine V_callV (as := [.int 2]) (rest := [.ref 58]) (bs' := 0) rfl dR_takesWord_13 cmJS_charAt_5068e cvJS_charAt_5068e mlR_93 (Or.inr ⟨2, by decide, rfl, rfl⟩) rfl rfl (j_charAt (i := 2) (j := 2) (by decide) (by decide)) (by decide) (Nat.le_refl _) (by decide) (Nat.le_of_ble_eq_true rfl) ?_
      rintro _ _ _ ⟨rfl, rfl, rfl⟩ -
      refine V_one ?_
      refine V_callV (as := [.int (nI 120)]) (rest := []) (bs' := 0) rfl dR_takesWord_16 cmR_takes cvR_takes mlR_31 (Or.inl ⟨_, _, _, _, _, rfl, k58, by decide, rfl⟩) rfl rfl (c_rtakes hR0 hf hT hS (c := 120) (by decide)) (by decide) (Nat.le_refl _) (by decide) (Nat.le_of_ble_eq_true rfl) ?_
      rintro _ _ m2 (⟨hw2, rfl, rfl, hS⟩ | ⟨hw2, rfl, rfl, rfl⟩) -
      · refine V_one ?_
        have hR := hS.rf hR0
        have hTs := hS.tx hf hT
        refine V_if_ne (tgt := 24) dR_takesWord_19 rfl (fun _ => ?_) (fun h => absurd h (by decide))
        refine V_iinc (v := 3) (loc' := [(2, .int 3), (0, .ref 58), (1, .float (UInt32.ofNat (10 + 2)))]) dR_takesWord_24 rfl (by decide) (by decide) rfl ?_
        refine V_goto (tgt := 2) dR_takesWord_27 rfl ?_
        refine V_iload_n dR_takesWord_2 rfl ?_
        refine V_aload_nO dR_takesWord_3 rfl ?_
        refine V_callV (as := []) (rest := [.int 3]) (bs' := 0) rfl dR_takesWord_4 cmJS_length_8abf5 cvJS_length_8abf5 mlR_90 (Or.inr ⟨2, by decide, rfl, rfl⟩) rfl rfl (j_length (i := 2) (by decide)) (by decide) (Nat.le_refl _) (by decide) (Nat.le_of_ble_eq_true rfl) ?_
        rintro _ _ _ ⟨rfl, rfl, rfl⟩ -
        refine V_one ?_
        refine V_icmp_ge (tgt := 30) dR_takesWord_7 rfl (fun h => absurd h (by decide)) (fun _ => ?_)
        refine V_aload_n dR_takesWord_10 rfl ?_
        refine V_aload_nO dR_takesWord_11 rfl ?_
        refine V_iload_n dR_takesWord_12 rfl ?_
        refine V_callV (as := [.int 3]) (rest := [.ref 58]) (bs' := 0) rfl dR_takesWord_13 cmJS_charAt_5068e cvJS_charAt_5068e mlR_93 (Or.inr ⟨2, by decide, rfl, rfl⟩) rfl rfl (j_charAt (i := 2) (j := 3) (by decide) (by decide)) (by decide) (Nat.le_refl _) (by decide) (Nat.le_of_ble_eq_true rfl) ?_
        rintro _ _ _ ⟨rfl, rfl, rfl⟩ -
        refine V_one ?_
        refine V_callV (as := [.int (nI 32)]) (rest := []) (bs' := 0) rfl dR_takesWord_16 cmR_takes cvR_takes mlR_31 (Or.inl ⟨_, _, _, _, _, rfl, k58, by decide, rfl⟩) rfl rfl (c_rtakes hR0 hf hT hS (c := 32) (by decide)) (by decide) (Nat.le_refl _) (by decide) (Nat.le_of_ble_eq_true rfl) ?_
        rintro _ _ m3 (⟨hw3, rfl, rfl, hS⟩ | ⟨hw3, rfl, rfl, rfl⟩) -
        · refine V_one ?_
          have hR := hS.rf hR0
          have hTs := hS.tx hf hT
          refine V_if_ne (tgt := 24) dR_takesWord_19 rfl (fun _ => ?_) (fun h => absurd h (by decide))
          refine V_iinc (v := 4) (loc' := [(2, .int 4), (0, .ref 58), (1, .float (UInt32.ofNat (10 + 2)))]) dR_takesWord_24 rfl (by decide) (by decide) rfl ?_
          refine V_goto (tgt := 2) dR_takesWord_27 rfl ?_
          refine V_iload_n dR_takesWord_2 rfl ?_
          refine V_aload_nO dR_takesWord_3 rfl ?_
          refine V_callV (as := []) (rest := [.int 4]) (bs' := 0) rfl dR_takesWord_4 cmJS_length_8abf5 cvJS_length_8abf5 mlR_90 (Or.inr ⟨2, by decide, rfl, rfl⟩) rfl rfl (j_length (i := 2) (by decide)) (by decide) (Nat.le_refl _) (by decide) (Nat.le_of_ble_eq_true rfl) ?_
          rintro _ _ _ ⟨rfl, rfl, rfl⟩ -
          refine V_one ?_
          refine V_icmp_ge (tgt := 30) dR_takesWord_7 rfl (fun _ => ?_) (fun h => absurd h (by decide))
          refine V_iconst (v := 1) dR_takesWord_30 (by decide) ?_
          refine V_zret dR_takesWord_31 rfl rfl rfl ?_
          have hz : wdP ch (wdL.getD 2 []) p = (true, p + 1 + 1 + 1 + 1) := by
            show wdP ch [116, 97, 120, 32] p = _
            rw [wdP, if_pos hw0, wdP, if_pos hw1, wdP, if_pos hw2, wdP, if_pos hw3, wdP]
          rw [hz]
          exact Or.inl ⟨rfl, rfl, rfl, hS⟩
        · refine V_one ?_
          have hz : wdP ch (wdL.getD 2 []) p = (false, p + 1 + 1 + 1) := by
            show wdP ch [116, 97, 120, 32] p = _
            rw [wdP, if_pos hw0, wdP, if_pos hw1, wdP, if_pos hw2, wdP, if_neg hw3]
          refine V_if_ne (tgt := 24) dR_takesWord_19 rfl (fun h => absurd h (by decide)) (fun _ => ?_)
          refine V_iconst (v := 0) dR_takesWord_22 (by decide) ?_
          exact V_zret dR_takesWord_23 rfl rfl rfl (Or.inr ⟨by rw [hz], rfl, rfl, b, by rw [hz]; exact hS⟩)
      · refine V_one ?_
        have hz : wdP ch (wdL.getD 2 []) p = (false, p + 1 + 1) := by
          show wdP ch [116, 97, 120, 32] p = _
          rw [wdP, if_pos hw0, wdP, if_pos hw1, wdP, if_neg hw2]
        refine V_if_ne (tgt := 24) dR_takesWord_19 rfl (fun h => absurd h (by decide)) (fun _ => ?_)
        refine V_iconst (v := 0) dR_takesWord_22 (by decide) ?_
        exact V_zret dR_takesWord_23 rfl rfl rfl (Or.inr ⟨by rw [hz], rfl, rfl, b, by rw [hz]; exact hS⟩)
    · refine V_one ?_
      have hz : wdP ch (wdL.getD 2 []) p = (false, p + 1) := by
        show wdP ch [116, 97, 120, 32] p = _
        rw [wdP, if_pos hw0, wdP, if_neg hw1]
      refine V_if_ne (tgt := 24) dR_takesWord_19 rfl (fun h => absurd h (by decide)) (fun _ => ?_)
      refine V_iconst (v := 0) dR_takesWord_22 (by decide) ?_
      exact V_zret dR_takesWord_23 rfl rfl rfl (Or.inr ⟨by rw [hz], rfl, rfl, b, by rw [hz]; exact hS⟩)
  · refine V_one ?_
    have hz : wdP ch (wdL.getD 2 []) p = (false, p) := by
      show wdP ch [116, 97, 120, 32] p = _
      rw [wdP, if_neg hw0]
    refine V_if_ne (tgt := 24) dR_takesWord_19 rfl (fun h => absurd h (by decide)) (fun _ => ?_)
    refine V_iconst (v := 0) dR_takesWord_22 (by decide) ?_
    exact V_zret dR_takesWord_23 rfl rfl rfl (Or.inr ⟨by rw [hz], rfl, rfl, b, by rw [hz]; exact hS⟩)
