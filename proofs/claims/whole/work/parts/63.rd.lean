/-! the reader of the first object: clauses, a law -/
def CPo (σ : Hp) (f n b : Nat) (ops : List Nat) (c : Rc) : Option Value → List Kd → Hp → Prop := fun r k t => (c.1 = true ∧ r = some (.int 1) ∧ KA = k ∧ RS σ t f n c.2.1 (bsC b c) (opC ops c)) ∨ (c.1 = false ∧ r = some (.int 0) ∧ KA = k ∧ ∃ (b' : Nat) (o : List Nat), RS σ t f n c.2.1 b' o)
def LPo (σ : Hp) (f n : Nat) (w : Rw) : Option Value → List Kd → Hp → Prop := fun r k t => (w.1 = true ∧ r = some (.int 1) ∧ KA = k ∧ RS σ t f n w.2.1 w.2.2.1 w.2.2.2.1) ∨ (w.1 = false ∧ r = some (.int 0) ∧ KA = k ∧ ∃ (b' : Nat) (o : List Nat), RS σ t f n w.2.1 b' o)
theorem enc_big {op : Nat} (h : op < 30000) : encC op = nI op := by
  unfold encC
  rw [if_neg (by omega), if_neg (by omega), if_neg (by omega)]
section CLS
variable {ch : Nat → Nat} {p i : Nat}
theorem cl_w (hi : wdI ch p = i) (h : (wdP ch (wdL.getD i []) p).1 = false) : clP ch p = (false, (wdP ch (wdL.getD i []) p).2, 0, 0, [], []) := by
  unfold clP
  rw [hi, if_neg (by rw [h]; decide)]
theorem cl_n (hi : wdI ch p = i) (h : (wdP ch (wdL.getD i []) p).1 = true) (h2 : nuL ch (wdP ch (wdL.getD i []) p).2 = 0) : clP ch p = (false, (wdP ch (wdL.getD i []) p).2, 0, 0, [], []) := by
  unfold clP cl2
  rw [hi, if_pos h, if_pos h2]
theorem cl_b (hi : wdI ch p = 0) (h : (wdP ch (wdL.getD 0 []) p).1 = true) (h2 : 0 < nuL ch (wdP ch (wdL.getD 0 []) p).2) : clP ch p = (true, (wdP ch (wdL.getD 0 []) p).2 + nuL ch (wdP ch (wdL.getD 0 []) p).2, 2, nuV ch (wdP ch (wdL.getD 0 []) p).2, [], []) := by
  unfold clP cl2
  rw [hi, if_pos h, if_neg (by omega), if_pos rfl]
theorem cl_s (hi : wdI ch p = i) (h : (wdP ch (wdL.getD i []) p).1 = true) (h2 : 0 < nuL ch (wdP ch (wdL.getD i []) p).2) (h3 : i ≠ 0) (h4 : ¬ ch ((wdP ch (wdL.getD i []) p).2 + nuL ch (wdP ch (wdL.getD i []) p).2) = 32) : clP ch p = (false, (wdP ch (wdL.getD i []) p).2 + nuL ch (wdP ch (wdL.getD i []) p).2, 0, 0, [], []) := by
  unfold clP cl2 cl3
  rw [hi, if_pos h, if_neg (by omega), if_neg h3, if_neg h4]
theorem cl_e (hi : wdI ch p = i) (h : (wdP ch (wdL.getD i []) p).1 = true) (h2 : 0 < nuL ch (wdP ch (wdL.getD i []) p).2) (h3 : i ≠ 0) (h4 : ch ((wdP ch (wdL.getD i []) p).2 + nuL ch (wdP ch (wdL.getD i []) p).2) = 32) : clP ch p = ePr (knd i) (nuV ch (wdP ch (wdL.getD i []) p).2) (anK ch 4 ((wdP ch (wdL.getD i []) p).2 + nuL ch (wdP ch (wdL.getD i []) p).2 + 1)) := by
  unfold clP cl2 cl3
  rw [hi, if_pos h, if_neg (by omega), if_neg h3, if_pos h4]
end CLS
theorem RS.init {σ : Hp} {f n : Nat} (hf : f < 6) : RS σ (si (si (si (sr (si σ 58 1 (nI n)) 58 2 (some (50 + f))) 58 3 0) 58 4 0) 58 5 10) f n 0 10 [] := by
  refine ⟨fun k j hk hk2 => ?_, fun _ _ => rfl, fun k j h => ?_, ?_, ?_, ?_, ?_, ?_, fun j op h => ?_, Nat.zero_le _⟩
  · show gi (si (si (si (si σ 58 1 (nI n)) 58 3 0) 58 4 0) 58 5 10) k j = _
    rw [gi_ne hk, gi_ne hk, gi_ne hk, gi_ne hk]
  · show (if k = 58 ∧ j = 2 then some (50 + f) else gr σ k j) = _
    rw [if_neg h]
  · show (if (58 : Nat) = 58 ∧ (2 : Nat) = 2 then some (50 + f) else gr σ 58 2) = _
    rw [if_pos ⟨rfl, rfl⟩]
  · show gi (si (si (si (si σ 58 1 (nI n)) 58 3 0) 58 4 0) 58 5 10) 58 1 = _
    rw [gi_nj (by decide), gi_nj (by decide), gi_nj (by decide), gi_eq]
  · show gi (si (si (si (si σ 58 1 (nI n)) 58 3 0) 58 4 0) 58 5 10) 58 3 = _
    rw [gi_nj (by decide), gi_nj (by decide), gi_eq]
    rfl
  · show gi (si (si (si (si σ 58 1 (nI n)) 58 3 0) 58 4 0) 58 5 10) 58 4 = _
    rw [gi_nj (by decide), gi_eq]
    rfl
  · rw [gi_eq]
    rfl
  · cases h
theorem c_rclause {l : Launch} {G : GT} {ch : Nat → Nat} {σ s : Hp} {f n p b : Nat} {ops : List Nat} (hR0 : RF σ) (hf : f < 6) (hT : TX σ n ch) (hS : RS σ s f n p b ops) (hl : ops.length ≤ p) : MM l G mR_clause 15 0 0 [.ref 58] KA s (CPo σ f n b ops (clP ch p)) := by
  have hR := hS.rf hR0
  have hTs := hS.tx hf hT
  have hle := hS.le
  have h100 := hT.1
  refine MM.of (loc := [(0, .ref 58)]) (by decide +kernel) rfl (Nat.le_of_ble_eq_true rfl) ?_
  have hc := tx_n hT p
  by_cases h1 : ch p = 109
  · have hi : wdI ch p = 1 := if_pos h1
    refine V_aload_n dR_clause_0 rfl ?_
    refine V_callV (as := []) (rest := []) (bs' := 0) rfl dR_clause_1 cmR_sign cvR_sign mlR_39 (Or.inl ⟨_, _, _, _, _, rfl, k58, by decide, rfl⟩) rfl rfl (c_rsign hR0 hf hT hS) (by decide) (Nat.le_refl _) (by decide) (Nat.le_of_ble_eq_true rfl) ?_
    rintro _ _ _ ⟨rfl, rfl, rfl⟩ -
    refine V_one ?_
    refine V_istore_n (loc' := [(1, .int (nI (ch p))), (0, .ref 58)]) dR_clause_4 (by decide) rfl ?_
    refine V_iload_n dR_clause_5 rfl ?_
    refine V_bipush (v := 109) dR_clause_6 (by decide) ?_
    refine V_icmp_eq (tgt := 39) dR_clause_8 rfl (fun _ => ?_) (fun h => absurd h (not_not_intro (by rw [h1]; rfl)))
    refine V_iload_n dR_clause_39 rfl ?_
    refine V_bipush (v := 109) dR_clause_40 (by decide) ?_
    refine V_icmp_ne (tgt := 51) dR_clause_42 rfl (fun h => absurd h (not_not_intro (by rw [h1]; rfl))) (fun _ => ?_)
    refine V_sipush (v := 10000) dR_clause_45 (by decide) ?_
    refine V_goto (tgt := 54) dR_clause_48 rfl ?_
    refine V_istore_n (loc' := [(2, .int 10000), (1, .int (nI (ch p))), (0, .ref 58)]) dR_clause_54 (by decide) rfl ?_
    refine V_aload_n dR_clause_55 rfl ?_
    refine V_iload_n dR_clause_56 rfl ?_
    refine V_bipush (v := 109) dR_clause_57 (by decide) ?_
    refine V_icmp_ne (tgt := 67) dR_clause_59 rfl (fun h => absurd h (not_not_intro (by rw [h1]; rfl))) (fun _ => ?_)
    refine V_ldcS (i := 1) (tx := "more ") rfl (by decide) rfl dR_clause_62 ?_
    refine V_goto (tgt := 69) dR_clause_64 rfl ?_
    refine V_callV (as := [.float (UInt32.ofNat (10 + 1))]) (rest := []) (bs' := 0) rfl dR_clause_69 cmR_takesWord cvR_takesWord mlR_45 (Or.inl ⟨_, _, _, _, _, rfl, k58, by decide, rfl⟩) rfl rfl (c_rword1 hR0 hf hT hS) (by decide) (Nat.le_refl _) (by decide) (Nat.le_of_ble_eq_true rfl) ?_
    rintro _ _ mw (⟨hw, rfl, rfl, hS⟩ | ⟨hw, rfl, rfl, b2, hS⟩) -
    · refine V_one ?_
      have hR := hS.rf hR0
      have hTs := hS.tx hf hT
      have hlw := hS.le
      refine V_if_eq (tgt := 82) dR_clause_72 rfl (fun h => absurd h (by decide)) (fun _ => ?_)
      refine V_aload_n dR_clause_75 rfl ?_
      refine V_callV (as := []) (rest := []) (bs' := 0) rfl dR_clause_76 cmR_takesNumber cvR_takesNumber mlR_58 (Or.inl ⟨_, _, _, _, _, rfl, k58, by decide, rfl⟩) rfl rfl (c_rnumber hR0 hf hT hS) (by decide) (Nat.le_refl _) (by decide) (Nat.le_of_ble_eq_true rfl) ?_
      rintro _ _ mn (⟨hn, rfl, rfl, hS, hnum⟩ | ⟨hn, rfl, rfl, hS⟩) -
      · refine V_one ?_
        have hR := hS.rf hR0
        have hTs := hS.tx hf hT
        have hln := hS.le
        refine V_if_ne (tgt := 84) dR_clause_79 rfl (fun _ => ?_) (fun h => absurd h (by decide))
        refine V_iload_n dR_clause_84 rfl ?_
        refine V_aload_n dR_clause_85 rfl ?_
        refine V_getE (x := nI (nuV ch ((wdP ch (wdL.getD 1 []) p).2))) dR_clause_86 flR_61 k58 rfl hnum ?_
        refine V_iadd dR_clause_89 ?_
        refine V_topI (x' := nI (10000 + nuV ch ((wdP ch (wdL.getD 1 []) p).2))) (nI_add 10000 _) ?_
        refine V_istore_n (loc' := [(3, .int (nI (10000 + nuV ch ((wdP ch (wdL.getD 1 []) p).2)))), (2, .int 10000), (1, .int (nI (ch p))), (0, .ref 58)]) dR_clause_90 (by decide) rfl ?_
        refine V_aload_n dR_clause_91 rfl ?_
        refine V_bipush (v := 32) dR_clause_92 (by decide) ?_
        refine V_callV (as := [.int 32]) (rest := []) (bs' := 0) rfl dR_clause_94 cmR_takes cvR_takes mlR_31 (Or.inl ⟨_, _, _, _, _, rfl, k58, by decide, rfl⟩) rfl rfl (c_rtakes hR0 hf hT hS (c := 32) (by decide)) (by decide) (Nat.le_refl _) (by decide) (Nat.le_of_ble_eq_true rfl) ?_
        rintro _ _ ms (⟨hs, rfl, rfl, hS⟩ | ⟨hs, rfl, rfl, rfl⟩) -
        · refine V_one ?_
          have hR := hS.rf hR0
          have hTs := hS.tx hf hT
          have hls := hS.le
          refine V_if_eq (tgt := 120) dR_clause_97 rfl (fun h => absurd h (by decide)) (fun _ => ?_)
          refine V_aload_n dR_clause_100 rfl ?_
          refine V_iconst (v := 0) dR_clause_101 (by decide) ?_
          refine V_callV (as := [.int 0]) (rest := []) (bs' := 0) rfl dR_clause_102 cmR_any cvR_any mlR_64 (Or.inl ⟨_, _, _, _, _, rfl, k58, by decide, rfl⟩) rfl rfl (c_rany4 hR0 hf hT hS (by have := wd_gd hT.2.2 (wdL.getD 1 []) p (wdL_ne 1 (by decide)).1 hle; omega)) (by decide) (Nat.le_refl _) (by decide) (Nat.le_of_ble_eq_true rfl) ?_
          rintro _ _ mA (⟨haA, rfl, rfl, hS⟩ | ⟨haA, rfl, rfl, b2, o2, hS⟩) -
          · refine V_one ?_
            have hR := hS.rf hR0
            have hTs := hS.tx hf hT
            have hleA := hS.le
            refine V_if_eq (tgt := 120) dR_clause_105 rfl (fun h => absurd h (by decide)) (fun _ => ?_)
            refine V_aload_n dR_clause_108 rfl ?_
            refine V_iload_n dR_clause_109 rfl ?_
            refine V_callV (as := [.int (nI (10000 + nuV ch ((wdP ch (wdL.getD 1 []) p).2)))]) (rest := []) (bs' := 0) rfl dR_clause_110 cmR_writes cvR_writes mlR_68 (Or.inl ⟨_, _, _, _, _, rfl, k58, by decide, rfl⟩) rfl rfl (c_rwrites hR0 hf hT hS (op := (10000 + nuV ch ((wdP ch (wdL.getD 1 []) p).2))) (by have hv := nuV_lt (ch := ch) ((wdP ch (wdL.getD 1 []) p).2); rw [enc_big (by omega)]) (by have hw9 := wd_gd hT.2.2 (wdL.getD 1 []) p (wdL_ne 1 (by decide)).1 hle; have hg := (anK_gd hT.2.2 4 (q := (wdP ch (wdL.getD 1 []) p).2 + nuL ch ((wdP ch (wdL.getD 1 []) p).2) + 1) (by omega)).2.2 haA; rw [List.length_append]; omega)) (by decide) (Nat.le_refl _) (by decide) (Nat.le_of_ble_eq_true rfl) ?_
            rintro _ _ m110 ⟨rfl, rfl, hS⟩ -
            refine V_one ?_
            have hR := hS.rf hR0
            have hTs := hS.tx hf hT
            refine V_if_eq (tgt := 120) dR_clause_113 rfl (fun h => absurd h (by decide)) (fun _ => ?_)
            refine V_iconst (v := 1) dR_clause_116 (by decide) ?_
            refine V_goto (tgt := 121) dR_clause_117 rfl ?_
            refine V_zret dR_clause_121 rfl rfl rfl ?_
            rw [cl_e hi hw hn (by decide) hs]
            exact Or.inl ⟨haA, rfl, rfl, hS⟩
          · refine V_one ?_
            refine V_if_eq (tgt := 120) dR_clause_105 rfl (fun _ => ?_) (fun h => absurd h (by decide))
            refine V_iconst (v := 0) dR_clause_120 (by decide) ?_
            refine V_zret dR_clause_121 rfl rfl rfl ?_
            rw [cl_e hi hw hn (by decide) hs]
            exact Or.inr ⟨haA, rfl, rfl, b2, o2, hS⟩
        · refine V_one ?_
          refine V_if_eq (tgt := 120) dR_clause_97 rfl (fun _ => ?_) (fun h => absurd h (by decide))
          refine V_iconst (v := 0) dR_clause_120 (by decide) ?_
          refine V_zret dR_clause_121 rfl rfl rfl ?_
          rw [cl_s hi hw hn (by decide) hs]
          exact Or.inr ⟨rfl, rfl, rfl, b, ops, hS⟩
      · refine V_one ?_
        have hR := hS.rf hR0
        have hTs := hS.tx hf hT
        refine V_if_ne (tgt := 84) dR_clause_79 rfl (fun h => absurd h (by decide)) (fun _ => ?_)
        refine V_iconst (v := 0) dR_clause_82 (by decide) ?_
        refine V_zret dR_clause_83 rfl rfl rfl ?_
        rw [cl_n hi hw hn]
        exact Or.inr ⟨rfl, rfl, rfl, b, ops, hS⟩
    · refine V_one ?_
      refine V_if_eq (tgt := 82) dR_clause_72 rfl (fun _ => ?_) (fun h => absurd h (by decide))
      refine V_iconst (v := 0) dR_clause_82 (by decide) ?_
      refine V_zret dR_clause_83 rfl rfl rfl ?_
      rw [cl_w hi hw]
      exact Or.inr ⟨rfl, rfl, rfl, b2, ops, hS⟩
  by_cases h2 : ch p = 116
  · have hi : wdI ch p = 2 := (if_neg h1).trans (if_pos h2)
    refine V_aload_n dR_clause_0 rfl ?_
    refine V_callV (as := []) (rest := []) (bs' := 0) rfl dR_clause_1 cmR_sign cvR_sign mlR_39 (Or.inl ⟨_, _, _, _, _, rfl, k58, by decide, rfl⟩) rfl rfl (c_rsign hR0 hf hT hS) (by decide) (Nat.le_refl _) (by decide) (Nat.le_of_ble_eq_true rfl) ?_
    rintro _ _ _ ⟨rfl, rfl, rfl⟩ -
    refine V_one ?_
    refine V_istore_n (loc' := [(1, .int (nI (ch p))), (0, .ref 58)]) dR_clause_4 (by decide) rfl ?_
    refine V_iload_n dR_clause_5 rfl ?_
    refine V_bipush (v := 109) dR_clause_6 (by decide) ?_
    refine V_icmp_eq (tgt := 39) dR_clause_8 rfl (fun h => absurd h (by rw [h2]; decide)) (fun _ => ?_)
    refine V_iload_n dR_clause_11 rfl ?_
    refine V_bipush (v := 116) dR_clause_12 (by decide) ?_
    refine V_icmp_eq (tgt := 39) dR_clause_14 rfl (fun _ => ?_) (fun h => absurd h (not_not_intro (by rw [h2]; rfl)))
    refine V_iload_n dR_clause_39 rfl ?_
    refine V_bipush (v := 109) dR_clause_40 (by decide) ?_
    refine V_icmp_ne (tgt := 51) dR_clause_42 rfl (fun _ => ?_) (fun h => absurd h (by rw [h2]; decide))
    refine V_sipush (v := 20000) dR_clause_51 (by decide) ?_
    refine V_istore_n (loc' := [(2, .int 20000), (1, .int (nI (ch p))), (0, .ref 58)]) dR_clause_54 (by decide) rfl ?_
    refine V_aload_n dR_clause_55 rfl ?_
    refine V_iload_n dR_clause_56 rfl ?_
    refine V_bipush (v := 109) dR_clause_57 (by decide) ?_
    refine V_icmp_ne (tgt := 67) dR_clause_59 rfl (fun _ => ?_) (fun h => absurd h (by rw [h2]; decide))
    refine V_ldcS (i := 2) (tx := "tax ") rfl (by decide) rfl dR_clause_67 ?_
    refine V_callV (as := [.float (UInt32.ofNat (10 + 2))]) (rest := []) (bs' := 0) rfl dR_clause_69 cmR_takesWord cvR_takesWord mlR_45 (Or.inl ⟨_, _, _, _, _, rfl, k58, by decide, rfl⟩) rfl rfl (c_rword2 hR0 hf hT hS) (by decide) (Nat.le_refl _) (by decide) (Nat.le_of_ble_eq_true rfl) ?_
    rintro _ _ mw (⟨hw, rfl, rfl, hS⟩ | ⟨hw, rfl, rfl, b2, hS⟩) -
    · refine V_one ?_
      have hR := hS.rf hR0
      have hTs := hS.tx hf hT
      have hlw := hS.le
      refine V_if_eq (tgt := 82) dR_clause_72 rfl (fun h => absurd h (by decide)) (fun _ => ?_)
      refine V_aload_n dR_clause_75 rfl ?_
      refine V_callV (as := []) (rest := []) (bs' := 0) rfl dR_clause_76 cmR_takesNumber cvR_takesNumber mlR_58 (Or.inl ⟨_, _, _, _, _, rfl, k58, by decide, rfl⟩) rfl rfl (c_rnumber hR0 hf hT hS) (by decide) (Nat.le_refl _) (by decide) (Nat.le_of_ble_eq_true rfl) ?_
      rintro _ _ mn (⟨hn, rfl, rfl, hS, hnum⟩ | ⟨hn, rfl, rfl, hS⟩) -
      · refine V_one ?_
        have hR := hS.rf hR0
        have hTs := hS.tx hf hT
        have hln := hS.le
        refine V_if_ne (tgt := 84) dR_clause_79 rfl (fun _ => ?_) (fun h => absurd h (by decide))
        refine V_iload_n dR_clause_84 rfl ?_
        refine V_aload_n dR_clause_85 rfl ?_
        refine V_getE (x := nI (nuV ch ((wdP ch (wdL.getD 2 []) p).2))) dR_clause_86 flR_61 k58 rfl hnum ?_
        refine V_iadd dR_clause_89 ?_
        refine V_topI (x' := nI (20000 + nuV ch ((wdP ch (wdL.getD 2 []) p).2))) (nI_add 20000 _) ?_
        refine V_istore_n (loc' := [(3, .int (nI (20000 + nuV ch ((wdP ch (wdL.getD 2 []) p).2)))), (2, .int 20000), (1, .int (nI (ch p))), (0, .ref 58)]) dR_clause_90 (by decide) rfl ?_
        refine V_aload_n dR_clause_91 rfl ?_
        refine V_bipush (v := 32) dR_clause_92 (by decide) ?_
        refine V_callV (as := [.int 32]) (rest := []) (bs' := 0) rfl dR_clause_94 cmR_takes cvR_takes mlR_31 (Or.inl ⟨_, _, _, _, _, rfl, k58, by decide, rfl⟩) rfl rfl (c_rtakes hR0 hf hT hS (c := 32) (by decide)) (by decide) (Nat.le_refl _) (by decide) (Nat.le_of_ble_eq_true rfl) ?_
        rintro _ _ ms (⟨hs, rfl, rfl, hS⟩ | ⟨hs, rfl, rfl, rfl⟩) -
        · refine V_one ?_
          have hR := hS.rf hR0
          have hTs := hS.tx hf hT
          have hls := hS.le
          refine V_if_eq (tgt := 120) dR_clause_97 rfl (fun h => absurd h (by decide)) (fun _ => ?_)
          refine V_aload_n dR_clause_100 rfl ?_
          refine V_iconst (v := 0) dR_clause_101 (by decide) ?_
          refine V_callV (as := [.int 0]) (rest := []) (bs' := 0) rfl dR_clause_102 cmR_any cvR_any mlR_64 (Or.inl ⟨_, _, _, _, _, rfl, k58, by decide, rfl⟩) rfl rfl (c_rany4 hR0 hf hT hS (by have := wd_gd hT.2.2 (wdL.getD 2 []) p (wdL_ne 2 (by decide)).1 hle; omega)) (by decide) (Nat.le_refl _) (by decide) (Nat.le_of_ble_eq_true rfl) ?_
          rintro _ _ mA (⟨haA, rfl, rfl, hS⟩ | ⟨haA, rfl, rfl, b2, o2, hS⟩) -
          · refine V_one ?_
            have hR := hS.rf hR0
            have hTs := hS.tx hf hT
            have hleA := hS.le
            refine V_if_eq (tgt := 120) dR_clause_105 rfl (fun h => absurd h (by decide)) (fun _ => ?_)
            refine V_aload_n dR_clause_108 rfl ?_
            refine V_iload_n dR_clause_109 rfl ?_
            refine V_callV (as := [.int (nI (20000 + nuV ch ((wdP ch (wdL.getD 2 []) p).2)))]) (rest := []) (bs' := 0) rfl dR_clause_110 cmR_writes cvR_writes mlR_68 (Or.inl ⟨_, _, _, _, _, rfl, k58, by decide, rfl⟩) rfl rfl (c_rwrites hR0 hf hT hS (op := (20000 + nuV ch ((wdP ch (wdL.getD 2 []) p).2))) (by have hv := nuV_lt (ch := ch) ((wdP ch (wdL.getD 2 []) p).2); rw [enc_big (by omega)]) (by have hw9 := wd_gd hT.2.2 (wdL.getD 2 []) p (wdL_ne 2 (by decide)).1 hle; have hg := (anK_gd hT.2.2 4 (q := (wdP ch (wdL.getD 2 []) p).2 + nuL ch ((wdP ch (wdL.getD 2 []) p).2) + 1) (by omega)).2.2 haA; rw [List.length_append]; omega)) (by decide) (Nat.le_refl _) (by decide) (Nat.le_of_ble_eq_true rfl) ?_
            rintro _ _ m110 ⟨rfl, rfl, hS⟩ -
            refine V_one ?_
            have hR := hS.rf hR0
            have hTs := hS.tx hf hT
            refine V_if_eq (tgt := 120) dR_clause_113 rfl (fun h => absurd h (by decide)) (fun _ => ?_)
            refine V_iconst (v := 1) dR_clause_116 (by decide) ?_
            refine V_goto (tgt := 121) dR_clause_117 rfl ?_
            refine V_zret dR_clause_121 rfl rfl rfl ?_
            rw [cl_e hi hw hn (by decide) hs]
            exact Or.inl ⟨haA, rfl, rfl, hS⟩
          · refine V_one ?_
            refine V_if_eq (tgt := 120) dR_clause_105 rfl (fun _ => ?_) (fun h => absurd h (by decide))
            refine V_iconst (v := 0) dR_clause_120 (by decide) ?_
            refine V_zret dR_clause_121 rfl rfl rfl ?_
            rw [cl_e hi hw hn (by decide) hs]
            exact Or.inr ⟨haA, rfl, rfl, b2, o2, hS⟩
        · refine V_one ?_
          refine V_if_eq (tgt := 120) dR_clause_97 rfl (fun _ => ?_) (fun h => absurd h (by decide))
          refine V_iconst (v := 0) dR_clause_120 (by decide) ?_
          refine V_zret dR_clause_121 rfl rfl rfl ?_
          rw [cl_s hi hw hn (by decide) hs]
          exact Or.inr ⟨rfl, rfl, rfl, b, ops, hS⟩
      · refine V_one ?_
        have hR := hS.rf hR0
        have hTs := hS.tx hf hT
        refine V_if_ne (tgt := 84) dR_clause_79 rfl (fun h => absurd h (by decide)) (fun _ => ?_)
        refine V_iconst (v := 0) dR_clause_82 (by decide) ?_
        refine V_zret dR_clause_83 rfl rfl rfl ?_
        rw [cl_n hi hw hn]
        exact Or.inr ⟨rfl, rfl, rfl, b, ops, hS⟩
    · refine V_one ?_
      refine V_if_eq (tgt := 82) dR_clause_72 rfl (fun _ => ?_) (fun h => absurd h (by decide))
      refine V_iconst (v := 0) dR_clause_82 (by decide) ?_
      refine V_zret dR_clause_83 rfl rfl rfl ?_
      rw [cl_w hi hw]
      exact Or.inr ⟨rfl, rfl, rfl, b2, ops, hS⟩
  · have hi : wdI ch p = 0 := (if_neg h1).trans (if_neg h2)
    refine V_aload_n dR_clause_0 rfl ?_
    refine V_callV (as := []) (rest := []) (bs' := 0) rfl dR_clause_1 cmR_sign cvR_sign mlR_39 (Or.inl ⟨_, _, _, _, _, rfl, k58, by decide, rfl⟩) rfl rfl (c_rsign hR0 hf hT hS) (by decide) (Nat.le_refl _) (by decide) (Nat.le_of_ble_eq_true rfl) ?_
    rintro _ _ _ ⟨rfl, rfl, rfl⟩ -
    refine V_one ?_
    refine V_istore_n (loc' := [(1, .int (nI (ch p))), (0, .ref 58)]) dR_clause_4 (by decide) rfl ?_
    refine V_iload_n dR_clause_5 rfl ?_
    refine V_bipush (v := 109) dR_clause_6 (by decide) ?_
    refine V_icmp_eq (tgt := 39) dR_clause_8 rfl (fun h => absurd h (fun e => h1 ((nI_eq (a := ch p) (b := 109) (by omega) (by decide)).mp e))) (fun _ => ?_)
    refine V_iload_n dR_clause_11 rfl ?_
    refine V_bipush (v := 116) dR_clause_12 (by decide) ?_
    refine V_icmp_eq (tgt := 39) dR_clause_14 rfl (fun h => absurd h (fun e => h2 ((nI_eq (a := ch p) (b := 116) (by omega) (by decide)).mp e))) (fun _ => ?_)
    refine V_aload_n dR_clause_17 rfl ?_
    refine V_ldcS (i := 0) (tx := "base ") rfl (by decide) rfl dR_clause_18 ?_
    refine V_callV (as := [.float (UInt32.ofNat (10 + 0))]) (rest := []) (bs' := 0) rfl dR_clause_20 cmR_takesWord cvR_takesWord mlR_45 (Or.inl ⟨_, _, _, _, _, rfl, k58, by decide, rfl⟩) rfl rfl (c_rword0 hR0 hf hT hS) (by decide) (Nat.le_refl _) (by decide) (Nat.le_of_ble_eq_true rfl) ?_
    rintro _ _ mw (⟨hw, rfl, rfl, hS⟩ | ⟨hw, rfl, rfl, b2, hS⟩) -
    · refine V_one ?_
      have hR := hS.rf hR0
      have hTs := hS.tx hf hT
      have hlw := hS.le
      refine V_if_eq (tgt := 37) dR_clause_23 rfl (fun h => absurd h (by decide)) (fun _ => ?_)
      refine V_aload_n dR_clause_26 rfl ?_
      refine V_callV (as := []) (rest := []) (bs' := 0) rfl dR_clause_27 cmR_takesBase cvR_takesBase mlR_49 (Or.inl ⟨_, _, _, _, _, rfl, k58, by decide, rfl⟩) rfl rfl (c_rbase hR0 hf hT hS) (by decide) (Nat.le_refl _) (by decide) (Nat.le_of_ble_eq_true rfl) ?_
      rintro _ _ mn (⟨hn, rfl, rfl, hS⟩ | ⟨hn, rfl, rfl, hS⟩) -
      · refine V_one ?_
        refine V_if_eq (tgt := 37) dR_clause_30 rfl (fun h => absurd h (by decide)) (fun _ => ?_)
        refine V_iconst (v := 1) dR_clause_33 (by decide) ?_
        refine V_goto (tgt := 38) dR_clause_34 rfl ?_
        refine V_zret dR_clause_38 rfl rfl rfl ?_
        rw [cl_b hi hw hn]
        exact Or.inl ⟨rfl, rfl, rfl, hS⟩
      · refine V_one ?_
        refine V_if_eq (tgt := 37) dR_clause_30 rfl (fun _ => ?_) (fun h => absurd h (by decide))
        refine V_iconst (v := 0) dR_clause_37 (by decide) ?_
        refine V_zret dR_clause_38 rfl rfl rfl ?_
        rw [cl_n hi hw hn]
        exact Or.inr ⟨rfl, rfl, rfl, b, ops, hS⟩
    · refine V_one ?_
      refine V_if_eq (tgt := 37) dR_clause_23 rfl (fun _ => ?_) (fun h => absurd h (by decide))
      refine V_iconst (v := 0) dR_clause_37 (by decide) ?_
      refine V_zret dR_clause_38 rfl rfl rfl ?_
      rw [cl_w hi hw]
      exact Or.inr ⟨rfl, rfl, rfl, b2, ops, hS⟩
theorem c_rreads {l : Launch} {G : GT} {ch : Nat → Nat} {σ : Hp} {f n : Nat} (hR0 : RF σ) (hf : f < 6) (hT : TX σ n ch) : MM l G mR_reads 16 0 0 [.ref 58, .int (nI n), .ref (50 + f)] KA σ (LPo σ f n (lwP ch n 10 0 0 10 [] [])) := by
  have hR := hR0
  have h100 := hT.1
  refine MM.of (loc := [(0, .ref 58), (1, .int (nI n)), (2, .ref (50 + f))]) (by decide +kernel) rfl (Nat.le_of_ble_eq_true rfl) ?_
  have lp : ∀ (F i : Nat), F + i = 10 → ∀ (q b : Nat) (ops : List Nat) (cs : List Rc) (s : Hp), RS σ s f n q b ops → ops.length ≤ q → V l G mR_reads (rmd 16 0 0) (KA.length + 0) 0 28 [(3, .int (nI i)), (0, .ref 58), (1, .int (nI n)), (2, .ref (50 + f))] [] KA s (LPo σ f n (lwP ch n F i q b ops cs)) := by
    intro F
    induction F with
    | zero =>
      intro i hi q b ops cs s hS hlen
      have hi2 : i = 10 := by omega
      subst hi2
      refine V_iload_n dR_reads_28 rfl ?_
      refine V_bipush (v := 10) dR_reads_29 (by decide) ?_
      refine V_icmp_ge (tgt := 75) dR_reads_31 rfl (fun _ => ?_) (fun h => absurd h (not_not_intro (nI_le (a := 10) (b := 10) (by decide) (by decide))))
      refine V_iconst (v := 0) dR_reads_75 (by decide) ?_
      exact V_zret dR_reads_76 rfl rfl rfl (Or.inr ⟨rfl, rfl, rfl, b, ops, hS⟩)
    | succ F ih =>
      intro i hi q b ops cs s hS hlen
      have hR := hS.rf hR0
      have hTs := hS.tx hf hT
      have hle := hS.le
      have h47 : ∀ (q : Nat) (s : Hp), RS σ s f n q b ops → ops.length ≤ q → V l G mR_reads (rmd 16 0 0) (KA.length + 0) 0 47 [(3, .int (nI i)), (0, .ref 58), (1, .int (nI n)), (2, .ref (50 + f))] [] KA s (LPo σ f n (lw1 n (lwP ch n F (i + 1)) b ops cs (clP ch q))) := by
        intro q s hS hlen
        have hR := hS.rf hR0
        have hle := hS.le
        have hg := cl_gd hT.2.2 hle
        refine V_aload_n dR_reads_47 rfl ?_
        refine V_callV (as := []) (rest := []) (bs' := 0) rfl dR_reads_48 cmR_clause cvR_clause mlR_35 (Or.inl ⟨_, _, _, _, _, rfl, k58, by decide, rfl⟩) rfl rfl (c_rclause hR0 hf hT hS hlen) (by decide) (Nat.le_refl _) (by decide) (Nat.le_of_ble_eq_true rfl) ?_
        rintro _ _ mk (⟨hk, rfl, rfl, hS⟩ | ⟨hk, rfl, rfl, b2, o2, hS⟩) -
        · refine V_one ?_
          have hR := hS.rf hR0
          have hTs := hS.tx hf hT
          have hlk := hS.le
          obtain ⟨g1, g2, g3⟩ := hg
          obtain ⟨g4, g5, g6, g7⟩ := g3 hk
          refine V_if_ne (tgt := 56) dR_reads_51 rfl (fun _ => ?_) (fun h => absurd h (by decide))
          refine V_aload_n dR_reads_56 rfl ?_
          refine V_getE (x := nI ((clP ch q).2.1)) dR_reads_57 flR_22 k58 rfl hS.g3 ?_
          refine V_aload_n dR_reads_60 rfl ?_
          refine V_getE (x := nI n) dR_reads_61 flR_18 k58 rfl hS.g1 ?_
          refine V_icmp_lt (tgt := 69) dR_reads_64 rfl (fun c64 => ?_) (fun c64 => ?_)
          · skip
            refine V_iinc (v := nI (i + 1)) (loc' := [(3, .int (nI (i + 1))), (0, .ref 58), (1, .int (nI n)), (2, .ref (50 + f))]) dR_reads_69 rfl (nI_inc i) (by decide) rfl ?_
            refine V_goto (tgt := 28) dR_reads_72 rfl ?_
            have el : lw1 n (lwP ch n F (i + 1)) b ops cs (clP ch q) = lwP ch n F (i + 1) (clP ch q).2.1 (bsC b (clP ch q)) (opC ops (clP ch q)) (cs ++ [clP ch q]) := (if_pos hk).trans (if_neg (fun h => (nI_nlt h (by omega)) c64))
            rw [el]
            refine V.locs (loc' := [(3, .int (nI (i + 1))), (0, .ref 58), (1, .int (nI n)), (2, .ref (50 + f))]) [0, 1, 2, 3] rfl ?_
            exact (ih (i + 1) (by omega) _ _ _ _ _ hS (by unfold opC; split; omega; simp only [List.length_append, List.length_singleton]; omega))
          · skip
            refine V_iconst (v := 1) dR_reads_67 (by decide) ?_
            refine V_zret dR_reads_68 rfl rfl rfl ?_
            have el : lw1 n (lwP ch n F (i + 1)) b ops cs (clP ch q) = (true, (clP ch q).2.1, bsC b (clP ch q), opC ops (clP ch q), cs ++ [clP ch q]) := (if_pos hk).trans (if_pos (by by_cases h : n ≤ (clP ch q).2.1; exact h; exact absurd (nI_lt (by omega) (by omega)) c64))
            rw [el]
            exact Or.inl ⟨rfl, rfl, rfl, hS⟩
        · refine V_one ?_
          refine V_if_ne (tgt := 56) dR_reads_51 rfl (fun h => absurd h (by decide)) (fun _ => ?_)
          refine V_iconst (v := 0) dR_reads_54 (by decide) ?_
          refine V_zret dR_reads_55 rfl rfl rfl ?_
          have el : lw1 n (lwP ch n F (i + 1)) b ops cs (clP ch q) = (false, (clP ch q).2.1, 0, [], cs) := if_neg (by rw [hk]; decide)
          rw [el]
          exact Or.inr ⟨rfl, rfl, rfl, b2, o2, hS⟩
      by_cases hi0 : i = 0
      · rw [show lwP ch n (F + 1) i q b ops cs = lw1 n (lwP ch n F (i + 1)) b ops cs (clP ch q) from if_pos hi0]
        refine V_iload_n dR_reads_28 rfl ?_
        refine V_bipush (v := 10) dR_reads_29 (by decide) ?_
        refine V_icmp_ge (tgt := 75) dR_reads_31 rfl (fun h => absurd h (nI_ge (a := i) (b := 10) (by omega) (by decide))) (fun _ => ?_)
        refine V_iload_n dR_reads_34 rfl ?_
        refine V_if_le (tgt := 47) dR_reads_35 rfl (fun _ => ?_) (fun h => absurd h (not_not_intro (by rw [hi0]; exact Int32.le_refl _)))
        refine V.locs (loc' := [(3, .int (nI i)), (0, .ref 58), (1, .int (nI n)), (2, .ref (50 + f))]) [0, 1, 2, 3] rfl ?_
        exact (h47 q _ hS hlen)
      · rw [show lwP ch n (F + 1) i q b ops cs = if ch q = 59 then lw1 n (lwP ch n F (i + 1)) b ops cs (clP ch (q + 1)) else (false, q, 0, [], cs) from if_neg hi0]
        refine V_iload_n dR_reads_28 rfl ?_
        refine V_bipush (v := 10) dR_reads_29 (by decide) ?_
        refine V_icmp_ge (tgt := 75) dR_reads_31 rfl (fun h => absurd h (nI_ge (a := i) (b := 10) (by omega) (by decide))) (fun _ => ?_)
        refine V_iload_n dR_reads_34 rfl ?_
        refine V_if_le (tgt := 47) dR_reads_35 rfl (fun h => absurd h (nI_nle (by omega) (by omega))) (fun _ => ?_)
        refine V_aload_n dR_reads_38 rfl ?_
        refine V_bipush (v := 59) dR_reads_39 (by decide) ?_
        refine V_callV (as := [.int 59]) (rest := []) (bs' := 0) rfl dR_reads_41 cmR_takes cvR_takes mlR_31 (Or.inl ⟨_, _, _, _, _, rfl, k58, by decide, rfl⟩) rfl rfl (c_rtakes hR0 hf hT hS (c := 59) (by decide)) (by decide) (Nat.le_refl _) (by decide) (Nat.le_of_ble_eq_true rfl) ?_
        rintro _ _ ms (⟨hs, rfl, rfl, hS⟩ | ⟨hs, rfl, rfl, rfl⟩) -
        · refine V_one ?_
          rw [if_pos hs]
          refine V_if_eq (tgt := 54) dR_reads_44 rfl (fun h => absurd h (by decide)) (fun _ => ?_)
          refine V.locs (loc' := [(3, .int (nI i)), (0, .ref 58), (1, .int (nI n)), (2, .ref (50 + f))]) [0, 1, 2, 3] rfl ?_
          exact (h47 (q + 1) _ hS (by omega))
        · refine V_one ?_
          rw [if_neg hs]
          refine V_if_eq (tgt := 54) dR_reads_44 rfl (fun _ => ?_) (fun h => absurd h (by decide))
          refine V_iconst (v := 0) dR_reads_54 (by decide) ?_
          exact V_zret dR_reads_55 rfl rfl rfl (Or.inr ⟨rfl, rfl, rfl, b, ops, hS⟩)
  refine V_aload_n dR_reads_0 rfl ?_
  refine V_iload_n dR_reads_1 rfl ?_
  refine V_putI dR_reads_2 flR_18 (fpR_1 _) (Or.inl rfl) k58 rfl ?_
  refine V_aload_n dR_reads_5 rfl ?_
  refine V_aload_n dR_reads_6 rfl ?_
  refine V_putR dR_reads_7 flR_9 (fpR_2 _) (by first | exact Or.inl ⟨_, rfl⟩ | exact Or.inr ⟨_, rfl⟩) (Or.inl rfl) k58 rfl ?_
  refine V_aload_n dR_reads_10 rfl ?_
  refine V_iconst (v := 0) dR_reads_11 (by decide) ?_
  refine V_putI dR_reads_12 flR_22 (fpR_3 _) (Or.inl rfl) k58 rfl ?_
  refine V_aload_n dR_reads_15 rfl ?_
  refine V_iconst (v := 0) dR_reads_16 (by decide) ?_
  refine V_putI dR_reads_17 flR_25 (fpR_4 _) (Or.inl rfl) k58 rfl ?_
  refine V_aload_n dR_reads_20 rfl ?_
  refine V_bipush (v := 10) dR_reads_21 (by decide) ?_
  refine V_putI dR_reads_23 flR_28 (fpR_5 _) (Or.inl rfl) k58 rfl ?_
  refine V_iconst (v := 0) dR_reads_26 (by decide) ?_
  refine V_istore_n (loc' := [(3, .int 0), (0, .ref 58), (1, .int (nI n)), (2, .ref (50 + f))]) dR_reads_27 (by decide) rfl ?_
  have hS := RS.init (σ := σ) (n := n) hf
  refine V.locs (loc' := [(3, .int 0), (0, .ref 58), (1, .int (nI n)), (2, .ref (50 + f))]) [0, 1, 2, 3] rfl ?_
  refine V_eqL (loc' := [(3, .int (nI 0)), (0, .ref 58), (1, .int (nI n)), (2, .ref (50 + f))]) ?_ ?_
  · rfl
  exact (lp 10 0 rfl 0 10 [] [] _ hS (Nat.le_refl _))
