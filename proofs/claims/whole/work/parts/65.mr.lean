/-! the reader of the second object: words, what waits, tests-/
theorem encR_lt {op : Nat} (h : op < 1800) : encR op = nI (1000 * (op / 300) + 100 * (op / 100 % 3) + op % 100) := by
  unfold encR
  rw [if_neg (by omega), if_neg (by omega), if_neg (by omega)]
theorem tsO_R {ch : Nat → Nat} {p : Nat} (h : ¬ ltr (ch p) = 6) (h2 : 60 ≤ ch (p + 1) ∧ ch (p + 1) ≤ 62) : (1000 : Int32) * nI (ltr (ch p)) + 100 * (nI (ch (p + 1)) - 60) + nI (nuV ch (p + 2)) = encR (tsO ch p) := by
  rw [encR_lt (tsO_lt h h2.2), show (1000 : Int32) = nI 1000 from rfl, show (100 : Int32) = nI 100 from rfl, show (60 : Int32) = nI 60 from rfl, pk_mul, pk_sub h2.1, pk_mul, nI_add, nI_add]
  have h3 := nuV_lt (ch := ch) (p + 2)
  unfold tsO
  congr 1
  omega
theorem tsO_R' : True := trivial
theorem whP_len : ∀ (W E : List Nat), (whP W E).1.length + (whP W E).2.length = W.length + E.length
  | [], E => rfl
  | x :: W, E => by
    show (if x = 33 then whP W (E ++ [30001]) else (x :: W, E)).1.length + (if x = 33 then whP W (E ++ [30001]) else (x :: W, E)).2.length = _
    split
    · rw [whP_len W]
      simp only [List.length_append, List.length_cons, List.length_nil]
      omega
    · rfl
theorem stP_len (c : Nat) : ∀ (W E : List Nat), (stP c W E).1.length + (stP c W E).2.length = W.length + E.length
  | [], E => rfl
  | x :: W, E => by
    show (if x = 38 then stP c W (E ++ [30002]) else if x = 124 ∧ c ≠ 38 then stP c W (E ++ [30003]) else (x :: W, E)).1.length + (if x = 38 then stP c W (E ++ [30002]) else if x = 124 ∧ c ≠ 38 then stP c W (E ++ [30003]) else (x :: W, E)).2.length = _
    split
    · rw [stP_len c W]
      simp only [List.length_append, List.length_cons, List.length_nil]
      omega
    · split
      · rw [stP_len c W]
        simp only [List.length_append, List.length_cons, List.length_nil]
        omega
      · rfl
theorem whP_33 (W E : List Nat) : whP (33 :: W) E = whP W (E ++ [30001]) := if_pos rfl
theorem whP_ne {x : Nat} (h : x ≠ 33) (W E : List Nat) : whP (x :: W) E = (x :: W, E) := if_neg h
theorem stP_38 (c : Nat) (W E : List Nat) : stP c (38 :: W) E = stP c W (E ++ [30002]) := if_pos rfl
theorem stP_124 {c : Nat} (h : c ≠ 38) (W E : List Nat) : stP c (124 :: W) E = stP c W (E ++ [30003]) := (if_neg (by decide)).trans (if_pos ⟨rfl, h⟩)
theorem stP_ne {c x : Nat} (h : x ≠ 38) (h2 : ¬ (x = 124 ∧ c ≠ 38)) (W E : List Nat) : stP c (x :: W) E = (x :: W, E) := (if_neg h).trans (if_neg h2)
theorem ltr_I : ∀ c : Nat, c < 128 → (Op.lookupswitch.offset [(99, 67), (100, 69), (101, 59), (107, 61), (115, 63), (119, 65)] 71 (nI c).toInt = if ltr c = 0 then 59 else if ltr c = 1 then 61 else if ltr c = 2 then 63 else if ltr c = 3 then 65 else if ltr c = 4 then 67 else if ltr c = 5 then 69 else 71) := by decide +kernel
def plc (ch : Nat → Nat) (p : Nat) : Int32 := if ltr (ch p) = 6 then -1 else nI (ltr (ch p))
theorem m_emits {l : Launch} {G : GT} {s : Hp} (hR : RF s) {a : Nat} {x : Int32} (ha : gi s 76 24 = nI a) (hl : a < 600) : MM l G mM_emits 0 0 0 [.ref 76, .int x] KA s (PE none KA (si (si s 90 a x) 76 24 (nI (a + 1)))) := by
  refine MM.of (loc := [(0, .ref 76), (1, .int x)]) (by decide +kernel) rfl (Nat.le_of_ble_eq_true rfl) ?_
  refine V_aload_n dM_emits_0 rfl ?_
  refine V_getR (a := 90) dM_emits_1 flM_77 k76 rfl (r76_22 hR) ?_
  refine V_aload_n dM_emits_4 rfl ?_
  refine V_getE (x := nI a) dM_emits_5 flM_83 k76 rfl ha ?_
  refine V_iload_n dM_emits_8 rfl ?_
  refine V_iastN (j := a) dM_emits_9 k90 rfl hl (by decide) ?_
  refine V_aload_n dM_emits_10 rfl ?_
  refine V_dup dM_emits_11 rfl ?_
  refine V_getE (x := nI a) dM_emits_12 flM_83 k76 rfl ((gi_ne (by decide)).trans ha) ?_
  refine V_iconst (v := 1) dM_emits_15 (by decide) ?_
  refine V_iadd dM_emits_16 ?_
  refine V_topI (x' := nI (a + 1)) (nI_1 _) ?_
  refine V_putI dM_emits_17 flM_83 (fpM_24 _) (Or.inl rfl) k76 rfl ?_
  exact V_ret dM_emits_20 rfl rfl ⟨rfl, rfl, rfl⟩
theorem m_whole {l : Launch} {G : GT} {ch : Nat → Nat} {s : Hp} {f n p : Nat} {E W : List Nat} (hR : RF s) (hf : f < 6) (hX : ∀ x ∈ W, x < 2 ^ 31) (hS : ST s f n ch p E W) (hl : E.length + W.length ≤ 100) : MM l G mM_whole 1 0 0 [.ref 76] KA s (fun r k t => r = none ∧ KA = k ∧ Fq (Fsc f) s t ∧ ST t f n ch p (whP W E).2 (whP W E).1) := by
  refine MM.of (loc := [(0, .ref 76)]) (by decide +kernel) rfl (Nat.le_of_ble_eq_true rfl) ?_
  have hR0 := hR
  obtain ⟨σ0, hs0⟩ : ∃ σ0, σ0 = s := ⟨s, rfl⟩
  have hR9 : RF σ0 := hs0 ▸ hR
  rw [← hs0]
  rw [← hs0] at hR hR0 hS
  have lp : ∀ (W E : List Nat) (s : Hp), RF s → (∀ x ∈ W, x < 2 ^ 31) → ST s f n ch p E W → E.length + W.length ≤ 100 → Fq (Fsc f) σ0 s → V l G mM_whole (rmd 1 0 0) (KA.length + 0) 0 0 [(0, .ref 76)] [] KA s (fun r k t => r = none ∧ KA = k ∧ Fq (Fsc f) σ0 t ∧ ST t f n ch p (whP W E).2 (whP W E).1) := by
    intro W
    induction W with
    | nil =>
      intro E s hR hXW hS hl hF
      refine V_aload_n dM_whole_0 rfl ?_
      refine V_getE (x := 0) dM_whole_1 flM_86 k76 rfl hS.g25 ?_
      refine V_if_le (tgt := 52) dM_whole_4 rfl (fun _ => ?_) (fun h => absurd h (by decide))
      exact V_ret dM_whole_52 rfl rfl ⟨rfl, rfl, hF, hS⟩
    | cons x W ih =>
      intro E s hR hXW hS hl hF
      have hl2 : E.length + (W.length + 1) ≤ 100 := hl
      by_cases hx : x = 33
      · subst hx
        rw [whP_33]
        refine V_aload_n dM_whole_0 rfl ?_
        refine V_getE (x := nI (W.length + 1)) dM_whole_1 flM_86 k76 rfl hS.g25 ?_
        refine V_if_le (tgt := 52) dM_whole_4 rfl (fun h => absurd h (nI_nle (Nat.succ_pos _) (by omega))) (fun _ => ?_)
        refine V_aload_n dM_whole_7 rfl ?_
        refine V_getR (a := 91) dM_whole_8 flM_80 k76 rfl (r76_23 hR) ?_
        refine V_aload_n dM_whole_11 rfl ?_
        refine V_getE (x := nI (W.length + 1)) dM_whole_12 flM_86 k76 rfl hS.g25 ?_
        refine V_iconst (v := 1) dM_whole_15 (by decide) ?_
        refine V_isub dM_whole_16 ?_
        refine V_ialdN (j := W.length) dM_whole_17 k91 (nI_pred _) (by omega) (by decide) ?_
        refine V_topI (x' := nI 33) hS.2.2.2.1 ?_
        refine V_bipush (v := 33) dM_whole_18 (by decide) ?_
        refine V_icmp_ne (tgt := 52) dM_whole_20 rfl (fun h => absurd h (not_not_intro rfl)) (fun _ => ?_)
        refine V_aload_n dM_whole_23 rfl ?_
        refine V_bipush (v := -33) dM_whole_24 (by decide) ?_
        refine V_callV (as := [.int (-33)]) (rest := []) (bs' := 0) rfl dM_whole_26 cmM_emits cvM_emits mlM_235 (Or.inl ⟨_, _, _, _, _, rfl, k76, by decide, rfl⟩) rfl rfl (m_emits (s := s) hR (a := 100 * f + E.length) hS.1.g24 (by omega)) (by decide) (Nat.le_refl _) (by decide) (Nat.le_of_ble_eq_true rfl) ?_
        rintro _ _ _ ⟨rfl, rfl, rfl⟩ -
        refine V_non ?_
        refine V_aload_n dM_whole_29 rfl ?_
        refine V_dup dM_whole_30 rfl ?_
        refine V_getE (x := nI (W.length + 1)) dM_whole_31 flM_86 k76 rfl ((gi_nj (by decide)).trans ((gi_ne (by decide)).trans hS.g25)) ?_
        refine V_iconst (v := 1) dM_whole_34 (by decide) ?_
        refine V_isub dM_whole_35 ?_
        refine V_topI (x' := nI W.length) (nI_pred _) ?_
        refine V_putI dM_whole_36 flM_86 (fpM_25 _) (Or.inl rfl) k76 rfl ?_
        refine V_aload_n dM_whole_39 rfl ?_
        refine V_dup dM_whole_40 rfl ?_
        refine V_getE (x := nI (brk W + 1)) dM_whole_41 flM_89 k76 rfl ((gi_nj (by decide)).trans ((gi_nj (by decide)).trans ((gi_ne (by decide)).trans hS.g26))) ?_
        refine V_iconst (v := 1) dM_whole_44 (by decide) ?_
        refine V_isub dM_whole_45 ?_
        refine V_topI (x' := nI (brk W)) (nI_pred _) ?_
        refine V_putI dM_whole_46 flM_89 (fpM_26 _) (Or.inl rfl) k76 rfl ?_
        refine V_goto (tgt := 0) dM_whole_49 rfl ?_
        have hS2 := (hS.em (op := 30001) (x := -33) (by decide)).popB (Or.inl rfl)
        have hF2 : Fq (Fsc f) σ0 (si (si (si (si s 90 (100 * f + E.length) ((-33))) 76 24 (nI (100 * f + E.length + 1))) 76 25 (nI W.length)) 76 26 (nI (brk W))) := (((hF.set (Fsc90 (by omega))).set Fsc24).set Fsc25).set Fsc26
        exact ih (E ++ [30001]) _ (hF2.rf hR0) (fun y hy => hXW y (List.mem_cons_of_mem _ hy)) hS2 (by rw [List.length_append]; show E.length + 1 + W.length ≤ 100; omega) hF2
      · rw [whP_ne hx]
        have hx31 : x < 2 ^ 31 := hXW x List.mem_cons_self
        refine V_aload_n dM_whole_0 rfl ?_
        refine V_getE (x := nI (W.length + 1)) dM_whole_1 flM_86 k76 rfl hS.g25 ?_
        refine V_if_le (tgt := 52) dM_whole_4 rfl (fun h => absurd h (nI_nle (Nat.succ_pos _) (by omega))) (fun _ => ?_)
        refine V_aload_n dM_whole_7 rfl ?_
        refine V_getR (a := 91) dM_whole_8 flM_80 k76 rfl (r76_23 hR) ?_
        refine V_aload_n dM_whole_11 rfl ?_
        refine V_getE (x := nI (W.length + 1)) dM_whole_12 flM_86 k76 rfl hS.g25 ?_
        refine V_iconst (v := 1) dM_whole_15 (by decide) ?_
        refine V_isub dM_whole_16 ?_
        refine V_ialdN (j := W.length) dM_whole_17 k91 (nI_pred _) (by omega) (by decide) ?_
        refine V_topI (x' := nI x) hS.2.2.2.1 ?_
        refine V_bipush (v := 33) dM_whole_18 (by decide) ?_
        refine V_icmp_ne (tgt := 52) dM_whole_20 rfl (fun _ => ?_) (fun h => absurd h (fun e => hx ((nI_eq (a := x) (b := 33) hx31 (by decide)).mp e)))
        exact V_ret dM_whole_52 rfl rfl ⟨rfl, rfl, hF, hS⟩
  exact lp W E σ0 hR hX hS hl Fq.rfl
theorem m_settle {l : Launch} {G : GT} {ch : Nat → Nat} {s : Hp} {f n p b : Nat} {E W : List Nat} (hR : RF s) (hf : f < 6) (hb : b < 128) (hX : ∀ x ∈ W, x < 2 ^ 31) (hS : ST s f n ch p E W) (hl : E.length + W.length ≤ 100) : MM l G mM_settle 1 0 0 [.ref 76, .int (nI b)] KA s (fun r k t => r = none ∧ KA = k ∧ Fq (Fsc f) s t ∧ ST t f n ch p (stP b W E).2 (stP b W E).1) := by
  refine MM.of (loc := [(0, .ref 76), (1, .int (nI b))]) (by decide +kernel) rfl (Nat.le_of_ble_eq_true rfl) ?_
  obtain ⟨σ0, hs0⟩ : ∃ σ0, σ0 = s := ⟨s, rfl⟩
  rw [← hs0]
  rw [← hs0] at hR hS
  have hR0 := hR
  have lp : ∀ (W E : List Nat) (s : Hp), RF s → (∀ x ∈ W, x < 2 ^ 31) → ST s f n ch p E W → E.length + W.length ≤ 100 → Fq (Fsc f) σ0 s → V l G mM_settle (rmd 1 0 0) (KA.length + 0) 0 0 [(0, .ref 76), (1, .int (nI b))] [] KA s (fun r k t => r = none ∧ KA = k ∧ Fq (Fsc f) σ0 t ∧ ST t f n ch p (stP b W E).2 (stP b W E).1) := by
    intro W
    induction W with
    | nil =>
      intro E s hR hXW hS hl hF
      refine V_aload_n dM_settle_0 rfl ?_
      refine V_getE (x := 0) dM_settle_1 flM_86 k76 rfl hS.g25 ?_
      refine V_if_le (tgt := 72) dM_settle_4 rfl (fun _ => ?_) (fun h => absurd h (by decide))
      exact V_ret dM_settle_72 rfl rfl ⟨rfl, rfl, hF, hS⟩
    | cons x W ih =>
      intro E s hR hXW hS hl hF
      have hl2 : E.length + (W.length + 1) ≤ 100 := hl
      have hx31 : x < 2 ^ 31 := hXW x List.mem_cons_self
      by_cases h38 : x = 38
      · subst h38
        rw [stP_38]
        refine V_aload_n dM_settle_0 rfl ?_
        refine V_getE (x := nI (W.length + 1)) dM_settle_1 flM_86 k76 rfl hS.g25 ?_
        refine V_if_le (tgt := 72) dM_settle_4 rfl (fun h => absurd h (nI_nle (Nat.succ_pos _) (by omega))) (fun _ => ?_)
        refine V_aload_n dM_settle_7 rfl ?_
        refine V_getR (a := 91) dM_settle_8 flM_80 k76 rfl (r76_23 hR) ?_
        refine V_aload_n dM_settle_11 rfl ?_
        refine V_getE (x := nI (W.length + 1)) dM_settle_12 flM_86 k76 rfl hS.g25 ?_
        refine V_iconst (v := 1) dM_settle_15 (by decide) ?_
        refine V_isub dM_settle_16 ?_
        refine V_ialdN (j := W.length) dM_settle_17 k91 (nI_pred _) (by omega) (by decide) ?_
        refine V_topI (x' := nI 38) hS.2.2.2.1 ?_
        refine V_bipush (v := 38) dM_settle_18 (by decide) ?_
        refine V_icmp_eq (tgt := 45) dM_settle_20 rfl (fun _ => ?_) (fun h => absurd h (not_not_intro rfl))
        refine V_aload_n dM_settle_45 rfl ?_
        refine V_dup dM_settle_46 rfl ?_
        refine V_getE (x := nI (W.length + 1)) dM_settle_47 flM_86 k76 rfl hS.g25 ?_
        refine V_iconst (v := 1) dM_settle_50 (by decide) ?_
        refine V_isub dM_settle_51 ?_
        refine V_topI (x' := nI W.length) (nI_pred _) ?_
        refine V_putI dM_settle_52 flM_86 (fpM_25 _) (Or.inl rfl) k76 rfl ?_
        refine V_aload_n dM_settle_55 rfl ?_
        refine V_aload_n dM_settle_56 rfl ?_
        refine V_getR (a := 91) dM_settle_57 flM_80 k76 rfl (r76_23 hR) ?_
        refine V_aload_n dM_settle_60 rfl ?_
        refine V_getE (x := nI W.length) dM_settle_61 flM_86 k76 rfl gi_eq ?_
        refine V_ialdN (j := W.length) dM_settle_64 k91 rfl (by omega) (by decide) ?_
        refine V_topI (x' := nI 38) ((gi_ne (by decide)).trans hS.2.2.2.1) ?_
        refine V_ineg dM_settle_65 ?_
        refine V_topI (x' := -38) (by decide) ?_
        refine V_callV (as := [.int (-38)]) (rest := []) (bs' := 0) rfl dM_settle_66 cmM_emits cvM_emits mlM_235 (Or.inl ⟨_, _, _, _, _, rfl, k76, by decide, rfl⟩) rfl rfl (m_emits (s := si s 76 25 (nI W.length)) hR (a := 100 * f + E.length) ((gi_nj (by decide)).trans hS.1.g24) (by omega)) (by decide) (Nat.le_refl _) (by decide) (Nat.le_of_ble_eq_true rfl) ?_
        rintro _ _ _ ⟨rfl, rfl, rfl⟩ -
        refine V_non ?_
        refine V_goto (tgt := 0) dM_settle_69 rfl ?_
        have hS2 := hS.popE (op := 30002) (y := -38) (by decide) (by decide)
        have hF2 : Fq (Fsc f) σ0 (si (si (si s 76 25 (nI W.length)) 90 (100 * f + E.length) (-38)) 76 24 (nI (100 * f + E.length + 1))) := ((hF.set Fsc25).set (Fsc90 (by omega))).set Fsc24
        exact ih (E ++ [30002]) _ (hF2.rf hR0) (fun y hy => hXW y (List.mem_cons_of_mem _ hy)) hS2 (by rw [List.length_append]; show E.length + 1 + W.length ≤ 100; omega) hF2
      have n38 : ¬ nI x = 38 := fun e => h38 ((nI_eq (a := x) (b := 38) hx31 (by decide)).mp e)
      by_cases h124 : x = 124
      · subst h124
        by_cases hb38 : b = 38
        · rw [stP_ne (by decide) (fun q => q.2 hb38)]
          refine V_aload_n dM_settle_0 rfl ?_
          refine V_getE (x := nI (W.length + 1)) dM_settle_1 flM_86 k76 rfl hS.g25 ?_
          refine V_if_le (tgt := 72) dM_settle_4 rfl (fun h => absurd h (nI_nle (Nat.succ_pos _) (by omega))) (fun _ => ?_)
          refine V_aload_n dM_settle_7 rfl ?_
          refine V_getR (a := 91) dM_settle_8 flM_80 k76 rfl (r76_23 hR) ?_
          refine V_aload_n dM_settle_11 rfl ?_
          refine V_getE (x := nI (W.length + 1)) dM_settle_12 flM_86 k76 rfl hS.g25 ?_
          refine V_iconst (v := 1) dM_settle_15 (by decide) ?_
          refine V_isub dM_settle_16 ?_
          refine V_ialdN (j := W.length) dM_settle_17 k91 (nI_pred _) (by omega) (by decide) ?_
          refine V_topI (x' := nI 124) hS.2.2.2.1 ?_
          refine V_bipush (v := 38) dM_settle_18 (by decide) ?_
          refine V_icmp_eq (tgt := 45) dM_settle_20 rfl (fun h => absurd h n38) (fun _ => ?_)
          refine V_aload_n dM_settle_23 rfl ?_
          refine V_getR (a := 91) dM_settle_24 flM_80 k76 rfl (r76_23 hR) ?_
          refine V_aload_n dM_settle_27 rfl ?_
          refine V_getE (x := nI (W.length + 1)) dM_settle_28 flM_86 k76 rfl hS.g25 ?_
          refine V_iconst (v := 1) dM_settle_31 (by decide) ?_
          refine V_isub dM_settle_32 ?_
          refine V_ialdN (j := W.length) dM_settle_33 k91 (nI_pred _) (by omega) (by decide) ?_
          refine V_topI (x' := nI 124) hS.2.2.2.1 ?_
          refine V_bipush (v := 124) dM_settle_34 (by decide) ?_
          refine V_icmp_ne (tgt := 72) dM_settle_36 rfl (fun h => absurd h (not_not_intro rfl)) (fun _ => ?_)
          refine V_iload_n dM_settle_39 rfl ?_
          refine V_bipush (v := 38) dM_settle_40 (by decide) ?_
          refine V_icmp_eq (tgt := 72) dM_settle_42 rfl (fun _ => ?_) (fun h => absurd h (not_not_intro (by rw [hb38]; rfl)))
          exact V_ret dM_settle_72 rfl rfl ⟨rfl, rfl, hF, hS⟩
        · rw [stP_124 hb38]
          refine V_aload_n dM_settle_0 rfl ?_
          refine V_getE (x := nI (W.length + 1)) dM_settle_1 flM_86 k76 rfl hS.g25 ?_
          refine V_if_le (tgt := 72) dM_settle_4 rfl (fun h => absurd h (nI_nle (Nat.succ_pos _) (by omega))) (fun _ => ?_)
          refine V_aload_n dM_settle_7 rfl ?_
          refine V_getR (a := 91) dM_settle_8 flM_80 k76 rfl (r76_23 hR) ?_
          refine V_aload_n dM_settle_11 rfl ?_
          refine V_getE (x := nI (W.length + 1)) dM_settle_12 flM_86 k76 rfl hS.g25 ?_
          refine V_iconst (v := 1) dM_settle_15 (by decide) ?_
          refine V_isub dM_settle_16 ?_
          refine V_ialdN (j := W.length) dM_settle_17 k91 (nI_pred _) (by omega) (by decide) ?_
          refine V_topI (x' := nI 124) hS.2.2.2.1 ?_
          refine V_bipush (v := 38) dM_settle_18 (by decide) ?_
          refine V_icmp_eq (tgt := 45) dM_settle_20 rfl (fun h => absurd h n38) (fun _ => ?_)
          refine V_aload_n dM_settle_23 rfl ?_
          refine V_getR (a := 91) dM_settle_24 flM_80 k76 rfl (r76_23 hR) ?_
          refine V_aload_n dM_settle_27 rfl ?_
          refine V_getE (x := nI (W.length + 1)) dM_settle_28 flM_86 k76 rfl hS.g25 ?_
          refine V_iconst (v := 1) dM_settle_31 (by decide) ?_
          refine V_isub dM_settle_32 ?_
          refine V_ialdN (j := W.length) dM_settle_33 k91 (nI_pred _) (by omega) (by decide) ?_
          refine V_topI (x' := nI 124) hS.2.2.2.1 ?_
          refine V_bipush (v := 124) dM_settle_34 (by decide) ?_
          refine V_icmp_ne (tgt := 72) dM_settle_36 rfl (fun h => absurd h (not_not_intro rfl)) (fun _ => ?_)
          refine V_iload_n dM_settle_39 rfl ?_
          refine V_bipush (v := 38) dM_settle_40 (by decide) ?_
          refine V_icmp_eq (tgt := 72) dM_settle_42 rfl (fun h => absurd h (fun e => hb38 ((nI_eq (a := b) (b := 38) (by omega) (by decide)).mp e))) (fun _ => ?_)
          refine V_aload_n dM_settle_45 rfl ?_
          refine V_dup dM_settle_46 rfl ?_
          refine V_getE (x := nI (W.length + 1)) dM_settle_47 flM_86 k76 rfl hS.g25 ?_
          refine V_iconst (v := 1) dM_settle_50 (by decide) ?_
          refine V_isub dM_settle_51 ?_
          refine V_topI (x' := nI W.length) (nI_pred _) ?_
          refine V_putI dM_settle_52 flM_86 (fpM_25 _) (Or.inl rfl) k76 rfl ?_
          refine V_aload_n dM_settle_55 rfl ?_
          refine V_aload_n dM_settle_56 rfl ?_
          refine V_getR (a := 91) dM_settle_57 flM_80 k76 rfl (r76_23 hR) ?_
          refine V_aload_n dM_settle_60 rfl ?_
          refine V_getE (x := nI W.length) dM_settle_61 flM_86 k76 rfl gi_eq ?_
          refine V_ialdN (j := W.length) dM_settle_64 k91 rfl (by omega) (by decide) ?_
          refine V_topI (x' := nI 124) ((gi_ne (by decide)).trans hS.2.2.2.1) ?_
          refine V_ineg dM_settle_65 ?_
          refine V_topI (x' := -124) (by decide) ?_
          refine V_callV (as := [.int (-124)]) (rest := []) (bs' := 0) rfl dM_settle_66 cmM_emits cvM_emits mlM_235 (Or.inl ⟨_, _, _, _, _, rfl, k76, by decide, rfl⟩) rfl rfl (m_emits (s := si s 76 25 (nI W.length)) hR (a := 100 * f + E.length) ((gi_nj (by decide)).trans hS.1.g24) (by omega)) (by decide) (Nat.le_refl _) (by decide) (Nat.le_of_ble_eq_true rfl) ?_
          rintro _ _ _ ⟨rfl, rfl, rfl⟩ -
          refine V_non ?_
          refine V_goto (tgt := 0) dM_settle_69 rfl ?_
          have hS2 := hS.popE (op := 30003) (y := -124) (by decide) (by decide)
          have hF2 : Fq (Fsc f) σ0 (si (si (si s 76 25 (nI W.length)) 90 (100 * f + E.length) (-124)) 76 24 (nI (100 * f + E.length + 1))) := ((hF.set Fsc25).set (Fsc90 (by omega))).set Fsc24
          exact ih (E ++ [30003]) _ (hF2.rf hR0) (fun y hy => hXW y (List.mem_cons_of_mem _ hy)) hS2 (by rw [List.length_append]; show E.length + 1 + W.length ≤ 100; omega) hF2
      · rw [stP_ne h38 (fun q => h124 q.1)]
        refine V_aload_n dM_settle_0 rfl ?_
        refine V_getE (x := nI (W.length + 1)) dM_settle_1 flM_86 k76 rfl hS.g25 ?_
        refine V_if_le (tgt := 72) dM_settle_4 rfl (fun h => absurd h (nI_nle (Nat.succ_pos _) (by omega))) (fun _ => ?_)
        refine V_aload_n dM_settle_7 rfl ?_
        refine V_getR (a := 91) dM_settle_8 flM_80 k76 rfl (r76_23 hR) ?_
        refine V_aload_n dM_settle_11 rfl ?_
        refine V_getE (x := nI (W.length + 1)) dM_settle_12 flM_86 k76 rfl hS.g25 ?_
        refine V_iconst (v := 1) dM_settle_15 (by decide) ?_
        refine V_isub dM_settle_16 ?_
        refine V_ialdN (j := W.length) dM_settle_17 k91 (nI_pred _) (by omega) (by decide) ?_
        refine V_topI (x' := nI x) hS.2.2.2.1 ?_
        refine V_bipush (v := 38) dM_settle_18 (by decide) ?_
        refine V_icmp_eq (tgt := 45) dM_settle_20 rfl (fun h => absurd h n38) (fun _ => ?_)
        refine V_aload_n dM_settle_23 rfl ?_
        refine V_getR (a := 91) dM_settle_24 flM_80 k76 rfl (r76_23 hR) ?_
        refine V_aload_n dM_settle_27 rfl ?_
        refine V_getE (x := nI (W.length + 1)) dM_settle_28 flM_86 k76 rfl hS.g25 ?_
        refine V_iconst (v := 1) dM_settle_31 (by decide) ?_
        refine V_isub dM_settle_32 ?_
        refine V_ialdN (j := W.length) dM_settle_33 k91 (nI_pred _) (by omega) (by decide) ?_
        refine V_topI (x' := nI x) hS.2.2.2.1 ?_
        refine V_bipush (v := 124) dM_settle_34 (by decide) ?_
        refine V_icmp_ne (tgt := 72) dM_settle_36 rfl (fun _ => ?_) (fun h => absurd h (fun e => h124 ((nI_eq (a := x) (b := 124) hx31 (by decide)).mp e)))
        exact V_ret dM_settle_72 rfl rfl ⟨rfl, rfl, hF, hS⟩
  exact lp W E σ0 hR hX hS hl Fq.rfl
theorem m_place {l : Launch} {G : GT} {s : Hp} {n p : Nat} {ch : Nat → Nat} (hT : TY s n ch) : MM l G mM_place 0 0 0 [.ref 76, .int (nx ch n p)] KA s (PE (some (.int (plc ch p))) KA s) := by
  refine MM.of (loc := [(0, .ref 76), (1, .int (nx ch n p))]) (by decide +kernel) rfl (Nat.le_of_ble_eq_true rfl) ?_
  have hiff : ∀ c : Nat, c < 128 → (nx ch n p = nI c ↔ ch p = c) := fun c hc => nx_eq hT hc
  refine V_iload_n dM_place_0 rfl ?_
  by_cases s1_99 : (nx ch n p) = 99
  · skip
    refine V_lsw (tgt := 68) dM_place_1 (by decide) (by rw [s1_99] <;> rfl) rfl ?_
    refine V_iconst (v := 4) dM_place_68 (by decide) ?_
    refine V_iret dM_place_69 rfl rfl ?_
    have e : ch p = 99 := (hiff 99 (by decide)).mp s1_99
    rw [show plc ch p = 4 by unfold plc; rw [e]; rfl]
    exact ⟨rfl, rfl, rfl⟩
  by_cases s1_100 : (nx ch n p) = 100
  · skip
    refine V_lsw (tgt := 70) dM_place_1 (by decide) (by rw [s1_100] <;> rfl) rfl ?_
    refine V_iconst (v := 5) dM_place_70 (by decide) ?_
    refine V_iret dM_place_71 rfl rfl ?_
    have e : ch p = 100 := (hiff 100 (by decide)).mp s1_100
    rw [show plc ch p = 5 by unfold plc; rw [e]; rfl]
    exact ⟨rfl, rfl, rfl⟩
  by_cases s1_101 : (nx ch n p) = 101
  · skip
    refine V_lsw (tgt := 60) dM_place_1 (by decide) (by rw [s1_101] <;> rfl) rfl ?_
    refine V_iconst (v := 0) dM_place_60 (by decide) ?_
    refine V_iret dM_place_61 rfl rfl ?_
    have e : ch p = 101 := (hiff 101 (by decide)).mp s1_101
    rw [show plc ch p = 0 by unfold plc; rw [e]; rfl]
    exact ⟨rfl, rfl, rfl⟩
  by_cases s1_107 : (nx ch n p) = 107
  · skip
    refine V_lsw (tgt := 62) dM_place_1 (by decide) (by rw [s1_107] <;> rfl) rfl ?_
    refine V_iconst (v := 1) dM_place_62 (by decide) ?_
    refine V_iret dM_place_63 rfl rfl ?_
    have e : ch p = 107 := (hiff 107 (by decide)).mp s1_107
    rw [show plc ch p = 1 by unfold plc; rw [e]; rfl]
    exact ⟨rfl, rfl, rfl⟩
  by_cases s1_115 : (nx ch n p) = 115
  · skip
    refine V_lsw (tgt := 64) dM_place_1 (by decide) (by rw [s1_115] <;> rfl) rfl ?_
    refine V_iconst (v := 2) dM_place_64 (by decide) ?_
    refine V_iret dM_place_65 rfl rfl ?_
    have e : ch p = 115 := (hiff 115 (by decide)).mp s1_115
    rw [show plc ch p = 2 by unfold plc; rw [e]; rfl]
    exact ⟨rfl, rfl, rfl⟩
  by_cases s1_119 : (nx ch n p) = 119
  · skip
    refine V_lsw (tgt := 66) dM_place_1 (by decide) (by rw [s1_119] <;> rfl) rfl ?_
    refine V_iconst (v := 3) dM_place_66 (by decide) ?_
    refine V_iret dM_place_67 rfl rfl ?_
    have e : ch p = 119 := (hiff 119 (by decide)).mp s1_119
    rw [show plc ch p = 3 by unfold plc; rw [e]; rfl]
    exact ⟨rfl, rfl, rfl⟩
  refine V_lsw (tgt := 72) dM_place_1 (by decide) ((lv_osw s1_99 (by decide)).trans ((lv_osw s1_100 (by decide)).trans ((lv_osw s1_101 (by decide)).trans ((lv_osw s1_107 (by decide)).trans ((lv_osw s1_115 (by decide)).trans ((lv_osw s1_119 (by decide)).trans rfl)))))) rfl ?_
  refine V_iconst (v := -1) dM_place_72 (by decide) ?_
  refine V_iret dM_place_73 rfl rfl ?_
  have e : ltr (ch p) = 6 := by
    unfold ltr
    rw [if_neg (fun e => s1_101 ((hiff 101 (by decide)).mpr e)), if_neg (fun e => s1_107 ((hiff 107 (by decide)).mpr e)), if_neg (fun e => s1_115 ((hiff 115 (by decide)).mpr e)), if_neg (fun e => s1_119 ((hiff 119 (by decide)).mpr e)), if_neg (fun e => s1_99 ((hiff 99 (by decide)).mpr e)), if_neg (fun e => s1_100 ((hiff 100 (by decide)).mpr e))]
  rw [show plc ch p = -1 by unfold plc; rw [e]; rfl]
  exact ⟨rfl, rfl, rfl⟩
theorem ST.num {s t : Hp} {f n p q : Nat} {ch : Nat → Nat} {E W : List Nat} (h : ST s f n ch p E W) (hF : Fq N15 s t) (h14 : gi t 76 14 = nI q) (hq : q ≤ n) : ST t f n ch q E W := by
  have e : ∀ k j, ¬ N15 k j → gi t k j = gi s k j := hF.1
  obtain ⟨⟨⟨a1, a2, a3, a4⟩, a5, a6, a7, a8⟩, a9, a10, a11⟩ := h
  refine ⟨⟨⟨a1, (e _ _ (by unfold N15; omega)).trans a2, fun p hp => ⟨(e _ _ (by unfold N15; omega)).trans (a3 p hp).1, (a3 p hp).2⟩, a4⟩, hq, h14, (e _ _ (by unfold N15; omega)).trans a7, fun j op hj => (e _ _ (by unfold N15; omega)).trans (a8 j op hj)⟩, (e _ _ (by unfold N15; omega)).trans a9, (e _ _ (by unfold N15; omega)).trans a10, ?_⟩
  clear a9 a10
  induction W with
  | nil => trivial
  | cons x W ih => exact ⟨(e _ _ (by unfold N15; omega)).trans a11.1, ih a11.2⟩
theorem N15.fq {f : Nat} : ∀ k j, N15 k j → Fsc f k j := fun k j h => by
  unfold N15 at h
  unfold Fsc
  omega
theorem m_test {l : Launch} {G : GT} {ch : Nat → Nat} {s : Hp} {f n p : Nat} {E W : List Nat} (hR : RF s) (hf : f < 6) (hX : ∀ x ∈ W, x < 2 ^ 31) (hS : ST s f n ch p E W) (hl : E.length + W.length ≤ p) : MM l G mM_takesTest 3 0 0 [.ref 76] KA s (fun r k t => ((tsP ch p).1 = true ∧ r = some (.int 1) ∧ KA = k ∧ Fq (Fsc f) s t ∧ ST t f n ch (tsP ch p).2.1 (whP W (E ++ (tsP ch p).2.2.2)).2 (whP W (E ++ (tsP ch p).2.2.2)).1) ∨ ((tsP ch p).1 = false ∧ r = some (.int 0) ∧ KA = k ∧ Fq (Fsc f) s t ∧ gi t 76 14 = nI (tsP ch p).2.1)) := by
  refine MM.of (loc := [(0, .ref 76)]) (by decide +kernel) rfl (Nat.le_of_ble_eq_true rfl) ?_
  have hR0 := hR
  have h100 := hS.1.1.1
  have hle := hS.1.le
  have hF : Fq (Fsc f) s s := Fq.rfl
  refine V_aload_n dM_takesTest_0 rfl ?_
  refine V_aload_n dM_takesTest_1 rfl ?_
  refine V_callV (as := []) (rest := [.ref 76]) (bs' := 0) rfl dM_takesTest_2 cmM_next cvM_next mlM_224 (Or.inl ⟨_, _, _, _, _, rfl, k76, by decide, rfl⟩) rfl rfl (m_next hR hS.1.1 hS.1.g14 hS.1.le) (by decide) (Nat.le_refl _) (by decide) (Nat.le_of_ble_eq_true rfl) ?_
  rintro _ _ _ ⟨rfl, rfl, rfl⟩ -
  refine V_one ?_
  refine V_callV (as := [.int (nx ch n p)]) (rest := []) (bs' := 0) rfl dM_takesTest_5 cmM_place cvM_place mlM_239 (Or.inl ⟨_, _, _, _, _, rfl, k76, by decide, rfl⟩) rfl rfl (m_place hS.1.1) (by decide) (Nat.le_refl _) (by decide) (Nat.le_of_ble_eq_true rfl) ?_
  rintro _ _ _ ⟨rfl, rfl, rfl⟩ -
  refine V_one ?_
  refine V_istore_n (loc' := [(1, .int (plc ch p)), (0, .ref 76)]) dM_takesTest_8 (by decide) rfl ?_
  refine V_iload_n dM_takesTest_9 rfl ?_
  refine V_if_ge (tgt := 15) dM_takesTest_10 rfl (fun c10 => ?_) (fun c10 => ?_)
  · have e11 : ¬ ltr (ch p) = 6 := by
      intro h
      rw [plc, if_pos h] at c10
      exact absurd c10 (by decide)
    have hp0 : p < n := hS.1.1.lt (fun e => e11 (by rw [e]; exact ltr_255))
    refine V_aload_n dM_takesTest_15 rfl ?_
    refine V_dup dM_takesTest_16 rfl ?_
    refine V_getE (x := nI p) dM_takesTest_17 flM_53 k76 rfl hS.1.g14 ?_
    refine V_iconst (v := 1) dM_takesTest_20 (by decide) ?_
    refine V_iadd dM_takesTest_21 ?_
    refine V_topI (x' := nI (p + 1)) (nI_1 _) ?_
    refine V_putI dM_takesTest_22 flM_53 (fpM_14 _) (Or.inl rfl) k76 rfl ?_
    have hS : ST (si s 76 14 (nI (p + 1))) f n ch (p + 1) E W := hS.at (by omega)
    have hF : Fq (Fsc f) s (si s 76 14 (nI (p + 1))) := hF.set Fsc14
    have hR := hF.rf hR0
    refine V_aload_n dM_takesTest_25 rfl ?_
    refine V_callV (as := []) (rest := []) (bs' := 0) rfl dM_takesTest_26 cmM_next cvM_next mlM_224 (Or.inl ⟨_, _, _, _, _, rfl, k76, by decide, rfl⟩) rfl rfl (m_next hR hS.1.1 hS.1.g14 hS.1.le) (by decide) (Nat.le_refl _) (by decide) (Nat.le_of_ble_eq_true rfl) ?_
    rintro _ _ _ ⟨rfl, rfl, rfl⟩ -
    refine V_one ?_
    refine V_istore_n (loc' := [(2, .int (nx ch n (p + 1))), (1, .int (plc ch p)), (0, .ref 76)]) dM_takesTest_29 (by decide) rfl ?_
    refine V_aload_n dM_takesTest_30 rfl ?_
    refine V_iload_n dM_takesTest_31 rfl ?_
    refine V_bipush (v := 60) dM_takesTest_32 (by decide) ?_
    refine V_bipush (v := 62) dM_takesTest_34 (by decide) ?_
    refine V_callV (as := [.int (nx ch n (p + 1)), .int 60, .int 62]) (rest := []) (bs' := 0) rfl dM_takesTest_36 cmM_in cvM_in mlM_203 (Or.inl ⟨_, _, _, _, _, rfl, k76, by decide, rfl⟩) rfl rfl (m_in _ 60 62) (by decide) (Nat.le_refl _) (by decide) (Nat.le_of_ble_eq_true rfl) ?_
    rintro _ _ _ (⟨hb, rfl, rfl, rfl⟩ | ⟨hb, rfl, rfl, rfl⟩) -
    · refine V_one ?_
      have e37 : 60 ≤ ch (p + 1) ∧ ch (p + 1) ≤ 62 := (nx_in hS.1.1 (a := 60) (b := 62) (by decide) (by decide)).mp hb
      have hp1 : p + 1 < n := hS.1.1.lt (by omega)
      refine V_if_ne (tgt := 44) dM_takesTest_39 rfl (fun _ => ?_) (fun h => absurd h (by decide))
      refine V_aload_n dM_takesTest_44 rfl ?_
      refine V_dup dM_takesTest_45 rfl ?_
      refine V_getE (x := nI (p + 1)) dM_takesTest_46 flM_53 k76 rfl hS.1.g14 ?_
      refine V_iconst (v := 1) dM_takesTest_49 (by decide) ?_
      refine V_iadd dM_takesTest_50 ?_
      refine V_topI (x' := nI (p + 1 + 1)) (nI_1 _) ?_
      refine V_putI dM_takesTest_51 flM_53 (fpM_14 _) (Or.inl rfl) k76 rfl ?_
      have hS : ST (si (si s 76 14 (nI (p + 1))) 76 14 (nI (p + 1 + 1))) f n ch (p + 1 + 1) E W := hS.at (by omega)
      have hF : Fq (Fsc f) s (si (si s 76 14 (nI (p + 1))) 76 14 (nI (p + 1 + 1))) := hF.set Fsc14
      have hR := hF.rf hR0
      refine V_aload_n dM_takesTest_54 rfl ?_
      refine V_callV (as := []) (rest := []) (bs' := 0) rfl dM_takesTest_55 cmM_takesNumber cvM_takesNumber mlM_242 (Or.inl ⟨_, _, _, _, _, rfl, k76, by decide, rfl⟩) rfl rfl (m_number hR hS.1.1 hS.1.g14 hS.1.le) (by decide) (Nat.le_refl _) (by decide) (Nat.le_of_ble_eq_true rfl) ?_
      rintro _ _ t1 (⟨hn, rfl, rfl, hF1, h14, h15⟩ | ⟨hn, rfl, rfl, rfl⟩) -
      · refine V_one ?_
        have hnl := nuL_le hS.1.1.2.2.2 (q := p + 1 + 1) hS.1.le
        have hS : ST t1 f n ch (p + 1 + 1 + nuL ch (p + 1 + 1)) E W := hS.num hF1 h14 hnl
        have hF : Fq (Fsc f) s t1 := hF.trans (hF1.mono N15.fq)
        have hR := hF.rf hR0
        refine V_if_ne (tgt := 63) dM_takesTest_58 rfl (fun _ => ?_) (fun h => absurd h (by decide))
        refine V_aload_n dM_takesTest_63 rfl ?_
        refine V_sipush (v := 1000) dM_takesTest_64 (by decide) ?_
        refine V_iload_n dM_takesTest_67 rfl ?_
        refine V_imul dM_takesTest_68 ?_
        refine V_bipush (v := 100) dM_takesTest_69 (by decide) ?_
        refine V_iload_n dM_takesTest_71 rfl ?_
        refine V_bipush (v := 60) dM_takesTest_72 (by decide) ?_
        refine V_isub dM_takesTest_74 ?_
        refine V_imul dM_takesTest_75 ?_
        refine V_iadd dM_takesTest_76 ?_
        refine V_aload_n dM_takesTest_77 rfl ?_
        refine V_getE (x := nI (nuV ch (p + 2))) dM_takesTest_78 flM_56 k76 rfl h15 ?_
        refine V_iadd dM_takesTest_81 ?_
        refine V_topI (x' := encR (tsO ch p)) (by rw [show plc ch p = nI (ltr (ch p)) from if_neg e11, show nx ch n (p + 1) = nI (ch (p + 1)) from if_pos hp1]; exact tsO_R e11 e37) ?_
        refine V_callV (as := [.int (encR (tsO ch p))]) (rest := []) (bs' := 0) rfl dM_takesTest_82 cmM_emits cvM_emits mlM_235 (Or.inl ⟨_, _, _, _, _, rfl, k76, by decide, rfl⟩) rfl rfl (m_emits hR (a := 100 * f + E.length) hS.1.g24 (by omega)) (by decide) (Nat.le_refl _) (by decide) (Nat.le_of_ble_eq_true rfl) ?_
        rintro _ _ _ ⟨rfl, rfl, rfl⟩ -
        refine V_non ?_
        have hS : ST (si (si t1 90 (100 * f + E.length) (encR (tsO ch p))) 76 24 (nI (100 * f + E.length + 1))) f n ch _ (E ++ [tsO ch p]) W := hS.em (op := tsO ch p) rfl
        have hF : Fq (Fsc f) s (si (si t1 90 (100 * f + E.length) (encR (tsO ch p))) 76 24 (nI (100 * f + E.length + 1))) := (hF.set (Fsc90 (j := E.length) (by omega))).set Fsc24
        have hR := hF.rf hR0
        refine V_aload_n dM_takesTest_85 rfl ?_
        refine V_callV (as := []) (rest := []) (bs' := 0) rfl dM_takesTest_86 cmM_whole cvM_whole mlM_245 (Or.inl ⟨_, _, _, _, _, rfl, k76, by decide, rfl⟩) rfl rfl (m_whole hR hf hX hS (by rw [List.length_append]; show E.length + 1 + W.length ≤ 100; omega)) (by decide) (Nat.le_refl _) (by decide) (Nat.le_of_ble_eq_true rfl) ?_
        rintro _ _ t2 ⟨rfl, rfl, hF1, hS⟩ -
        refine V_non ?_
        have hF : Fq (Fsc f) s t2 := hF.trans hF1
        refine V_iconst (v := 1) dM_takesTest_89 (by decide) ?_
        refine V_zret dM_takesTest_90 rfl rfl rfl ?_
        rw [show tsP ch p = (true, p + 2 + nuL ch (p + 2), [tsO ch p], [tsO ch p]) from (if_neg e11).trans ((if_pos e37).trans (if_neg (fun e => absurd hn (by rw [show p + 1 + 1 = p + 2 from rfl, e]; decide))))]
        exact Or.inl ⟨rfl, rfl, rfl, hF, hS⟩
      · refine V_one ?_
        refine V_if_ne (tgt := 63) dM_takesTest_58 rfl (fun h => absurd h (by decide)) (fun _ => ?_)
        refine V_iconst (v := 0) dM_takesTest_61 (by decide) ?_
        refine V_zret dM_takesTest_62 rfl rfl rfl ?_
        rw [show tsP ch p = (false, p + 2, [], []) from (if_neg e11).trans ((if_pos e37).trans (if_pos hn))]
        exact Or.inr ⟨rfl, rfl, rfl, hF, hS.1.g14⟩
    · refine V_one ?_
      have e37 : ¬ (60 ≤ ch (p + 1) ∧ ch (p + 1) ≤ 62) := fun q => hb ((nx_in hS.1.1 (a := 60) (b := 62) (by decide) (by decide)).mpr q)
      refine V_if_ne (tgt := 44) dM_takesTest_39 rfl (fun h => absurd h (by decide)) (fun _ => ?_)
      refine V_iconst (v := 0) dM_takesTest_42 (by decide) ?_
      refine V_zret dM_takesTest_43 rfl rfl rfl ?_
      rw [show tsP ch p = (false, p + 1, [], []) from (if_neg e11).trans (if_neg e37)]
      exact Or.inr ⟨rfl, rfl, rfl, hF, hS.1.g14⟩
  · have e11 : ltr (ch p) = 6 := by
      by_cases h : ltr (ch p) = 6
      · exact h
      · rw [plc, if_neg h] at c10
        exact absurd (nI_pos' (by have := ltr_le (ch p); omega)) c10
    refine V_iconst (v := 0) dM_takesTest_13 (by decide) ?_
    refine V_zret dM_takesTest_14 rfl rfl rfl ?_
    rw [show tsP ch p = (false, p, [], []) from if_pos e11]
    exact Or.inr ⟨rfl, rfl, rfl, hF, hS.1.g14⟩
