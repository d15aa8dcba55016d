/-! the public methods: questions -/
def frX (a b x : Int32) : Int64 := if 0 ≤ x ∧ x ≤ 1 then (if b = 0 then (-9223372036854775808) else frS (cN a) (cN b) x) else (-9223372036854775808)
theorem c_frac {l : Launch} {G : GT} {σ : Hp} {a b : Int32} (x : Int32) {n m : Nat} (ha : isB a n) (hb : isB b m) (hn : n < 2 ^ 30) (hm : m < 2 ^ 30) : MM l G mG_fractionPart 1 0 0 [.int a, .int b, .int x] KA σ (PE (some (.long (frX a b x))) KA σ) := by
  obtain ⟨i, hi, rfl⟩ := ha
  obtain ⟨j, hj, rfl⟩ := hb
  unfold frX
  rw [nI_cN (by omega), nI_cN (by omega)]
  by_cases hx : 0 ≤ x ∧ x ≤ 1
  · rw [if_pos hx]
    rcases Nat.eq_zero_or_pos j with rfl | h0
    · rw [if_pos nI_0]
      exact c_fracNo _ _ _ (Or.inr (by rw [nI_0]; decide))
    · rw [if_neg (nI_ne0 h0 (by omega))]
      exact c_fracOk i j x (by omega) (by omega) h0 hx
  · rw [if_neg hx]
    exact c_fracNo _ _ _ (Or.inl hx)
theorem m_frac {l : Launch} {G : GT} {σ : Hp} {a b : Int32} (x : Int32) {n m : Nat} (ha : isB a n) (hb : isB b m) (hn : n < 2 ^ 30) (hm : m < 2 ^ 30) (hx : 0 ≤ x ∧ x ≤ 1) (h0 : ¬ b = 0) : MM l G mM_lowest 1 0 0 [.ref 76, .int a, .int b, .int x] KA σ (PE (some (.long (frX a b x))) KA σ) := by
  obtain ⟨i, hi, rfl⟩ := ha
  obtain ⟨j, hj, rfl⟩ := hb
  unfold frX
  rw [nI_cN (by omega), nI_cN (by omega), if_pos hx, if_neg h0]
  refine m_lowest i j x (by omega) (by omega) ?_
  rcases Nat.eq_zero_or_pos j with rfl | h1
  · exact absurd nI_0 h0
  · exact h1
theorem all_pos {L : Nat → List Cl} {M : Hp} (hI : Inv L M) (h : 0 < mW M) : ¬ chS M (allS M) (mW M) = 0 :=
  chS_pos hI h ((bit_iff _ (by omega)).mpr (by rw [bt_all hI (by omega)]; exact decide_eq_true h))
theorem lst0 {L : Nat → List Cl} {M : Hp} (hE : mE M ≤ 31) : lstS L M (nI 0) = 0 := minF_0 (fun w => by
  unfold gnS
  have : ∀ n, n ≤ 31 → sumI (fun e => if hasB (nI 0) (nI e) then payS L M e w - gi M 81 e else 0) n = 0 := by
    intro n
    induction n with
    | zero => intro _; rfl
    | succ n ih =>
      intro hn
      unfold sumI
      rw [ih (by omega), if_neg (by rw [nI_0]; exact hasB0 (by omega))]
      rfl
  exact this _ hE) _
def q_pay (L : Nat → List Cl) (M : Hp) (e w : Int32) : Int32 × Hp := if rng e (mE M) then (if rng w (mW M) then (payS L M (cN e) (cN w), M) else (-1, M)) else (-1, M)
def q_mean (L : Nat → List Cl) (M : Hp) (e x : Int32) : Int64 × Hp := if rng e (mE M) then (frX (wS L M (cN e) (gi M 80 (cN e)) (mD M) (mW M)) (chS M (allS M) (mW M)) x, M) else ((-9223372036854775808), M)
def q_gain (L : Nat → List Cl) (M : Hp) (set w : Int32) : Int32 × Hp := if rng w (mW M) then (if rng set (2 ^ mE M) then (gnS L M set (cN w) (mE M), M) else ((-100002), M)) else ((-100001), M)
def q_least (L : Nat → List Cl) (M : Hp) (set : Int32) : Int32 × Hp := if rng set (2 ^ mE M) then (lstS L M set, M) else ((-100002), M)
def q_left (M : Hp) : Int32 × Hp := (leftS M, M)
def q_odds (M : Hp) (e x : Int32) : Int64 × Hp := if rng e (mE M) then (frX (chS M (leftS M &&& gi M 80 (cN e)) (mW M)) (chS M (leftS M) (mW M)) x, M) else ((-9223372036854775808), M)
def q_knew (M : Hp) : Int32 × Hp := (knewS M (leftS M) (mE M), M)
def fsafe (L : Nat → List Cl) (M : Hp) (k : Nat) : Int32 := lstS L M (nI k)
def q_safest (L : Nat → List Cl) (M : Hp) (x : Int32) : Int32 × Hp := if 0 ≤ x ∧ x ≤ 1 then (if x = 0 then (nI (amx (fun k => lstS L M (nI k)) (2 ^ mE M)), M) else (lstS L M (nI (amx (fun k => lstS L M (nI k)) (2 ^ mE M))), M)) else ((-100001), M)
def q_sure (L : Nat → List Cl) (M : Hp) : Int32 × Hp := (if firstN (fun k => decide (1 ≤ k) && decide (¬ lstS L M (nI k) ≤ 0)) (2 ^ mE M) < 2 ^ mE M then nI (firstN (fun k => decide (1 ≤ k) && decide (¬ lstS L M (nI k) ≤ 0)) (2 ^ mE M)) else 0, M)
def q_against (M : Hp) (e : Int32) : Int32 × Hp := if rng e (mE M) then (agS M (cN e) (mE M), M) else (-1, M)
def q_cheap (L : Nat → List Cl) (M : Hp) : Int32 × Hp := (bmS L M (mE M), M)
def q_burnt (L : Nat → List Cl) (M : Hp) (e : Int32) : Int32 × Hp := if rng e (mE M) then (lstS L M (allE M &&& (((1 : Int32) <<< (e &&& 31)) ^^^ (-1))) - lstS L M (allE M), M) else ((-100001), M)
def q_worth (L : Nat → List Cl) (M : Hp) (x : Int32) : Int32 × Hp := if 0 ≤ x ∧ x ≤ 99 then (crS L M x (mE M), M) else (-2, M)
def q_crowd (M : Hp) (x : Int32) : Int32 × Hp := if 0 ≤ x ∧ x ≤ 1 then (if mW M = 0 then (-5, M) else if x = 0 then (nI (dearS M (mW M)), M) else (prS M (dearS M (mW M)) (mE M), M)) else (-1, M)
theorem g_pay {l : Launch} {G : GT} {L : Nat → List Cl} {M σ : Hp} (hC : RC L M σ) (hI : Inv L M) (e w : Int32) : MM l G mG_pay 5 0 0 [.ref 0, .int e, .int w] KA σ (PQ L σ (q_pay L M e w)) := by
  have hR := hC.1
  have hC0 := hC
  have hS : Sm σ σ := Sm.rfl
  refine MM.of (loc := [(0, .ref 0), (1, .int e), (2, .int w)]) (by decide +kernel) rfl (Nat.le_of_ble_eq_true rfl) ?_
  refine V_aload_n dG_pay_0 rfl ?_
  refine V_getR (a := 1) dG_pay_1 flG_12 k0 rfl (r0_0 hR) ?_
  refine V_iload_n dG_pay_4 rfl ?_
  refine V_callV (as := [.int e]) (rest := []) (bs' := 0) rfl dG_pay_5 cmF_find cvF_find mlG_90 (Or.inl ⟨_, _, _, _, _, rfl, k1, by decide, rfl⟩) rfl rfl (c_find hC hI e) (by decide) (Nat.le_refl _) (by decide) (Nat.le_of_ble_eq_true rfl) ?_
  rintro _ _ _ (⟨j5, hj5, hx5, rfl, rfl, rfl⟩ | ⟨hb5, rfl, rfl, rfl⟩) -
  · refine V_one ?_
    have hb5 : rng e (mE M) := hx5 ▸ rng_n hj5 (sm9 hI)
    have h85 := lt9 hI hj5
    have hcn5 : cN e = j5 := by rw [hx5]; exact nI_cN (by omega)
    refine V_astore_n (loc' := [(3, .ref (8 + 2 * j5)), (0, .ref 0), (1, .int e), (2, .int w)]) dG_pay_8 (by decide) rfl ?_
    refine V_aload_n dG_pay_9 rfl ?_
    refine V_ifnull dG_pay_10 ?_
    refine V_aload_n dG_pay_13 rfl ?_
    refine V_getR (a := 1) dG_pay_14 flG_12 k0 rfl (r0_0 hR) ?_
    refine V_iload_n dG_pay_17 rfl ?_
    refine V_callV (as := [.int w]) (rest := []) (bs' := 0) rfl dG_pay_18 cmF_hasWorld cvF_hasWorld mlG_68 (Or.inl ⟨_, _, _, _, _, rfl, k1, by decide, rfl⟩) rfl rfl (c_hasWorld hC hI w) (by decide) (Nat.le_refl _) (by decide) (Nat.le_of_ble_eq_true rfl) ?_
    rintro _ _ _ (⟨hb18, rfl, rfl, rfl⟩ | ⟨hb18, rfl, rfl, rfl⟩) -
    · refine V_one ?_
      refine V_if_ne (tgt := 26) dG_pay_21 rfl (fun _ => ?_) (fun h => absurd h (by decide))
      refine V_aload_n dG_pay_26 rfl ?_
      refine V_getR (a := 60) dG_pay_27 flG_33 k0 rfl (r0_4 hR) ?_
      refine V_aload_n dG_pay_30 rfl ?_
      refine V_iload_n dG_pay_31 rfl ?_
      refine V_topI (x' := nI (cN w)) (rng_N hb18 (sm7 hI)).1 ?_
      refine V_callV (as := [.ref (8 + 2 * j5), .int (nI (cN w))]) (rest := []) (bs' := 0) rfl dG_pay_32 cmP_payNow cvP_payNow mlG_149 (Or.inl ⟨_, _, _, _, _, rfl, k60, by decide, rfl⟩) rfl rfl (c_payNow hC hI hj5 (rng_N hb18 (sm7 hI)).2) (by decide) (Nat.le_refl _) (by decide) (Nat.le_of_ble_eq_true rfl) ?_
      rintro _ _ s1 ⟨rfl, rfl, hF1⟩ -
      refine V_one ?_
      have hC := hF1.rc hC
      have hS := hS.trans hF1.sm
      have hR := hC.1
      refine V_iret dG_pay_35 rfl rfl ?_
      have e : q_pay L M e w = (payS L M j5 (cN w), M) := by
        skip
        first
        | (simp only [q_pay, hcn5, if_pos hb5, if_pos hb18]; done)
        | (simp [q_pay, hb5, hcn5, hb18]; done)
        | (simp_all [q_pay]; done)
      rw [e]
      exact ⟨rfl, rfl, hC, hS⟩
    · refine V_one ?_
      refine V_if_ne (tgt := 26) dG_pay_21 rfl (fun h => absurd h (by decide)) (fun _ => ?_)
      refine V_iconst (v := -1) dG_pay_24 (by decide) ?_
      refine V_iret dG_pay_25 rfl rfl ?_
      have e : q_pay L M e w = ((-1), M) := by
        skip
        first
        | (simp only [q_pay, hcn5, if_pos hb5, if_neg hb18]; done)
        | (simp [q_pay, hb5, hcn5, hb18]; done)
        | (simp_all [q_pay]; done)
      rw [e]
      exact ⟨rfl, rfl, hC, hS⟩
  · refine V_one ?_
    refine V_astore_nN (loc' := [(3, .null), (0, .ref 0), (1, .int e), (2, .int w)]) dG_pay_8 (by decide) rfl ?_
    refine V_aload_nN dG_pay_9 rfl ?_
    refine V_ifnullN (tgt := 24) dG_pay_10 rfl ?_
    refine V_iconst (v := -1) dG_pay_24 (by decide) ?_
    refine V_iret dG_pay_25 rfl rfl ?_
    have e : q_pay L M e w = ((-1), M) := by
      skip
      first
      | (simp only [q_pay, if_neg hb5]; done)
      | (simp [q_pay, hb5]; done)
      | (simp_all [q_pay]; done)
    rw [e]
    exact ⟨rfl, rfl, hC, hS⟩
theorem g_mean {l : Launch} {G : GT} {L : Nat → List Cl} {M σ : Hp} (hC : RC L M σ) (hI : Inv L M) (e x : Int32) : MM l G mG_mean 6 0 0 [.ref 0, .int e, .int x] KA σ (PQl L σ (q_mean L M e x)) := by
  have hR := hC.1
  have hC0 := hC
  have hS : Sm σ σ := Sm.rfl
  refine MM.of (loc := [(0, .ref 0), (1, .int e), (2, .int x)]) (by decide +kernel) rfl (Nat.le_of_ble_eq_true rfl) ?_
  refine V_aload_n dG_mean_0 rfl ?_
  refine V_getR (a := 1) dG_mean_1 flG_12 k0 rfl (r0_0 hR) ?_
  refine V_iload_n dG_mean_4 rfl ?_
  refine V_callV (as := [.int e]) (rest := []) (bs' := 0) rfl dG_mean_5 cmF_find cvF_find mlG_90 (Or.inl ⟨_, _, _, _, _, rfl, k1, by decide, rfl⟩) rfl rfl (c_find hC hI e) (by decide) (Nat.le_refl _) (by decide) (Nat.le_of_ble_eq_true rfl) ?_
  rintro _ _ _ (⟨j5, hj5, hx5, rfl, rfl, rfl⟩ | ⟨hb5, rfl, rfl, rfl⟩) -
  · refine V_one ?_
    have hb5 : rng e (mE M) := hx5 ▸ rng_n hj5 (sm9 hI)
    have h85 := lt9 hI hj5
    have hcn5 : cN e = j5 := by rw [hx5]; exact nI_cN (by omega)
    refine V_astore_n (loc' := [(3, .ref (8 + 2 * j5)), (0, .ref 0), (1, .int e), (2, .int x)]) dG_mean_8 (by decide) rfl ?_
    refine V_aload_n dG_mean_9 rfl ?_
    refine V_ifnonnull (tgt := 17) dG_mean_10 rfl ?_
    refine V_aload_n dG_mean_17 rfl ?_
    refine V_getR (a := 60) dG_mean_18 flG_33 k0 rfl (r0_4 hR) ?_
    refine V_aload_n dG_mean_21 rfl ?_
    refine V_callV (as := [.ref (8 + 2 * j5)]) (rest := []) (bs' := 0) rfl dG_mean_22 cmP_weighedNow cvP_weighedNow mlG_155 (Or.inl ⟨_, _, _, _, _, rfl, k60, by decide, rfl⟩) rfl rfl (c_weighedNow hC hI hj5) (by decide) (Nat.le_refl _) (by decide) (Nat.le_of_ble_eq_true rfl) ?_
    rintro _ _ s1 ⟨rfl, rfl, hF1⟩ -
    refine V_one ?_
    have hC := hF1.rc hC
    have hS := hS.trans hF1.sm
    have hR := hC.1
    refine V_aload_n dG_mean_25 rfl ?_
    refine V_getR (a := 1) dG_mean_26 flG_12 k0 rfl (r0_0 hR) ?_
    refine V_aload_n dG_mean_29 rfl ?_
    refine V_getR (a := 1) dG_mean_30 flG_12 k0 rfl (r0_0 hR) ?_
    refine V_callV (as := []) (rest := [.ref 1, .int (wS L M j5 (gi M 80 j5) (mD M) (mW M))]) (bs' := 0) rfl dG_mean_33 cmF_allWorlds cvF_allWorlds mlG_133 (Or.inl ⟨_, _, _, _, _, rfl, k1, by decide, rfl⟩) rfl rfl (c_allWorlds hC hI) (by decide) (Nat.le_refl _) (by decide) (Nat.le_of_ble_eq_true rfl) ?_
    rintro _ _ _ ⟨rfl, rfl, rfl⟩ -
    refine V_one ?_
    refine V_callV (as := [.int (allS M)]) (rest := [.int (wS L M j5 (gi M 80 j5) (mD M) (mW M))]) (bs' := 0) rfl dG_mean_36 cmF_chancesOf cvF_chancesOf mlG_136 (Or.inl ⟨_, _, _, _, _, rfl, k1, by decide, rfl⟩) rfl rfl (c_chancesOf hC hI (allS M)) (by decide) (Nat.le_refl _) (by decide) (Nat.le_of_ble_eq_true rfl) ?_
    rintro _ _ _ ⟨rfl, rfl, rfl⟩ -
    refine V_one ?_
    refine V_iload_n dG_mean_39 rfl ?_
    refine V_callS (as := [.int (wS L M j5 (gi M 80 j5) (mD M) (mW M)), .int (chS M (allS M) (mW M)), .int x]) (rest := []) (bs' := 0) rfl dG_mean_40 cmG_fractionPart stG_fractionPart mlG_159 rfl rfl (c_frac x (wS_b hI hj5) (chS_b hI _) (by decide) (by decide)) (by decide) (Nat.le_refl _) (by decide) (Nat.le_of_ble_eq_true rfl) ?_
    rintro _ _ _ ⟨rfl, rfl, rfl⟩ -
    refine V_one ?_
    refine V_lret dG_mean_43 rfl rfl ?_
    have e : q_mean L M e x = (frX (wS L M j5 (gi M 80 j5) (mD M) (mW M)) (chS M (allS M) (mW M)) x, M) := by
      skip
      first
      | (simp only [q_mean, hcn5, if_pos hb5]; done)
      | (simp [q_mean, hb5, hcn5]; done)
      | (simp_all [q_mean]; done)
    rw [e]
    exact ⟨rfl, rfl, hC, hS⟩
  · refine V_one ?_
    refine V_astore_nN (loc' := [(3, .null), (0, .ref 0), (1, .int e), (2, .int x)]) dG_mean_8 (by decide) rfl ?_
    refine V_aload_nN dG_mean_9 rfl ?_
    refine V_ifnonnullN dG_mean_10 ?_
    refine V_ldc2 dG_mean_13 klG_153 ?_
    refine V_lret dG_mean_16 rfl rfl ?_
    have e : q_mean L M e x = ((-9223372036854775808), M) := by
      skip
      first
      | (simp only [q_mean, if_neg hb5]; done)
      | (simp [q_mean, hb5]; done)
      | (simp_all [q_mean]; done)
    rw [e]
    exact ⟨rfl, rfl, hC, hS⟩
theorem g_gain {l : Launch} {G : GT} {L : Nat → List Cl} {M σ : Hp} (hC : RC L M σ) (hI : Inv L M) (x w : Int32) : MM l G mG_gain 6 0 0 [.ref 0, .int x, .int w] KA σ (PQ L σ (q_gain L M x w)) := by
  have hR := hC.1
  have hC0 := hC
  have hS : Sm σ σ := Sm.rfl
  refine MM.of (loc := [(0, .ref 0), (1, .int x), (2, .int w)]) (by decide +kernel) rfl (Nat.le_of_ble_eq_true rfl) ?_
  refine V_aload_n dG_gain_0 rfl ?_
  refine V_getR (a := 1) dG_gain_1 flG_12 k0 rfl (r0_0 hR) ?_
  refine V_iload_n dG_gain_4 rfl ?_
  refine V_callV (as := [.int w]) (rest := []) (bs' := 0) rfl dG_gain_5 cmF_hasWorld cvF_hasWorld mlG_68 (Or.inl ⟨_, _, _, _, _, rfl, k1, by decide, rfl⟩) rfl rfl (c_hasWorld hC hI w) (by decide) (Nat.le_refl _) (by decide) (Nat.le_of_ble_eq_true rfl) ?_
  rintro _ _ _ (⟨hb5, rfl, rfl, rfl⟩ | ⟨hb5, rfl, rfl, rfl⟩) -
  · refine V_one ?_
    refine V_if_ne (tgt := 14) dG_gain_8 rfl (fun _ => ?_) (fun h => absurd h (by decide))
    refine V_iload_n dG_gain_14 rfl ?_
    refine V_aload_n dG_gain_15 rfl ?_
    refine V_getR (a := 1) dG_gain_16 flG_12 k0 rfl (r0_0 hR) ?_
    refine V_getE (x := nI (mE M)) dG_gain_19 flG_164 k1 rfl (cE hC hI) ?_
    refine V_callS (as := [.int x, .int (nI (mE M))]) (rest := []) (bs' := 0) rfl dG_gain_22 cmG_isWithin stG_isWithin mlG_83 rfl rfl (c_isWithin x (nI (mE M))) (by decide) (Nat.le_refl _) (by decide) (Nat.le_of_ble_eq_true rfl) ?_
    rintro _ _ _ (⟨hy22, rfl, rfl, rfl⟩ | ⟨hy22, rfl, rfl, rfl⟩) -
    · refine V_one ?_
      have hb22 : rng x (2 ^ (mE M)) := (shr_0 x (n := (mE M)) (by have := (iW hI).2; have := (iE hI).2; omega)).mp hy22
      refine V_if_ne (tgt := 31) dG_gain_25 rfl (fun _ => ?_) (fun h => absurd h (by decide))
      refine V_aload_n dG_gain_31 rfl ?_
      refine V_getR (a := 62) dG_gain_32 flG_42 k0 rfl (r0_5 hR) ?_
      refine V_callV (as := []) (rest := []) (bs' := 0) rfl dG_gain_35 cmS_lookAgain cvS_lookAgain mlG_168 (Or.inl ⟨_, _, _, _, _, rfl, k62, by decide, rfl⟩) rfl rfl (c_lookAgain hC hI) (by decide) (Nat.le_refl _) (by decide) (Nat.le_of_ble_eq_true rfl) ?_
      rintro _ _ s1 ⟨rfl, rfl, hF1, hQ⟩ -
      refine V_non ?_
      have hC := hF1.rc hC
      have hS := hS.trans hF1.sm
      have hR := hC.1
      refine V_aload_n dG_gain_38 rfl ?_
      refine V_getR (a := 62) dG_gain_39 flG_42 k0 rfl (r0_5 hR) ?_
      refine V_iload_n dG_gain_42 rfl ?_
      refine V_iload_n dG_gain_43 rfl ?_
      refine V_topI (x' := nI (cN w)) (rng_N hb5 (sm7 hI)).1 ?_
      refine V_callV (as := [.int x, .int (nI (cN w))]) (rest := []) (bs' := 0) rfl dG_gain_44 cmS_gainOf cvS_gainOf mlG_171 (Or.inl ⟨_, _, _, _, _, rfl, k62, by decide, rfl⟩) rfl rfl (c_gainOf hC hI hQ x (rng_N hb5 (sm7 hI)).2) (by decide) (Nat.le_refl _) (by decide) (Nat.le_of_ble_eq_true rfl) ?_
      rintro _ _ _ ⟨rfl, rfl, rfl⟩ -
      refine V_one ?_
      refine V_iret dG_gain_47 rfl rfl ?_
      have e : q_gain L M x w = (gnS L M x (cN w) (mE M), M) := by
        skip
        first
        | (simp only [q_gain, if_pos hb5, if_pos hb22]; done)
        | (simp [q_gain, hb5, hb22]; done)
        | (simp_all [q_gain]; done)
      rw [e]
      exact ⟨rfl, rfl, hC, hS⟩
    · refine V_one ?_
      have hb22 : ¬ rng x (2 ^ (mE M)) := fun q => hy22 ((shr_0 x (n := (mE M)) (by have := (iW hI).2; have := (iE hI).2; omega)).mpr q)
      refine V_if_ne (tgt := 31) dG_gain_25 rfl (fun h => absurd h (by decide)) (fun _ => ?_)
      refine V_ldc dG_gain_28 kcG_167 ?_
      refine V_iret dG_gain_30 rfl rfl ?_
      have e : q_gain L M x w = ((-100002), M) := by
        skip
        first
        | (simp only [q_gain, if_pos hb5, if_neg hb22]; done)
        | (simp [q_gain, hb5, hb22]; done)
        | (simp_all [q_gain]; done)
      rw [e]
      exact ⟨rfl, rfl, hC, hS⟩
  · refine V_one ?_
    refine V_if_ne (tgt := 14) dG_gain_8 rfl (fun h => absurd h (by decide)) (fun _ => ?_)
    refine V_ldc dG_gain_11 kcG_163 ?_
    refine V_iret dG_gain_13 rfl rfl ?_
    have e : q_gain L M x w = ((-100001), M) := by
      skip
      first
      | (simp only [q_gain, if_neg hb5]; done)
      | (simp [q_gain, hb5]; done)
      | (simp_all [q_gain]; done)
    rw [e]
    exact ⟨rfl, rfl, hC, hS⟩
theorem g_least {l : Launch} {G : GT} {L : Nat → List Cl} {M σ : Hp} (hC : RC L M σ) (hI : Inv L M) (x : Int32) : MM l G mG_least 6 0 0 [.ref 0, .int x] KA σ (PQ L σ (q_least L M x)) := by
  have hR := hC.1
  have hC0 := hC
  have hS : Sm σ σ := Sm.rfl
  refine MM.of (loc := [(0, .ref 0), (1, .int x)]) (by decide +kernel) rfl (Nat.le_of_ble_eq_true rfl) ?_
  refine V_iload_n dG_least_0 rfl ?_
  refine V_aload_n dG_least_1 rfl ?_
  refine V_getR (a := 1) dG_least_2 flG_12 k0 rfl (r0_0 hR) ?_
  refine V_getE (x := nI (mE M)) dG_least_5 flG_164 k1 rfl (cE hC hI) ?_
  refine V_callS (as := [.int x, .int (nI (mE M))]) (rest := []) (bs' := 0) rfl dG_least_8 cmG_isWithin stG_isWithin mlG_83 rfl rfl (c_isWithin x (nI (mE M))) (by decide) (Nat.le_refl _) (by decide) (Nat.le_of_ble_eq_true rfl) ?_
  rintro _ _ _ (⟨hy8, rfl, rfl, rfl⟩ | ⟨hy8, rfl, rfl, rfl⟩) -
  · refine V_one ?_
    have hb8 : rng x (2 ^ (mE M)) := (shr_0 x (n := (mE M)) (by have := (iW hI).2; have := (iE hI).2; omega)).mp hy8
    refine V_if_ne (tgt := 17) dG_least_11 rfl (fun _ => ?_) (fun h => absurd h (by decide))
    refine V_aload_n dG_least_17 rfl ?_
    refine V_getR (a := 62) dG_least_18 flG_42 k0 rfl (r0_5 hR) ?_
    refine V_callV (as := []) (rest := []) (bs' := 0) rfl dG_least_21 cmS_lookAgain cvS_lookAgain mlG_168 (Or.inl ⟨_, _, _, _, _, rfl, k62, by decide, rfl⟩) rfl rfl (c_lookAgain hC hI) (by decide) (Nat.le_refl _) (by decide) (Nat.le_of_ble_eq_true rfl) ?_
    rintro _ _ s1 ⟨rfl, rfl, hF1, hQ⟩ -
    refine V_non ?_
    have hC := hF1.rc hC
    have hS := hS.trans hF1.sm
    have hR := hC.1
    refine V_aload_n dG_least_24 rfl ?_
    refine V_getR (a := 62) dG_least_25 flG_42 k0 rfl (r0_5 hR) ?_
    refine V_iload_n dG_least_28 rfl ?_
    refine V_callV (as := [.int x]) (rest := []) (bs' := 0) rfl dG_least_29 cmS_leastOf cvS_leastOf mlG_174 (Or.inl ⟨_, _, _, _, _, rfl, k62, by decide, rfl⟩) rfl rfl (c_leastOf hC hI hQ x) (by decide) (Nat.le_refl _) (by decide) (Nat.le_of_ble_eq_true rfl) ?_
    rintro _ _ _ ⟨rfl, rfl, rfl⟩ -
    refine V_one ?_
    refine V_iret dG_least_32 rfl rfl ?_
    have e : q_least L M x = (lstS L M x, M) := by
      skip
      first
      | (simp only [q_least, if_pos hb8]; done)
      | (simp [q_least, hb8]; done)
      | (simp_all [q_least]; done)
    rw [e]
    exact ⟨rfl, rfl, hC, hS⟩
  · refine V_one ?_
    have hb8 : ¬ rng x (2 ^ (mE M)) := fun q => hy8 ((shr_0 x (n := (mE M)) (by have := (iW hI).2; have := (iE hI).2; omega)).mpr q)
    refine V_if_ne (tgt := 17) dG_least_11 rfl (fun h => absurd h (by decide)) (fun _ => ?_)
    refine V_ldc dG_least_14 kcG_167 ?_
    refine V_iret dG_least_16 rfl rfl ?_
    have e : q_least L M x = ((-100002), M) := by
      skip
      first
      | (simp only [q_least, if_neg hb8]; done)
      | (simp [q_least, hb8]; done)
      | (simp_all [q_least]; done)
    rw [e]
    exact ⟨rfl, rfl, hC, hS⟩
theorem g_left {l : Launch} {G : GT} {L : Nat → List Cl} {M σ : Hp} (hC : RC L M σ) (hI : Inv L M) : MM l G mG_left 2 0 0 [.ref 0] KA σ (PQ L σ (q_left M)) := by
  have hR := hC.1
  have hC0 := hC
  have hS : Sm σ σ := Sm.rfl
  refine MM.of (loc := [(0, .ref 0)]) (by decide +kernel) rfl (Nat.le_of_ble_eq_true rfl) ?_
  refine V_aload_n dG_left_0 rfl ?_
  refine V_getR (a := 1) dG_left_1 flG_12 k0 rfl (r0_0 hR) ?_
  refine V_callV (as := []) (rest := []) (bs' := 0) rfl dG_left_4 cmF_leftWorlds cvF_leftWorlds mlG_190 (Or.inl ⟨_, _, _, _, _, rfl, k1, by decide, rfl⟩) rfl rfl (c_leftWorlds hC hI) (by decide) (Nat.le_refl _) (by decide) (Nat.le_of_ble_eq_true rfl) ?_
  rintro _ _ _ ⟨rfl, rfl, rfl⟩ -
  refine V_one ?_
  refine V_iret dG_left_7 rfl rfl ?_
  have e : q_left M = (leftS M, M) := by
    skip
    first
    | (simp only [q_left]; done)
    | (simp [q_left]; done)
    | (simp_all [q_left]; done)
  rw [e]
  exact ⟨rfl, rfl, hC, hS⟩
theorem g_odds {l : Launch} {G : GT} {L : Nat → List Cl} {M σ : Hp} (hC : RC L M σ) (hI : Inv L M) (e x : Int32) : MM l G mG_odds 3 0 0 [.ref 0, .int e, .int x] KA σ (PQl L σ (q_odds M e x)) := by
  have hR := hC.1
  have hC0 := hC
  have hS : Sm σ σ := Sm.rfl
  refine MM.of (loc := [(0, .ref 0), (1, .int e), (2, .int x)]) (by decide +kernel) rfl (Nat.le_of_ble_eq_true rfl) ?_
  refine V_aload_n dG_odds_0 rfl ?_
  refine V_getR (a := 1) dG_odds_1 flG_12 k0 rfl (r0_0 hR) ?_
  refine V_iload_n dG_odds_4 rfl ?_
  refine V_callV (as := [.int e]) (rest := []) (bs' := 0) rfl dG_odds_5 cmF_find cvF_find mlG_90 (Or.inl ⟨_, _, _, _, _, rfl, k1, by decide, rfl⟩) rfl rfl (c_find hC hI e) (by decide) (Nat.le_refl _) (by decide) (Nat.le_of_ble_eq_true rfl) ?_
  rintro _ _ _ (⟨j5, hj5, hx5, rfl, rfl, rfl⟩ | ⟨hb5, rfl, rfl, rfl⟩) -
  · refine V_one ?_
    have hb5 : rng e (mE M) := hx5 ▸ rng_n hj5 (sm9 hI)
    have h85 := lt9 hI hj5
    have hcn5 : cN e = j5 := by rw [hx5]; exact nI_cN (by omega)
    refine V_astore_n (loc' := [(3, .ref (8 + 2 * j5)), (0, .ref 0), (1, .int e), (2, .int x)]) dG_odds_8 (by decide) rfl ?_
    refine V_aload_n dG_odds_9 rfl ?_
    refine V_ifnonnull (tgt := 17) dG_odds_10 rfl ?_
    refine V_aload_n dG_odds_17 rfl ?_
    refine V_getR (a := 1) dG_odds_18 flG_12 k0 rfl (r0_0 hR) ?_
    refine V_callV (as := []) (rest := []) (bs' := 0) rfl dG_odds_21 cmF_leftWorlds cvF_leftWorlds mlG_190 (Or.inl ⟨_, _, _, _, _, rfl, k1, by decide, rfl⟩) rfl rfl (c_leftWorlds hC hI) (by decide) (Nat.le_refl _) (by decide) (Nat.le_of_ble_eq_true rfl) ?_
    rintro _ _ _ ⟨rfl, rfl, rfl⟩ -
    refine V_one ?_
    refine V_istore (loc' := [(4, .int (leftS M)), (3, .ref (8 + 2 * j5)), (0, .ref 0), (1, .int e), (2, .int x)]) dG_odds_24 (by decide) rfl ?_
    refine V_aload_n dG_odds_26 rfl ?_
    refine V_getR (a := 1) dG_odds_27 flG_12 k0 rfl (r0_0 hR) ?_
    refine V_iload dG_odds_30 rfl ?_
    refine V_aload_n dG_odds_32 rfl ?_
    refine V_getE (x := gi M 80 j5) dG_odds_33 flG_102 (kE _ h85) rfl (eS hC h85) ?_
    refine V_iand dG_odds_36 ?_
    refine V_callV (as := [.int ((leftS M) &&& (gi M 80 j5))]) (rest := []) (bs' := 0) rfl dG_odds_37 cmF_chancesOf cvF_chancesOf mlG_136 (Or.inl ⟨_, _, _, _, _, rfl, k1, by decide, rfl⟩) rfl rfl (c_chancesOf hC hI ((leftS M) &&& (gi M 80 j5))) (by decide) (Nat.le_refl _) (by decide) (Nat.le_of_ble_eq_true rfl) ?_
    rintro _ _ _ ⟨rfl, rfl, rfl⟩ -
    refine V_one ?_
    refine V_aload_n dG_odds_40 rfl ?_
    refine V_getR (a := 1) dG_odds_41 flG_12 k0 rfl (r0_0 hR) ?_
    refine V_iload dG_odds_44 rfl ?_
    refine V_callV (as := [.int (leftS M)]) (rest := [.int (chS M ((leftS M) &&& (gi M 80 j5)) (mW M))]) (bs' := 0) rfl dG_odds_46 cmF_chancesOf cvF_chancesOf mlG_136 (Or.inl ⟨_, _, _, _, _, rfl, k1, by decide, rfl⟩) rfl rfl (c_chancesOf hC hI (leftS M)) (by decide) (Nat.le_refl _) (by decide) (Nat.le_of_ble_eq_true rfl) ?_
    rintro _ _ _ ⟨rfl, rfl, rfl⟩ -
    refine V_one ?_
    refine V_iload_n dG_odds_49 rfl ?_
    refine V_callS (as := [.int (chS M ((leftS M) &&& (gi M 80 j5)) (mW M)), .int (chS M (leftS M) (mW M)), .int x]) (rest := []) (bs' := 0) rfl dG_odds_50 cmG_fractionPart stG_fractionPart mlG_159 rfl rfl (c_frac x (chS_b hI _) (chS_b hI _) (by decide) (by decide)) (by decide) (Nat.le_refl _) (by decide) (Nat.le_of_ble_eq_true rfl) ?_
    rintro _ _ _ ⟨rfl, rfl, rfl⟩ -
    refine V_one ?_
    refine V_lret dG_odds_53 rfl rfl ?_
    have e : q_odds M e x = (frX (chS M ((leftS M) &&& (gi M 80 j5)) (mW M)) (chS M (leftS M) (mW M)) x, M) := by
      skip
      first
      | (simp only [q_odds, hcn5, if_pos hb5]; done)
      | (simp [q_odds, hb5, hcn5]; done)
      | (simp_all [q_odds]; done)
    rw [e]
    exact ⟨rfl, rfl, hC, hS⟩
  · refine V_one ?_
    refine V_astore_nN (loc' := [(3, .null), (0, .ref 0), (1, .int e), (2, .int x)]) dG_odds_8 (by decide) rfl ?_
    refine V_aload_nN dG_odds_9 rfl ?_
    refine V_ifnonnullN dG_odds_10 ?_
    refine V_ldc2 dG_odds_13 klG_153 ?_
    refine V_lret dG_odds_16 rfl rfl ?_
    have e : q_odds M e x = ((-9223372036854775808), M) := by
      skip
      first
      | (simp only [q_odds, if_neg hb5]; done)
      | (simp [q_odds, hb5]; done)
      | (simp_all [q_odds]; done)
    rw [e]
    exact ⟨rfl, rfl, hC, hS⟩
theorem g_knew {l : Launch} {G : GT} {L : Nat → List Cl} {M σ : Hp} (hC : RC L M σ) (hI : Inv L M) : MM l G mG_knew 2 0 0 [.ref 0] KA σ (PQ L σ (q_knew M)) := by
  have hR := hC.1
  have hC0 := hC
  have hS : Sm σ σ := Sm.rfl
  refine MM.of (loc := [(0, .ref 0)]) (by decide +kernel) rfl (Nat.le_of_ble_eq_true rfl) ?_
  refine V_aload_n dG_knew_0 rfl ?_
  refine V_getR (a := 1) dG_knew_1 flG_12 k0 rfl (r0_0 hR) ?_
  refine V_aload_n dG_knew_4 rfl ?_
  refine V_getR (a := 1) dG_knew_5 flG_12 k0 rfl (r0_0 hR) ?_
  refine V_callV (as := []) (rest := [.ref 1]) (bs' := 0) rfl dG_knew_8 cmF_leftWorlds cvF_leftWorlds mlG_190 (Or.inl ⟨_, _, _, _, _, rfl, k1, by decide, rfl⟩) rfl rfl (c_leftWorlds hC hI) (by decide) (Nat.le_refl _) (by decide) (Nat.le_of_ble_eq_true rfl) ?_
  rintro _ _ _ ⟨rfl, rfl, rfl⟩ -
  refine V_one ?_
  refine V_callV (as := [.int (leftS M)]) (rest := []) (bs' := 0) rfl dG_knew_11 cmF_trueInAll cvF_trueInAll mlG_193 (Or.inl ⟨_, _, _, _, _, rfl, k1, by decide, rfl⟩) rfl rfl (c_trueInAll hC hI (leftS M)) (by decide) (Nat.le_refl _) (by decide) (Nat.le_of_ble_eq_true rfl) ?_
  rintro _ _ _ ⟨rfl, rfl, rfl⟩ -
  refine V_one ?_
  refine V_iret dG_knew_14 rfl rfl ?_
  have e : q_knew M = (knewS M (leftS M) (mE M), M) := by
    skip
    first
    | (simp only [q_knew]; done)
    | (simp [q_knew]; done)
    | (simp_all [q_knew]; done)
  rw [e]
  exact ⟨rfl, rfl, hC, hS⟩
theorem g_safest {l : Launch} {G : GT} {L : Nat → List Cl} {M σ : Hp} (hC : RC L M σ) (hI : Inv L M) (x : Int32) : MM l G mG_safest 6 0 0 [.ref 0, .int x] KA σ (PQ L σ (q_safest L M x)) := by
  have hR := hC.1
  have hC0 := hC
  have hS : Sm σ σ := Sm.rfl
  refine MM.of (loc := [(0, .ref 0), (1, .int x)]) (by decide +kernel) rfl (Nat.le_of_ble_eq_true rfl) ?_
  refine V_iload_n dG_safest_0 rfl ?_
  refine V_iconst (v := 1) dG_safest_1 (by decide) ?_
  refine V_callS (as := [.int x, .int 1]) (rest := []) (bs' := 0) rfl dG_safest_2 cmG_isUpTo stG_isUpTo mlG_75 rfl rfl (c_isUpTo x 1) (by decide) (Nat.le_refl _) (by decide) (Nat.le_of_ble_eq_true rfl) ?_
  rintro _ _ _ (⟨hb2, rfl, rfl, rfl⟩ | ⟨hb2, rfl, rfl, rfl⟩) -
  · refine V_one ?_
    refine V_if_ne (tgt := 11) dG_safest_5 rfl (fun _ => ?_) (fun h => absurd h (by decide))
    refine V_aload_n dG_safest_11 rfl ?_
    refine V_getR (a := 62) dG_safest_12 flG_42 k0 rfl (r0_5 hR) ?_
    refine V_callV (as := []) (rest := []) (bs' := 0) rfl dG_safest_15 cmS_lookAgain cvS_lookAgain mlG_168 (Or.inl ⟨_, _, _, _, _, rfl, k62, by decide, rfl⟩) rfl rfl (c_lookAgain hC hI) (by decide) (Nat.le_refl _) (by decide) (Nat.le_of_ble_eq_true rfl) ?_
    rintro _ _ s1 ⟨rfl, rfl, hF1, hQ⟩ -
    refine V_non ?_
    have hC := hF1.rc hC
    have hS := hS.trans hF1.sm
    have hR := hC.1
    refine V_aload_n dG_safest_18 rfl ?_
    refine V_getR (a := 62) dG_safest_19 flG_42 k0 rfl (r0_5 hR) ?_
    refine V_callV (as := []) (rest := []) (bs' := 0) rfl dG_safest_22 cmS_safestSet cvS_safestSet mlG_203 (Or.inl ⟨_, _, _, _, _, rfl, k62, by decide, rfl⟩) rfl rfl (c_safestSet hC hI hQ) (by decide) (Nat.le_refl _) (by decide) (Nat.le_of_ble_eq_true rfl) ?_
    rintro _ _ _ ⟨rfl, rfl, rfl⟩ -
    refine V_one ?_
    refine V_istore_n (loc' := [(2, .int (nI (amx (fun k => lstS L M (nI k)) (2 ^ mE M)))), (0, .ref 0), (1, .int x)]) dG_safest_25 (by decide) rfl ?_
    refine V_iload_n dG_safest_26 rfl ?_
    refine V_if_ne (tgt := 34) dG_safest_27 rfl (fun c27 => ?_) (fun c27 => ?_)
    · skip
      refine V_aload_n dG_safest_34 rfl ?_
      refine V_getR (a := 62) dG_safest_35 flG_42 k0 rfl (r0_5 hR) ?_
      refine V_iload_n dG_safest_38 rfl ?_
      refine V_callV (as := [.int (nI (amx (fun k => lstS L M (nI k)) (2 ^ mE M)))]) (rest := []) (bs' := 0) rfl dG_safest_39 cmS_leastOf cvS_leastOf mlG_174 (Or.inl ⟨_, _, _, _, _, rfl, k62, by decide, rfl⟩) rfl rfl (c_leastOf hC hI hQ (nI (amx (fun k => lstS L M (nI k)) (2 ^ mE M)))) (by decide) (Nat.le_refl _) (by decide) (Nat.le_of_ble_eq_true rfl) ?_
      rintro _ _ _ ⟨rfl, rfl, rfl⟩ -
      refine V_one ?_
      refine V_iret dG_safest_42 rfl rfl ?_
      have e : q_safest L M x = (lstS L M (nI (amx (fun k => lstS L M (nI k)) (2 ^ mE M))), M) := by
        skip
        first
        | (simp only [q_safest, if_pos hb2, if_neg c27]; done)
        | (simp [q_safest, hb2, c27]; done)
        | (simp_all [q_safest]; done)
      rw [e]
      exact ⟨rfl, rfl, hC, hS⟩
    · skip
      refine V_iload_n dG_safest_30 rfl ?_
      refine V_goto (tgt := 42) dG_safest_31 rfl ?_
      refine V_iret dG_safest_42 rfl rfl ?_
      have e : q_safest L M x = (nI (amx (fun k => lstS L M (nI k)) (2 ^ mE M)), M) := by
        skip
        first
        | (simp only [q_safest, if_pos hb2, if_pos c27]; done)
        | (simp [q_safest, hb2, c27]; done)
        | (simp_all [q_safest]; done)
      rw [e]
      exact ⟨rfl, rfl, hC, hS⟩
  · refine V_one ?_
    refine V_if_ne (tgt := 11) dG_safest_5 rfl (fun h => absurd h (by decide)) (fun _ => ?_)
    refine V_ldc dG_safest_8 kcG_163 ?_
    refine V_iret dG_safest_10 rfl rfl ?_
    have e : q_safest L M x = ((-100001), M) := by
      skip
      first
      | (simp only [q_safest, if_neg hb2]; done)
      | (simp [q_safest, hb2]; done)
      | (simp_all [q_safest]; done)
    rw [e]
    exact ⟨rfl, rfl, hC, hS⟩
theorem g_sure {l : Launch} {G : GT} {L : Nat → List Cl} {M σ : Hp} (hC : RC L M σ) (hI : Inv L M) : MM l G mG_sure 6 0 0 [.ref 0] KA σ (PQ L σ (q_sure L M)) := by
  have hR := hC.1
  have hC0 := hC
  have hS : Sm σ σ := Sm.rfl
  refine MM.of (loc := [(0, .ref 0)]) (by decide +kernel) rfl (Nat.le_of_ble_eq_true rfl) ?_
  refine V_aload_n dG_sure_0 rfl ?_
  refine V_getR (a := 62) dG_sure_1 flG_42 k0 rfl (r0_5 hR) ?_
  refine V_callV (as := []) (rest := []) (bs' := 0) rfl dG_sure_4 cmS_lookAgain cvS_lookAgain mlG_168 (Or.inl ⟨_, _, _, _, _, rfl, k62, by decide, rfl⟩) rfl rfl (c_lookAgain hC hI) (by decide) (Nat.le_refl _) (by decide) (Nat.le_of_ble_eq_true rfl) ?_
  rintro _ _ s1 ⟨rfl, rfl, hF1, hQ⟩ -
  refine V_non ?_
  have hC := hF1.rc hC
  have hS := hS.trans hF1.sm
  have hR := hC.1
  refine V_aload_n dG_sure_7 rfl ?_
  refine V_getR (a := 62) dG_sure_8 flG_42 k0 rfl (r0_5 hR) ?_
  refine V_callV (as := []) (rest := []) (bs' := 0) rfl dG_sure_11 cmS_sureSet cvS_sureSet mlG_206 (Or.inl ⟨_, _, _, _, _, rfl, k62, by decide, rfl⟩) rfl rfl (c_sureSet hC hI hQ) (by decide) (Nat.le_refl _) (by decide) (Nat.le_of_ble_eq_true rfl) ?_
  rintro _ _ _ ⟨rfl, rfl, rfl⟩ -
  refine V_one ?_
  refine V_iret dG_sure_14 rfl rfl ?_
  have e : q_sure L M = (if firstN (fun k => decide (1 ≤ k) && decide (¬ lstS L M (nI k) ≤ 0)) (2 ^ mE M) < 2 ^ mE M then nI (firstN (fun k => decide (1 ≤ k) && decide (¬ lstS L M (nI k) ≤ 0)) (2 ^ mE M)) else 0, M) := by
    skip
    first
    | (simp only [q_sure]; done)
    | (simp [q_sure]; done)
    | (simp_all [q_sure]; done)
  rw [e]
  exact ⟨rfl, rfl, hC, hS⟩
theorem g_against {l : Launch} {G : GT} {L : Nat → List Cl} {M σ : Hp} (hC : RC L M σ) (hI : Inv L M) (e : Int32) : MM l G mG_against 1 0 0 [.ref 0, .int e] KA σ (PQ L σ (q_against M e)) := by
  have hR := hC.1
  have hC0 := hC
  have hS : Sm σ σ := Sm.rfl
  refine MM.of (loc := [(0, .ref 0), (1, .int e)]) (by decide +kernel) rfl (Nat.le_of_ble_eq_true rfl) ?_
  refine V_aload_n dG_against_0 rfl ?_
  refine V_getR (a := 1) dG_against_1 flG_12 k0 rfl (r0_0 hR) ?_
  refine V_iload_n dG_against_4 rfl ?_
  refine V_callV (as := [.int e]) (rest := []) (bs' := 0) rfl dG_against_5 cmF_find cvF_find mlG_90 (Or.inl ⟨_, _, _, _, _, rfl, k1, by decide, rfl⟩) rfl rfl (c_find hC hI e) (by decide) (Nat.le_refl _) (by decide) (Nat.le_of_ble_eq_true rfl) ?_
  rintro _ _ _ (⟨j5, hj5, hx5, rfl, rfl, rfl⟩ | ⟨hb5, rfl, rfl, rfl⟩) -
  · refine V_one ?_
    have hb5 : rng e (mE M) := hx5 ▸ rng_n hj5 (sm9 hI)
    have h85 := lt9 hI hj5
    have hcn5 : cN e = j5 := by rw [hx5]; exact nI_cN (by omega)
    refine V_astore_n (loc' := [(2, .ref (8 + 2 * j5)), (0, .ref 0), (1, .int e)]) dG_against_8 (by decide) rfl ?_
    refine V_aload_n dG_against_9 rfl ?_
    refine V_ifnonnull (tgt := 15) dG_against_10 rfl ?_
    refine V_aload_n dG_against_15 rfl ?_
    refine V_getR (a := 1) dG_against_16 flG_12 k0 rfl (r0_0 hR) ?_
    refine V_aload_n dG_against_19 rfl ?_
    refine V_callV (as := [.ref (8 + 2 * j5)]) (rest := []) (bs' := 0) rfl dG_against_20 cmF_othersFalseWith cvF_othersFalseWith mlG_212 (Or.inl ⟨_, _, _, _, _, rfl, k1, by decide, rfl⟩) rfl rfl (c_othersFalseWith hC hI hj5) (by decide) (Nat.le_refl _) (by decide) (Nat.le_of_ble_eq_true rfl) ?_
    rintro _ _ _ ⟨rfl, rfl, rfl⟩ -
    refine V_one ?_
    refine V_iret dG_against_23 rfl rfl ?_
    have e : q_against M e = (agS M j5 (mE M), M) := by
      skip
      first
      | (simp only [q_against, hcn5, if_pos hb5]; done)
      | (simp [q_against, hb5, hcn5]; done)
      | (simp_all [q_against]; done)
    rw [e]
    exact ⟨rfl, rfl, hC, hS⟩
  · refine V_one ?_
    refine V_astore_nN (loc' := [(2, .null), (0, .ref 0), (1, .int e)]) dG_against_8 (by decide) rfl ?_
    refine V_aload_nN dG_against_9 rfl ?_
    refine V_ifnonnullN dG_against_10 ?_
    refine V_iconst (v := -1) dG_against_13 (by decide) ?_
    refine V_iret dG_against_14 rfl rfl ?_
    have e : q_against M e = ((-1), M) := by
      skip
      first
      | (simp only [q_against, if_neg hb5]; done)
      | (simp [q_against, hb5]; done)
      | (simp_all [q_against]; done)
    rw [e]
    exact ⟨rfl, rfl, hC, hS⟩
theorem g_cheap {l : Launch} {G : GT} {L : Nat → List Cl} {M σ : Hp} (hC : RC L M σ) (hI : Inv L M) : MM l G mG_cheap 7 0 0 [.ref 0] KA σ (PQ L σ (q_cheap L M)) := by
  have hR := hC.1
  have hC0 := hC
  have hS : Sm σ σ := Sm.rfl
  refine MM.of (loc := [(0, .ref 0)]) (by decide +kernel) rfl (Nat.le_of_ble_eq_true rfl) ?_
  refine V_aload_n dG_cheap_0 rfl ?_
  refine V_getR (a := 60) dG_cheap_1 flG_33 k0 rfl (r0_4 hR) ?_
  refine V_callV (as := []) (rest := []) (bs' := 0) rfl dG_cheap_4 cmP_belowMean cvP_belowMean mlG_224 (Or.inl ⟨_, _, _, _, _, rfl, k60, by decide, rfl⟩) rfl rfl (c_belowMean hC hI) (by decide) (Nat.le_refl _) (by decide) (Nat.le_of_ble_eq_true rfl) ?_
  rintro _ _ s1 ⟨rfl, rfl, hF1⟩ -
  refine V_one ?_
  have hC := hF1.rc hC
  have hS := hS.trans hF1.sm
  have hR := hC.1
  refine V_iret dG_cheap_7 rfl rfl ?_
  have e : q_cheap L M = (bmS L M (mE M), M) := by
    skip
    first
    | (simp only [q_cheap]; done)
    | (simp [q_cheap]; done)
    | (simp_all [q_cheap]; done)
  rw [e]
  exact ⟨rfl, rfl, hC, hS⟩
theorem g_burnt {l : Launch} {G : GT} {L : Nat → List Cl} {M σ : Hp} (hC : RC L M σ) (hI : Inv L M) (e : Int32) : MM l G mG_burnt 6 0 0 [.ref 0, .int e] KA σ (PQ L σ (q_burnt L M e)) := by
  have hR := hC.1
  have hC0 := hC
  have hS : Sm σ σ := Sm.rfl
  refine MM.of (loc := [(0, .ref 0), (1, .int e)]) (by decide +kernel) rfl (Nat.le_of_ble_eq_true rfl) ?_
  refine V_aload_n dG_burnt_0 rfl ?_
  refine V_getR (a := 1) dG_burnt_1 flG_12 k0 rfl (r0_0 hR) ?_
  refine V_iload_n dG_burnt_4 rfl ?_
  refine V_callV (as := [.int e]) (rest := []) (bs' := 0) rfl dG_burnt_5 cmF_find cvF_find mlG_90 (Or.inl ⟨_, _, _, _, _, rfl, k1, by decide, rfl⟩) rfl rfl (c_find hC hI e) (by decide) (Nat.le_refl _) (by decide) (Nat.le_of_ble_eq_true rfl) ?_
  rintro _ _ _ (⟨j5, hj5, hx5, rfl, rfl, rfl⟩ | ⟨hb5, rfl, rfl, rfl⟩) -
  · refine V_one ?_
    have hb5 : rng e (mE M) := hx5 ▸ rng_n hj5 (sm9 hI)
    have h85 := lt9 hI hj5
    have hcn5 : cN e = j5 := by rw [hx5]; exact nI_cN (by omega)
    refine V_ifnonnull (tgt := 14) dG_burnt_8 rfl ?_
    refine V_aload_n dG_burnt_14 rfl ?_
    refine V_getR (a := 62) dG_burnt_15 flG_42 k0 rfl (r0_5 hR) ?_
    refine V_callV (as := []) (rest := []) (bs' := 0) rfl dG_burnt_18 cmS_lookAgain cvS_lookAgain mlG_168 (Or.inl ⟨_, _, _, _, _, rfl, k62, by decide, rfl⟩) rfl rfl (c_lookAgain hC hI) (by decide) (Nat.le_refl _) (by decide) (Nat.le_of_ble_eq_true rfl) ?_
    rintro _ _ s1 ⟨rfl, rfl, hF1, hQ⟩ -
    refine V_non ?_
    have hC := hF1.rc hC
    have hS := hS.trans hF1.sm
    have hR := hC.1
    refine V_aload_n dG_burnt_21 rfl ?_
    refine V_getR (a := 1) dG_burnt_22 flG_12 k0 rfl (r0_0 hR) ?_
    refine V_callV (as := []) (rest := []) (bs' := 0) rfl dG_burnt_25 cmF_allEnvelopes cvF_allEnvelopes mlG_227 (Or.inl ⟨_, _, _, _, _, rfl, k1, by decide, rfl⟩) rfl rfl (c_allEnvelopes hC hI) (by decide) (Nat.le_refl _) (by decide) (Nat.le_of_ble_eq_true rfl) ?_
    rintro _ _ _ ⟨rfl, rfl, rfl⟩ -
    refine V_one ?_
    refine V_istore_n (loc' := [(2, .int (allE M)), (0, .ref 0), (1, .int e)]) dG_burnt_28 (by decide) rfl ?_
    refine V_aload_n dG_burnt_29 rfl ?_
    refine V_getR (a := 62) dG_burnt_30 flG_42 k0 rfl (r0_5 hR) ?_
    refine V_iload_n dG_burnt_33 rfl ?_
    refine V_iconst (v := 1) dG_burnt_34 (by decide) ?_
    refine V_iload_n dG_burnt_35 rfl ?_
    refine V_ishl dG_burnt_36 ?_
    refine V_iconst (v := -1) dG_burnt_37 (by decide) ?_
    refine V_ixor dG_burnt_38 ?_
    refine V_iand dG_burnt_39 ?_
    refine V_callV (as := [.int ((allE M) &&& ((1 <<< (e &&& 31)) ^^^ (-1)))]) (rest := []) (bs' := 0) rfl dG_burnt_40 cmS_leastOf cvS_leastOf mlG_174 (Or.inl ⟨_, _, _, _, _, rfl, k62, by decide, rfl⟩) rfl rfl (c_leastOf hC hI hQ ((allE M) &&& ((1 <<< (e &&& 31)) ^^^ (-1)))) (by decide) (Nat.le_refl _) (by decide) (Nat.le_of_ble_eq_true rfl) ?_
    rintro _ _ _ ⟨rfl, rfl, rfl⟩ -
    refine V_one ?_
    refine V_aload_n dG_burnt_43 rfl ?_
    refine V_getR (a := 62) dG_burnt_44 flG_42 k0 rfl (r0_5 hR) ?_
    refine V_iload_n dG_burnt_47 rfl ?_
    refine V_callV (as := [.int (allE M)]) (rest := [.int (lstS L M ((allE M) &&& ((1 <<< (e &&& 31)) ^^^ (-1))))]) (bs' := 0) rfl dG_burnt_48 cmS_leastOf cvS_leastOf mlG_174 (Or.inl ⟨_, _, _, _, _, rfl, k62, by decide, rfl⟩) rfl rfl (c_leastOf hC hI hQ (allE M)) (by decide) (Nat.le_refl _) (by decide) (Nat.le_of_ble_eq_true rfl) ?_
    rintro _ _ _ ⟨rfl, rfl, rfl⟩ -
    refine V_one ?_
    refine V_isub dG_burnt_51 ?_
    refine V_iret dG_burnt_52 rfl rfl ?_
    have e : q_burnt L M e = ((lstS L M ((allE M) &&& ((1 <<< (e &&& 31)) ^^^ (-1)))) - (lstS L M (allE M)), M) := by
      skip
      first
      | (simp only [q_burnt, hcn5, if_pos hb5]; done)
      | (simp [q_burnt, hb5, hcn5]; done)
      | (simp_all [q_burnt]; done)
    rw [e]
    exact ⟨rfl, rfl, hC, hS⟩
  · refine V_one ?_
    refine V_ifnonnullN dG_burnt_8 ?_
    refine V_ldc dG_burnt_11 kcG_163 ?_
    refine V_iret dG_burnt_13 rfl rfl ?_
    have e : q_burnt L M e = ((-100001), M) := by
      skip
      first
      | (simp only [q_burnt, if_neg hb5]; done)
      | (simp [q_burnt, hb5]; done)
      | (simp_all [q_burnt]; done)
    rw [e]
    exact ⟨rfl, rfl, hC, hS⟩
theorem g_worth {l : Launch} {G : GT} {L : Nat → List Cl} {M σ : Hp} (hC : RC L M σ) (hI : Inv L M) (x : Int32) : MM l G mG_worth 7 0 0 [.ref 0, .int x] KA σ (PQ L σ (q_worth L M x)) := by
  have hR := hC.1
  have hC0 := hC
  have hS : Sm σ σ := Sm.rfl
  refine MM.of (loc := [(0, .ref 0), (1, .int x)]) (by decide +kernel) rfl (Nat.le_of_ble_eq_true rfl) ?_
  refine V_iload_n dG_worth_0 rfl ?_
  refine V_bipush (v := 99) dG_worth_1 (by decide) ?_
  refine V_callS (as := [.int x, .int 99]) (rest := []) (bs' := 0) rfl dG_worth_3 cmG_isUpTo stG_isUpTo mlG_75 rfl rfl (c_isUpTo x 99) (by decide) (Nat.le_refl _) (by decide) (Nat.le_of_ble_eq_true rfl) ?_
  rintro _ _ _ (⟨hb3, rfl, rfl, rfl⟩ | ⟨hb3, rfl, rfl, rfl⟩) -
  · refine V_one ?_
    refine V_if_ne (tgt := 12) dG_worth_6 rfl (fun _ => ?_) (fun h => absurd h (by decide))
    refine V_aload_n dG_worth_12 rfl ?_
    refine V_getR (a := 60) dG_worth_13 flG_33 k0 rfl (r0_4 hR) ?_
    refine V_iload_n dG_worth_16 rfl ?_
    refine V_callV (as := [.int x]) (rest := []) (bs' := 0) rfl dG_worth_17 cmP_payingAtLeast cvP_payingAtLeast mlG_230 (Or.inl ⟨_, _, _, _, _, rfl, k60, by decide, rfl⟩) rfl rfl (c_payingAtLeast hC hI x) (by decide) (Nat.le_refl _) (by decide) (Nat.le_of_ble_eq_true rfl) ?_
    rintro _ _ s1 ⟨rfl, rfl, hF1⟩ -
    refine V_one ?_
    have hC := hF1.rc hC
    have hS := hS.trans hF1.sm
    have hR := hC.1
    refine V_iret dG_worth_20 rfl rfl ?_
    have e : q_worth L M x = (crS L M x (mE M), M) := by
      skip
      first
      | (simp only [q_worth, if_pos hb3]; done)
      | (simp [q_worth, hb3]; done)
      | (simp_all [q_worth]; done)
    rw [e]
    exact ⟨rfl, rfl, hC, hS⟩
  · refine V_one ?_
    refine V_if_ne (tgt := 12) dG_worth_6 rfl (fun h => absurd h (by decide)) (fun _ => ?_)
    refine V_bipush (v := -2) dG_worth_9 (by decide) ?_
    refine V_iret dG_worth_11 rfl rfl ?_
    have e : q_worth L M x = ((-2), M) := by
      skip
      first
      | (simp only [q_worth, if_neg hb3]; done)
      | (simp [q_worth, hb3]; done)
      | (simp_all [q_worth]; done)
    rw [e]
    exact ⟨rfl, rfl, hC, hS⟩
theorem g_crowd {l : Launch} {G : GT} {L : Nat → List Cl} {M σ : Hp} (hC : RC L M σ) (hI : Inv L M) (x : Int32) : MM l G mG_crowd 3 0 0 [.ref 0, .int x] KA σ (PQ L σ (q_crowd M x)) := by
  have hR := hC.1
  have hC0 := hC
  have hS : Sm σ σ := Sm.rfl
  refine MM.of (loc := [(0, .ref 0), (1, .int x)]) (by decide +kernel) rfl (Nat.le_of_ble_eq_true rfl) ?_
  refine V_iload_n dG_crowd_0 rfl ?_
  refine V_iconst (v := 1) dG_crowd_1 (by decide) ?_
  refine V_callS (as := [.int x, .int 1]) (rest := []) (bs' := 0) rfl dG_crowd_2 cmG_isUpTo stG_isUpTo mlG_75 rfl rfl (c_isUpTo x 1) (by decide) (Nat.le_refl _) (by decide) (Nat.le_of_ble_eq_true rfl) ?_
  rintro _ _ _ (⟨hb2, rfl, rfl, rfl⟩ | ⟨hb2, rfl, rfl, rfl⟩) -
  · refine V_one ?_
    refine V_if_ne (tgt := 10) dG_crowd_5 rfl (fun _ => ?_) (fun h => absurd h (by decide))
    refine V_aload_n dG_crowd_10 rfl ?_
    refine V_getR (a := 1) dG_crowd_11 flG_12 k0 rfl (r0_0 hR) ?_
    refine V_getE (x := nI (mW M)) dG_crowd_14 flG_79 k1 rfl (cW hC hI) ?_
    refine V_if_ne (tgt := 23) dG_crowd_17 rfl (fun c17 => ?_) (fun c17 => ?_)
    · skip
      have hz17 : ¬ mW M = 0 := fun q => c17 (by rw [q]; rfl)
      refine V_aload_n dG_crowd_23 rfl ?_
      refine V_getR (a := 1) dG_crowd_24 flG_12 k0 rfl (r0_0 hR) ?_
      refine V_callV (as := []) (rest := []) (bs' := 0) rfl dG_crowd_27 cmF_dearestWorld cvF_dearestWorld mlG_218 (Or.inl ⟨_, _, _, _, _, rfl, k1, by decide, rfl⟩) rfl rfl (c_dearestWorld hC hI (by omega)) (by decide) (Nat.le_refl _) (by decide) (Nat.le_of_ble_eq_true rfl) ?_
      rintro _ _ _ ⟨rfl, rfl, rfl⟩ -
      refine V_one ?_
      refine V_istore_n (loc' := [(2, .int (nI (dearS M (mW M)))), (0, .ref 0), (1, .int x)]) dG_crowd_30 (by decide) rfl ?_
      refine V_iload_n dG_crowd_31 rfl ?_
      refine V_if_ne (tgt := 39) dG_crowd_32 rfl (fun c32 => ?_) (fun c32 => ?_)
      · skip
        refine V_aload_n dG_crowd_39 rfl ?_
        refine V_getR (a := 1) dG_crowd_40 flG_12 k0 rfl (r0_0 hR) ?_
        refine V_iload_n dG_crowd_43 rfl ?_
        refine V_callV (as := [.int (nI (dearS M (mW M)))]) (rest := []) (bs' := 0) rfl dG_crowd_44 cmF_pricesIn cvF_pricesIn mlG_221 (Or.inl ⟨_, _, _, _, _, rfl, k1, by decide, rfl⟩) rfl rfl (c_pricesIn hC hI _) (by decide) (Nat.le_refl _) (by decide) (Nat.le_of_ble_eq_true rfl) ?_
        rintro _ _ _ ⟨rfl, rfl, rfl⟩ -
        refine V_one ?_
        refine V_iret dG_crowd_47 rfl rfl ?_
        have e : q_crowd M x = (prS M (dearS M (mW M)) (mE M), M) := by
          skip
          first
          | (simp only [q_crowd, if_pos hb2, if_neg hz17, if_neg c32]; done)
          | (simp [q_crowd, hb2, hz17, c32]; done)
          | (simp_all [q_crowd]; done)
        rw [e]
        exact ⟨rfl, rfl, hC, hS⟩
      · skip
        refine V_iload_n dG_crowd_35 rfl ?_
        refine V_goto (tgt := 47) dG_crowd_36 rfl ?_
        refine V_iret dG_crowd_47 rfl rfl ?_
        have e : q_crowd M x = (nI (dearS M (mW M)), M) := by
          skip
          first
          | (simp only [q_crowd, if_pos hb2, if_neg hz17, if_pos c32]; done)
          | (simp [q_crowd, hb2, hz17, c32]; done)
          | (simp_all [q_crowd]; done)
        rw [e]
        exact ⟨rfl, rfl, hC, hS⟩
    · skip
      have hz17 : mW M = 0 := (nI_eq (b := 0) (sm7 hI) (by decide)).mp c17
      refine V_bipush (v := -5) dG_crowd_20 (by decide) ?_
      refine V_iret dG_crowd_22 rfl rfl ?_
      have e : q_crowd M x = ((-5), M) := by
        skip
        first
        | (simp only [q_crowd, if_pos hb2, if_pos hz17]; done)
        | (simp [q_crowd, hb2, hz17]; done)
        | (simp_all [q_crowd]; done)
      rw [e]
      exact ⟨rfl, rfl, hC, hS⟩
  · refine V_one ?_
    refine V_if_ne (tgt := 10) dG_crowd_5 rfl (fun h => absurd h (by decide)) (fun _ => ?_)
    refine V_iconst (v := -1) dG_crowd_8 (by decide) ?_
    refine V_iret dG_crowd_9 rfl rfl ?_
    have e : q_crowd M x = ((-1), M) := by
      skip
      first
      | (simp only [q_crowd, if_neg hb2]; done)
      | (simp [q_crowd, hb2]; done)
      | (simp_all [q_crowd]; done)
    rw [e]
    exact ⟨rfl, rfl, hC, hS⟩
