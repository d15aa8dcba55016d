/-! the public methods: best, when -/
theorem wS_say {L : Nat → List Cl} {M : Hp} {j e d n : Nat} {y s : Int32} : wS L (si M 80 j y) e s d n = wS L M e s d n := rfl
theorem wS_day {L : Nat → List Cl} {M : Hp} {e d n : Nat} {y s : Int32} : wS L (si M 76 2 y) e s d n = wS L M e s d n := rfl
theorem Pw_day {L : Nat → List Cl} {M : Hp} (h : Pw L M) {d : Nat} (hd : d < 2 ^ 31) : Pw L (si M 76 2 (nI d)) := by
  obtain ⟨⟨a1, a2, a3⟩, a4, a5⟩ := h
  refine ⟨⟨a1, a2, ?_⟩, a4, RMl_c (fun k j hk => ?_) a5⟩
  · show nI d = nI (cN (nI d))
    rw [nI_cN hd]
  · have : ¬ (k = 76 ∧ j = 2) := by omega
    simp only [gi, si, if_neg this]
theorem mD_day {M : Hp} {d : Nat} (hd : d < 2 ^ 31) : mD (si M 76 2 (nI d)) = d := nI_cN hd
def vB (f : Nat → Int32) (n : Nat) : Int32 := if n = 0 then -1 else f (amx f n)
theorem amx_lt {f : Nat → Int32} : ∀ n, 0 < n → amx f n < n
  | n + 1, _ => by
    unfold amx
    split
    · omega
    · next h =>
      have := amx_lt (f := f) n (by omega)
      split <;> omega
theorem amx_S {f : Nat → Int32} {n : Nat} (c : vB f n < f n) : amx f (n + 1) = n ∧ vB f (n + 1) = f n := by
  by_cases h : n = 0
  · subst h
    exact ⟨rfl, rfl⟩
  · unfold vB at c
    rw [if_neg h] at c
    have e : amx f (n + 1) = n := by unfold amx; rw [if_neg h, if_pos c]
    unfold vB
    rw [if_neg (by omega), e]
    exact ⟨rfl, rfl⟩
theorem amx_K {f : Nat → Int32} {n : Nat} (h0 : -1 < f 0) (c : ¬ vB f n < f n) : amx f (n + 1) = amx f n ∧ vB f (n + 1) = vB f n := by
  by_cases h : n = 0
  · subst h
    exact absurd h0 c
  · unfold vB at c
    rw [if_neg h] at c
    have e : amx f (n + 1) = amx f n := by
      rw [show amx f (n + 1) = if n = 0 then 0 else if f (amx f n) < f n then n else amx f n from rfl, if_neg h, if_neg c]
    simp [vB, h, e]
theorem m1_lt {x : Int32} {n : Nat} (h : isB x n) (hn : n < 2 ^ 31) : (-1 : Int32) < x := by
  rw [Int32.lt_iff_toInt_lt]
  have := h.toInt hn
  have e : (-1 : Int32).toInt = -1 := rfl
  omega
def fBest (L : Nat → List Cl) (M : Hp) (e k : Nat) : Int32 := wS L M e (nI k) (mD M) (mW M)
def fWhen (L : Nat → List Cl) (M : Hp) (e k : Nat) : Int32 := wS L M e (gi M 80 e) (mD M + k) (mW M)
def q_best (L : Nat → List Cl) (M : Hp) (e x : Int32) : Int32 × Hp := if rng e (mE M) then (if 0 ≤ x ∧ x ≤ 1 then (if x = 0 then (nI (amx (fBest L M (cN e)) (2 ^ mW M)), M) else (fBest L M (cN e) (amx (fBest L M (cN e)) (2 ^ mW M)), M)) else (-1, M)) else (-1, M)
def q_when (L : Nat → List Cl) (M : Hp) (e wt x : Int32) : Int32 × Hp := if rng e (mE M) then (if 0 ≤ x ∧ x ≤ 1 then (if 0 ≤ wt ∧ wt ≤ 60 then (if x = 0 then (nI (amx (fWhen L M (cN e)) (cN wt + 1)), M) else (fWhen L M (cN e) (amx (fWhen L M (cN e)) (cN wt + 1)), M)) else (-2, M)) else (-1, M)) else (-1, M)
theorem g_best {l : Launch} {G : GT} {L : Nat → List Cl} {M σ : Hp} (hC : RC L M σ) (hI : Inv L M) (e x : Int32) : MM l G mG_best 6 0 0 [.ref 0, .int e, .int x] KA σ (PQ L σ (q_best L M e x)) := by
  have hR := hC.1
  have hC0 := hC
  have hS : Sm σ σ := Sm.rfl
  refine MM.of (loc := [(0, .ref 0), (1, .int e), (2, .int x)]) (by decide +kernel) rfl (Nat.le_of_ble_eq_true rfl) ?_
  refine V_aload_n dG_best_0 rfl ?_
  refine V_getR (a := 1) dG_best_1 flG_12 k0 rfl (r0_0 hR) ?_
  refine V_iload_n dG_best_4 rfl ?_
  refine V_callV (as := [.int e]) (rest := []) (bs' := 0) rfl dG_best_5 cmF_find cvF_find mlG_90 (Or.inl ⟨_, _, _, _, _, rfl, k1, by decide, rfl⟩) rfl rfl (c_find hC hI e) (by decide) (Nat.le_refl _) (by decide) (Nat.le_of_ble_eq_true rfl) ?_
  rintro _ _ _ (⟨j5, hj5, hx5, rfl, rfl, rfl⟩ | ⟨hb5, rfl, rfl, rfl⟩) -
  · refine V_one ?_
    have hb5 : rng e (mE M) := hx5 ▸ rng_n hj5 (sm9 hI)
    have h85 := lt9 hI hj5
    have hcn5 : cN e = j5 := by rw [hx5]; exact nI_cN (by omega)
    refine V_astore_n (loc' := [(3, .ref (8 + 2 * j5)), (0, .ref 0), (1, .int e), (2, .int x)]) dG_best_8 (by decide) rfl ?_
    refine V_aload_n dG_best_9 rfl ?_
    refine V_ifnull dG_best_10 ?_
    refine V_iload_n dG_best_13 rfl ?_
    refine V_iconst (v := 1) dG_best_14 (by decide) ?_
    refine V_callS (as := [.int x, .int 1]) (rest := []) (bs' := 0) rfl dG_best_15 cmG_isUpTo stG_isUpTo mlG_75 rfl rfl (c_isUpTo x 1) (by decide) (Nat.le_refl _) (by decide) (Nat.le_of_ble_eq_true rfl) ?_
    rintro _ _ _ (⟨hb15, rfl, rfl, rfl⟩ | ⟨hb15, rfl, rfl, rfl⟩) -
    · refine V_one ?_
      refine V_if_ne (tgt := 23) dG_best_18 rfl (fun _ => ?_) (fun h => absurd h (by decide))
      refine V_aload_n dG_best_23 rfl ?_
      refine V_getR (a := 60) dG_best_24 flG_33 k0 rfl (r0_4 hR) ?_
      refine V_aload_n dG_best_27 rfl ?_
      refine V_callV (as := [.ref (8 + 2 * j5)]) (rest := []) (bs' := 0) rfl dG_best_28 cmP_bestSaying cvP_bestSaying mlG_196 (Or.inl ⟨_, _, _, _, _, rfl, k60, by decide, rfl⟩) rfl rfl (c_bestSaying hC hI hj5) (by decide) (Nat.le_refl _) (by decide) (Nat.le_of_ble_eq_true rfl) ?_
      rintro _ _ s1 ⟨rfl, rfl, hF1⟩ -
      refine V_one ?_
      have hC := hF1.rc hC
      have hS := hS.trans hF1.sm
      have hR := hC.1
      refine V_istore (loc' := [(4, .int (nI (amx (fBest L M j5) (2 ^ mW M)))), (3, .ref (8 + 2 * j5)), (0, .ref 0), (1, .int e), (2, .int x)]) dG_best_31 (by decide) rfl ?_
      refine V_iload_n dG_best_33 rfl ?_
      refine V_if_ne (tgt := 42) dG_best_34 rfl (fun c34 => ?_) (fun c34 => ?_)
      · skip
        refine V_aload_n dG_best_42 rfl ?_
        refine V_getR (a := 60) dG_best_43 flG_33 k0 rfl (r0_4 hR) ?_
        refine V_aload_n dG_best_46 rfl ?_
        refine V_iload dG_best_47 rfl ?_
        refine V_aload_n dG_best_49 rfl ?_
        refine V_getR (a := 1) dG_best_50 flG_12 k0 rfl (r0_0 hR) ?_
        refine V_getE (x := nI (mD M)) dG_best_53 flG_108 k1 rfl (cD hC hI) ?_
        refine V_callV (as := [.ref (8 + 2 * j5), .int (nI (amx (fBest L M j5) (2 ^ mW M))), .int (nI (mD M))]) (rest := []) (bs' := 0) rfl dG_best_56 cmP_weighed cvP_weighed mlG_199 (Or.inl ⟨_, _, _, _, _, rfl, k60, by decide, rfl⟩) rfl rfl (c_weighed (d := mD M) hC hI hj5 (k := amx (fBest L M j5) (2 ^ mW M)) (by have := amx_lt (f := fBest L M j5) (2 ^ mW M) (pw1 _); have := pwI hI; omega)) (by decide) (Nat.le_refl _) (by decide) (Nat.le_of_ble_eq_true rfl) ?_
        rintro _ _ s2 ⟨rfl, rfl, hF1⟩ -
        refine V_one ?_
        have hC := hF1.rc hC
        have hS := hS.trans hF1.sm
        have hR := hC.1
        refine V_iret dG_best_59 rfl rfl ?_
        have e : q_best L M e x = (fBest L M j5 (amx (fBest L M j5) (2 ^ mW M)), M) := by
          skip
          first
          | (simp only [q_best, hcn5, if_pos hb5, if_pos hb15, if_pos c34]; done)
          | (simp [q_best, hb5, hcn5, hb15, c34]; done)
          | (simp_all [q_best]; done)
        rw [e]
        exact ⟨rfl, rfl, hC, hS⟩
      · skip
        refine V_iload dG_best_37 rfl ?_
        refine V_goto (tgt := 59) dG_best_39 rfl ?_
        refine V_iret dG_best_59 rfl rfl ?_
        have e : q_best L M e x = (nI (amx (fBest L M j5) (2 ^ mW M)), M) := by
          skip
          first
          | (simp only [q_best, hcn5, if_pos hb5, if_pos hb15, if_neg c34]; done)
          | (simp [q_best, hb5, hcn5, hb15, c34]; done)
          | (simp_all [q_best]; done)
        rw [e]
        exact ⟨rfl, rfl, hC, hS⟩
    · refine V_one ?_
      refine V_if_ne (tgt := 23) dG_best_18 rfl (fun h => absurd h (by decide)) (fun _ => ?_)
      refine V_iconst (v := -1) dG_best_21 (by decide) ?_
      refine V_iret dG_best_22 rfl rfl ?_
      have e : q_best L M e x = ((-1), M) := by
        skip
        first
        | (simp only [q_best, hcn5, if_pos hb5, if_neg hb15]; done)
        | (simp [q_best, hb5, hcn5, hb15]; done)
        | (simp_all [q_best]; done)
      rw [e]
      exact ⟨rfl, rfl, hC, hS⟩
  · refine V_one ?_
    refine V_astore_nN (loc' := [(3, .null), (0, .ref 0), (1, .int e), (2, .int x)]) dG_best_8 (by decide) rfl ?_
    refine V_aload_nN dG_best_9 rfl ?_
    refine V_ifnullN (tgt := 21) dG_best_10 rfl ?_
    refine V_iconst (v := -1) dG_best_21 (by decide) ?_
    refine V_iret dG_best_22 rfl rfl ?_
    have e : q_best L M e x = ((-1), M) := by
      skip
      first
      | (simp only [q_best, if_neg hb5]; done)
      | (simp [q_best, hb5]; done)
      | (simp_all [q_best]; done)
    rw [e]
    exact ⟨rfl, rfl, hC, hS⟩
theorem g_when {l : Launch} {G : GT} {L : Nat → List Cl} {M σ : Hp} (hC : RC L M σ) (hI : Inv L M) (e y x : Int32) : MM l G mG_when 7 0 0 [.ref 0, .int e, .int y, .int x] KA σ (PQ L σ (q_when L M e y x)) := by
  have hR := hC.1
  have hC0 := hC
  have hS : Sm σ σ := Sm.rfl
  refine MM.of (loc := [(0, .ref 0), (1, .int e), (2, .int y), (3, .int x)]) (by decide +kernel) rfl (Nat.le_of_ble_eq_true rfl) ?_
  refine V_aload_n dG_when_0 rfl ?_
  refine V_getR (a := 1) dG_when_1 flG_12 k0 rfl (r0_0 hR) ?_
  refine V_iload_n dG_when_4 rfl ?_
  refine V_callV (as := [.int e]) (rest := []) (bs' := 0) rfl dG_when_5 cmF_find cvF_find mlG_90 (Or.inl ⟨_, _, _, _, _, rfl, k1, by decide, rfl⟩) rfl rfl (c_find hC hI e) (by decide) (Nat.le_refl _) (by decide) (Nat.le_of_ble_eq_true rfl) ?_
  rintro _ _ _ (⟨j5, hj5, hx5, rfl, rfl, rfl⟩ | ⟨hb5, rfl, rfl, rfl⟩) -
  · refine V_one ?_
    have hb5 : rng e (mE M) := hx5 ▸ rng_n hj5 (sm9 hI)
    have h85 := lt9 hI hj5
    have hcn5 : cN e = j5 := by rw [hx5]; exact nI_cN (by omega)
    refine V_astore (loc' := [(4, .ref (8 + 2 * j5)), (0, .ref 0), (1, .int e), (2, .int y), (3, .int x)]) dG_when_8 (by decide) rfl ?_
    refine V_aload dG_when_10 rfl ?_
    refine V_ifnull dG_when_12 ?_
    refine V_iload_n dG_when_15 rfl ?_
    refine V_iconst (v := 1) dG_when_16 (by decide) ?_
    refine V_callS (as := [.int x, .int 1]) (rest := []) (bs' := 0) rfl dG_when_17 cmG_isUpTo stG_isUpTo mlG_75 rfl rfl (c_isUpTo x 1) (by decide) (Nat.le_refl _) (by decide) (Nat.le_of_ble_eq_true rfl) ?_
    rintro _ _ _ (⟨hb17, rfl, rfl, rfl⟩ | ⟨hb17, rfl, rfl, rfl⟩) -
    · refine V_one ?_
      refine V_if_ne (tgt := 25) dG_when_20 rfl (fun _ => ?_) (fun h => absurd h (by decide))
      refine V_iload_n dG_when_25 rfl ?_
      refine V_bipush (v := 60) dG_when_26 (by decide) ?_
      refine V_callS (as := [.int y, .int 60]) (rest := []) (bs' := 0) rfl dG_when_28 cmG_isUpTo stG_isUpTo mlG_75 rfl rfl (c_isUpTo y 60) (by decide) (Nat.le_refl _) (by decide) (Nat.le_of_ble_eq_true rfl) ?_
      rintro _ _ _ (⟨hb28, rfl, rfl, rfl⟩ | ⟨hb28, rfl, rfl, rfl⟩) -
      · refine V_one ?_
        refine V_if_ne (tgt := 37) dG_when_31 rfl (fun _ => ?_) (fun h => absurd h (by decide))
        refine V_aload_n dG_when_37 rfl ?_
        refine V_getR (a := 60) dG_when_38 flG_33 k0 rfl (r0_4 hR) ?_
        refine V_aload dG_when_41 rfl ?_
        refine V_iload_n dG_when_43 rfl ?_
        refine V_topI (x' := nI (cN y)) (isN_le (n := 60) rfl (by decide) hb28).1 ?_
        refine V_callV (as := [.ref (8 + 2 * j5), .int (nI (cN y))]) (rest := []) (bs' := 0) rfl dG_when_44 cmP_bestWait cvP_bestWait mlG_215 (Or.inl ⟨_, _, _, _, _, rfl, k60, by decide, rfl⟩) rfl rfl (c_bestWait hC hI hj5 (wt := cN y) (by have := (isN_le (n := 60) rfl (by decide) hb28).2; omega)) (by decide) (Nat.le_refl _) (by decide) (Nat.le_of_ble_eq_true rfl) ?_
        rintro _ _ s1 ⟨rfl, rfl, hF1⟩ -
        refine V_one ?_
        have hC := hF1.rc hC
        have hS := hS.trans hF1.sm
        have hR := hC.1
        refine V_istore (loc' := [(5, .int (nI (amx (fWhen L M j5) (cN y + 1)))), (4, .ref (8 + 2 * j5)), (0, .ref 0), (1, .int e), (2, .int y), (3, .int x)]) dG_when_47 (by decide) rfl ?_
        refine V_iload_n dG_when_49 rfl ?_
        refine V_if_ne (tgt := 58) dG_when_50 rfl (fun c50 => ?_) (fun c50 => ?_)
        · skip
          refine V_aload_n dG_when_58 rfl ?_
          refine V_getR (a := 60) dG_when_59 flG_33 k0 rfl (r0_4 hR) ?_
          refine V_aload dG_when_62 rfl ?_
          refine V_aload dG_when_64 rfl ?_
          refine V_getE (x := nI (cN (gi M 80 j5))) dG_when_66 flG_102 (kE _ h85) rfl ((eS hC h85).trans (sayN hI hj5).1) ?_
          refine V_aload_n dG_when_69 rfl ?_
          refine V_getR (a := 1) dG_when_70 flG_12 k0 rfl (r0_0 hR) ?_
          refine V_getE (x := nI (mD M)) dG_when_73 flG_108 k1 rfl (cD hC hI) ?_
          refine V_iload dG_when_76 rfl ?_
          refine V_iadd dG_when_78 ?_
          refine V_topI (x' := nI (mD M + amx (fWhen L M j5) (cN y + 1))) (nI_add _ _) ?_
          refine V_callV (as := [.ref (8 + 2 * j5), .int (nI (cN (gi M 80 j5))), .int (nI (mD M + amx (fWhen L M j5) (cN y + 1)))]) (rest := []) (bs' := 0) rfl dG_when_79 cmP_weighed cvP_weighed mlG_199 (Or.inl ⟨_, _, _, _, _, rfl, k60, by decide, rfl⟩) rfl rfl (c_weighed (d := mD M + amx (fWhen L M j5) (cN y + 1)) hC hI hj5 (sayN hI hj5).2.2) (by decide) (Nat.le_refl _) (by decide) (Nat.le_of_ble_eq_true rfl) ?_
          rintro _ _ s2 ⟨rfl, rfl, hF1⟩ -
          refine V_one ?_
          have hC := hF1.rc hC
          have hS := hS.trans hF1.sm
          have hR := hC.1
          refine V_topI (x' := fWhen L M j5 (amx (fWhen L M j5) (cN y + 1))) (by rw [fWhen, ← (sayN hI hj5).1]) ?_
          refine V_iret dG_when_82 rfl rfl ?_
          have e : q_when L M e y x = (fWhen L M j5 (amx (fWhen L M j5) (cN y + 1)), M) := by
            skip
            first
            | (simp only [q_when, hcn5, if_pos hb5, if_pos hb17, if_pos hb28, if_pos c50]; done)
            | (simp [q_when, hb5, hcn5, hb17, hb28, c50]; done)
            | (simp_all [q_when]; done)
          rw [e]
          exact ⟨rfl, rfl, hC, hS⟩
        · skip
          refine V_iload dG_when_53 rfl ?_
          refine V_goto (tgt := 82) dG_when_55 rfl ?_
          refine V_iret dG_when_82 rfl rfl ?_
          have e : q_when L M e y x = (nI (amx (fWhen L M j5) (cN y + 1)), M) := by
            skip
            first
            | (simp only [q_when, hcn5, if_pos hb5, if_pos hb17, if_pos hb28, if_neg c50]; done)
            | (simp [q_when, hb5, hcn5, hb17, hb28, c50]; done)
            | (simp_all [q_when]; done)
          rw [e]
          exact ⟨rfl, rfl, hC, hS⟩
      · refine V_one ?_
        refine V_if_ne (tgt := 37) dG_when_31 rfl (fun h => absurd h (by decide)) (fun _ => ?_)
        refine V_bipush (v := -2) dG_when_34 (by decide) ?_
        refine V_iret dG_when_36 rfl rfl ?_
        have e : q_when L M e y x = ((-2), M) := by
          skip
          first
          | (simp only [q_when, hcn5, if_pos hb5, if_pos hb17, if_neg hb28]; done)
          | (simp [q_when, hb5, hcn5, hb17, hb28]; done)
          | (simp_all [q_when]; done)
        rw [e]
        exact ⟨rfl, rfl, hC, hS⟩
    · refine V_one ?_
      refine V_if_ne (tgt := 25) dG_when_20 rfl (fun h => absurd h (by decide)) (fun _ => ?_)
      refine V_iconst (v := -1) dG_when_23 (by decide) ?_
      refine V_iret dG_when_24 rfl rfl ?_
      have e : q_when L M e y x = ((-1), M) := by
        skip
        first
        | (simp only [q_when, hcn5, if_pos hb5, if_neg hb17]; done)
        | (simp [q_when, hb5, hcn5, hb17]; done)
        | (simp_all [q_when]; done)
      rw [e]
      exact ⟨rfl, rfl, hC, hS⟩
  · refine V_one ?_
    refine V_astoreN (loc' := [(4, .null), (0, .ref 0), (1, .int e), (2, .int y), (3, .int x)]) dG_when_8 (by decide) rfl ?_
    refine V_aloadN dG_when_10 rfl ?_
    refine V_ifnullN (tgt := 23) dG_when_12 rfl ?_
    refine V_iconst (v := -1) dG_when_23 (by decide) ?_
    refine V_iret dG_when_24 rfl rfl ?_
    have e : q_when L M e y x = ((-1), M) := by
      skip
      first
      | (simp only [q_when, if_neg hb5]; done)
      | (simp [q_when, hb5]; done)
      | (simp_all [q_when]; done)
    rw [e]
    exact ⟨rfl, rfl, hC, hS⟩
theorem m_best {l : Launch} {G : GT} {L : Nat → List Cl} {M σ : Hp} (hM : RM M σ) (hI : Inv L M) (e x : Int32) : MM l G mM_best 7 0 0 [.ref 76, .int e, .int x] KA σ (PM σ (q_best L M e x)) := by
  have hR := hM.1
  have hM0 := hM
  have hS : Sc σ σ := Sc.rfl
  refine MM.of (loc := [(0, .ref 76), (1, .int e), (2, .int x)]) (by decide +kernel) rfl (Nat.le_of_ble_eq_true rfl) ?_
  refine V_aload_n dM_best_0 rfl ?_
  refine V_iload_n dM_best_1 rfl ?_
  refine V_callV (as := [.int e]) (rest := []) (bs' := 0) rfl dM_best_2 cmM_isEnvelope cvM_isEnvelope mlM_217 (Or.inl ⟨_, _, _, _, _, rfl, k76, by decide, rfl⟩) rfl rfl (m_isEnvelope hM hI.pw e) (by decide) (Nat.le_refl _) (by decide) (Nat.le_of_ble_eq_true rfl) ?_
  rintro _ _ _ (⟨hb2, rfl, rfl, rfl⟩ | ⟨hb2, rfl, rfl, rfl⟩) -
  · refine V_one ?_
    refine V_if_eq (tgt := 18) dM_best_5 rfl (fun h => absurd h (by decide)) (fun _ => ?_)
    refine V_aload_n dM_best_8 rfl ?_
    refine V_iload_n dM_best_9 rfl ?_
    refine V_iconst (v := 0) dM_best_10 (by decide) ?_
    refine V_iconst (v := 1) dM_best_11 (by decide) ?_
    refine V_callV (as := [.int x, .int 0, .int 1]) (rest := []) (bs' := 0) rfl dM_best_12 cmM_in cvM_in mlM_203 (Or.inl ⟨_, _, _, _, _, rfl, k76, by decide, rfl⟩) rfl rfl (m_in x 0 1) (by decide) (Nat.le_refl _) (by decide) (Nat.le_of_ble_eq_true rfl) ?_
    rintro _ _ _ (⟨hb12, rfl, rfl, rfl⟩ | ⟨hb12, rfl, rfl, rfl⟩) -
    · refine V_one ?_
      refine V_if_ne (tgt := 20) dM_best_15 rfl (fun _ => ?_) (fun h => absurd h (by decide))
      refine V_aload_n dM_best_20 rfl ?_
      refine V_getR (a := 80) dM_best_21 flM_32 k76 rfl (r76_7 hR) ?_
      refine V_iload_n dM_best_24 rfl ?_
      refine V_ialdN (j := cN e) dM_best_25 k80 (rng_N hb2 (sm9 hI)).1 (by have := (rng_N hb2 (sm9 hI)).2; have := (iE hI).2; omega) (by decide) ?_
      refine V_topI (x' := gi M 80 (cN e)) (mR hM rfl) ?_
      refine V_istore_n (loc' := [(3, .int (gi M 80 (cN e))), (0, .ref 76), (1, .int e), (2, .int x)]) dM_best_26 (by decide) rfl ?_
      refine V_iconst (v := 0) dM_best_27 (by decide) ?_
      refine V_istore (loc' := [(4, .int 0), (3, .int (gi M 80 (cN e))), (0, .ref 76), (1, .int e), (2, .int x)]) dM_best_28 (by decide) rfl ?_
      refine V_iconst (v := -1) dM_best_30 (by decide) ?_
      refine V_istore (loc' := [(5, .int (-1)), (4, .int 0), (3, .int (gi M 80 (cN e))), (0, .ref 76), (1, .int e), (2, .int x)]) dM_best_31 (by decide) rfl ?_
      refine V_iconst (v := 0) dM_best_33 (by decide) ?_
      refine V_istore (loc' := [(6, .int 0), (5, .int (-1)), (4, .int 0), (3, .int (gi M 80 (cN e))), (0, .ref 76), (1, .int e), (2, .int x)]) dM_best_34 (by decide) rfl ?_
      refine V.locs (loc' := [(6, .int 0), (5, .int (-1)), (4, .int 0), (3, .int (gi M 80 (cN e))), (0, .ref 76), (1, .int e), (2, .int x)]) [0, 1, 2, 3, 4, 5, 6] rfl ?_
      refine V_eqL (loc' := [(6, .int (nI 0)), (5, .int (vB (fBest L M (cN e)) 0)), (4, .int (nI (amx (fBest L M (cN e)) 0))), (3, .int (gi M 80 (cN e))), (0, .ref 76), (1, .int e), (2, .int x)]) ?_ ?_
      · rfl
      have lp : ∀ n : Nat, n ≤ 2 ^ mW M → ∀ s : Hp, ∀ x0 : Int32, rng x0 (2 ^ mW M) → RM (si M 80 (cN e) x0) s → Sc σ s → V l G mM_best (rmd 7 0 0) (KA.length + 0) 0 36 [(6, .int (nI n)), (5, .int (vB (fBest L M (cN e)) n)), (4, .int (nI (amx (fBest L M (cN e)) n))), (3, .int (gi M 80 (cN e))), (0, .ref 76), (1, .int e), (2, .int x)] [] KA s (PM σ (q_best L M e x)) := by
        refine lp_up (2 ^ mW M) ?_ (fun n hn ihn => ?_)
        · skip
          intro s x0 hx0 hM hS
          have hR := hM.1
          refine V_iload dM_best_36 rfl ?_
          refine V_aload_n dM_best_38 rfl ?_
          refine V_callV (as := []) (rest := [.int (nI (2 ^ mW M))]) (bs' := 0) rfl dM_best_39 cmM_all cvM_all mlM_314 (Or.inl ⟨_, _, _, _, _, rfl, k76, by decide, rfl⟩) rfl rfl (m_all hM (I_say hI hx0)) (by decide) (Nat.le_refl _) (by decide) (Nat.le_of_ble_eq_true rfl) ?_
          rintro _ _ _ ⟨rfl, rfl, rfl⟩ -
          refine V_one ?_
          refine V_topI (x' := nI (2 ^ mW M - 1)) (allS_n (M := M) hI) ?_
          refine V_icmp_gt (tgt := 84) dM_best_42 rfl (fun _ => ?_) (fun h => absurd h (not_not_intro (nI_lt (a := 2 ^ mW M - 1) (b := 2 ^ mW M) (by have := pw1 (mW M); omega) (by have := pwI hI; omega))))
          refine V_aload_n dM_best_84 rfl ?_
          refine V_getR (a := 80) dM_best_85 flM_32 k76 rfl (r76_7 hR) ?_
          refine V_iload_n dM_best_88 rfl ?_
          refine V_iload_n dM_best_89 rfl ?_
          refine V_iastN (j := cN e) dM_best_90 k80 (rng_N hb2 (sm9 hI)).1 (by have := (rng_N hb2 (sm9 hI)).2; have := (iE hI).2; omega) (by decide) ?_
          have hM : RM M (si s 80 (cN e) (gi M 80 (cN e))) := by
            have q := RM_set (k := 80) (j := cN e) (x := gi M 80 (cN e)) hM
            rwa [si_si, si_same] at q
          have hS := hS.set (k := 80) (j := cN e) (x := gi M 80 (cN e)) (by decide)
          have hR := hM.1
          refine V_iload_n dM_best_91 rfl ?_
          refine V_if_ne (tgt := 100) dM_best_92 rfl (fun c92 => ?_) (fun c92 => ?_)
          · skip
            refine V_iload dM_best_100 rfl ?_
            refine V_iret dM_best_102 rfl rfl ?_
            have e : q_best L M e x = (vB (fBest L M (cN e)) (2 ^ mW M), M) := by
              have h0 : ¬ 2 ^ mW M = 0 := by
                have := pw1 (mW M)
                omega
              simp_all [q_best, vB]
            rw [e]
            exact ⟨rfl, rfl, hM, hS⟩
          · skip
            refine V_iload dM_best_95 rfl ?_
            refine V_goto (tgt := 102) dM_best_97 rfl ?_
            refine V_iret dM_best_102 rfl rfl ?_
            have e : q_best L M e x = (nI (amx (fBest L M (cN e)) (2 ^ mW M)), M) := by
              have h0 : ¬ 2 ^ mW M = 0 := by
                have := pw1 (mW M)
                omega
              simp_all [q_best, vB]
            rw [e]
            exact ⟨rfl, rfl, hM, hS⟩
        · skip
          intro s x0 hx0 hM hS
          have hR := hM.1
          refine V_iload dM_best_36 rfl ?_
          refine V_aload_n dM_best_38 rfl ?_
          refine V_callV (as := []) (rest := [.int (nI n)]) (bs' := 0) rfl dM_best_39 cmM_all cvM_all mlM_314 (Or.inl ⟨_, _, _, _, _, rfl, k76, by decide, rfl⟩) rfl rfl (m_all hM (I_say hI hx0)) (by decide) (Nat.le_refl _) (by decide) (Nat.le_of_ble_eq_true rfl) ?_
          rintro _ _ _ ⟨rfl, rfl, rfl⟩ -
          refine V_one ?_
          refine V_topI (x' := nI (2 ^ mW M - 1)) (allS_n (M := M) hI) ?_
          refine V_icmp_gt (tgt := 84) dM_best_42 rfl (fun h => absurd h (fun q => absurd ((nI_ltI (b := n) (by have := pwI hI; omega) (by have := pwI hI; omega)).mp q) (by omega))) (fun _ => ?_)
          refine V_aload_n dM_best_45 rfl ?_
          refine V_getR (a := 80) dM_best_46 flM_32 k76 rfl (r76_7 hR) ?_
          refine V_iload_n dM_best_49 rfl ?_
          refine V_iload dM_best_50 rfl ?_
          refine V_iastN (j := cN e) dM_best_52 k80 (rng_N hb2 (sm9 hI)).1 (by have := (rng_N hb2 (sm9 hI)).2; have := (iE hI).2; omega) (by decide) ?_
          have hxn : rng (nI n) (2 ^ mW M) := rng_n hn (by have := pwI hI; omega)
          have hM : RM (si M 80 (cN e) (nI n)) (si s 80 (cN e) (nI n)) := by
            have q := RM_set (k := 80) (j := cN e) (x := nI n) hM
            rwa [si_si] at q
          have hS := hS.set (k := 80) (j := cN e) (x := nI n) (by decide)
          have hR := hM.1
          refine V_aload_n dM_best_53 rfl ?_
          refine V_iload_n dM_best_54 rfl ?_
          refine V_topI (x' := nI (cN e)) (rng_N hb2 (sm9 hI)).1 ?_
          refine V_callV (as := [.int (nI (cN e))]) (rest := []) (bs' := 0) rfl dM_best_55 cmM_weighed cvM_weighed mlM_326 (Or.inl ⟨_, _, _, _, _, rfl, k76, by decide, rfl⟩) rfl rfl (m_weighed hM (I_say hI hxn).pw (lt9 hI (rng_N hb2 (sm9 hI)).2) (Inv.ps (M := si M 80 (cN e) (nI n)) (I_say hI hxn) (rng_N hb2 (sm9 hI)).2) (by have := (iD hI).2; exact Nat.lt_trans this (by decide))) (by decide) (Nat.le_refl _) (by decide) (Nat.le_of_ble_eq_true rfl) ?_
          rintro _ _ s1 ⟨rfl, rfl, hF1⟩ -
          refine V_one ?_
          have hM := hF1.rm hM
          have hS := hS.trans hF1.sc
          have hR := hM.1
          refine V_topI (x' := fBest L M (cN e) n) (by rw [gi_eq]; rfl) ?_
          refine V_istore (loc' := [(7, .int (fBest L M (cN e) n)), (6, .int (nI n)), (5, .int (vB (fBest L M (cN e)) n)), (4, .int (nI (amx (fBest L M (cN e)) n))), (3, .int (gi M 80 (cN e))), (0, .ref 76), (1, .int e), (2, .int x)]) dM_best_58 (by decide) rfl ?_
          refine V_iload dM_best_60 rfl ?_
          refine V_iload dM_best_62 rfl ?_
          refine V_icmp_gt (tgt := 70) dM_best_64 rfl (fun c64 => ?_) (fun c64 => ?_)
          · skip
            refine V_iload dM_best_70 rfl ?_
            refine V_istore (loc' := [(4, .int (nI n)), (7, .int (fBest L M (cN e) n)), (6, .int (nI n)), (5, .int (vB (fBest L M (cN e)) n)), (3, .int (gi M 80 (cN e))), (0, .ref 76), (1, .int e), (2, .int x)]) dM_best_72 (by decide) rfl ?_
            refine V_iload dM_best_74 rfl ?_
            refine V_istore (loc' := [(5, .int (fBest L M (cN e) n)), (4, .int (nI n)), (7, .int (fBest L M (cN e) n)), (6, .int (nI n)), (3, .int (gi M 80 (cN e))), (0, .ref 76), (1, .int e), (2, .int x)]) dM_best_76 (by decide) rfl ?_
            refine V_iinc (v := nI (n + 1)) (loc' := [(6, .int (nI (n + 1))), (5, .int (fBest L M (cN e) n)), (4, .int (nI n)), (7, .int (fBest L M (cN e) n)), (3, .int (gi M 80 (cN e))), (0, .ref 76), (1, .int e), (2, .int x)]) dM_best_78 rfl (nI_inc n) (by decide) rfl ?_
            refine V_goto (tgt := 36) dM_best_81 rfl ?_
            refine V.locs (loc' := [(6, .int (nI (n + 1))), (5, .int (fBest L M (cN e) n)), (4, .int (nI n)), (3, .int (gi M 80 (cN e))), (0, .ref 76), (1, .int e), (2, .int x)]) [0, 1, 2, 4, 5, 6, 7] rfl ?_
            refine V_eqL (loc' := [(6, .int (nI (n + 1))), (5, .int (vB (fBest L M (cN e)) (n + 1))), (4, .int (nI (amx (fBest L M (cN e)) (n + 1)))), (3, .int (gi M 80 (cN e))), (0, .ref 76), (1, .int e), (2, .int x)]) ?_ ?_
            · first
              | (rw [(amx_S c64).1, (amx_S c64).2]; done)
              | (rw [(amx_K (m1_lt (wI_b hI (k := 0) (rng_N hb2 (sm9 hI)).2 (by decide) (by have := (iD hI).2; omega)) (by decide)) c64).1, (amx_K (m1_lt (wI_b hI (k := 0) (rng_N hb2 (sm9 hI)).2 (by decide) (by have := (iD hI).2; omega)) (by decide)) c64).2]; done)
            exact (ihn _ _ hxn hM hS)
          · skip
            refine V_goto (tgt := 78) dM_best_67 rfl ?_
            refine V_iinc (v := nI (n + 1)) (loc' := [(6, .int (nI (n + 1))), (7, .int (fBest L M (cN e) n)), (5, .int (vB (fBest L M (cN e)) n)), (4, .int (nI (amx (fBest L M (cN e)) n))), (3, .int (gi M 80 (cN e))), (0, .ref 76), (1, .int e), (2, .int x)]) dM_best_78 rfl (nI_inc n) (by decide) rfl ?_
            refine V_goto (tgt := 36) dM_best_81 rfl ?_
            refine V.locs (loc' := [(6, .int (nI (n + 1))), (5, .int (vB (fBest L M (cN e)) n)), (4, .int (nI (amx (fBest L M (cN e)) n))), (3, .int (gi M 80 (cN e))), (0, .ref 76), (1, .int e), (2, .int x)]) [0, 2, 3, 4, 5, 6, 7] rfl ?_
            refine V_eqL (loc' := [(6, .int (nI (n + 1))), (5, .int (vB (fBest L M (cN e)) (n + 1))), (4, .int (nI (amx (fBest L M (cN e)) (n + 1)))), (3, .int (gi M 80 (cN e))), (0, .ref 76), (1, .int e), (2, .int x)]) ?_ ?_
            · first
              | (rw [(amx_S c64).1, (amx_S c64).2]; done)
              | (rw [(amx_K (m1_lt (wI_b hI (k := 0) (rng_N hb2 (sm9 hI)).2 (by decide) (by have := (iD hI).2; omega)) (by decide)) c64).1, (amx_K (m1_lt (wI_b hI (k := 0) (rng_N hb2 (sm9 hI)).2 (by decide) (by have := (iD hI).2; omega)) (by decide)) c64).2]; done)
            exact (ihn _ _ hxn hM hS)
      exact lp 0 (Nat.zero_le _) _ (gi M 80 (cN e)) (by have h := (hI.ps (rng_N hb2 (sm9 hI)).2); rw [h.1]; exact rng_n h.2 (by have := pwI hI; omega)) (by rw [si_same]; exact hM) hS
    · refine V_one ?_
      refine V_if_ne (tgt := 20) dM_best_15 rfl (fun h => absurd h (by decide)) (fun _ => ?_)
      refine V_iconst (v := -1) dM_best_18 (by decide) ?_
      refine V_iret dM_best_19 rfl rfl ?_
      have e : q_best L M e x = ((-1), M) := by
        skip
        first
        | (simp only [q_best, if_pos hb2, if_neg hb12]; done)
        | (simp [q_best, hb2, hb12]; done)
        | (simp_all [q_best]; done)
      rw [e]
      exact ⟨rfl, rfl, hM, hS⟩
  · refine V_one ?_
    refine V_if_eq (tgt := 18) dM_best_5 rfl (fun _ => ?_) (fun h => absurd h (by decide))
    refine V_iconst (v := -1) dM_best_18 (by decide) ?_
    refine V_iret dM_best_19 rfl rfl ?_
    have e : q_best L M e x = ((-1), M) := by
      skip
      first
      | (simp only [q_best, if_neg hb2]; done)
      | (simp [q_best, hb2]; done)
      | (simp_all [q_best]; done)
    rw [e]
    exact ⟨rfl, rfl, hM, hS⟩
theorem m_when {l : Launch} {G : GT} {L : Nat → List Cl} {M σ : Hp} (hM : RM M σ) (hI : Inv L M) (e y x : Int32) : MM l G mM_when 7 0 0 [.ref 76, .int e, .int y, .int x] KA σ (PM σ (q_when L M e y x)) := by
  have hR := hM.1
  have hM0 := hM
  have hS : Sc σ σ := Sc.rfl
  refine MM.of (loc := [(0, .ref 76), (1, .int e), (2, .int y), (3, .int x)]) (by decide +kernel) rfl (Nat.le_of_ble_eq_true rfl) ?_
  refine V_aload_n dM_when_0 rfl ?_
  refine V_iload_n dM_when_1 rfl ?_
  refine V_callV (as := [.int e]) (rest := []) (bs' := 0) rfl dM_when_2 cmM_isEnvelope cvM_isEnvelope mlM_217 (Or.inl ⟨_, _, _, _, _, rfl, k76, by decide, rfl⟩) rfl rfl (m_isEnvelope hM hI.pw e) (by decide) (Nat.le_refl _) (by decide) (Nat.le_of_ble_eq_true rfl) ?_
  rintro _ _ _ (⟨hb2, rfl, rfl, rfl⟩ | ⟨hb2, rfl, rfl, rfl⟩) -
  · refine V_one ?_
    refine V_if_eq (tgt := 18) dM_when_5 rfl (fun h => absurd h (by decide)) (fun _ => ?_)
    refine V_aload_n dM_when_8 rfl ?_
    refine V_iload_n dM_when_9 rfl ?_
    refine V_iconst (v := 0) dM_when_10 (by decide) ?_
    refine V_iconst (v := 1) dM_when_11 (by decide) ?_
    refine V_callV (as := [.int x, .int 0, .int 1]) (rest := []) (bs' := 0) rfl dM_when_12 cmM_in cvM_in mlM_203 (Or.inl ⟨_, _, _, _, _, rfl, k76, by decide, rfl⟩) rfl rfl (m_in x 0 1) (by decide) (Nat.le_refl _) (by decide) (Nat.le_of_ble_eq_true rfl) ?_
    rintro _ _ _ (⟨hb12, rfl, rfl, rfl⟩ | ⟨hb12, rfl, rfl, rfl⟩) -
    · refine V_one ?_
      refine V_if_ne (tgt := 20) dM_when_15 rfl (fun _ => ?_) (fun h => absurd h (by decide))
      refine V_aload_n dM_when_20 rfl ?_
      refine V_iload_n dM_when_21 rfl ?_
      refine V_iconst (v := 0) dM_when_22 (by decide) ?_
      refine V_bipush (v := 60) dM_when_23 (by decide) ?_
      refine V_callV (as := [.int y, .int 0, .int 60]) (rest := []) (bs' := 0) rfl dM_when_25 cmM_in cvM_in mlM_203 (Or.inl ⟨_, _, _, _, _, rfl, k76, by decide, rfl⟩) rfl rfl (m_in y 0 60) (by decide) (Nat.le_refl _) (by decide) (Nat.le_of_ble_eq_true rfl) ?_
      rintro _ _ _ (⟨hb25, rfl, rfl, rfl⟩ | ⟨hb25, rfl, rfl, rfl⟩) -
      · refine V_one ?_
        refine V_if_ne (tgt := 34) dM_when_28 rfl (fun _ => ?_) (fun h => absurd h (by decide))
        refine V_aload_n dM_when_34 rfl ?_
        refine V_getE (x := nI (mD M)) dM_when_35 flM_16 k76 rfl ((mR hM rfl).trans (iD hI).1) ?_
        refine V_istore (loc' := [(4, .int (nI (mD M))), (0, .ref 76), (1, .int e), (2, .int y), (3, .int x)]) dM_when_38 (by decide) rfl ?_
        refine V_iconst (v := 0) dM_when_40 (by decide) ?_
        refine V_istore (loc' := [(5, .int 0), (4, .int (nI (mD M))), (0, .ref 76), (1, .int e), (2, .int y), (3, .int x)]) dM_when_41 (by decide) rfl ?_
        refine V_iconst (v := -1) dM_when_43 (by decide) ?_
        refine V_istore (loc' := [(6, .int (-1)), (5, .int 0), (4, .int (nI (mD M))), (0, .ref 76), (1, .int e), (2, .int y), (3, .int x)]) dM_when_44 (by decide) rfl ?_
        refine V_iconst (v := 0) dM_when_46 (by decide) ?_
        refine V_istore (loc' := [(7, .int 0), (6, .int (-1)), (5, .int 0), (4, .int (nI (mD M))), (0, .ref 76), (1, .int e), (2, .int y), (3, .int x)]) dM_when_47 (by decide) rfl ?_
        refine V.locs (loc' := [(7, .int 0), (6, .int (-1)), (5, .int 0), (4, .int (nI (mD M))), (0, .ref 76), (1, .int e), (2, .int y), (3, .int x)]) [0, 1, 2, 3, 4, 5, 6, 7] rfl ?_
        refine V_eqL (loc' := [(7, .int (nI 0)), (6, .int (vB (fWhen L M (cN e)) 0)), (5, .int (nI (amx (fWhen L M (cN e)) 0))), (4, .int (nI (mD M))), (0, .ref 76), (1, .int e), (2, .int y), (3, .int x)]) ?_ ?_
        · rfl
        have lp : ∀ n : Nat, n ≤ cN y + 1 → ∀ s : Hp, ∀ d0 : Nat, d0 < 20000 → RM (si M 76 2 (nI d0)) s → Sc σ s → V l G mM_when (rmd 7 0 0) (KA.length + 0) 0 49 [(7, .int (nI n)), (6, .int (vB (fWhen L M (cN e)) n)), (5, .int (nI (amx (fWhen L M (cN e)) n))), (4, .int (nI (mD M))), (0, .ref 76), (1, .int e), (2, .int y), (3, .int x)] [] KA s (PM σ (q_when L M e y x)) := by
          refine lp_up (cN y + 1) ?_ (fun n hn ihn => ?_)
          · skip
            intro s d0 hd0 hM hS
            have hR := hM.1
            refine V_iload dM_when_49 rfl ?_
            refine V_iload_n dM_when_51 rfl ?_
            refine V_topI (x' := nI (cN y)) (isN_le (n := 60) rfl (by decide) hb25).1 ?_
            refine V_icmp_gt (tgt := 95) dM_when_52 rfl (fun _ => ?_) (fun h => absurd h (not_not_intro (nI_lt (a := cN y) (b := cN y + 1) (by omega) (by have := (isN_le (n := 60) rfl (by decide) hb25).2; omega))))
            refine V_aload_n dM_when_95 rfl ?_
            refine V_iload dM_when_96 rfl ?_
            refine V_putI dM_when_98 flM_16 (fpM_2 _) (Or.inl rfl) k76 rfl ?_
            have hM : RM M (si s 76 2 (nI (mD M))) := by
              have q := RM_set (k := 76) (j := 2) (x := nI (mD M)) hM
              have e0 : si M 76 2 (nI (mD M)) = M := by rw [← (iD hI).1]; exact si_same
              rw [si_si, e0] at q
              exact q
            have hS := hS.set (k := 76) (j := 2) (x := nI (mD M)) (by decide)
            have hR := hM.1
            refine V_iload_n dM_when_101 rfl ?_
            refine V_if_ne (tgt := 110) dM_when_102 rfl (fun c102 => ?_) (fun c102 => ?_)
            · skip
              refine V_iload dM_when_110 rfl ?_
              refine V_iret dM_when_112 rfl rfl ?_
              have e : q_when L M e y x = (vB (fWhen L M (cN e)) (cN y + 1), M) := by
                simp_all [q_when, vB]
              rw [e]
              exact ⟨rfl, rfl, hM, hS⟩
            · skip
              refine V_iload dM_when_105 rfl ?_
              refine V_goto (tgt := 112) dM_when_107 rfl ?_
              refine V_iret dM_when_112 rfl rfl ?_
              have e : q_when L M e y x = (nI (amx (fWhen L M (cN e)) (cN y + 1)), M) := by
                simp_all [q_when, vB]
              rw [e]
              exact ⟨rfl, rfl, hM, hS⟩
          · skip
            intro s d0 hd0 hM hS
            have hR := hM.1
            refine V_iload dM_when_49 rfl ?_
            refine V_iload_n dM_when_51 rfl ?_
            refine V_topI (x' := nI (cN y)) (isN_le (n := 60) rfl (by decide) hb25).1 ?_
            refine V_icmp_gt (tgt := 95) dM_when_52 rfl (fun h => absurd h (fun q => absurd ((nI_ltI (b := n) (by have := (isN_le (n := 60) rfl (by decide) hb25).2; omega) (by have := (isN_le (n := 60) rfl (by decide) hb25).2; omega)).mp q) (by omega))) (fun _ => ?_)
            refine V_aload_n dM_when_55 rfl ?_
            refine V_iload dM_when_56 rfl ?_
            refine V_iload dM_when_58 rfl ?_
            refine V_iadd dM_when_60 ?_
            refine V_topI (x' := nI (mD M + n)) (nI_add _ _) ?_
            refine V_putI dM_when_61 flM_16 (fpM_2 _) (Or.inl rfl) k76 rfl ?_
            have hd1 : mD M + n < 20000 := by
              have := (iD hI).2
              have := (isN_le (n := 60) rfl (by decide) hb25).2
              omega
            have hM : RM (si M 76 2 (nI (mD M + n))) (si s 76 2 (nI (mD M + n))) := by
              have q := RM_set (k := 76) (j := 2) (x := nI (mD M + n)) hM
              rwa [si_si] at q
            have hS := hS.set (k := 76) (j := 2) (x := nI (mD M + n)) (by decide)
            have hR := hM.1
            refine V_aload_n dM_when_64 rfl ?_
            refine V_iload_n dM_when_65 rfl ?_
            refine V_topI (x' := nI (cN e)) (rng_N hb2 (sm9 hI)).1 ?_
            refine V_callV (as := [.int (nI (cN e))]) (rest := []) (bs' := 0) rfl dM_when_66 cmM_weighed cvM_weighed mlM_326 (Or.inl ⟨_, _, _, _, _, rfl, k76, by decide, rfl⟩) rfl rfl (m_weighed hM (Pw_day hI.pw (by omega)) (lt9 hI (rng_N hb2 (sm9 hI)).2) (show Ps (si M 76 2 (nI (mD M + n))) (cN e) from hI.ps (rng_N hb2 (sm9 hI)).2) (by rw [mD_day (by omega)]; omega)) (by decide) (Nat.le_refl _) (by decide) (Nat.le_of_ble_eq_true rfl) ?_
            rintro _ _ s1 ⟨rfl, rfl, hF1⟩ -
            refine V_one ?_
            have hM := hF1.rm hM
            have hS := hS.trans hF1.sc
            have hR := hM.1
            refine V_topI (x' := fWhen L M (cN e) n) (by rw [mD_day (by omega)]; rfl) ?_
            refine V_istore (loc' := [(8, .int (fWhen L M (cN e) n)), (7, .int (nI n)), (6, .int (vB (fWhen L M (cN e)) n)), (5, .int (nI (amx (fWhen L M (cN e)) n))), (4, .int (nI (mD M))), (0, .ref 76), (1, .int e), (2, .int y), (3, .int x)]) dM_when_69 (by decide) rfl ?_
            refine V_iload dM_when_71 rfl ?_
            refine V_iload dM_when_73 rfl ?_
            refine V_icmp_gt (tgt := 81) dM_when_75 rfl (fun c75 => ?_) (fun c75 => ?_)
            · skip
              refine V_iload dM_when_81 rfl ?_
              refine V_istore (loc' := [(5, .int (nI n)), (8, .int (fWhen L M (cN e) n)), (7, .int (nI n)), (6, .int (vB (fWhen L M (cN e)) n)), (4, .int (nI (mD M))), (0, .ref 76), (1, .int e), (2, .int y), (3, .int x)]) dM_when_83 (by decide) rfl ?_
              refine V_iload dM_when_85 rfl ?_
              refine V_istore (loc' := [(6, .int (fWhen L M (cN e) n)), (5, .int (nI n)), (8, .int (fWhen L M (cN e) n)), (7, .int (nI n)), (4, .int (nI (mD M))), (0, .ref 76), (1, .int e), (2, .int y), (3, .int x)]) dM_when_87 (by decide) rfl ?_
              refine V_iinc (v := nI (n + 1)) (loc' := [(7, .int (nI (n + 1))), (6, .int (fWhen L M (cN e) n)), (5, .int (nI n)), (8, .int (fWhen L M (cN e) n)), (4, .int (nI (mD M))), (0, .ref 76), (1, .int e), (2, .int y), (3, .int x)]) dM_when_89 rfl (nI_inc n) (by decide) rfl ?_
              refine V_goto (tgt := 49) dM_when_92 rfl ?_
              refine V.locs (loc' := [(7, .int (nI (n + 1))), (6, .int (fWhen L M (cN e) n)), (5, .int (nI n)), (4, .int (nI (mD M))), (0, .ref 76), (1, .int e), (2, .int y), (3, .int x)]) [0, 1, 2, 4, 5, 6, 7, 8] rfl ?_
              refine V_eqL (loc' := [(7, .int (nI (n + 1))), (6, .int (vB (fWhen L M (cN e)) (n + 1))), (5, .int (nI (amx (fWhen L M (cN e)) (n + 1)))), (4, .int (nI (mD M))), (0, .ref 76), (1, .int e), (2, .int y), (3, .int x)]) ?_ ?_
              · first
                | (rw [(amx_S c75).1, (amx_S c75).2]; done)
                | (rw [(amx_K (m1_lt (by show isB (wS L M (cN e) (gi M 80 (cN e)) (mD M + 0) (mW M)) 5400000; rw [(sayN hI (rng_N hb2 (sm9 hI)).2).1]; exact wI_b hI (rng_N hb2 (sm9 hI)).2 (sayN hI (rng_N hb2 (sm9 hI)).2).2.2 (by have := (iD hI).2; omega)) (by decide)) c75).1, (amx_K (m1_lt (by show isB (wS L M (cN e) (gi M 80 (cN e)) (mD M + 0) (mW M)) 5400000; rw [(sayN hI (rng_N hb2 (sm9 hI)).2).1]; exact wI_b hI (rng_N hb2 (sm9 hI)).2 (sayN hI (rng_N hb2 (sm9 hI)).2).2.2 (by have := (iD hI).2; omega)) (by decide)) c75).2]; done)
              exact (ihn _ _ hd1 hM hS)
            · skip
              refine V_goto (tgt := 89) dM_when_78 rfl ?_
              refine V_iinc (v := nI (n + 1)) (loc' := [(7, .int (nI (n + 1))), (8, .int (fWhen L M (cN e) n)), (6, .int (vB (fWhen L M (cN e)) n)), (5, .int (nI (amx (fWhen L M (cN e)) n))), (4, .int (nI (mD M))), (0, .ref 76), (1, .int e), (2, .int y), (3, .int x)]) dM_when_89 rfl (nI_inc n) (by decide) rfl ?_
              refine V_goto (tgt := 49) dM_when_92 rfl ?_
              refine V.locs (loc' := [(7, .int (nI (n + 1))), (6, .int (vB (fWhen L M (cN e)) n)), (5, .int (nI (amx (fWhen L M (cN e)) n))), (4, .int (nI (mD M))), (0, .ref 76), (1, .int e), (2, .int y), (3, .int x)]) [0, 2, 3, 4, 5, 6, 7, 8] rfl ?_
              refine V_eqL (loc' := [(7, .int (nI (n + 1))), (6, .int (vB (fWhen L M (cN e)) (n + 1))), (5, .int (nI (amx (fWhen L M (cN e)) (n + 1)))), (4, .int (nI (mD M))), (0, .ref 76), (1, .int e), (2, .int y), (3, .int x)]) ?_ ?_
              · first
                | (rw [(amx_S c75).1, (amx_S c75).2]; done)
                | (rw [(amx_K (m1_lt (by show isB (wS L M (cN e) (gi M 80 (cN e)) (mD M + 0) (mW M)) 5400000; rw [(sayN hI (rng_N hb2 (sm9 hI)).2).1]; exact wI_b hI (rng_N hb2 (sm9 hI)).2 (sayN hI (rng_N hb2 (sm9 hI)).2).2.2 (by have := (iD hI).2; omega)) (by decide)) c75).1, (amx_K (m1_lt (by show isB (wS L M (cN e) (gi M 80 (cN e)) (mD M + 0) (mW M)) 5400000; rw [(sayN hI (rng_N hb2 (sm9 hI)).2).1]; exact wI_b hI (rng_N hb2 (sm9 hI)).2 (sayN hI (rng_N hb2 (sm9 hI)).2).2.2 (by have := (iD hI).2; omega)) (by decide)) c75).2]; done)
              exact (ihn _ _ hd1 hM hS)
        exact lp 0 (Nat.zero_le _) _ (mD M) (by have := (iD hI).2; omega) (by rw [show si M 76 2 (nI (mD M)) = M by rw [← (iD hI).1]; exact si_same]; exact hM) hS
      · refine V_one ?_
        refine V_if_ne (tgt := 34) dM_when_28 rfl (fun h => absurd h (by decide)) (fun _ => ?_)
        refine V_bipush (v := -2) dM_when_31 (by decide) ?_
        refine V_iret dM_when_33 rfl rfl ?_
        have e : q_when L M e y x = ((-2), M) := by
          skip
          first
          | (simp only [q_when, if_pos hb2, if_pos hb12, if_neg hb25]; done)
          | (simp [q_when, hb2, hb12, hb25]; done)
          | (simp_all [q_when]; done)
        rw [e]
        exact ⟨rfl, rfl, hM, hS⟩
    · refine V_one ?_
      refine V_if_ne (tgt := 20) dM_when_15 rfl (fun h => absurd h (by decide)) (fun _ => ?_)
      refine V_iconst (v := -1) dM_when_18 (by decide) ?_
      refine V_iret dM_when_19 rfl rfl ?_
      have e : q_when L M e y x = ((-1), M) := by
        skip
        first
        | (simp only [q_when, if_pos hb2, if_neg hb12]; done)
        | (simp [q_when, hb2, hb12]; done)
        | (simp_all [q_when]; done)
      rw [e]
      exact ⟨rfl, rfl, hM, hS⟩
  · refine V_one ?_
    refine V_if_eq (tgt := 18) dM_when_5 rfl (fun _ => ?_) (fun h => absurd h (by decide))
    refine V_iconst (v := -1) dM_when_18 (by decide) ?_
    refine V_iret dM_when_19 rfl rfl ?_
    have e : q_when L M e y x = ((-1), M) := by
      skip
      first
      | (simp only [q_when, if_neg hb2]; done)
      | (simp [q_when, hb2]; done)
      | (simp_all [q_when]; done)
    rw [e]
    exact ⟨rfl, rfl, hM, hS⟩
