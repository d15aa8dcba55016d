/-! the public methods: worth, crowd, come, envelope -/
theorem bI_0 (b : Bool) : bI b = 0 ↔ b = false := by cases b <;> decide
theorem bI_t {b : Bool} (h : ¬ bI b = 0) : b = true := by
  cases b with
  | true => rfl
  | false => exact absurd rfl h
theorem paS_up {L : Nat → List Cl} {M : Hp} {e : Nat} {x : Int32} {w : Nat} : ∀ n, w ≤ n → paS L M e x w = true → paS L M e x n = true
  | 0, h, q => by rw [show w = 0 by omega] at q; exact q
  | n + 1, h, q => by
    rcases Nat.lt_or_ge w (n + 1) with h1 | h1
    · unfold paS anyB
      rw [show anyB _ n = true from paS_up n (by omega) q, Bool.true_or]
    · rw [show n + 1 = w by omega]
      exact q
def bC (M : Hp) (n : Nat) : Int32 := if n = 0 then -5 else nI (dearS M n)
def vC (M : Hp) (n : Nat) : Int32 := if n = 0 then -5 else prS M (dearS M n) (mE M)
theorem prS_b {L : Nat → List Cl} {M : Hp} (hI : Inv L M) (w : Nat) : isB (prS M w (mE M)) 800 := by
  refine (sumI_b (m := 99) (mE M) (fun e he => ?_)).mono (by have := (iE hI).2; omega)
  split
  · exact isB.of (hI.2.1.2.2.2.2.2.2.2.2.1 e he).2.2.2.1
  · exact isB.zero
theorem m5_lt {x : Int32} {n : Nat} (h : isB x n) (hn : n < 2 ^ 31) : (-5 : Int32) < x := by
  rw [Int32.lt_iff_toInt_lt]
  have := h.toInt hn
  have e : (-5 : Int32).toInt = -5 := rfl
  omega
theorem bC_s {M : Hp} {n : Nat} (h : ¬ n = 0) (c : prS M (dearS M n) (mE M) < prS M n (mE M)) : bC M (n + 1) = nI n ∧ vC M (n + 1) = prS M n (mE M) := by
  have e : dearS M (n + 1) = n := by unfold dearS; rw [if_neg h, if_pos c]
  unfold bC vC
  rw [if_neg (by omega), if_neg (by omega), e]
  exact ⟨rfl, rfl⟩
theorem bC_k {M : Hp} {n : Nat} (h : ¬ n = 0) (c : ¬ prS M (dearS M n) (mE M) < prS M n (mE M)) : bC M (n + 1) = bC M n ∧ vC M (n + 1) = vC M n := by
  have e : dearS M (n + 1) = dearS M n := by
    rw [show dearS M (n + 1) = if n = 0 then 0 else if prS M (dearS M n) (mE M) < prS M n (mE M) then n else dearS M n from rfl, if_neg h, if_neg c]
  simp [bC, vC, h, e]
theorem bC_S {M : Hp} {n : Nat} (c : vC M n < prS M n (mE M)) : bC M (n + 1) = nI n ∧ vC M (n + 1) = prS M n (mE M) := by
  by_cases h : n = 0
  · subst h
    exact ⟨rfl, rfl⟩
  · refine bC_s h ?_
    unfold vC at c
    rw [if_neg h] at c
    exact c
theorem bC_K {L : Nat → List Cl} {M : Hp} (hI : Inv L M) {n : Nat} (c : ¬ vC M n < prS M n (mE M)) : bC M (n + 1) = bC M n ∧ vC M (n + 1) = vC M n := by
  by_cases h : n = 0
  · subst h
    exact absurd (m5_lt (prS_b hI 0) (by decide)) c
  · refine bC_k h ?_
    unfold vC at c
    rw [if_neg h] at c
    exact c
def q_come (L : Nat → List Cl) (M : Hp) (w : Int32) : Int32 × Hp := if rng w (mW M) then (if mD M < 9999 then (sumI (fun e => payS L M e (cN w)) (mE M), si (si M 76 3 (minI 9999999 (gi M 76 3 + sumI (fun e => payS L M e (cN w)) (mE M)))) 76 2 (nI (mD M + 1))) else (-3, M)) else (-1, M)
theorem m_worth {l : Launch} {G : GT} {L : Nat → List Cl} {M σ : Hp} (hM : RM M σ) (hI : Inv L M) (x : Int32) : MM l G mM_worth 7 0 0 [.ref 76, .int x] KA σ (PM σ (q_worth L M x)) := by
  have hR := hM.1
  have hM0 := hM
  have hS : Sc σ σ := Sc.rfl
  refine MM.of (loc := [(0, .ref 76), (1, .int x)]) (by decide +kernel) rfl (Nat.le_of_ble_eq_true rfl) ?_
  refine V_aload_n dM_worth_0 rfl ?_
  refine V_iload_n dM_worth_1 rfl ?_
  refine V_iconst (v := 0) dM_worth_2 (by decide) ?_
  refine V_bipush (v := 99) dM_worth_3 (by decide) ?_
  refine V_callV (as := [.int x, .int 0, .int 99]) (rest := []) (bs' := 0) rfl dM_worth_5 cmM_in cvM_in mlM_203 (Or.inl ⟨_, _, _, _, _, rfl, k76, by decide, rfl⟩) rfl rfl (m_in x 0 99) (by decide) (Nat.le_refl _) (by decide) (Nat.le_of_ble_eq_true rfl) ?_
  rintro _ _ _ (⟨hb5, rfl, rfl, rfl⟩ | ⟨hb5, rfl, rfl, rfl⟩) -
  · refine V_one ?_
    refine V_if_ne (tgt := 14) dM_worth_8 rfl (fun _ => ?_) (fun h => absurd h (by decide))
    refine V_iconst (v := 0) dM_worth_14 (by decide) ?_
    refine V_istore_n (loc' := [(2, .int 0), (0, .ref 76), (1, .int x)]) dM_worth_15 (by decide) rfl ?_
    refine V_iconst (v := 0) dM_worth_16 (by decide) ?_
    refine V_istore_n (loc' := [(3, .int 0), (2, .int 0), (0, .ref 76), (1, .int x)]) dM_worth_17 (by decide) rfl ?_
    refine V.locs (loc' := [(3, .int 0), (2, .int 0), (0, .ref 76), (1, .int x)]) [0, 1, 2, 3] rfl ?_
    refine V_eqL (loc' := [(3, .int (nI 0)), (2, .int (crS L M x 0)), (0, .ref 76), (1, .int x)]) ?_ ?_
    · rfl
    have lp : ∀ n : Nat, n ≤ (mE M) → ∀ s : Hp, RM M s → Sc σ s → V l G mM_worth (rmd 7 0 0) (KA.length + 0) 0 18 [(3, .int (nI n)), (2, .int (crS L M x n)), (0, .ref 76), (1, .int x)] [] KA s (PM σ (q_worth L M x)) := by
      refine lp_up (mE M) ?_ (fun n hn ihn => ?_)
      · skip
        intro s hM hS
        have hR := hM.1
        refine V_iload_n dM_worth_18 rfl ?_
        refine V_aload_n dM_worth_19 rfl ?_
        refine V_getE (x := nI (mE M)) dM_worth_20 flM_13 k76 rfl ((mR hM rfl).trans (iE hI).1) ?_
        refine V_icmp_ge (tgt := 89) dM_worth_23 rfl (fun _ => ?_) (fun h => absurd h (not_not_intro (nI_le (Nat.le_refl _) (sm9 hI))))
        refine V_iload_n dM_worth_89 rfl ?_
        refine V_iret dM_worth_90 rfl rfl ?_
        have e : q_worth L M x = (crS L M x (mE M), M) := by
          skip
          first
          | (simp only [q_worth, if_pos hb5]; done)
          | (simp [q_worth, hb5]; done)
          | (simp_all [q_worth]; done)
        rw [e]
        exact ⟨rfl, rfl, hM, hS⟩
      · skip
        intro s hM hS
        have hR := hM.1
        have lq : ∀ w : Nat, w ≤ (mW M) → ∀ s : Hp, RM M s → Sc σ s → V l G mM_worth (rmd 7 0 0) (KA.length + 0) 0 32 [(5, .int (nI w)), (4, .int (bI (paS L M n x w))), (3, .int (nI n)), (2, .int (crS L M x n)), (0, .ref 76), (1, .int x)] [] KA s (PM σ (q_worth L M x)) := by
          refine lp_up (mW M) ?_ (fun w hw ihw => ?_)
          · skip
            intro s hM hS
            have hR := hM.1
            refine V_iload dM_worth_32 rfl ?_
            refine V_aload_n dM_worth_34 rfl ?_
            refine V_getE (x := nI (mW M)) dM_worth_35 flM_7 k76 rfl ((mR hM rfl).trans (iW hI).1) ?_
            refine V_icmp_ge (tgt := 70) dM_worth_38 rfl (fun _ => ?_) (fun h => absurd h (not_not_intro (nI_le (Nat.le_refl _) (sm7 hI))))
            refine V_iload_n dM_worth_70 rfl ?_
            refine V_iload dM_worth_71 rfl ?_
            refine V_if_eq (tgt := 80) dM_worth_73 rfl (fun c73 => ?_) (fun c73 => ?_)
            · skip
              have h73 : paS L M n x (mW M) = false := (bI_0 _).mp c73
              refine V_iconst (v := 0) dM_worth_80 (by decide) ?_
              refine V_iadd dM_worth_81 ?_
              refine V_istore_n (loc' := [(2, .int ((crS L M x n) + 0)), (5, .int (nI (mW M))), (4, .int (bI (paS L M n x (mW M)))), (3, .int (nI n)), (0, .ref 76), (1, .int x)]) dM_worth_82 (by decide) rfl ?_
              refine V_iinc (v := nI (n + 1)) (loc' := [(3, .int (nI (n + 1))), (2, .int ((crS L M x n) + 0)), (5, .int (nI (mW M))), (4, .int (bI (paS L M n x (mW M)))), (0, .ref 76), (1, .int x)]) dM_worth_83 rfl (nI_inc n) (by decide) rfl ?_
              refine V_goto (tgt := 18) dM_worth_86 rfl ?_
              refine V.locs (loc' := [(3, .int (nI (n + 1))), (2, .int ((crS L M x n) + 0)), (0, .ref 76), (1, .int x)]) [0, 1, 4, 5] rfl ?_
              refine V_eqL (loc' := [(3, .int (nI (n + 1))), (2, .int (crS L M x (n + 1))), (0, .ref 76), (1, .int x)]) ?_ ?_
              · simp [crS, sumI, h73]
              exact (ihn _ hM hS)
            · skip
              have h73 : paS L M n x (mW M) = true := bI_t c73
              refine V_iconst (v := 1) dM_worth_76 (by decide) ?_
              refine V_goto (tgt := 81) dM_worth_77 rfl ?_
              refine V_iadd dM_worth_81 ?_
              refine V_istore_n (loc' := [(2, .int ((crS L M x n) + 1)), (5, .int (nI (mW M))), (4, .int (bI (paS L M n x (mW M)))), (3, .int (nI n)), (0, .ref 76), (1, .int x)]) dM_worth_82 (by decide) rfl ?_
              refine V_iinc (v := nI (n + 1)) (loc' := [(3, .int (nI (n + 1))), (2, .int ((crS L M x n) + 1)), (5, .int (nI (mW M))), (4, .int (bI (paS L M n x (mW M)))), (0, .ref 76), (1, .int x)]) dM_worth_83 rfl (nI_inc n) (by decide) rfl ?_
              refine V_goto (tgt := 18) dM_worth_86 rfl ?_
              refine V.locs (loc' := [(3, .int (nI (n + 1))), (2, .int ((crS L M x n) + 1)), (0, .ref 76), (1, .int x)]) [0, 1, 4, 5] rfl ?_
              refine V_eqL (loc' := [(3, .int (nI (n + 1))), (2, .int (crS L M x (n + 1))), (0, .ref 76), (1, .int x)]) ?_ ?_
              · simp [crS, sumI, h73]
              exact (ihn _ hM hS)
          · skip
            intro s hM hS
            have hR := hM.1
            refine V_iload dM_worth_32 rfl ?_
            refine V_aload_n dM_worth_34 rfl ?_
            refine V_getE (x := nI (mW M)) dM_worth_35 flM_7 k76 rfl ((mR hM rfl).trans (iW hI).1) ?_
            refine V_icmp_ge (tgt := 70) dM_worth_38 rfl (fun h => absurd h (nI_ge hw (sm7 hI))) (fun _ => ?_)
            refine V_iload dM_worth_41 rfl ?_
            refine V_if_ne (tgt := 70) dM_worth_43 rfl (fun c43 => ?_) (fun c43 => ?_)
            · skip
              have hm : paS L M n x w = paS L M n x (mW M) := (bI_t c43).trans (paS_up _ (Nat.le_of_lt hw) (bI_t c43)).symm
              refine V_iload_n dM_worth_70 rfl ?_
              refine V_iload dM_worth_71 rfl ?_
              refine V_topI (x' := bI (paS L M n x (mW M))) (by rw [hm]) ?_
              refine V_if_eq (tgt := 80) dM_worth_73 rfl (fun c73 => ?_) (fun c73 => ?_)
              · skip
                have h73 : paS L M n x (mW M) = false := (bI_0 _).mp c73
                refine V_iconst (v := 0) dM_worth_80 (by decide) ?_
                refine V_iadd dM_worth_81 ?_
                refine V_istore_n (loc' := [(2, .int ((crS L M x n) + 0)), (5, .int (nI w)), (4, .int (bI (paS L M n x w))), (3, .int (nI n)), (0, .ref 76), (1, .int x)]) dM_worth_82 (by decide) rfl ?_
                refine V_iinc (v := nI (n + 1)) (loc' := [(3, .int (nI (n + 1))), (2, .int ((crS L M x n) + 0)), (5, .int (nI w)), (4, .int (bI (paS L M n x w))), (0, .ref 76), (1, .int x)]) dM_worth_83 rfl (nI_inc n) (by decide) rfl ?_
                refine V_goto (tgt := 18) dM_worth_86 rfl ?_
                refine V.locs (loc' := [(3, .int (nI (n + 1))), (2, .int ((crS L M x n) + 0)), (0, .ref 76), (1, .int x)]) [0, 1, 4, 5] rfl ?_
                refine V_eqL (loc' := [(3, .int (nI (n + 1))), (2, .int (crS L M x (n + 1))), (0, .ref 76), (1, .int x)]) ?_ ?_
                · simp [crS, sumI, h73]
                exact (ihn _ hM hS)
              · skip
                have h73 : paS L M n x (mW M) = true := bI_t c73
                refine V_iconst (v := 1) dM_worth_76 (by decide) ?_
                refine V_goto (tgt := 81) dM_worth_77 rfl ?_
                refine V_iadd dM_worth_81 ?_
                refine V_istore_n (loc' := [(2, .int ((crS L M x n) + 1)), (5, .int (nI w)), (4, .int (bI (paS L M n x w))), (3, .int (nI n)), (0, .ref 76), (1, .int x)]) dM_worth_82 (by decide) rfl ?_
                refine V_iinc (v := nI (n + 1)) (loc' := [(3, .int (nI (n + 1))), (2, .int ((crS L M x n) + 1)), (5, .int (nI w)), (4, .int (bI (paS L M n x w))), (0, .ref 76), (1, .int x)]) dM_worth_83 rfl (nI_inc n) (by decide) rfl ?_
                refine V_goto (tgt := 18) dM_worth_86 rfl ?_
                refine V.locs (loc' := [(3, .int (nI (n + 1))), (2, .int ((crS L M x n) + 1)), (0, .ref 76), (1, .int x)]) [0, 1, 4, 5] rfl ?_
                refine V_eqL (loc' := [(3, .int (nI (n + 1))), (2, .int (crS L M x (n + 1))), (0, .ref 76), (1, .int x)]) ?_ ?_
                · simp [crS, sumI, h73]
                exact (ihn _ hM hS)
            · skip
              have hq : paS L M n x w = false := (bI_0 _).mp c43
              refine V_aload_n dM_worth_46 rfl ?_
              refine V_iload_n dM_worth_47 rfl ?_
              refine V_iload dM_worth_48 rfl ?_
              refine V_callV (as := [.int (nI n), .int (nI w)]) (rest := []) (bs' := 0) rfl dM_worth_50 cmM_payOf cvM_payOf mlM_311 (Or.inl ⟨_, _, _, _, _, rfl, k76, by decide, rfl⟩) rfl rfl (m_payOf hM hI.pw (lt9 hI hn) hw (hI.ps hn) (by have := (iD hI).2; omega)) (by decide) (Nat.le_refl _) (by decide) (Nat.le_of_ble_eq_true rfl) ?_
              rintro _ _ s1 ⟨rfl, rfl, hF1⟩ -
              refine V_one ?_
              have hM := hF1.rm hM
              have hS := hS.trans hF1.sc
              have hR := hM.1
              refine V_iload_n dM_worth_53 rfl ?_
              refine V_icmp_lt (tgt := 61) dM_worth_54 rfl (fun c54 => ?_) (fun c54 => ?_)
              · skip
                refine V_iconst (v := 0) dM_worth_61 (by decide) ?_
                refine V_istore (loc' := [(4, .int 0), (5, .int (nI w)), (3, .int (nI n)), (2, .int (crS L M x n)), (0, .ref 76), (1, .int x)]) dM_worth_62 (by decide) rfl ?_
                refine V_iinc (v := nI (w + 1)) (loc' := [(5, .int (nI (w + 1))), (4, .int 0), (3, .int (nI n)), (2, .int (crS L M x n)), (0, .ref 76), (1, .int x)]) dM_worth_64 rfl (nI_inc w) (by decide) rfl ?_
                refine V_goto (tgt := 32) dM_worth_67 rfl ?_
                refine V.locs (loc' := [(5, .int (nI (w + 1))), (4, .int 0), (3, .int (nI n)), (2, .int (crS L M x n)), (0, .ref 76), (1, .int x)]) [0, 1, 2, 3, 4, 5] rfl ?_
                refine V_eqL (loc' := [(5, .int (nI (w + 1))), (4, .int (bI (paS L M n x (w + 1)))), (3, .int (nI n)), (2, .int (crS L M x n)), (0, .ref 76), (1, .int x)]) ?_ ?_
                · unfold paS at hq ⊢
                  simp only [anyB, hq, Bool.false_or]
                  simp_all [bI]
                exact (ihw _ hM hS)
              · skip
                refine V_iconst (v := 1) dM_worth_57 (by decide) ?_
                refine V_goto (tgt := 62) dM_worth_58 rfl ?_
                refine V_istore (loc' := [(4, .int 1), (5, .int (nI w)), (3, .int (nI n)), (2, .int (crS L M x n)), (0, .ref 76), (1, .int x)]) dM_worth_62 (by decide) rfl ?_
                refine V_iinc (v := nI (w + 1)) (loc' := [(5, .int (nI (w + 1))), (4, .int 1), (3, .int (nI n)), (2, .int (crS L M x n)), (0, .ref 76), (1, .int x)]) dM_worth_64 rfl (nI_inc w) (by decide) rfl ?_
                refine V_goto (tgt := 32) dM_worth_67 rfl ?_
                refine V.locs (loc' := [(5, .int (nI (w + 1))), (4, .int 1), (3, .int (nI n)), (2, .int (crS L M x n)), (0, .ref 76), (1, .int x)]) [0, 1, 2, 3, 4, 5] rfl ?_
                refine V_eqL (loc' := [(5, .int (nI (w + 1))), (4, .int (bI (paS L M n x (w + 1)))), (3, .int (nI n)), (2, .int (crS L M x n)), (0, .ref 76), (1, .int x)]) ?_ ?_
                · unfold paS at hq ⊢
                  simp only [anyB, hq, Bool.false_or]
                  simp_all [bI]
                exact (ihw _ hM hS)
        refine V_iload_n dM_worth_18 rfl ?_
        refine V_aload_n dM_worth_19 rfl ?_
        refine V_getE (x := nI (mE M)) dM_worth_20 flM_13 k76 rfl ((mR hM rfl).trans (iE hI).1) ?_
        refine V_icmp_ge (tgt := 89) dM_worth_23 rfl (fun h => absurd h (nI_ge hn (sm9 hI))) (fun _ => ?_)
        refine V_iconst (v := 0) dM_worth_26 (by decide) ?_
        refine V_istore (loc' := [(4, .int 0), (3, .int (nI n)), (2, .int (crS L M x n)), (0, .ref 76), (1, .int x)]) dM_worth_27 (by decide) rfl ?_
        refine V_iconst (v := 0) dM_worth_29 (by decide) ?_
        refine V_istore (loc' := [(5, .int 0), (4, .int 0), (3, .int (nI n)), (2, .int (crS L M x n)), (0, .ref 76), (1, .int x)]) dM_worth_30 (by decide) rfl ?_
        refine V.locs (loc' := [(5, .int 0), (4, .int 0), (3, .int (nI n)), (2, .int (crS L M x n)), (0, .ref 76), (1, .int x)]) [0, 1, 2, 3, 4, 5] rfl ?_
        refine V_eqL (loc' := [(5, .int (nI 0)), (4, .int (bI (paS L M n x 0))), (3, .int (nI n)), (2, .int (crS L M x n)), (0, .ref 76), (1, .int x)]) ?_ ?_
        · rfl
        exact (lq 0 (Nat.zero_le _) _ hM hS)
    exact lp 0 (Nat.zero_le _) _ hM hS
  · refine V_one ?_
    refine V_if_ne (tgt := 14) dM_worth_8 rfl (fun h => absurd h (by decide)) (fun _ => ?_)
    refine V_bipush (v := -2) dM_worth_11 (by decide) ?_
    refine V_iret dM_worth_13 rfl rfl ?_
    have e : q_worth L M x = ((-2), M) := by
      skip
      first
      | (simp only [q_worth, if_neg hb5]; done)
      | (simp [q_worth, hb5]; done)
      | (simp_all [q_worth]; done)
    rw [e]
    exact ⟨rfl, rfl, hM, hS⟩
theorem m_crowd {l : Launch} {G : GT} {L : Nat → List Cl} {M σ : Hp} (hM : RM M σ) (hI : Inv L M) (x : Int32) : MM l G mM_crowd 3 0 0 [.ref 76, .int x] KA σ (PM σ (q_crowd M x)) := by
  have hR := hM.1
  have hM0 := hM
  have hS : Sc σ σ := Sc.rfl
  refine MM.of (loc := [(0, .ref 76), (1, .int x)]) (by decide +kernel) rfl (Nat.le_of_ble_eq_true rfl) ?_
  refine V_aload_n dM_crowd_0 rfl ?_
  refine V_iload_n dM_crowd_1 rfl ?_
  refine V_iconst (v := 0) dM_crowd_2 (by decide) ?_
  refine V_iconst (v := 1) dM_crowd_3 (by decide) ?_
  refine V_callV (as := [.int x, .int 0, .int 1]) (rest := []) (bs' := 0) rfl dM_crowd_4 cmM_in cvM_in mlM_203 (Or.inl ⟨_, _, _, _, _, rfl, k76, by decide, rfl⟩) rfl rfl (m_in x 0 1) (by decide) (Nat.le_refl _) (by decide) (Nat.le_of_ble_eq_true rfl) ?_
  rintro _ _ _ (⟨hb4, rfl, rfl, rfl⟩ | ⟨hb4, rfl, rfl, rfl⟩) -
  · refine V_one ?_
    refine V_if_ne (tgt := 12) dM_crowd_7 rfl (fun _ => ?_) (fun h => absurd h (by decide))
    refine V_bipush (v := -5) dM_crowd_12 (by decide) ?_
    refine V_istore_n (loc' := [(2, .int (-5)), (0, .ref 76), (1, .int x)]) dM_crowd_14 (by decide) rfl ?_
    refine V_bipush (v := -5) dM_crowd_15 (by decide) ?_
    refine V_istore_n (loc' := [(3, .int (-5)), (2, .int (-5)), (0, .ref 76), (1, .int x)]) dM_crowd_17 (by decide) rfl ?_
    refine V_iconst (v := 0) dM_crowd_18 (by decide) ?_
    refine V_istore (loc' := [(4, .int 0), (3, .int (-5)), (2, .int (-5)), (0, .ref 76), (1, .int x)]) dM_crowd_19 (by decide) rfl ?_
    refine V.locs (loc' := [(4, .int 0), (3, .int (-5)), (2, .int (-5)), (0, .ref 76), (1, .int x)]) [0, 1, 2, 3, 4] rfl ?_
    refine V_eqL (loc' := [(4, .int (nI 0)), (3, .int (vC M 0)), (2, .int (bC M 0)), (0, .ref 76), (1, .int x)]) ?_ ?_
    · rfl
    have lp : ∀ n : Nat, n ≤ (mW M) → ∀ s : Hp, RM M s → Sc σ s → V l G mM_crowd (rmd 3 0 0) (KA.length + 0) 0 21 [(4, .int (nI n)), (3, .int (vC M n)), (2, .int (bC M n)), (0, .ref 76), (1, .int x)] [] KA s (PM σ (q_crowd M x)) := by
      refine lp_up (mW M) ?_ (fun n hn ihn => ?_)
      · skip
        intro s hM hS
        have hR := hM.1
        refine V_iload dM_crowd_21 rfl ?_
        refine V_aload_n dM_crowd_23 rfl ?_
        refine V_getE (x := nI (mW M)) dM_crowd_24 flM_7 k76 rfl ((mR hM rfl).trans (iW hI).1) ?_
        refine V_icmp_ge (tgt := 99) dM_crowd_27 rfl (fun _ => ?_) (fun h => absurd h (not_not_intro (nI_le (Nat.le_refl _) (sm7 hI))))
        refine V_iload_n dM_crowd_99 rfl ?_
        refine V_if_ne (tgt := 107) dM_crowd_100 rfl (fun c100 => ?_) (fun c100 => ?_)
        · skip
          refine V_iload_n dM_crowd_107 rfl ?_
          refine V_iret dM_crowd_108 rfl rfl ?_
          have e : q_crowd M x = (vC M (mW M), M) := by
            by_cases hz : mW M = 0 <;> simp_all [q_crowd, bC, vC]
          rw [e]
          exact ⟨rfl, rfl, hM, hS⟩
        · skip
          refine V_iload_n dM_crowd_103 rfl ?_
          refine V_goto (tgt := 108) dM_crowd_104 rfl ?_
          refine V_iret dM_crowd_108 rfl rfl ?_
          have e : q_crowd M x = (bC M (mW M), M) := by
            by_cases hz : mW M = 0 <;> simp_all [q_crowd, bC, vC]
          rw [e]
          exact ⟨rfl, rfl, hM, hS⟩
      · skip
        intro s hM hS
        have hR := hM.1
        have lq : ∀ e : Nat, e ≤ (mE M) → ∀ s : Hp, RM M s → Sc σ s → V l G mM_crowd (rmd 3 0 0) (KA.length + 0) 0 36 [(6, .int (nI e)), (5, .int (prS M n e)), (4, .int (nI n)), (3, .int (vC M n)), (2, .int (bC M n)), (0, .ref 76), (1, .int x)] [] KA s (PM σ (q_crowd M x)) := by
          refine lp_up (mE M) ?_ (fun e he ihe => ?_)
          · skip
            intro s hM hS
            have hR := hM.1
            refine V_iload dM_crowd_36 rfl ?_
            refine V_aload_n dM_crowd_38 rfl ?_
            refine V_getE (x := nI (mE M)) dM_crowd_39 flM_13 k76 rfl ((mR hM rfl).trans (iE hI).1) ?_
            refine V_icmp_ge (tgt := 78) dM_crowd_42 rfl (fun _ => ?_) (fun h => absurd h (not_not_intro (nI_le (Nat.le_refl _) (sm9 hI))))
            refine V_iload dM_crowd_78 rfl ?_
            refine V_iload_n dM_crowd_80 rfl ?_
            refine V_icmp_gt (tgt := 87) dM_crowd_81 rfl (fun c81 => ?_) (fun c81 => ?_)
            · skip
              refine V_iload dM_crowd_87 rfl ?_
              refine V_istore_n (loc' := [(2, .int (nI n)), (6, .int (nI (mE M))), (5, .int (prS M n (mE M))), (4, .int (nI n)), (3, .int (vC M n)), (0, .ref 76), (1, .int x)]) dM_crowd_89 (by decide) rfl ?_
              refine V_iload dM_crowd_90 rfl ?_
              refine V_istore_n (loc' := [(3, .int (prS M n (mE M))), (2, .int (nI n)), (6, .int (nI (mE M))), (5, .int (prS M n (mE M))), (4, .int (nI n)), (0, .ref 76), (1, .int x)]) dM_crowd_92 (by decide) rfl ?_
              refine V_iinc (v := nI (n + 1)) (loc' := [(4, .int (nI (n + 1))), (3, .int (prS M n (mE M))), (2, .int (nI n)), (6, .int (nI (mE M))), (5, .int (prS M n (mE M))), (0, .ref 76), (1, .int x)]) dM_crowd_93 rfl (nI_inc n) (by decide) rfl ?_
              refine V_goto (tgt := 21) dM_crowd_96 rfl ?_
              refine V.locs (loc' := [(4, .int (nI (n + 1))), (3, .int (prS M n (mE M))), (2, .int (nI n)), (0, .ref 76), (1, .int x)]) [0, 1, 2, 5, 6] rfl ?_
              refine V_eqL (loc' := [(4, .int (nI (n + 1))), (3, .int (vC M (n + 1))), (2, .int (bC M (n + 1))), (0, .ref 76), (1, .int x)]) ?_ ?_
              · first
                | (rw [(bC_S c81).1, (bC_S c81).2]; done)
                | (rw [(bC_K hI c81).1, (bC_K hI c81).2]; done)
              exact (ihn _ hM hS)
            · skip
              refine V_goto (tgt := 93) dM_crowd_84 rfl ?_
              refine V_iinc (v := nI (n + 1)) (loc' := [(4, .int (nI (n + 1))), (6, .int (nI (mE M))), (5, .int (prS M n (mE M))), (3, .int (vC M n)), (2, .int (bC M n)), (0, .ref 76), (1, .int x)]) dM_crowd_93 rfl (nI_inc n) (by decide) rfl ?_
              refine V_goto (tgt := 21) dM_crowd_96 rfl ?_
              refine V.locs (loc' := [(4, .int (nI (n + 1))), (3, .int (vC M n)), (2, .int (bC M n)), (0, .ref 76), (1, .int x)]) [0, 3, 4, 5, 6] rfl ?_
              refine V_eqL (loc' := [(4, .int (nI (n + 1))), (3, .int (vC M (n + 1))), (2, .int (bC M (n + 1))), (0, .ref 76), (1, .int x)]) ?_ ?_
              · first
                | (rw [(bC_S c81).1, (bC_S c81).2]; done)
                | (rw [(bC_K hI c81).1, (bC_K hI c81).2]; done)
              exact (ihn _ hM hS)
          · skip
            intro s hM hS
            have hR := hM.1
            refine V_iload dM_crowd_36 rfl ?_
            refine V_aload_n dM_crowd_38 rfl ?_
            refine V_getE (x := nI (mE M)) dM_crowd_39 flM_13 k76 rfl ((mR hM rfl).trans (iE hI).1) ?_
            refine V_icmp_ge (tgt := 78) dM_crowd_42 rfl (fun h => absurd h (nI_ge he (sm9 hI))) (fun _ => ?_)
            refine V_iload dM_crowd_45 rfl ?_
            refine V_aload_n dM_crowd_47 rfl ?_
            refine V_iload dM_crowd_48 rfl ?_
            refine V_iload dM_crowd_50 rfl ?_
            refine V_callV (as := [.int (nI e), .int (nI n)]) (rest := [.int (prS M n e)]) (bs' := 0) rfl dM_crowd_52 cmM_isTrue cvM_isTrue mlM_289 (Or.inl ⟨_, _, _, _, _, rfl, k76, by decide, rfl⟩) rfl rfl (m_isTrue hM (lt9 hI he) (nI n)) (by decide) (Nat.le_refl _) (by decide) (Nat.le_of_ble_eq_true rfl) ?_
            rintro _ _ _ (⟨hb, rfl, rfl, rfl⟩ | ⟨hb, rfl, rfl, rfl⟩) -
            · refine V_one ?_
              refine V_if_eq (tgt := 68) dM_crowd_55 rfl (fun h => absurd h (by decide)) (fun _ => ?_)
              refine V_aload_n dM_crowd_58 rfl ?_
              refine V_getR (a := 81) dM_crowd_59 flM_35 k76 rfl (r76_8 hR) ?_
              refine V_iload dM_crowd_62 rfl ?_
              refine V_ialdN (j := e) dM_crowd_64 k81 rfl (lt9 hI he) (by decide) ?_
              refine V_topI (x' := gi M 81 e) (mR hM rfl) ?_
              refine V_goto (tgt := 69) dM_crowd_65 rfl ?_
              refine V_iadd dM_crowd_69 ?_
              refine V_istore (loc' := [(5, .int ((prS M n e) + (gi M 81 e))), (6, .int (nI e)), (4, .int (nI n)), (3, .int (vC M n)), (2, .int (bC M n)), (0, .ref 76), (1, .int x)]) dM_crowd_70 (by decide) rfl ?_
              refine V_iinc (v := nI (e + 1)) (loc' := [(6, .int (nI (e + 1))), (5, .int ((prS M n e) + (gi M 81 e))), (4, .int (nI n)), (3, .int (vC M n)), (2, .int (bC M n)), (0, .ref 76), (1, .int x)]) dM_crowd_72 rfl (nI_inc e) (by decide) rfl ?_
              refine V_goto (tgt := 36) dM_crowd_75 rfl ?_
              refine V.locs (loc' := [(6, .int (nI (e + 1))), (5, .int ((prS M n e) + (gi M 81 e))), (4, .int (nI n)), (3, .int (vC M n)), (2, .int (bC M n)), (0, .ref 76), (1, .int x)]) [0, 1, 2, 3, 4, 5, 6] rfl ?_
              refine V_eqL (loc' := [(6, .int (nI (e + 1))), (5, .int (prS M n (e + 1))), (4, .int (nI n)), (3, .int (vC M n)), (2, .int (bC M n)), (0, .ref 76), (1, .int x)]) ?_ ?_
              · simp [prS, sumI, hb]
              exact (ihe _ hM hS)
            · refine V_one ?_
              refine V_if_eq (tgt := 68) dM_crowd_55 rfl (fun _ => ?_) (fun h => absurd h (by decide))
              refine V_iconst (v := 0) dM_crowd_68 (by decide) ?_
              refine V_iadd dM_crowd_69 ?_
              refine V_istore (loc' := [(5, .int ((prS M n e) + 0)), (6, .int (nI e)), (4, .int (nI n)), (3, .int (vC M n)), (2, .int (bC M n)), (0, .ref 76), (1, .int x)]) dM_crowd_70 (by decide) rfl ?_
              refine V_iinc (v := nI (e + 1)) (loc' := [(6, .int (nI (e + 1))), (5, .int ((prS M n e) + 0)), (4, .int (nI n)), (3, .int (vC M n)), (2, .int (bC M n)), (0, .ref 76), (1, .int x)]) dM_crowd_72 rfl (nI_inc e) (by decide) rfl ?_
              refine V_goto (tgt := 36) dM_crowd_75 rfl ?_
              refine V.locs (loc' := [(6, .int (nI (e + 1))), (5, .int ((prS M n e) + 0)), (4, .int (nI n)), (3, .int (vC M n)), (2, .int (bC M n)), (0, .ref 76), (1, .int x)]) [0, 1, 2, 3, 4, 5, 6] rfl ?_
              refine V_eqL (loc' := [(6, .int (nI (e + 1))), (5, .int (prS M n (e + 1))), (4, .int (nI n)), (3, .int (vC M n)), (2, .int (bC M n)), (0, .ref 76), (1, .int x)]) ?_ ?_
              · simp [prS, sumI, hb]
              exact (ihe _ hM hS)
        refine V_iload dM_crowd_21 rfl ?_
        refine V_aload_n dM_crowd_23 rfl ?_
        refine V_getE (x := nI (mW M)) dM_crowd_24 flM_7 k76 rfl ((mR hM rfl).trans (iW hI).1) ?_
        refine V_icmp_ge (tgt := 99) dM_crowd_27 rfl (fun h => absurd h (nI_ge hn (sm7 hI))) (fun _ => ?_)
        refine V_iconst (v := 0) dM_crowd_30 (by decide) ?_
        refine V_istore (loc' := [(5, .int 0), (4, .int (nI n)), (3, .int (vC M n)), (2, .int (bC M n)), (0, .ref 76), (1, .int x)]) dM_crowd_31 (by decide) rfl ?_
        refine V_iconst (v := 0) dM_crowd_33 (by decide) ?_
        refine V_istore (loc' := [(6, .int 0), (5, .int 0), (4, .int (nI n)), (3, .int (vC M n)), (2, .int (bC M n)), (0, .ref 76), (1, .int x)]) dM_crowd_34 (by decide) rfl ?_
        refine V.locs (loc' := [(6, .int 0), (5, .int 0), (4, .int (nI n)), (3, .int (vC M n)), (2, .int (bC M n)), (0, .ref 76), (1, .int x)]) [0, 1, 2, 3, 4, 5, 6] rfl ?_
        refine V_eqL (loc' := [(6, .int (nI 0)), (5, .int (prS M n 0)), (4, .int (nI n)), (3, .int (vC M n)), (2, .int (bC M n)), (0, .ref 76), (1, .int x)]) ?_ ?_
        · rfl
        exact (lq 0 (Nat.zero_le _) _ hM hS)
    exact lp 0 (Nat.zero_le _) _ hM hS
  · refine V_one ?_
    refine V_if_ne (tgt := 12) dM_crowd_7 rfl (fun h => absurd h (by decide)) (fun _ => ?_)
    refine V_iconst (v := -1) dM_crowd_10 (by decide) ?_
    refine V_iret dM_crowd_11 rfl rfl ?_
    have e : q_crowd M x = ((-1), M) := by
      skip
      first
      | (simp only [q_crowd, if_neg hb4]; done)
      | (simp [q_crowd, hb4]; done)
      | (simp_all [q_crowd]; done)
    rw [e]
    exact ⟨rfl, rfl, hM, hS⟩
theorem g_come {l : Launch} {G : GT} {L : Nat → List Cl} {M σ : Hp} (hC : RC L M σ) (hI : Inv L M) (w : Int32) : MM l G mG_come 6 0 0 [.ref 0, .int w] KA σ (PQ L σ (q_come L M w)) := by
  have hR := hC.1
  have hC0 := hC
  have hS : Sm σ σ := Sm.rfl
  refine MM.of (loc := [(0, .ref 0), (1, .int w)]) (by decide +kernel) rfl (Nat.le_of_ble_eq_true rfl) ?_
  refine V_aload_n dG_come_0 rfl ?_
  refine V_getR (a := 1) dG_come_1 flG_12 k0 rfl (r0_0 hR) ?_
  refine V_iload_n dG_come_4 rfl ?_
  refine V_callV (as := [.int w]) (rest := []) (bs' := 0) rfl dG_come_5 cmF_hasWorld cvF_hasWorld mlG_68 (Or.inl ⟨_, _, _, _, _, rfl, k1, by decide, rfl⟩) rfl rfl (c_hasWorld hC hI w) (by decide) (Nat.le_refl _) (by decide) (Nat.le_of_ble_eq_true rfl) ?_
  rintro _ _ _ (⟨hb5, rfl, rfl, rfl⟩ | ⟨hb5, rfl, rfl, rfl⟩) -
  · refine V_one ?_
    refine V_if_ne (tgt := 13) dG_come_8 rfl (fun _ => ?_) (fun h => absurd h (by decide))
    refine V_aload_n dG_come_13 rfl ?_
    refine V_getR (a := 1) dG_come_14 flG_12 k0 rfl (r0_0 hR) ?_
    refine V_getE (x := nI (mD M)) dG_come_17 flG_108 k1 rfl (cD hC hI) ?_
    refine V_sipush (v := 9999) dG_come_20 (by decide) ?_
    refine V_icmp_lt (tgt := 29) dG_come_23 rfl (fun c23 => ?_) (fun c23 => ?_)
    · skip
      have h23 : mD M < 9999 := (nI_ltI (b := 9999) (by have := (iD hI).2; omega) (by decide)).mp c23
      refine V_aload_n dG_come_29 rfl ?_
      refine V_getR (a := 60) dG_come_30 flG_33 k0 rfl (r0_4 hR) ?_
      refine V_iload_n dG_come_33 rfl ?_
      refine V_topI (x' := nI (cN w)) (rng_N hb5 (sm7 hI)).1 ?_
      refine V_callV (as := [.int (nI (cN w))]) (rest := []) (bs' := 0) rfl dG_come_34 cmP_sumIn cvP_sumIn mlG_139 (Or.inl ⟨_, _, _, _, _, rfl, k60, by decide, rfl⟩) rfl rfl (c_sumIn hC hI (rng_N hb5 (sm7 hI)).2) (by decide) (Nat.le_refl _) (by decide) (Nat.le_of_ble_eq_true rfl) ?_
      rintro _ _ s1 ⟨rfl, rfl, hF1⟩ -
      refine V_one ?_
      have hC := hF1.rc hC
      have hS := hS.trans hF1.sm
      have hR := hC.1
      refine V_istore_n (loc' := [(2, .int (sumI (fun e => payS L M e (cN w)) (mE M))), (0, .ref 0), (1, .int w)]) dG_come_37 (by decide) rfl ?_
      have hC1 := hC
      refine V_aload_n dG_come_38 rfl ?_
      refine V_getR (a := 1) dG_come_39 flG_12 k0 rfl (r0_0 hR) ?_
      refine V_ldc dG_come_42 kcG_142 ?_
      refine V_aload_n dG_come_44 rfl ?_
      refine V_getR (a := 1) dG_come_45 flG_12 k0 rfl (r0_0 hR) ?_
      refine V_getE (x := gi M 76 3) dG_come_48 flG_127 k1 rfl (hC.2.1 1 5 76 3 rfl) ?_
      refine V_iload_n dG_come_51 rfl ?_
      refine V_iadd dG_come_52 ?_
      refine V_min rfl dG_come_53 mlG_143 (by decide) (Nat.le_of_ble_eq_true rfl) (by decide) ?_
      refine V_topI (x' := minI 9999999 (gi M 76 3 + sumI (fun e => payS L M e (cN w)) (mE M))) rfl ?_
      refine V_putI dG_come_56 flG_127 (fpF_5 _) (Or.inl rfl) k1 rfl ?_
      have hC := RC_set (k := 1) (j := 5) (a := 76) (b := 3) (x := minI 9999999 (gi M 76 3 + sumI (fun e => payS L M e (cN w)) (mE M))) hC rfl (by first | decide | omega)
      have hS := hS.set (k := 1) (j := 5) (x := minI 9999999 (gi M 76 3 + sumI (fun e => payS L M e (cN w)) (mE M))) (by omega)
      have hR := hC.1
      refine V_aload_n dG_come_59 rfl ?_
      refine V_getR (a := 1) dG_come_60 flG_12 k0 rfl (r0_0 hR) ?_
      refine V_dup dG_come_63 rfl ?_
      refine V_getE (x := nI (mD M)) dG_come_64 flG_108 k1 rfl ((gi_nj (by decide)).trans (cD hC1 hI)) ?_
      refine V_iconst (v := 1) dG_come_67 (by decide) ?_
      refine V_iadd dG_come_68 ?_
      refine V_topI (x' := nI (mD M + 1)) (nI_1 _) ?_
      refine V_putI dG_come_69 flG_108 (fpF_4 _) (Or.inl rfl) k1 rfl ?_
      have hC := RC_set (k := 1) (j := 4) (a := 76) (b := 2) (x := nI (mD M + 1)) hC rfl (by first | decide | omega)
      have hS := hS.set (k := 1) (j := 4) (x := nI (mD M + 1)) (by omega)
      have hR := hC.1
      refine V_iload_n dG_come_72 rfl ?_
      refine V_iret dG_come_73 rfl rfl ?_
      have e : q_come L M w = (sumI (fun e => payS L M e (cN w)) (mE M), si (si M 76 3 (minI 9999999 (gi M 76 3 + sumI (fun e => payS L M e (cN w)) (mE M)))) 76 2 (nI (mD M + 1))) := by
        skip
        first
        | (simp only [q_come, if_pos hb5, if_pos h23]; done)
        | (simp [q_come, hb5, h23]; done)
        | (simp_all [q_come]; done)
      rw [e]
      exact ⟨rfl, rfl, hC, hS⟩
    · skip
      have h23 : ¬ mD M < 9999 := fun q => c23 ((nI_ltI (b := 9999) (by have := (iD hI).2; omega) (by decide)).mpr q)
      refine V_bipush (v := -3) dG_come_26 (by decide) ?_
      refine V_iret dG_come_28 rfl rfl ?_
      have e : q_come L M w = ((-3), M) := by
        skip
        first
        | (simp only [q_come, if_pos hb5, if_neg h23]; done)
        | (simp [q_come, hb5, h23]; done)
        | (simp_all [q_come]; done)
      rw [e]
      exact ⟨rfl, rfl, hC, hS⟩
  · refine V_one ?_
    refine V_if_ne (tgt := 13) dG_come_8 rfl (fun h => absurd h (by decide)) (fun _ => ?_)
    refine V_iconst (v := -1) dG_come_11 (by decide) ?_
    refine V_iret dG_come_12 rfl rfl ?_
    have e : q_come L M w = ((-1), M) := by
      skip
      first
      | (simp only [q_come, if_neg hb5]; done)
      | (simp [q_come, hb5]; done)
      | (simp_all [q_come]; done)
    rw [e]
    exact ⟨rfl, rfl, hC, hS⟩
theorem min_9 {y : Int32} : (minI 9999999 y) = if y ≤ 9999999 then y else 9999999 := by
  unfold minI
  by_cases h : y < 9999999
  · rw [if_pos h, if_pos (Int32.le_of_lt h)]
  · rw [if_neg h]
    split
    · next q => exact Int32.le_antisymm (Int32.not_lt.mp h) q
    · rfl
theorem m_come {l : Launch} {G : GT} {L : Nat → List Cl} {M σ : Hp} (hM : RM M σ) (hI : Inv L M) (w : Int32) : MM l G mM_come 7 0 0 [.ref 76, .int w] KA σ (PM σ (q_come L M w)) := by
  have hR := hM.1
  have hM0 := hM
  have hS : Sc σ σ := Sc.rfl
  refine MM.of (loc := [(0, .ref 76), (1, .int w)]) (by decide +kernel) rfl (Nat.le_of_ble_eq_true rfl) ?_
  refine V_aload_n dM_come_0 rfl ?_
  refine V_iload_n dM_come_1 rfl ?_
  refine V_callV (as := [.int w]) (rest := []) (bs' := 0) rfl dM_come_2 cmM_isWorld cvM_isWorld mlM_207 (Or.inl ⟨_, _, _, _, _, rfl, k76, by decide, rfl⟩) rfl rfl (m_isWorld hM hI.pw w) (by decide) (Nat.le_refl _) (by decide) (Nat.le_of_ble_eq_true rfl) ?_
  rintro _ _ _ (⟨hb2, rfl, rfl, rfl⟩ | ⟨hb2, rfl, rfl, rfl⟩) -
  · refine V_one ?_
    refine V_if_ne (tgt := 10) dM_come_5 rfl (fun _ => ?_) (fun h => absurd h (by decide))
    refine V_aload_n dM_come_10 rfl ?_
    refine V_getE (x := nI (mD M)) dM_come_11 flM_16 k76 rfl ((mR hM rfl).trans (iD hI).1) ?_
    refine V_sipush (v := 9999) dM_come_14 (by decide) ?_
    refine V_icmp_ne (tgt := 23) dM_come_17 rfl (fun c17 => ?_) (fun c17 => ?_)
    · skip
      have h17 : mD M < 9999 := by have h9 := (iD hI).2; have : ¬ mD M = 9999 := fun q => c17 (by rw [q]; rfl); omega
      refine V_iconst (v := 0) dM_come_23 (by decide) ?_
      refine V_istore_n (loc' := [(2, .int 0), (0, .ref 76), (1, .int w)]) dM_come_24 (by decide) rfl ?_
      refine V_iconst (v := 0) dM_come_25 (by decide) ?_
      refine V_istore_n (loc' := [(3, .int 0), (2, .int 0), (0, .ref 76), (1, .int w)]) dM_come_26 (by decide) rfl ?_
      refine V.locs (loc' := [(3, .int 0), (2, .int 0), (0, .ref 76), (1, .int w)]) [0, 1, 2, 3] rfl ?_
      refine V_eqL (loc' := [(3, .int (nI 0)), (2, .int (sumI (fun e => payS L M e (cN w)) 0)), (0, .ref 76), (1, .int w)]) ?_ ?_
      · first | rfl | simp
      have lp : ∀ n : Nat, n ≤ (mE M) → ∀ s : Hp, RM M s → Sc σ s → V l G mM_come (rmd 7 0 0) (KA.length + 0) 0 27 [(3, .int (nI n)), (2, .int (sumI (fun e => payS L M e (cN w)) n)), (0, .ref 76), (1, .int w)] [] KA s (PM σ (q_come L M w)) := by
        refine lp_up (mE M) ?_ (fun n hn ihn => ?_)
        · skip
          intro s hM hS
          have hR := hM.1
          refine V_iload_n dM_come_27 rfl ?_
          refine V_aload_n dM_come_28 rfl ?_
          refine V_getE (x := nI (mE M)) dM_come_29 flM_13 k76 rfl ((mR hM rfl).trans (iE hI).1) ?_
          refine V_icmp_ge (tgt := 50) dM_come_32 rfl (fun _ => ?_) (fun h => absurd h (not_not_intro (nI_le (Nat.le_refl _) (sm9 hI))))
          have hM1 := hM
          refine V_aload_n dM_come_50 rfl ?_
          refine V_aload_n dM_come_51 rfl ?_
          refine V_getE (x := gi M 76 3) dM_come_52 flM_19 k76 rfl (mR hM rfl) ?_
          refine V_iload_n dM_come_55 rfl ?_
          refine V_iadd dM_come_56 ?_
          refine V_ldcw dM_come_57 kcM_320 ?_
          refine V_icmp_le (tgt := 69) dM_come_60 rfl (fun c60 => ?_) (fun c60 => ?_)
          · skip
            refine V_aload_n dM_come_69 rfl ?_
            refine V_getE (x := gi M 76 3) dM_come_70 flM_19 k76 rfl (mR hM rfl) ?_
            refine V_iload_n dM_come_73 rfl ?_
            refine V_iadd dM_come_74 ?_
            refine V_topI (x' := minI 9999999 (gi M 76 3 + sumI (fun e => payS L M e (cN w)) (mE M))) (by rw [min_9]; first | (rw [if_pos c60]; done) | (rw [if_neg c60]; done)) ?_
            refine V_putI dM_come_75 flM_19 (fpM_3 _) (Or.inl rfl) k76 rfl ?_
            have hM := RM_set (k := 76) (j := 3) (x := minI 9999999 (gi M 76 3 + sumI (fun e => payS L M e (cN w)) (mE M))) hM
            have hS := hS.set (k := 76) (j := 3) (x := minI 9999999 (gi M 76 3 + sumI (fun e => payS L M e (cN w)) (mE M))) (by omega)
            have hR := hM.1
            refine V_aload_n dM_come_78 rfl ?_
            refine V_dup dM_come_79 rfl ?_
            refine V_getE (x := nI (mD M)) dM_come_80 flM_16 k76 rfl ((gi_nj (by decide)).trans ((mR hM1 rfl).trans (iD hI).1)) ?_
            refine V_iconst (v := 1) dM_come_83 (by decide) ?_
            refine V_iadd dM_come_84 ?_
            refine V_topI (x' := nI (mD M + 1)) (nI_1 _) ?_
            refine V_putI dM_come_85 flM_16 (fpM_2 _) (Or.inl rfl) k76 rfl ?_
            have hM := RM_set (k := 76) (j := 2) (x := nI (mD M + 1)) hM
            have hS := hS.set (k := 76) (j := 2) (x := nI (mD M + 1)) (by omega)
            have hR := hM.1
            refine V_iload_n dM_come_88 rfl ?_
            refine V_iret dM_come_89 rfl rfl ?_
            have e : q_come L M w = (sumI (fun e => payS L M e (cN w)) (mE M), si (si M 76 3 (minI 9999999 (gi M 76 3 + sumI (fun e => payS L M e (cN w)) (mE M)))) 76 2 (nI (mD M + 1))) := by
              skip
              first
              | (simp only [q_come, if_pos hb2, if_pos h17, if_pos c60]; done)
              | (simp [q_come, hb2, h17, c60]; done)
              | (simp_all [q_come]; done)
            rw [e]
            exact ⟨rfl, rfl, hM, hS⟩
          · skip
            refine V_ldcw dM_come_63 kcM_320 ?_
            refine V_goto (tgt := 75) dM_come_66 rfl ?_
            refine V_topI (x' := minI 9999999 (gi M 76 3 + sumI (fun e => payS L M e (cN w)) (mE M))) (by rw [min_9]; first | (rw [if_pos c60]; done) | (rw [if_neg c60]; done)) ?_
            refine V_putI dM_come_75 flM_19 (fpM_3 _) (Or.inl rfl) k76 rfl ?_
            have hM := RM_set (k := 76) (j := 3) (x := minI 9999999 (gi M 76 3 + sumI (fun e => payS L M e (cN w)) (mE M))) hM
            have hS := hS.set (k := 76) (j := 3) (x := minI 9999999 (gi M 76 3 + sumI (fun e => payS L M e (cN w)) (mE M))) (by omega)
            have hR := hM.1
            refine V_aload_n dM_come_78 rfl ?_
            refine V_dup dM_come_79 rfl ?_
            refine V_getE (x := nI (mD M)) dM_come_80 flM_16 k76 rfl ((gi_nj (by decide)).trans ((mR hM1 rfl).trans (iD hI).1)) ?_
            refine V_iconst (v := 1) dM_come_83 (by decide) ?_
            refine V_iadd dM_come_84 ?_
            refine V_topI (x' := nI (mD M + 1)) (nI_1 _) ?_
            refine V_putI dM_come_85 flM_16 (fpM_2 _) (Or.inl rfl) k76 rfl ?_
            have hM := RM_set (k := 76) (j := 2) (x := nI (mD M + 1)) hM
            have hS := hS.set (k := 76) (j := 2) (x := nI (mD M + 1)) (by omega)
            have hR := hM.1
            refine V_iload_n dM_come_88 rfl ?_
            refine V_iret dM_come_89 rfl rfl ?_
            have e : q_come L M w = (sumI (fun e => payS L M e (cN w)) (mE M), si (si M 76 3 (minI 9999999 (gi M 76 3 + sumI (fun e => payS L M e (cN w)) (mE M)))) 76 2 (nI (mD M + 1))) := by
              skip
              first
              | (simp only [q_come, if_pos hb2, if_pos h17, if_neg c60]; done)
              | (simp [q_come, hb2, h17, c60]; done)
              | (simp_all [q_come]; done)
            rw [e]
            exact ⟨rfl, rfl, hM, hS⟩
        · skip
          intro s hM hS
          have hR := hM.1
          refine V_iload_n dM_come_27 rfl ?_
          refine V_aload_n dM_come_28 rfl ?_
          refine V_getE (x := nI (mE M)) dM_come_29 flM_13 k76 rfl ((mR hM rfl).trans (iE hI).1) ?_
          refine V_icmp_ge (tgt := 50) dM_come_32 rfl (fun h => absurd h (nI_ge hn (sm9 hI))) (fun _ => ?_)
          refine V_iload_n dM_come_35 rfl ?_
          refine V_aload_n dM_come_36 rfl ?_
          refine V_iload_n dM_come_37 rfl ?_
          refine V_iload_n dM_come_38 rfl ?_
          refine V_topI (x' := nI (cN w)) (rng_N hb2 (sm7 hI)).1 ?_
          refine V_callV (as := [.int (nI n), .int (nI (cN w))]) (rest := [.int (sumI (fun e => payS L M e (cN w)) n)]) (bs' := 0) rfl dM_come_39 cmM_payOf cvM_payOf mlM_311 (Or.inl ⟨_, _, _, _, _, rfl, k76, by decide, rfl⟩) rfl rfl (m_payOf hM hI.pw (lt9 hI hn) (rng_N hb2 (sm7 hI)).2 (hI.ps hn) (by have := (iD hI).2; omega)) (by decide) (Nat.le_refl _) (by decide) (Nat.le_of_ble_eq_true rfl) ?_
          rintro _ _ s1 ⟨rfl, rfl, hF1⟩ -
          refine V_one ?_
          have hM := hF1.rm hM
          have hS := hS.trans hF1.sc
          have hR := hM.1
          refine V_iadd dM_come_42 ?_
          refine V_istore_n (loc' := [(2, .int ((sumI (fun e => payS L M e (cN w)) n) + (payS L M n (cN w)))), (3, .int (nI n)), (0, .ref 76), (1, .int w)]) dM_come_43 (by decide) rfl ?_
          refine V_iinc (v := nI (n + 1)) (loc' := [(3, .int (nI (n + 1))), (2, .int ((sumI (fun e => payS L M e (cN w)) n) + (payS L M n (cN w)))), (0, .ref 76), (1, .int w)]) dM_come_44 rfl (nI_inc n) (by decide) rfl ?_
          refine V_goto (tgt := 27) dM_come_47 rfl ?_
          refine V.locs (loc' := [(3, .int (nI (n + 1))), (2, .int ((sumI (fun e => payS L M e (cN w)) n) + (payS L M n (cN w)))), (0, .ref 76), (1, .int w)]) [0, 1, 2, 3] rfl ?_
          refine V_eqL (loc' := [(3, .int (nI (n + 1))), (2, .int (sumI (fun e => payS L M e (cN w)) (n + 1))), (0, .ref 76), (1, .int w)]) ?_ ?_
          · rfl
          exact (ihn _ hM hS)
      exact lp 0 (Nat.zero_le _) _ hM hS
    · skip
      have h17 : ¬ mD M < 9999 := by have := (nI_eq (b := 9999) (by have := (iD hI).2; omega) (by decide)).mp c17; omega
      refine V_bipush (v := -3) dM_come_20 (by decide) ?_
      refine V_iret dM_come_22 rfl rfl ?_
      have e : q_come L M w = ((-3), M) := by
        skip
        first
        | (simp only [q_come, if_pos hb2, if_neg h17]; done)
        | (simp [q_come, hb2, h17]; done)
        | (simp_all [q_come]; done)
      rw [e]
      exact ⟨rfl, rfl, hM, hS⟩
  · refine V_one ?_
    refine V_if_ne (tgt := 10) dM_come_5 rfl (fun h => absurd h (by decide)) (fun _ => ?_)
    refine V_iconst (v := -1) dM_come_8 (by decide) ?_
    refine V_iret dM_come_9 rfl rfl ?_
    have e : q_come L M w = ((-1), M) := by
      skip
      first
      | (simp only [q_come, if_neg hb2]; done)
      | (simp [q_come, hb2]; done)
      | (simp_all [q_come]; done)
    rw [e]
    exact ⟨rfl, rfl, hM, hS⟩
def n_env (M : Hp) (k v s pr : Int32) : Hp := si (si (si (si (si (si (si (si (si (si M 78 (mE M) k) 79 (mE M) v) 80 (mE M) s) 81 (mE M) pr) 82 (mE M) (nI (mD M))) 83 (4 * mE M + 0) 0) 83 (4 * mE M + 1) 0) 83 (4 * mE M + 2) 0) 83 (4 * mE M + 3) 0) 76 1 (nI (mE M + 1))
def q_addEnv (M : Hp) (k v s pr : Int32) : Int32 × Hp := if mE M < 8 then (nI (mE M), n_env M k v s pr) else (-4, M)
def q_envelope (M : Hp) (k v s pr : Int32) : Int32 × Hp := if 0 ≤ k ∧ k ≤ 6 then (if 0 ≤ v ∧ v ≤ 9 then (if rng s (2 ^ mW M) then (if 0 ≤ pr ∧ pr ≤ 99 then q_addEnv M k v s pr else (-2, M)) else (-2, M)) else (-2, M)) else (-1, M)
theorem c_addEnvelope {l : Launch} {G : GT} {L : Nat → List Cl} {M σ : Hp} (hC : RC L M σ) (hI : Inv L M) (k v s pr : Int32) : MM l G mF_addEnvelope 0 0 0 [.ref 1, .int k, .int v, .int s, .int pr] KA σ (PQ L σ (q_addEnv M k v s pr)) := by
  have hR := hC.1
  have hC0 := hC
  have hS : Sm σ σ := Sm.rfl
  refine MM.of (loc := [(0, .ref 1), (1, .int k), (2, .int v), (3, .int s), (4, .int pr)]) (by decide +kernel) rfl (Nat.le_of_ble_eq_true rfl) ?_
  refine V_aload_n dF_addEnvelope_0 rfl ?_
  refine V_getE (x := nI (mE M)) dF_addEnvelope_1 flF_47 k1 rfl (cE hC hI) ?_
  refine V_bipush (v := 8) dF_addEnvelope_4 (by decide) ?_
  refine V_icmp_lt (tgt := 12) dF_addEnvelope_6 rfl (fun c6 => ?_) (fun c6 => ?_)
  · skip
    have h6 : mE M < 8 := (nI_ltI (b := 8) (sm9 hI) (by decide)).mp c6
    refine V_aload_n dF_addEnvelope_12 rfl ?_
    refine V_getR (a := 3) dF_addEnvelope_13 flF_17 k1 rfl (r1_3 hR) ?_
    refine V_aload_n dF_addEnvelope_16 rfl ?_
    refine V_getE (x := nI (mE M)) dF_addEnvelope_17 flF_47 k1 rfl (cE hC hI) ?_
    refine V_aaldN (j := mE M) (a := 8 + 2 * mE M) dF_addEnvelope_20 k3 rfl h6 (by decide) (rE hR h6) ?_
    refine V_astore (loc' := [(5, .ref (8 + 2 * mE M)), (0, .ref 1), (1, .int k), (2, .int v), (3, .int s), (4, .int pr)]) dF_addEnvelope_21 (by decide) rfl ?_
    refine V_aload dF_addEnvelope_23 rfl ?_
    refine V_iload_n dF_addEnvelope_25 rfl ?_
    refine V_putI dF_addEnvelope_26 flF_63 (fpE_1 _) (Or.inl rfl) (kE _ h6) rfl ?_
    have hC := RC_set (k := 8 + 2 * mE M) (j := 1) (a := 78) (b := mE M) (x := k) hC (mpE _ h6).1 (by first | decide | omega)
    have hS := hS.set (k := 8 + 2 * mE M) (j := 1) (x := k) (by omega)
    have hR := hC.1
    refine V_aload dF_addEnvelope_29 rfl ?_
    refine V_iload_n dF_addEnvelope_31 rfl ?_
    refine V_putI dF_addEnvelope_32 flF_66 (fpE_2 _) (Or.inl rfl) (kE _ h6) rfl ?_
    have hC := RC_set (k := 8 + 2 * mE M) (j := 2) (a := 79) (b := mE M) (x := v) hC (mpE _ h6).2.1 (by first | decide | omega)
    have hS := hS.set (k := 8 + 2 * mE M) (j := 2) (x := v) (by omega)
    have hR := hC.1
    refine V_aload dF_addEnvelope_35 rfl ?_
    refine V_iload_n dF_addEnvelope_37 rfl ?_
    refine V_putI dF_addEnvelope_38 flF_69 (fpE_3 _) (Or.inl rfl) (kE _ h6) rfl ?_
    have hC := RC_set (k := 8 + 2 * mE M) (j := 3) (a := 80) (b := mE M) (x := s) hC (mpE _ h6).2.2.1 (by first | decide | omega)
    have hS := hS.set (k := 8 + 2 * mE M) (j := 3) (x := s) (by omega)
    have hR := hC.1
    refine V_aload dF_addEnvelope_41 rfl ?_
    refine V_iload dF_addEnvelope_43 rfl ?_
    refine V_putI dF_addEnvelope_45 flF_72 (fpE_4 _) (Or.inl rfl) (kE _ h6) rfl ?_
    have hC := RC_set (k := 8 + 2 * mE M) (j := 4) (a := 81) (b := mE M) (x := pr) hC (mpE _ h6).2.2.2.1 (by first | decide | omega)
    have hS := hS.set (k := 8 + 2 * mE M) (j := 4) (x := pr) (by omega)
    have hR := hC.1
    refine V_aload dF_addEnvelope_48 rfl ?_
    refine V_aload_n dF_addEnvelope_50 rfl ?_
    refine V_getE (x := nI (mD M)) dF_addEnvelope_51 flF_54 k1 rfl (by simp only [gi_ne (show (1 : Nat) ≠ 8 + 2 * mE M by omega)]; exact cD hC0 hI) ?_
    refine V_putI dF_addEnvelope_54 flF_75 (fpE_5 _) (Or.inl rfl) (kE _ h6) rfl ?_
    have hC := RC_set (k := 8 + 2 * mE M) (j := 5) (a := 82) (b := mE M) (x := nI (mD M)) hC (mpE _ h6).2.2.2.2 (by first | decide | omega)
    have hS := hS.set (k := 8 + 2 * mE M) (j := 5) (x := nI (mD M)) (by omega)
    have hR := hC.1
    refine V_iconst (v := 0) dF_addEnvelope_57 (by decide) ?_
    refine V_istore (loc' := [(6, .int 0), (5, .ref (8 + 2 * mE M)), (0, .ref 1), (1, .int k), (2, .int v), (3, .int s), (4, .int pr)]) dF_addEnvelope_58 (by decide) rfl ?_
    refine V_iload dF_addEnvelope_60 rfl ?_
    refine V_iconst (v := 4) dF_addEnvelope_62 (by decide) ?_
    refine V_icmp_ge (tgt := 81) dF_addEnvelope_63 rfl (fun h => absurd h (by decide)) (fun _ => ?_)
    refine V_aload dF_addEnvelope_66 rfl ?_
    refine V_getR (a := 9 + 2 * mE M) dF_addEnvelope_68 flF_78 (kE _ h6) rfl (rEr hR h6) ?_
    refine V_iload dF_addEnvelope_71 rfl ?_
    refine V_iconst (v := 0) dF_addEnvelope_73 (by decide) ?_
    refine V_iastN (j := 0) dF_addEnvelope_74 (kEr _ h6) rfl (by decide) (by decide) ?_
    have hC := RC_set (k := 9 + 2 * mE M) (j := 0) (a := 83) (b := 4 * mE M + 0) (x := 0) hC (mpR _ h6 _ (by decide)) (by first | decide | omega)
    have hS := hS.set (k := 9 + 2 * mE M) (j := 0) (x := 0) (by omega)
    have hR := hC.1
    refine V_iinc (v := 1) (loc' := [(6, .int 1), (5, .ref (8 + 2 * mE M)), (0, .ref 1), (1, .int k), (2, .int v), (3, .int s), (4, .int pr)]) dF_addEnvelope_75 rfl (by rfl) (by decide) rfl ?_
    refine V_goto (tgt := 60) dF_addEnvelope_78 rfl ?_
    refine V_iload dF_addEnvelope_60 rfl ?_
    refine V_iconst (v := 4) dF_addEnvelope_62 (by decide) ?_
    refine V_icmp_ge (tgt := 81) dF_addEnvelope_63 rfl (fun h => absurd h (by decide)) (fun _ => ?_)
    refine V_aload dF_addEnvelope_66 rfl ?_
    refine V_getR (a := 9 + 2 * mE M) dF_addEnvelope_68 flF_78 (kE _ h6) rfl (rEr hR h6) ?_
    refine V_iload dF_addEnvelope_71 rfl ?_
    refine V_iconst (v := 0) dF_addEnvelope_73 (by decide) ?_
    refine V_iastN (j := 1) dF_addEnvelope_74 (kEr _ h6) rfl (by decide) (by decide) ?_
    have hC := RC_set (k := 9 + 2 * mE M) (j := 1) (a := 83) (b := 4 * mE M + 1) (x := 0) hC (mpR _ h6 _ (by decide)) (by first | decide | omega)
    have hS := hS.set (k := 9 + 2 * mE M) (j := 1) (x := 0) (by omega)
    have hR := hC.1
    refine V_iinc (v := 2) (loc' := [(6, .int 2), (5, .ref (8 + 2 * mE M)), (0, .ref 1), (1, .int k), (2, .int v), (3, .int s), (4, .int pr)]) dF_addEnvelope_75 rfl (by rfl) (by decide) rfl ?_
    refine V_goto (tgt := 60) dF_addEnvelope_78 rfl ?_
    refine V_iload dF_addEnvelope_60 rfl ?_
    refine V_iconst (v := 4) dF_addEnvelope_62 (by decide) ?_
    refine V_icmp_ge (tgt := 81) dF_addEnvelope_63 rfl (fun h => absurd h (by decide)) (fun _ => ?_)
    refine V_aload dF_addEnvelope_66 rfl ?_
    refine V_getR (a := 9 + 2 * mE M) dF_addEnvelope_68 flF_78 (kE _ h6) rfl (rEr hR h6) ?_
    refine V_iload dF_addEnvelope_71 rfl ?_
    refine V_iconst (v := 0) dF_addEnvelope_73 (by decide) ?_
    refine V_iastN (j := 2) dF_addEnvelope_74 (kEr _ h6) rfl (by decide) (by decide) ?_
    have hC := RC_set (k := 9 + 2 * mE M) (j := 2) (a := 83) (b := 4 * mE M + 2) (x := 0) hC (mpR _ h6 _ (by decide)) (by first | decide | omega)
    have hS := hS.set (k := 9 + 2 * mE M) (j := 2) (x := 0) (by omega)
    have hR := hC.1
    refine V_iinc (v := 3) (loc' := [(6, .int 3), (5, .ref (8 + 2 * mE M)), (0, .ref 1), (1, .int k), (2, .int v), (3, .int s), (4, .int pr)]) dF_addEnvelope_75 rfl (by rfl) (by decide) rfl ?_
    refine V_goto (tgt := 60) dF_addEnvelope_78 rfl ?_
    refine V_iload dF_addEnvelope_60 rfl ?_
    refine V_iconst (v := 4) dF_addEnvelope_62 (by decide) ?_
    refine V_icmp_ge (tgt := 81) dF_addEnvelope_63 rfl (fun h => absurd h (by decide)) (fun _ => ?_)
    refine V_aload dF_addEnvelope_66 rfl ?_
    refine V_getR (a := 9 + 2 * mE M) dF_addEnvelope_68 flF_78 (kE _ h6) rfl (rEr hR h6) ?_
    refine V_iload dF_addEnvelope_71 rfl ?_
    refine V_iconst (v := 0) dF_addEnvelope_73 (by decide) ?_
    refine V_iastN (j := 3) dF_addEnvelope_74 (kEr _ h6) rfl (by decide) (by decide) ?_
    have hC := RC_set (k := 9 + 2 * mE M) (j := 3) (a := 83) (b := 4 * mE M + 3) (x := 0) hC (mpR _ h6 _ (by decide)) (by first | decide | omega)
    have hS := hS.set (k := 9 + 2 * mE M) (j := 3) (x := 0) (by omega)
    have hR := hC.1
    refine V_iinc (v := 4) (loc' := [(6, .int 4), (5, .ref (8 + 2 * mE M)), (0, .ref 1), (1, .int k), (2, .int v), (3, .int s), (4, .int pr)]) dF_addEnvelope_75 rfl (by rfl) (by decide) rfl ?_
    refine V_goto (tgt := 60) dF_addEnvelope_78 rfl ?_
    refine V_iload dF_addEnvelope_60 rfl ?_
    refine V_iconst (v := 4) dF_addEnvelope_62 (by decide) ?_
    refine V_icmp_ge (tgt := 81) dF_addEnvelope_63 rfl (fun _ => ?_) (fun h => absurd h (by decide))
    refine V_aload_n dF_addEnvelope_81 rfl ?_
    refine V_dup dF_addEnvelope_82 rfl ?_
    refine V_getE (x := nI (mE M)) dF_addEnvelope_83 flF_47 k1 rfl (by simp only [gi_ne (show (1 : Nat) ≠ 8 + 2 * mE M by omega), gi_ne (show (1 : Nat) ≠ 9 + 2 * mE M by omega)]; exact cE hC0 hI) ?_
    refine V_iconst (v := 1) dF_addEnvelope_86 (by decide) ?_
    refine V_iadd dF_addEnvelope_87 ?_
    refine V_topI (x' := nI (mE M + 1)) (nI_1 _) ?_
    refine V_putI dF_addEnvelope_88 flF_47 (fpF_2 _) (Or.inl rfl) k1 rfl ?_
    have hC := RC_set (k := 1) (j := 2) (a := 76) (b := 1) (x := nI (mE M + 1)) hC rfl (by first | decide | omega)
    have hS := hS.set (k := 1) (j := 2) (x := nI (mE M + 1)) (by omega)
    have hR := hC.1
    refine V_aload dF_addEnvelope_91 rfl ?_
    refine V_getE (x := nI (mE M)) dF_addEnvelope_93 flF_81 (kE _ h6) rfl (by simp only [gi_ne (show (8 + 2 * mE M) ≠ 1 by omega), gi_ne (show (8 + 2 * mE M) ≠ 9 + 2 * mE M by omega), gi_nj (show (0 : Nat) ≠ 1 by decide), gi_nj (show (0 : Nat) ≠ 2 by decide), gi_nj (show (0 : Nat) ≠ 3 by decide), gi_nj (show (0 : Nat) ≠ 4 by decide), gi_nj (show (0 : Nat) ≠ 5 by decide)]; exact eN hC0 h6) ?_
    refine V_iret dF_addEnvelope_96 rfl rfl ?_
    have e : q_addEnv M k v s pr = (nI (mE M), si (si (si (si (si (si (si (si (si (si M 78 (mE M) k) 79 (mE M) v) 80 (mE M) s) 81 (mE M) pr) 82 (mE M) (nI (mD M))) 83 (4 * mE M + 0) 0) 83 (4 * mE M + 1) 0) 83 (4 * mE M + 2) 0) 83 (4 * mE M + 3) 0) 76 1 (nI (mE M + 1))) := by
      skip
      first
      | (simp only [q_addEnv, if_pos h6, n_env]; done)
      | (simp [q_addEnv, h6, n_env]; done)
      | (simp_all [q_addEnv, n_env]; done)
    rw [e]
    exact ⟨rfl, rfl, hC, hS⟩
  · skip
    have h6 : ¬ mE M < 8 := fun q => c6 ((nI_ltI (b := 8) (sm9 hI) (by decide)).mpr q)
    refine V_bipush (v := -4) dF_addEnvelope_9 (by decide) ?_
    refine V_iret dF_addEnvelope_11 rfl rfl ?_
    have e : q_addEnv M k v s pr = ((-4), M) := by
      skip
      first
      | (simp only [q_addEnv, if_neg h6, n_env]; done)
      | (simp [q_addEnv, h6, n_env]; done)
      | (simp_all [q_addEnv, n_env]; done)
    rw [e]
    exact ⟨rfl, rfl, hC, hS⟩
