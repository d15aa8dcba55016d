/-! the public methods: pays, means, odds -/
theorem m_weighed {l : Launch} {G : GT} {L : Nat → List Cl} {M σ : Hp} (hM : RM M σ) (hP : Pw L M) {e : Nat} (he : e < 8) (hs : Ps M e) (hd : mD M < 20000) : MM l G mM_weighed 6 0 0 [.ref 76, .int (nI e)] KA σ (QX (some (.int (wS L M e (gi M 80 e) (mD M) (mW M)))) σ) := by
  have hR := hM.1
  have hM0 := hM
  have hF : Gz σ σ := Gz.rfl
  refine MM.of (loc := [(0, .ref 76), (1, .int (nI e))]) (by decide +kernel) rfl (Nat.le_of_ble_eq_true rfl) ?_
  refine V_iconst (v := 0) dM_weighed_0 (by decide) ?_
  refine V_istore_n (loc' := [(2, .int 0), (0, .ref 76), (1, .int (nI e))]) dM_weighed_1 (by decide) rfl ?_
  refine V_iconst (v := 0) dM_weighed_2 (by decide) ?_
  refine V_istore_n (loc' := [(3, .int 0), (2, .int 0), (0, .ref 76), (1, .int (nI e))]) dM_weighed_3 (by decide) rfl ?_
  refine V.locs (loc' := [(3, .int 0), (2, .int 0), (0, .ref 76), (1, .int (nI e))]) [0, 1, 2, 3] rfl ?_
  refine V_eqL (loc' := [(3, .int (nI 0)), (2, .int (wS L M e (gi M 80 e) (mD M) 0)), (0, .ref 76), (1, .int (nI e))]) ?_ ?_
  · rfl
  skip
  have lp : ∀ n : Nat, n ≤ (mW M) → ∀ s : Hp, Gz σ s → V l G mM_weighed (rmd 6 0 0) (KA.length + 0) 0 4 [(3, .int (nI n)), (2, .int (wS L M e (gi M 80 e) (mD M) n)), (0, .ref 76), (1, .int (nI e))] [] KA s (QX (some (.int (wS L M e (gi M 80 e) (mD M) (mW M)))) σ) := by
    refine lp_up (mW M) ?_ (fun n hn ihn => ?_)
    · skip
      intro s hF
      have hM := hF.rm hM0
      have hR := hM.1
      refine V_iload_n dM_weighed_4 rfl ?_
      refine V_aload_n dM_weighed_5 rfl ?_
      refine V_getE (x := nI (mW M)) dM_weighed_6 flM_7 k76 rfl ((mR hM rfl).trans hP.w.1) ?_
      refine V_icmp_ge (tgt := 34) dM_weighed_9 rfl (fun _ => ?_) (fun h => absurd h (not_not_intro (nI_le (Nat.le_refl _) (by have := hP.w.2; omega))))
      refine V_iload_n dM_weighed_34 rfl ?_
      exact V_iret dM_weighed_35 rfl rfl ⟨rfl, rfl, hF⟩
    · skip
      intro s hF
      have hM := hF.rm hM0
      have hR := hM.1
      refine V_iload_n dM_weighed_4 rfl ?_
      refine V_aload_n dM_weighed_5 rfl ?_
      refine V_getE (x := nI (mW M)) dM_weighed_6 flM_7 k76 rfl ((mR hM rfl).trans hP.w.1) ?_
      refine V_icmp_ge (tgt := 34) dM_weighed_9 rfl (fun h => absurd h (nI_ge hn (by have := hP.w.2; omega))) (fun _ => ?_)
      refine V_iload_n dM_weighed_12 rfl ?_
      refine V_aload_n dM_weighed_13 rfl ?_
      refine V_iload_n dM_weighed_14 rfl ?_
      refine V_iload_n dM_weighed_15 rfl ?_
      refine V_callV (as := [.int (nI e), .int (nI n)]) (rest := [.int (wS L M e (gi M 80 e) (mD M) n)]) (bs' := 0) rfl dM_weighed_16 cmM_payOf cvM_payOf mlM_311 (Or.inl ⟨_, _, _, _, _, rfl, k76, by decide, rfl⟩) rfl rfl (m_payOf hM hP he hn hs hd) (by decide) (Nat.le_refl _) (by decide) (Nat.le_of_ble_eq_true rfl) ?_
      rintro _ _ s1 ⟨rfl, rfl, hF1⟩ -
      refine V_one ?_
      have hF := hF.trans hF1
      have hM := hF.rm hM0
      have hR := hM.1
      refine V_aload_n dM_weighed_19 rfl ?_
      refine V_getR (a := 77) dM_weighed_20 flM_22 k76 rfl (r76_4 hR) ?_
      refine V_iload_n dM_weighed_23 rfl ?_
      refine V_ialdN (j := n) dM_weighed_24 k77 rfl (by have := hP.w.2; omega) (by decide) ?_
      refine V_topI (x' := gi M 77 n) (mR hM rfl) ?_
      refine V_imul dM_weighed_25 ?_
      refine V_iadd dM_weighed_26 ?_
      refine V_istore_n (loc' := [(2, .int ((wS L M e (gi M 80 e) (mD M) n) + ((payS L M e n) * (gi M 77 n)))), (3, .int (nI n)), (0, .ref 76), (1, .int (nI e))]) dM_weighed_27 (by decide) rfl ?_
      refine V_iinc (v := nI (n + 1)) (loc' := [(3, .int (nI (n + 1))), (2, .int ((wS L M e (gi M 80 e) (mD M) n) + ((payS L M e n) * (gi M 77 n)))), (0, .ref 76), (1, .int (nI e))]) dM_weighed_28 rfl (nI_inc n) (by decide) rfl ?_
      refine V_goto (tgt := 4) dM_weighed_31 rfl ?_
      refine V.locs (loc' := [(3, .int (nI (n + 1))), (2, .int ((wS L M e (gi M 80 e) (mD M) n) + ((payS L M e n) * (gi M 77 n)))), (0, .ref 76), (1, .int (nI e))]) [0, 1, 2, 3] rfl ?_
      refine V_eqL (loc' := [(3, .int (nI (n + 1))), (2, .int (wS L M e (gi M 80 e) (mD M) (n + 1))), (0, .ref 76), (1, .int (nI e))]) ?_ ?_
      · rfl
      exact (ihn _ hF)
  exact lp 0 (Nat.zero_le _) _ hF
theorem m_chances {l : Launch} {G : GT} {L : Nat → List Cl} {M σ : Hp} (hM : RM M σ) (hI : Inv L M) (set : Int32) : MM l G mM_chances 1 0 0 [.ref 76, .int set] KA σ (PE (some (.int (chS M set (mW M)))) KA σ) := by
  have hR := hM.1
  refine MM.of (loc := [(0, .ref 76), (1, .int set)]) (by decide +kernel) rfl (Nat.le_of_ble_eq_true rfl) ?_
  refine V_iconst (v := 0) dM_chances_0 (by decide) ?_
  refine V_istore_n (loc' := [(2, .int 0), (0, .ref 76), (1, .int set)]) dM_chances_1 (by decide) rfl ?_
  refine V_iconst (v := 0) dM_chances_2 (by decide) ?_
  refine V_istore_n (loc' := [(3, .int 0), (2, .int 0), (0, .ref 76), (1, .int set)]) dM_chances_3 (by decide) rfl ?_
  refine V.locs (loc' := [(3, .int 0), (2, .int 0), (0, .ref 76), (1, .int set)]) [0, 1, 2, 3] rfl ?_
  refine V_eqL (loc' := [(3, .int (nI 0)), (2, .int (chS M set 0)), (0, .ref 76), (1, .int set)]) ?_ ?_
  · first | rfl | simp
  skip
  have lp : ∀ n : Nat, n ≤ (mW M) → V l G mM_chances (rmd 1 0 0) (KA.length + 0) 0 4 [(3, .int (nI n)), (2, .int (chS M set n)), (0, .ref 76), (1, .int set)] [] KA σ (PE (some (.int (chS M set (mW M)))) KA σ) := by
    refine lp_up (mW M) ?_ (fun n hn ihn => ?_)
    · skip
      refine V_iload_n dM_chances_4 rfl ?_
      refine V_aload_n dM_chances_5 rfl ?_
      refine V_getE (x := nI (mW M)) dM_chances_6 flM_7 k76 rfl ((mR hM rfl).trans (iW hI).1) ?_
      refine V_icmp_ge (tgt := 40) dM_chances_9 rfl (fun _ => ?_) (fun h => absurd h (not_not_intro (nI_le (Nat.le_refl _) (sm7 hI))))
      refine V_iload_n dM_chances_40 rfl ?_
      exact V_iret dM_chances_41 rfl rfl ⟨rfl, rfl, rfl⟩
    · skip
      refine V_iload_n dM_chances_4 rfl ?_
      refine V_aload_n dM_chances_5 rfl ?_
      refine V_getE (x := nI (mW M)) dM_chances_6 flM_7 k76 rfl ((mR hM rfl).trans (iW hI).1) ?_
      refine V_icmp_ge (tgt := 40) dM_chances_9 rfl (fun h => absurd h (nI_ge hn (sm7 hI))) (fun _ => ?_)
      refine V_iload_n dM_chances_12 rfl ?_
      refine V_aload_n dM_chances_13 rfl ?_
      refine V_iload_n dM_chances_14 rfl ?_
      refine V_iload_n dM_chances_15 rfl ?_
      refine V_callV (as := [.int set, .int (nI n)]) (rest := [.int (chS M set n)]) (bs' := 0) rfl dM_chances_16 cmM_has cvM_has mlM_286 (Or.inl ⟨_, _, _, _, _, rfl, k76, by decide, rfl⟩) rfl rfl (m_has set (nI n)) (by decide) (Nat.le_refl _) (by decide) (Nat.le_of_ble_eq_true rfl) ?_
      rintro _ _ _ (⟨hb, rfl, rfl, rfl⟩ | ⟨hb, rfl, rfl, rfl⟩) -
      · refine V_one ?_
        refine V_if_eq (tgt := 31) dM_chances_19 rfl (fun h => absurd h (by decide)) (fun _ => ?_)
        refine V_aload_n dM_chances_22 rfl ?_
        refine V_getR (a := 77) dM_chances_23 flM_22 k76 rfl (r76_4 hR) ?_
        refine V_iload_n dM_chances_26 rfl ?_
        refine V_ialdN (j := n) dM_chances_27 k77 rfl (lt7 hI hn) (by decide) ?_
        refine V_topI (x' := gi M 77 n) (mR hM rfl) ?_
        refine V_goto (tgt := 32) dM_chances_28 rfl ?_
        refine V_iadd dM_chances_32 ?_
        refine V_istore_n (loc' := [(2, .int ((chS M set n) + (gi M 77 n))), (3, .int (nI n)), (0, .ref 76), (1, .int set)]) dM_chances_33 (by decide) rfl ?_
        refine V_iinc (v := nI (n + 1)) (loc' := [(3, .int (nI (n + 1))), (2, .int ((chS M set n) + (gi M 77 n))), (0, .ref 76), (1, .int set)]) dM_chances_34 rfl (nI_inc n) (by decide) rfl ?_
        refine V_goto (tgt := 4) dM_chances_37 rfl ?_
        refine V.locs (loc' := [(3, .int (nI (n + 1))), (2, .int ((chS M set n) + (gi M 77 n))), (0, .ref 76), (1, .int set)]) [0, 1, 2, 3] rfl ?_
        refine V_eqL (loc' := [(3, .int (nI (n + 1))), (2, .int (chS M set (n + 1))), (0, .ref 76), (1, .int set)]) ?_ ?_
        · simp [chS, sumI, hb]
        exact ihn
      · refine V_one ?_
        refine V_if_eq (tgt := 31) dM_chances_19 rfl (fun _ => ?_) (fun h => absurd h (by decide))
        refine V_iconst (v := 0) dM_chances_31 (by decide) ?_
        refine V_iadd dM_chances_32 ?_
        refine V_istore_n (loc' := [(2, .int ((chS M set n) + 0)), (3, .int (nI n)), (0, .ref 76), (1, .int set)]) dM_chances_33 (by decide) rfl ?_
        refine V_iinc (v := nI (n + 1)) (loc' := [(3, .int (nI (n + 1))), (2, .int ((chS M set n) + 0)), (0, .ref 76), (1, .int set)]) dM_chances_34 rfl (nI_inc n) (by decide) rfl ?_
        refine V_goto (tgt := 4) dM_chances_37 rfl ?_
        refine V.locs (loc' := [(3, .int (nI (n + 1))), (2, .int ((chS M set n) + 0)), (0, .ref 76), (1, .int set)]) [0, 1, 2, 3] rfl ?_
        refine V_eqL (loc' := [(3, .int (nI (n + 1))), (2, .int (chS M set (n + 1))), (0, .ref 76), (1, .int set)]) ?_ ?_
        · simp [chS, sumI, hb]
        exact ihn
  exact lp 0 (Nat.zero_le _)
theorem m_all {l : Launch} {G : GT} {L : Nat → List Cl} {M σ : Hp} (hM : RM M σ) (hI : Inv L M) : MM l G mM_all 0 0 0 [.ref 76] KA σ (PE (some (.int (allS M))) KA σ) := by
  have hR := hM.1
  refine MM.of (loc := [(0, .ref 76)]) (by decide +kernel) rfl (Nat.le_of_ble_eq_true rfl) ?_
  refine V_iconst (v := 1) dM_all_0 (by decide) ?_
  refine V_aload_n dM_all_1 rfl ?_
  refine V_getE (x := nI (mW M)) dM_all_2 flM_7 k76 rfl ((mR hM rfl).trans (iW hI).1) ?_
  refine V_ishl dM_all_5 ?_
  refine V_iconst (v := 1) dM_all_6 (by decide) ?_
  refine V_isub dM_all_7 ?_
  exact V_iret dM_all_8 rfl rfl ⟨rfl, rfl, rfl⟩
theorem iOn {L : Nat → List Cl} {M : Hp} (hI : Inv L M) : gi M 76 30 = nI (cN (gi M 76 30)) ∧ cN (gi M 76 30) < 9 := hI.2.1.2.2.2.2.2.1
theorem iOi {L : Nat → List Cl} {M : Hp} (hI : Inv L M) {k : Nat} (h : k < cN (gi M 76 30)) : (gi M 95 k = nI (cN (gi M 95 k)) ∧ cN (gi M 95 k) < mE M) ∧ (gi M 96 k = 0 ∨ gi M 96 k = 1) := by
  have h1 := hI.2.1.2.2.2.2.2.2.2.2.2.1 k h
  have h2 : isN (gi M 96 k) 2 := h1.2
  refine ⟨h1.1, ?_⟩
  have h3 := h2.2
  have h4 : cN (gi M 96 k) = 0 ∨ cN (gi M 96 k) = 1 := by omega
  rcases h4 with q | q
  · exact Or.inl (by rw [h2.1, q]; rfl)
  · exact Or.inr (by rw [h2.1, q]; rfl)
theorem m_leftNow {l : Launch} {G : GT} {L : Nat → List Cl} {M σ : Hp} (hM : RM M σ) (hI : Inv L M) : MM l G mM_leftNow 1 0 0 [.ref 76] KA σ (PE (some (.int (leftS M))) KA σ) := by
  have hR := hM.1
  refine MM.of (loc := [(0, .ref 76)]) (by decide +kernel) rfl (Nat.le_of_ble_eq_true rfl) ?_
  refine V_aload_n dM_leftNow_0 rfl ?_
  refine V_callV (as := []) (rest := []) (bs' := 0) rfl dM_leftNow_1 cmM_all cvM_all mlM_314 (Or.inl ⟨_, _, _, _, _, rfl, k76, by decide, rfl⟩) rfl rfl (m_all hM hI) (by decide) (Nat.le_refl _) (by decide) (Nat.le_of_ble_eq_true rfl) ?_
  rintro _ _ _ ⟨rfl, rfl, rfl⟩ -
  refine V_one ?_
  refine V_istore_n (loc' := [(1, .int (allS M)), (0, .ref 76)]) dM_leftNow_4 (by decide) rfl ?_
  refine V_iconst (v := 0) dM_leftNow_5 (by decide) ?_
  refine V_istore_n (loc' := [(2, .int 0), (1, .int (allS M)), (0, .ref 76)]) dM_leftNow_6 (by decide) rfl ?_
  refine V.locs (loc' := [(2, .int 0), (1, .int (allS M)), (0, .ref 76)]) [0, 1, 2] rfl ?_
  refine V_eqL (loc' := [(2, .int (nI 0)), (1, .int (andI (allS M) (fun k => if gi M 96 k = 1 then gi M 80 (cN (gi M 95 k)) else gi M 80 (cN (gi M 95 k)) ^^^ (-1)) 0)), (0, .ref 76)]) ?_ ?_
  · rfl
  skip
  have lp : ∀ n : Nat, n ≤ (cN (gi M 76 30)) → V l G mM_leftNow (rmd 1 0 0) (KA.length + 0) 0 7 [(2, .int (nI n)), (1, .int (andI (allS M) (fun k => if gi M 96 k = 1 then gi M 80 (cN (gi M 95 k)) else gi M 80 (cN (gi M 95 k)) ^^^ (-1)) n)), (0, .ref 76)] [] KA σ (PE (some (.int (leftS M))) KA σ) := by
    refine lp_up (cN (gi M 76 30)) ?_ (fun n hn ihn => ?_)
    · skip
      refine V_iload_n dM_leftNow_7 rfl ?_
      refine V_aload_n dM_leftNow_8 rfl ?_
      refine V_getE (x := nI (cN (gi M 76 30))) dM_leftNow_9 flM_102 k76 rfl ((mR hM rfl).trans (iOn hI).1) ?_
      refine V_icmp_ge (tgt := 60) dM_leftNow_12 rfl (fun _ => ?_) (fun h => absurd h (not_not_intro (nI_le (Nat.le_refl _) (by have := (iOn hI).2; omega))))
      refine V_iload_n dM_leftNow_60 rfl ?_
      exact V_iret dM_leftNow_61 rfl rfl ⟨rfl, rfl, rfl⟩
    · skip
      refine V_iload_n dM_leftNow_7 rfl ?_
      refine V_aload_n dM_leftNow_8 rfl ?_
      refine V_getE (x := nI (cN (gi M 76 30))) dM_leftNow_9 flM_102 k76 rfl ((mR hM rfl).trans (iOn hI).1) ?_
      refine V_icmp_ge (tgt := 60) dM_leftNow_12 rfl (fun h => absurd h (nI_ge hn (by have := (iOn hI).2; omega))) (fun _ => ?_)
      refine V_iload_n dM_leftNow_15 rfl ?_
      refine V_aload_n dM_leftNow_16 rfl ?_
      refine V_getR (a := 96) dM_leftNow_17 flM_108 k76 rfl (r76_32 hR) ?_
      refine V_iload_n dM_leftNow_20 rfl ?_
      refine V_zaldN (j := n) dM_leftNow_21 k96 rfl (by have := (iOn hI).2; omega) (by decide) ?_
      refine V_topI (x' := gi M 96 n) (mR hM rfl) ?_
      refine V_if_eq (tgt := 39) dM_leftNow_22 rfl (fun c22 => ?_) (fun c22 => ?_)
      · skip
        refine V_aload_n dM_leftNow_39 rfl ?_
        refine V_getR (a := 80) dM_leftNow_40 flM_32 k76 rfl (r76_7 hR) ?_
        refine V_aload_n dM_leftNow_43 rfl ?_
        refine V_getR (a := 95) dM_leftNow_44 flM_105 k76 rfl (r76_31 hR) ?_
        refine V_iload_n dM_leftNow_47 rfl ?_
        refine V_ialdN (j := n) dM_leftNow_48 k95 rfl (by have := (iOn hI).2; omega) (by decide) ?_
        refine V_topI (x' := gi M 95 n) (mR hM rfl) ?_
        refine V_ialdN (j := cN (gi M 95 n)) dM_leftNow_49 k80 (iOi hI hn).1.1 (lt9 hI (iOi hI hn).1.2) (by decide) ?_
        refine V_topI (x' := gi M 80 (cN (gi M 95 n))) (mR hM rfl) ?_
        refine V_iconst (v := -1) dM_leftNow_50 (by decide) ?_
        refine V_ixor dM_leftNow_51 ?_
        refine V_iand dM_leftNow_52 ?_
        refine V_istore_n (loc' := [(1, .int ((andI (allS M) (fun k => if gi M 96 k = 1 then gi M 80 (cN (gi M 95 k)) else gi M 80 (cN (gi M 95 k)) ^^^ (-1)) n) &&& ((gi M 80 (cN (gi M 95 n))) ^^^ (-1)))), (2, .int (nI n)), (0, .ref 76)]) dM_leftNow_53 (by decide) rfl ?_
        refine V_iinc (v := nI (n + 1)) (loc' := [(2, .int (nI (n + 1))), (1, .int ((andI (allS M) (fun k => if gi M 96 k = 1 then gi M 80 (cN (gi M 95 k)) else gi M 80 (cN (gi M 95 k)) ^^^ (-1)) n) &&& ((gi M 80 (cN (gi M 95 n))) ^^^ (-1)))), (0, .ref 76)]) dM_leftNow_54 rfl (nI_inc n) (by decide) rfl ?_
        refine V_goto (tgt := 7) dM_leftNow_57 rfl ?_
        refine V.locs (loc' := [(2, .int (nI (n + 1))), (1, .int ((andI (allS M) (fun k => if gi M 96 k = 1 then gi M 80 (cN (gi M 95 k)) else gi M 80 (cN (gi M 95 k)) ^^^ (-1)) n) &&& ((gi M 80 (cN (gi M 95 n))) ^^^ (-1)))), (0, .ref 76)]) [0, 1, 2] rfl ?_
        refine V_eqL (loc' := [(2, .int (nI (n + 1))), (1, .int (andI (allS M) (fun k => if gi M 96 k = 1 then gi M 80 (cN (gi M 95 k)) else gi M 80 (cN (gi M 95 k)) ^^^ (-1)) (n + 1))), (0, .ref 76)]) ?_ ?_
        · have h2 := (iOi hI hn).2
          rcases h2 with h2 | h2 <;> simp_all [andI]
        exact ihn
      · skip
        refine V_aload_n dM_leftNow_25 rfl ?_
        refine V_getR (a := 80) dM_leftNow_26 flM_32 k76 rfl (r76_7 hR) ?_
        refine V_aload_n dM_leftNow_29 rfl ?_
        refine V_getR (a := 95) dM_leftNow_30 flM_105 k76 rfl (r76_31 hR) ?_
        refine V_iload_n dM_leftNow_33 rfl ?_
        refine V_ialdN (j := n) dM_leftNow_34 k95 rfl (by have := (iOn hI).2; omega) (by decide) ?_
        refine V_topI (x' := gi M 95 n) (mR hM rfl) ?_
        refine V_ialdN (j := cN (gi M 95 n)) dM_leftNow_35 k80 (iOi hI hn).1.1 (lt9 hI (iOi hI hn).1.2) (by decide) ?_
        refine V_topI (x' := gi M 80 (cN (gi M 95 n))) (mR hM rfl) ?_
        refine V_goto (tgt := 52) dM_leftNow_36 rfl ?_
        refine V_iand dM_leftNow_52 ?_
        refine V_istore_n (loc' := [(1, .int ((andI (allS M) (fun k => if gi M 96 k = 1 then gi M 80 (cN (gi M 95 k)) else gi M 80 (cN (gi M 95 k)) ^^^ (-1)) n) &&& (gi M 80 (cN (gi M 95 n))))), (2, .int (nI n)), (0, .ref 76)]) dM_leftNow_53 (by decide) rfl ?_
        refine V_iinc (v := nI (n + 1)) (loc' := [(2, .int (nI (n + 1))), (1, .int ((andI (allS M) (fun k => if gi M 96 k = 1 then gi M 80 (cN (gi M 95 k)) else gi M 80 (cN (gi M 95 k)) ^^^ (-1)) n) &&& (gi M 80 (cN (gi M 95 n))))), (0, .ref 76)]) dM_leftNow_54 rfl (nI_inc n) (by decide) rfl ?_
        refine V_goto (tgt := 7) dM_leftNow_57 rfl ?_
        refine V.locs (loc' := [(2, .int (nI (n + 1))), (1, .int ((andI (allS M) (fun k => if gi M 96 k = 1 then gi M 80 (cN (gi M 95 k)) else gi M 80 (cN (gi M 95 k)) ^^^ (-1)) n) &&& (gi M 80 (cN (gi M 95 n))))), (0, .ref 76)]) [0, 1, 2] rfl ?_
        refine V_eqL (loc' := [(2, .int (nI (n + 1))), (1, .int (andI (allS M) (fun k => if gi M 96 k = 1 then gi M 80 (cN (gi M 95 k)) else gi M 80 (cN (gi M 95 k)) ^^^ (-1)) (n + 1))), (0, .ref 76)]) ?_ ?_
        · have h2 := (iOi hI hn).2
          rcases h2 with h2 | h2 <;> simp_all [andI]
        exact ihn
  exact lp 0 (Nat.zero_le _)
theorem gcd_p {a b : Nat} (hb : 0 < b) : 0 < Nat.gcd a b := Nat.gcd_pos_of_pos_right a hb
theorem gcd_l {a b : Nat} (hb : 0 < b) : Nat.gcd a b ≤ b := Nat.gcd_le_right a hb
theorem m_lowest {l : Launch} {G : GT} {σ : Hp} (a b : Nat) (x : Int32) (ha : a < 2 ^ 30) (hb : b < 2 ^ 30) (h0 : 0 < b) : MM l G mM_lowest 1 0 0 [.ref 76, .int (nI a), .int (nI b), .int x] KA σ (PE (some (.long (frS a b x))) KA σ) := by
  refine MM.of (loc := [(0, .ref 76), (1, .int (nI a)), (2, .int (nI b)), (3, .int x)]) (by decide +kernel) rfl (Nat.le_of_ble_eq_true rfl) ?_
  refine V_aload_n dM_lowest_0 rfl ?_
  refine V_iload_n dM_lowest_1 rfl ?_
  refine V_iload_n dM_lowest_2 rfl ?_
  refine V_callV (as := [.int (nI a), .int (nI b)]) (rest := []) (bs' := 0) rfl dM_lowest_3 cmM_divisor cvM_divisor mlM_321 (Or.inl ⟨_, _, _, _, _, rfl, k76, by decide, rfl⟩) rfl rfl (m_divisor a b ha hb) (by decide) (Nat.le_refl _) (by decide) (Nat.le_of_ble_eq_true rfl) ?_
  rintro _ _ _ ⟨rfl, rfl, rfl⟩ -
  refine V_one ?_
  refine V_istore (loc' := [(4, .int (nI (Nat.gcd a b))), (0, .ref 76), (1, .int (nI a)), (2, .int (nI b)), (3, .int x)]) dM_lowest_6 (by decide) rfl ?_
  refine V_iload_n dM_lowest_8 rfl ?_
  refine V_if_ne (tgt := 20) dM_lowest_9 rfl (fun c9 => ?_) (fun c9 => ?_)
  · skip
    refine V_iload_n dM_lowest_20 rfl ?_
    refine V_iload dM_lowest_21 rfl ?_
    refine V_idiv dM_lowest_23 (nI_ne0 (gcd_p h0) (by have := gcd_l (a := a) h0; omega)) ?_
    refine V_topI (x' := nI (b / Nat.gcd a b)) (pk_div (by omega) (gcd_p h0) (by have := gcd_l (a := a) h0; omega)) ?_
    refine V_i2l dM_lowest_24 ?_
    exact V_lret dM_lowest_25 rfl rfl ⟨by rw [frS, if_neg c9], rfl, rfl⟩
  · skip
    refine V_iload_n dM_lowest_12 rfl ?_
    refine V_iload dM_lowest_13 rfl ?_
    refine V_idiv dM_lowest_15 (nI_ne0 (gcd_p h0) (by have := gcd_l (a := a) h0; omega)) ?_
    refine V_topI (x' := nI (a / Nat.gcd a b)) (pk_div (by omega) (gcd_p h0) (by have := gcd_l (a := a) h0; omega)) ?_
    refine V_i2l dM_lowest_16 ?_
    refine V_goto (tgt := 25) dM_lowest_17 rfl ?_
    exact V_lret dM_lowest_25 rfl rfl ⟨by rw [frS, if_pos c9], rfl, rfl⟩
theorem c_fracOk {l : Launch} {G : GT} {σ : Hp} (a b : Nat) (x : Int32) (ha : a < 2 ^ 30) (hb : b < 2 ^ 30) (h0 : 0 < b) (hx : 0 ≤ x ∧ x ≤ 1) : MM l G mG_fractionPart 1 0 0 [.int (nI a), .int (nI b), .int x] KA σ (PE (some (.long (frS a b x))) KA σ) := by
  refine MM.of (loc := [(0, .int (nI a)), (1, .int (nI b)), (2, .int x)]) (by decide +kernel) rfl (Nat.le_of_ble_eq_true rfl) ?_
  refine V_iload_n dG_fractionPart_0 rfl ?_
  refine V_iconst (v := 1) dG_fractionPart_1 (by decide) ?_
  refine V_callS (as := [.int x, .int 1]) (rest := []) (bs' := 0) rfl dG_fractionPart_2 cmG_isUpTo stG_isUpTo mlG_75 rfl rfl (c_isUpTo x 1) (by decide) (Nat.le_refl _) (by decide) (Nat.le_of_ble_eq_true rfl) ?_
  rintro _ _ _ (⟨_, rfl, rfl, rfl⟩ | ⟨hbz, rfl, rfl, rfl⟩) -
  · refine V_one ?_
    refine V_if_eq (tgt := 12) dG_fractionPart_5 rfl (fun h => absurd h (by decide)) (fun _ => ?_)
    refine V_iload_n dG_fractionPart_8 rfl ?_
    refine V_if_gt (tgt := 16) dG_fractionPart_9 rfl (fun _ => ?_) (fun h => absurd h (not_not_intro (nI_lt (a := 0) (b := b) h0 (by omega))))
    refine V_iload_n dG_fractionPart_16 rfl ?_
    refine V_iload_n dG_fractionPart_17 rfl ?_
    refine V_callS (as := [.int (nI b), .int (nI a)]) (rest := []) (bs' := 0) rfl dG_fractionPart_18 cmG_greatestShared stG_greatestShared mlG_319 rfl rfl (c_greatestShared b a hb ha) (by decide) (Nat.le_refl _) (by decide) (Nat.le_of_ble_eq_true rfl) ?_
    rintro _ _ _ ⟨rfl, rfl, rfl⟩ -
    refine V_one ?_
    rw [Nat.gcd_comm b a]
    refine V_istore_n (loc' := [(3, .int (nI (Nat.gcd a b))), (0, .int (nI a)), (1, .int (nI b)), (2, .int x)]) dG_fractionPart_21 (by decide) rfl ?_
    refine V_iload_n dG_fractionPart_22 rfl ?_
    refine V_if_gt (tgt := 30) dG_fractionPart_23 rfl (fun _ => ?_) (fun h => absurd h (not_not_intro (nI_lt (a := 0) (b := Nat.gcd a b) (gcd_p h0) (by have := gcd_l (a := a) h0; omega))))
    refine V_iload_n dG_fractionPart_30 rfl ?_
    refine V_if_ne (tgt := 38) dG_fractionPart_31 rfl (fun c31 => ?_) (fun c31 => ?_)
    · skip
      refine V_iload_n dG_fractionPart_38 rfl ?_
      refine V_iload_n dG_fractionPart_39 rfl ?_
      refine V_idiv dG_fractionPart_40 (nI_ne0 (gcd_p h0) (by have := gcd_l (a := a) h0; omega)) ?_
      refine V_topI (x' := nI (b / Nat.gcd a b)) (pk_div (by omega) (gcd_p h0) (by have := gcd_l (a := a) h0; omega)) ?_
      refine V_i2l dG_fractionPart_41 ?_
      exact V_lret dG_fractionPart_42 rfl rfl ⟨by rw [frS, if_neg c31], rfl, rfl⟩
    · skip
      refine V_iload_n dG_fractionPart_34 rfl ?_
      refine V_goto (tgt := 39) dG_fractionPart_35 rfl ?_
      refine V_iload_n dG_fractionPart_39 rfl ?_
      refine V_idiv dG_fractionPart_40 (nI_ne0 (gcd_p h0) (by have := gcd_l (a := a) h0; omega)) ?_
      refine V_topI (x' := nI (a / Nat.gcd a b)) (pk_div (by omega) (gcd_p h0) (by have := gcd_l (a := a) h0; omega)) ?_
      refine V_i2l dG_fractionPart_41 ?_
      exact V_lret dG_fractionPart_42 rfl rfl ⟨by rw [frS, if_pos c31], rfl, rfl⟩
  · refine V_one ?_
    exact absurd hx hbz --done
theorem c_fracNo {l : Launch} {G : GT} {σ : Hp} (a b x : Int32) (hx : ¬ (0 ≤ x ∧ x ≤ 1) ∨ ¬ 0 < b) : MM l G mG_fractionPart 1 0 0 [.int a, .int b, .int x] KA σ (PE (some (.long (-9223372036854775808))) KA σ) := by
  refine MM.of (loc := [(0, .int a), (1, .int b), (2, .int x)]) (by decide +kernel) rfl (Nat.le_of_ble_eq_true rfl) ?_
  refine V_iload_n dG_fractionPart_0 rfl ?_
  refine V_iconst (v := 1) dG_fractionPart_1 (by decide) ?_
  refine V_callS (as := [.int x, .int 1]) (rest := []) (bs' := 0) rfl dG_fractionPart_2 cmG_isUpTo stG_isUpTo mlG_75 rfl rfl (c_isUpTo x 1) (by decide) (Nat.le_refl _) (by decide) (Nat.le_of_ble_eq_true rfl) ?_
  rintro _ _ _ (⟨hb2, rfl, rfl, rfl⟩ | ⟨hb2, rfl, rfl, rfl⟩) -
  · refine V_one ?_
    refine V_if_eq (tgt := 12) dG_fractionPart_5 rfl (fun h => absurd h (by decide)) (fun _ => ?_)
    refine V_iload_n dG_fractionPart_8 rfl ?_
    refine V_if_gt (tgt := 16) dG_fractionPart_9 rfl (fun c9 => ?_) (fun c9 => ?_)
    · exact absurd c9 (hx.resolve_left (not_not_intro hb2)) --done
    · skip
      refine V_ldc2 dG_fractionPart_12 klG_153 ?_
      exact V_lret dG_fractionPart_15 rfl rfl ⟨rfl, rfl, rfl⟩
  · refine V_one ?_
    refine V_if_eq (tgt := 12) dG_fractionPart_5 rfl (fun _ => ?_) (fun h => absurd h (by decide))
    refine V_ldc2 dG_fractionPart_12 klG_153 ?_
    exact V_lret dG_fractionPart_15 rfl rfl ⟨rfl, rfl, rfl⟩
