/-! the tapes: judge, shift -/
theorem firstN_f {f : Nat → Bool} : ∀ n, firstN f n = n → ∀ k, k < n → f k = false
  | 0, _, k, hk => by omega
  | n + 1, h, k, hk => by
    unfold firstN at h
    have hle := firstN_le (f := f) n
    by_cases h1 : firstN f n < n
    · rw [if_pos h1] at h; omega
    · rw [if_neg h1] at h
      cases hf : f n with
      | true => rw [hf] at h; simp at h
      | false =>
        rcases Nat.lt_or_ge k n with h2 | h2
        · exact firstN_f n (by omega) k h2
        · rw [show k = n by omega]; exact hf
theorem add_nn {x : Int32} {n : Nat} (hx : 0 ≤ x) : ∃ a : Nat, a < 2 ^ 31 ∧ x = nI a ∧ x + nI n = nI (a + n) := by
  obtain ⟨a, ha, rfl⟩ := nI_of (Int32.not_lt.mpr hx)
  exact ⟨a, ha, rfl, nI_add a n⟩
theorem pl_iff {i : Int32} {n len : Nat} (h0 : 0 ≤ i) (hn : n < 8) (hl : len < 61) : i ≤ nI len - nI n - 1 ↔ rng (i + nI n) len := by
  obtain ⟨a, ha, rfl, e⟩ := add_nn (n := n) h0
  rw [e]
  have t1 : (nI len - nI n - 1).toInt = (len : Int) - n - 1 := by
    have a1 : (nI len).toInt = len := nI_toInt (by omega)
    have a2 : (nI n).toInt = n := nI_toInt (by omega)
    have a3 : (1 : Int32).toInt = 1 := rfl
    rw [sub_toInt (by rw [sub_toInt (by omega) (by omega)]; omega) (by omega), sub_toInt (by omega) (by omega), a1, a2, a3]
  rw [Int32.le_iff_toInt_le, t1, nI_toInt ha]
  rcases Nat.lt_or_ge a 100 with h | h
  · unfold rng
    rw [nI_ltI (by omega) (by omega)]
    constructor
    · intro q
      exact ⟨nI_pos' (by omega), by omega⟩
    · intro q
      have := q.2
      omega
  · constructor
    · intro q; omega
    · intro q
      obtain ⟨b, hb, hb2⟩ := rng_x q (by omega)
      have h1 := pk_tn (n := a + n) (by omega)
      rw [hb2, pk_tn (by omega)] at h1
      omega
theorem jd_n {M : Hp} {t n : Nat} {i : Int32} (hN : firstN (stB M t i) n = n) (hi : i < 0) : ¬ rng (i + nI n) (cN (gi M 114 t)) := by
  rcases Nat.eq_zero_or_pos n with h | h
  · subst h
    rw [nI_0, Int32.add_zero]
    exact fun q => Int32.not_lt.mpr q.1 hi
  · have h0 := firstN_f n hN 0 h
    unfold stB at h0
    rw [Bool.or_eq_false_iff] at h0
    have h1 := Decidable.not_not.mp (of_decide_eq_false h0.1)
    rw [nI_0, Int32.add_zero] at h1
    exact absurd h1.1 (Int32.not_le.mpr hi)
theorem g_judge {l : Launch} {G : GT} {L : Nat → List Cl} {M σ : Hp} (hC : RC L M σ) (hI : Inv L M) (t i : Int32) : MM l G mG_judge 2 0 0 [.ref 0, .int t, .int i] KA σ (PQ L σ (q_judge M t i)) := by
  have hR := hC.1
  have hC0 := hC
  have hS : Sm σ σ := Sm.rfl
  refine MM.of (loc := [(0, .ref 0), (1, .int t), (2, .int i)]) (by decide +kernel) rfl (Nat.le_of_ble_eq_true rfl) ?_
  refine V_aload_n dG_judge_0 rfl ?_
  refine V_getR (a := 66) dG_judge_1 flG_56 k0 rfl (r0_7 hR) ?_
  refine V_iload_n dG_judge_4 rfl ?_
  refine V_callV (as := [.int t]) (rest := []) (bs' := 0) rfl dG_judge_5 cmT_has cvT_has mlG_239 (Or.inl ⟨_, _, _, _, _, rfl, k66, by decide, rfl⟩) rfl rfl (c_thas t) (by decide) (Nat.le_refl _) (by decide) (Nat.le_of_ble_eq_true rfl) ?_
  rintro _ _ _ (⟨hb5, rfl, rfl, rfl⟩ | ⟨hb5, rfl, rfl, rfl⟩) -
  · refine V_one ?_
    refine V_if_ne (tgt := 13) dG_judge_8 rfl (fun _ => ?_) (fun h => absurd h (by decide))
    refine V_aload_n dG_judge_13 rfl ?_
    refine V_getR (a := 66) dG_judge_14 flG_56 k0 rfl (r0_7 hR) ?_
    refine V_iload_n dG_judge_17 rfl ?_
    refine V_topI (x' := nI (cN t)) (rng_N hb5 (by decide)).1 ?_
    refine V_callV (as := [.int (nI (cN t))]) (rest := []) (bs' := 0) rfl dG_judge_18 cmT_holds cvT_holds mlG_242 (Or.inl ⟨_, _, _, _, _, rfl, k66, by decide, rfl⟩) rfl rfl (c_tholds hC hI (rng_N hb5 (by decide)).2) (by decide) (Nat.le_refl _) (by decide) (Nat.le_of_ble_eq_true rfl) ?_
    rintro _ _ _ (⟨hz18, rfl, rfl, rfl⟩ | ⟨hz18, rfl, rfl, rfl⟩) -
    · refine V_one ?_
      refine V_if_eq (tgt := 38) dG_judge_21 rfl (fun h => absurd h (by decide)) (fun _ => ?_)
      refine V_aload_n dG_judge_24 rfl ?_
      refine V_getR (a := 66) dG_judge_25 flG_56 k0 rfl (r0_7 hR) ?_
      refine V_iload_n dG_judge_28 rfl ?_
      refine V_topI (x' := nI (cN t)) (rng_N hb5 (by decide)).1 ?_
      refine V_callV (as := [.int (nI (cN t))]) (rest := []) (bs' := 0) rfl dG_judge_29 cmT_isOfLongs cvT_isOfLongs mlG_245 (Or.inl ⟨_, _, _, _, _, rfl, k66, by decide, rfl⟩) rfl rfl (c_tlongs hC hI (rng_N hb5 (by decide)).2) (by decide) (Nat.le_refl _) (by decide) (Nat.le_of_ble_eq_true rfl) ?_
      rintro _ _ _ (⟨hk3, rfl, rfl, rfl⟩ | ⟨hn3, rfl, rfl, rfl⟩) -
      · refine V_one ?_
        have hjj : ¬ (¬ gi M 113 (cN t) = -1 ∧ ¬ gi M 113 (cN t) = 3) := fun q => q.2 hk3
        refine V_if_ne (tgt := 38) dG_judge_32 rfl (fun _ => ?_) (fun h => absurd h (by decide))
        refine V_iconst (v := 0) dG_judge_38 (by decide) ?_
        refine V_istore_n (loc' := [(3, .int 0), (0, .ref 0), (1, .int t), (2, .int i)]) dG_judge_39 (by decide) rfl ?_
        refine V.locs (loc' := [(3, .int 0), (0, .ref 0), (1, .int t), (2, .int i)]) [0, 1, 2, 3] rfl ?_
        refine V_eqL (loc' := [(3, .int (nI 0)), (0, .ref 0), (1, .int t), (2, .int i)]) ?_ ?_
        · rfl
        have lp : ∀ n : Nat, n ≤ (mE M) → firstN (stB M (cN t) i) n = n → ∀ s : Hp, RC L M s → Sm σ s → V l G mG_judge (rmd 2 0 0) (KA.length + 0) 0 40 [(3, .int (nI n)), (0, .ref 0), (1, .int t), (2, .int i)] [] KA s (PQ L σ (q_judge M t i)) := by
          refine lp_up (mE M) ?_ (fun n hn ihn => ?_)
          · skip
            intro hN
            intro s hC hS
            have hR := hC.1
            refine V_iload_n dG_judge_40 rfl ?_
            refine V_aload_n dG_judge_41 rfl ?_
            refine V_getR (a := 1) dG_judge_42 flG_12 k0 rfl (r0_0 hR) ?_
            refine V_getE (x := nI (mE M)) dG_judge_45 flG_164 k1 rfl (cE hC hI) ?_
            refine V_icmp_ge (tgt := 106) dG_judge_48 rfl (fun _ => ?_) (fun h => absurd h (not_not_intro (nI_le (Nat.le_refl _) (sm9 hI))))
            refine V_bipush (v := -5) dG_judge_106 (by decide) ?_
            refine V_iret dG_judge_108 rfl rfl ?_
            rw [show q_judge M t i = (jdV M (cN t) i, M) by simp only [q_judge, if_pos hb5, if_neg hjj], jd_0 hN]
            exact ⟨rfl, rfl, hC, hS⟩
          · skip
            intro hN
            intro s hC hS
            have hR := hC.1
            refine V_iload_n dG_judge_40 rfl ?_
            refine V_aload_n dG_judge_41 rfl ?_
            refine V_getR (a := 1) dG_judge_42 flG_12 k0 rfl (r0_0 hR) ?_
            refine V_getE (x := nI (mE M)) dG_judge_45 flG_164 k1 rfl (cE hC hI) ?_
            refine V_icmp_ge (tgt := 106) dG_judge_48 rfl (fun h => absurd h (nI_ge hn (sm9 hI))) (fun _ => ?_)
            refine V_aload_n dG_judge_51 rfl ?_
            refine V_getR (a := 66) dG_judge_52 flG_56 k0 rfl (r0_7 hR) ?_
            refine V_iload_n dG_judge_55 rfl ?_
            refine V_topI (x' := nI (cN t)) (rng_N hb5 (by decide)).1 ?_
            refine V_iload_n dG_judge_56 rfl ?_
            refine V_iload_n dG_judge_57 rfl ?_
            refine V_iadd dG_judge_58 ?_
            refine V_callV (as := [.int (nI (cN t)), .int (i + (nI n))]) (rest := []) (bs' := 0) rfl dG_judge_59 cmT_hasPlace cvT_hasPlace mlG_248 (Or.inl ⟨_, _, _, _, _, rfl, k66, by decide, rfl⟩) rfl rfl (c_thasPlace hC hI (rng_N hb5 (by decide)).2 (i + nI n)) (by decide) (Nat.le_refl _) (by decide) (Nat.le_of_ble_eq_true rfl) ?_
            rintro _ _ _ (⟨hp, rfl, rfl, rfl⟩ | ⟨hp, rfl, rfl, rfl⟩) -
            · refine V_one ?_
              refine V_if_ne (tgt := 70) dG_judge_62 rfl (fun _ => ?_) (fun h => absurd h (by decide))
              refine V_aload_n dG_judge_70 rfl ?_
              refine V_getR (a := 66) dG_judge_71 flG_56 k0 rfl (r0_7 hR) ?_
              refine V_iload_n dG_judge_74 rfl ?_
              refine V_topI (x' := nI (cN t)) (rng_N hb5 (by decide)).1 ?_
              refine V_iload_n dG_judge_75 rfl ?_
              refine V_iload_n dG_judge_76 rfl ?_
              refine V_iadd dG_judge_77 ?_
              refine V_topI (x' := nI (cN (i + nI n))) (rng_N hp (by have := (iT hI (rng_N hb5 (by decide)).2).1.2; omega)).1 ?_
              refine V_callV (as := [.int (nI (cN t)), .int (nI (cN (i + nI n)))]) (rest := []) (bs' := 0) rfl dG_judge_78 cmT_valueAt cvT_valueAt mlG_251 (Or.inl ⟨_, _, _, _, _, rfl, k66, by decide, rfl⟩) rfl rfl (c_valueAt hC hI (rng_N hb5 (by decide)).2 (by have := (rng_N hp (by have := (iT hI (rng_N hb5 (by decide)).2).1.2; omega)).2; have := (iT hI (rng_N hb5 (by decide)).2).1.2; omega)) (by decide) (Nat.le_refl _) (by decide) (Nat.le_of_ble_eq_true rfl) ?_
              rintro _ _ _ ⟨rfl, rfl, rfl⟩ -
              refine V_one ?_
              refine V_aload_n dG_judge_81 rfl ?_
              refine V_getR (a := 1) dG_judge_82 flG_12 k0 rfl (r0_0 hR) ?_
              refine V_getR (a := 3) dG_judge_85 flG_255 k1 rfl (r1_3 hR) ?_
              refine V_iload_n dG_judge_88 rfl ?_
              refine V_aaldN (j := n) (a := 8 + 2 * n) dG_judge_89 k3 rfl (lt9 hI hn) (by decide) (rE hR (lt9 hI hn)) ?_
              refine V_getE (x := gi M 81 n) dG_judge_90 flG_105 (kE _ (lt9 hI hn)) rfl (eP hC (lt9 hI hn)) ?_
              refine V_i2l dG_judge_93 ?_
              refine V_lcmp dG_judge_94 ?_
              refine V_if_eq (tgt := 100) dG_judge_95 rfl (fun c95 => ?_) (fun c95 => ?_)
              · skip
                refine V_iinc (v := nI (n + 1)) (loc' := [(3, .int (nI (n + 1))), (0, .ref 0), (1, .int t), (2, .int i)]) dG_judge_100 rfl (nI_inc n) (by decide) rfl ?_
                refine V_goto (tgt := 40) dG_judge_103 rfl ?_
                refine V.locs (loc' := [(3, .int (nI (n + 1))), (0, .ref 0), (1, .int t), (2, .int i)]) [0, 1, 2, 3] rfl ?_
                exact (ihn (firstN_s hN (stB_0 hp c95)) _ hC hS)
              · skip
                refine V_iload_n dG_judge_98 rfl ?_
                refine V_iret dG_judge_99 rfl rfl ?_
                rw [show q_judge M t i = (jdV M (cN t) i, M) by simp only [q_judge, if_pos hb5, if_neg hjj], jd_2 hN hn hp c95]
                exact ⟨rfl, rfl, hC, hS⟩
            · refine V_one ?_
              refine V_if_ne (tgt := 70) dG_judge_62 rfl (fun h => absurd h (by decide)) (fun _ => ?_)
              refine V_bipush (v := 100) dG_judge_65 (by decide) ?_
              refine V_iload_n dG_judge_67 rfl ?_
              refine V_iadd dG_judge_68 ?_
              refine V_iret dG_judge_69 rfl rfl ?_
              rw [show q_judge M t i = (jdV M (cN t) i, M) by simp only [q_judge, if_pos hb5, if_neg hjj], jd_1 hN hn hp]
              exact ⟨rfl, rfl, hC, hS⟩
        exact lp 0 (Nat.zero_le _) rfl  _ hC hS
      · refine V_one ?_
        refine V_if_ne (tgt := 38) dG_judge_32 rfl (fun h => absurd h (by decide)) (fun _ => ?_)
        refine V_bipush (v := -12) dG_judge_35 (by decide) ?_
        refine V_iret dG_judge_37 rfl rfl ?_
        rw [show q_judge M t i = (-12, M) by simp only [q_judge, if_pos hb5, if_pos (And.intro hz18 hn3)]]
        exact ⟨rfl, rfl, hC, hS⟩
    · refine V_one ?_
      have hjj : ¬ (¬ gi M 113 (cN t) = -1 ∧ ¬ gi M 113 (cN t) = 3) := fun q => hz18 q.1
      refine V_if_eq (tgt := 38) dG_judge_21 rfl (fun _ => ?_) (fun h => absurd h (by decide))
      refine V_iconst (v := 0) dG_judge_38 (by decide) ?_
      refine V_istore_n (loc' := [(3, .int 0), (0, .ref 0), (1, .int t), (2, .int i)]) dG_judge_39 (by decide) rfl ?_
      refine V.locs (loc' := [(3, .int 0), (0, .ref 0), (1, .int t), (2, .int i)]) [0, 1, 2, 3] rfl ?_
      refine V_eqL (loc' := [(3, .int (nI 0)), (0, .ref 0), (1, .int t), (2, .int i)]) ?_ ?_
      · rfl
      have lp : ∀ n : Nat, n ≤ (mE M) → firstN (stB M (cN t) i) n = n → ∀ s : Hp, RC L M s → Sm σ s → V l G mG_judge (rmd 2 0 0) (KA.length + 0) 0 40 [(3, .int (nI n)), (0, .ref 0), (1, .int t), (2, .int i)] [] KA s (PQ L σ (q_judge M t i)) := by
        refine lp_up (mE M) ?_ (fun n hn ihn => ?_)
        · skip
          intro hN
          intro s hC hS
          have hR := hC.1
          refine V_iload_n dG_judge_40 rfl ?_
          refine V_aload_n dG_judge_41 rfl ?_
          refine V_getR (a := 1) dG_judge_42 flG_12 k0 rfl (r0_0 hR) ?_
          refine V_getE (x := nI (mE M)) dG_judge_45 flG_164 k1 rfl (cE hC hI) ?_
          refine V_icmp_ge (tgt := 106) dG_judge_48 rfl (fun _ => ?_) (fun h => absurd h (not_not_intro (nI_le (Nat.le_refl _) (sm9 hI))))
          refine V_bipush (v := -5) dG_judge_106 (by decide) ?_
          refine V_iret dG_judge_108 rfl rfl ?_
          rw [show q_judge M t i = (jdV M (cN t) i, M) by simp only [q_judge, if_pos hb5, if_neg hjj], jd_0 hN]
          exact ⟨rfl, rfl, hC, hS⟩
        · skip
          intro hN
          intro s hC hS
          have hR := hC.1
          refine V_iload_n dG_judge_40 rfl ?_
          refine V_aload_n dG_judge_41 rfl ?_
          refine V_getR (a := 1) dG_judge_42 flG_12 k0 rfl (r0_0 hR) ?_
          refine V_getE (x := nI (mE M)) dG_judge_45 flG_164 k1 rfl (cE hC hI) ?_
          refine V_icmp_ge (tgt := 106) dG_judge_48 rfl (fun h => absurd h (nI_ge hn (sm9 hI))) (fun _ => ?_)
          refine V_aload_n dG_judge_51 rfl ?_
          refine V_getR (a := 66) dG_judge_52 flG_56 k0 rfl (r0_7 hR) ?_
          refine V_iload_n dG_judge_55 rfl ?_
          refine V_topI (x' := nI (cN t)) (rng_N hb5 (by decide)).1 ?_
          refine V_iload_n dG_judge_56 rfl ?_
          refine V_iload_n dG_judge_57 rfl ?_
          refine V_iadd dG_judge_58 ?_
          refine V_callV (as := [.int (nI (cN t)), .int (i + (nI n))]) (rest := []) (bs' := 0) rfl dG_judge_59 cmT_hasPlace cvT_hasPlace mlG_248 (Or.inl ⟨_, _, _, _, _, rfl, k66, by decide, rfl⟩) rfl rfl (c_thasPlace hC hI (rng_N hb5 (by decide)).2 (i + nI n)) (by decide) (Nat.le_refl _) (by decide) (Nat.le_of_ble_eq_true rfl) ?_
          rintro _ _ _ (⟨hp, rfl, rfl, rfl⟩ | ⟨hp, rfl, rfl, rfl⟩) -
          · refine V_one ?_
            refine V_if_ne (tgt := 70) dG_judge_62 rfl (fun _ => ?_) (fun h => absurd h (by decide))
            refine V_aload_n dG_judge_70 rfl ?_
            refine V_getR (a := 66) dG_judge_71 flG_56 k0 rfl (r0_7 hR) ?_
            refine V_iload_n dG_judge_74 rfl ?_
            refine V_topI (x' := nI (cN t)) (rng_N hb5 (by decide)).1 ?_
            refine V_iload_n dG_judge_75 rfl ?_
            refine V_iload_n dG_judge_76 rfl ?_
            refine V_iadd dG_judge_77 ?_
            refine V_topI (x' := nI (cN (i + nI n))) (rng_N hp (by have := (iT hI (rng_N hb5 (by decide)).2).1.2; omega)).1 ?_
            refine V_callV (as := [.int (nI (cN t)), .int (nI (cN (i + nI n)))]) (rest := []) (bs' := 0) rfl dG_judge_78 cmT_valueAt cvT_valueAt mlG_251 (Or.inl ⟨_, _, _, _, _, rfl, k66, by decide, rfl⟩) rfl rfl (c_valueAt hC hI (rng_N hb5 (by decide)).2 (by have := (rng_N hp (by have := (iT hI (rng_N hb5 (by decide)).2).1.2; omega)).2; have := (iT hI (rng_N hb5 (by decide)).2).1.2; omega)) (by decide) (Nat.le_refl _) (by decide) (Nat.le_of_ble_eq_true rfl) ?_
            rintro _ _ _ ⟨rfl, rfl, rfl⟩ -
            refine V_one ?_
            refine V_aload_n dG_judge_81 rfl ?_
            refine V_getR (a := 1) dG_judge_82 flG_12 k0 rfl (r0_0 hR) ?_
            refine V_getR (a := 3) dG_judge_85 flG_255 k1 rfl (r1_3 hR) ?_
            refine V_iload_n dG_judge_88 rfl ?_
            refine V_aaldN (j := n) (a := 8 + 2 * n) dG_judge_89 k3 rfl (lt9 hI hn) (by decide) (rE hR (lt9 hI hn)) ?_
            refine V_getE (x := gi M 81 n) dG_judge_90 flG_105 (kE _ (lt9 hI hn)) rfl (eP hC (lt9 hI hn)) ?_
            refine V_i2l dG_judge_93 ?_
            refine V_lcmp dG_judge_94 ?_
            refine V_if_eq (tgt := 100) dG_judge_95 rfl (fun c95 => ?_) (fun c95 => ?_)
            · skip
              refine V_iinc (v := nI (n + 1)) (loc' := [(3, .int (nI (n + 1))), (0, .ref 0), (1, .int t), (2, .int i)]) dG_judge_100 rfl (nI_inc n) (by decide) rfl ?_
              refine V_goto (tgt := 40) dG_judge_103 rfl ?_
              refine V.locs (loc' := [(3, .int (nI (n + 1))), (0, .ref 0), (1, .int t), (2, .int i)]) [0, 1, 2, 3] rfl ?_
              exact (ihn (firstN_s hN (stB_0 hp c95)) _ hC hS)
            · skip
              refine V_iload_n dG_judge_98 rfl ?_
              refine V_iret dG_judge_99 rfl rfl ?_
              rw [show q_judge M t i = (jdV M (cN t) i, M) by simp only [q_judge, if_pos hb5, if_neg hjj], jd_2 hN hn hp c95]
              exact ⟨rfl, rfl, hC, hS⟩
          · refine V_one ?_
            refine V_if_ne (tgt := 70) dG_judge_62 rfl (fun h => absurd h (by decide)) (fun _ => ?_)
            refine V_bipush (v := 100) dG_judge_65 (by decide) ?_
            refine V_iload_n dG_judge_67 rfl ?_
            refine V_iadd dG_judge_68 ?_
            refine V_iret dG_judge_69 rfl rfl ?_
            rw [show q_judge M t i = (jdV M (cN t) i, M) by simp only [q_judge, if_pos hb5, if_neg hjj], jd_1 hN hn hp]
            exact ⟨rfl, rfl, hC, hS⟩
      exact lp 0 (Nat.zero_le _) rfl  _ hC hS
  · refine V_one ?_
    refine V_if_ne (tgt := 13) dG_judge_8 rfl (fun h => absurd h (by decide)) (fun _ => ?_)
    refine V_iconst (v := -1) dG_judge_11 (by decide) ?_
    refine V_iret dG_judge_12 rfl rfl ?_
    rw [show q_judge M t i = (-1, M) by simp only [q_judge, if_neg hb5]]
    exact ⟨rfl, rfl, hC, hS⟩
theorem m_judge {l : Launch} {G : GT} {L : Nat → List Cl} {M σ : Hp} (hM : RM M σ) (hI : Inv L M) (t i : Int32) : MM l G mM_judge 2 0 0 [.ref 76, .int t, .int i] KA σ (PM σ (q_judge M t i)) := by
  have hR := hM.1
  have hM0 := hM
  have hS : Sc σ σ := Sc.rfl
  refine MM.of (loc := [(0, .ref 76), (1, .int t), (2, .int i)]) (by decide +kernel) rfl (Nat.le_of_ble_eq_true rfl) ?_
  refine V_aload_n dM_judge_0 rfl ?_
  refine V_iload_n dM_judge_1 rfl ?_
  refine V_callV (as := [.int t]) (rest := []) (bs' := 0) rfl dM_judge_2 cmM_isTape cvM_isTape mlM_353 (Or.inl ⟨_, _, _, _, _, rfl, k76, by decide, rfl⟩) rfl rfl (m_isTape hM hI t) (by decide) (Nat.le_refl _) (by decide) (Nat.le_of_ble_eq_true rfl) ?_
  rintro _ _ _ (⟨hb2, rfl, rfl, rfl⟩ | ⟨hb2, rfl, rfl, rfl⟩) -
  · refine V_one ?_
    refine V_if_ne (tgt := 10) dM_judge_5 rfl (fun _ => ?_) (fun h => absurd h (by decide))
    refine V_aload_n dM_judge_10 rfl ?_
    refine V_getR (a := 113) dM_judge_11 flM_190 k76 rfl (r76_59 hR) ?_
    refine V_iload_n dM_judge_14 rfl ?_
    refine V_ialdN (j := cN t) dM_judge_15 k113 (rng_N hb2 (by decide)).1 (rng_N hb2 (by decide)).2 (by decide) ?_
    refine V_topI (x' := gi M 113 (cN t)) (mR hM rfl) ?_
    refine V_if_lt (tgt := 32) dM_judge_16 rfl (fun c16 => ?_) (fun c16 => ?_)
    · skip
      refine V_iconst (v := 0) dM_judge_32 (by decide) ?_
      refine V_istore_n (loc' := [(3, .int 0), (0, .ref 76), (1, .int t), (2, .int i)]) dM_judge_33 (by decide) rfl ?_
      have hjj : ¬ (¬ gi M 113 (cN t) = -1 ∧ ¬ gi M 113 (cN t) = 3) := fun q => q.1 (Decidable.not_not.mp (fun z => Int32.not_lt.mpr ((sort_i hI (rng_N hb2 (by decide)).2).mpr z) c16))
      refine V.locs (loc' := [(3, .int 0), (0, .ref 76), (1, .int t), (2, .int i)]) [0, 1, 2, 3] rfl ?_
      refine V_eqL (loc' := [(3, .int (nI 0)), (0, .ref 76), (1, .int t), (2, .int i)]) ?_ ?_
      · rfl
      have lp : ∀ n : Nat, n ≤ (mE M) → firstN (stB M (cN t) i) n = n → ∀ s : Hp, RM M s → Sc σ s → V l G mM_judge (rmd 2 0 0) (KA.length + 0) 0 34 [(3, .int (nI n)), (0, .ref 76), (1, .int t), (2, .int i)] [] KA s (PM σ (q_judge M t i)) := by
        refine lp_up (mE M) ?_ (fun n hn ihn => ?_)
        · skip
          intro hN
          intro s hM hS
          have hR := hM.1
          refine V_iload_n dM_judge_34 rfl ?_
          refine V_aload_n dM_judge_35 rfl ?_
          refine V_getE (x := nI (mE M)) dM_judge_36 flM_13 k76 rfl ((mR hM rfl).trans (iE hI).1) ?_
          refine V_icmp_ge (tgt := 106) dM_judge_39 rfl (fun _ => ?_) (fun h => absurd h (not_not_intro (nI_le (Nat.le_refl _) (sm9 hI))))
          refine V_bipush (v := -5) dM_judge_106 (by decide) ?_
          refine V_iret dM_judge_108 rfl rfl ?_
          rw [show q_judge M t i = (jdV M (cN t) i, M) by simp only [q_judge, if_pos hb2, if_neg hjj], jd_0 hN]
          exact ⟨rfl, rfl, hM, hS⟩
        · skip
          intro hN
          intro s hM hS
          have hR := hM.1
          refine V_iload_n dM_judge_34 rfl ?_
          refine V_aload_n dM_judge_35 rfl ?_
          refine V_getE (x := nI (mE M)) dM_judge_36 flM_13 k76 rfl ((mR hM rfl).trans (iE hI).1) ?_
          refine V_icmp_ge (tgt := 106) dM_judge_39 rfl (fun h => absurd h (nI_ge hn (sm9 hI))) (fun _ => ?_)
          refine V_aload_n dM_judge_42 rfl ?_
          refine V_getR (a := 113) dM_judge_43 flM_190 k76 rfl (r76_59 hR) ?_
          refine V_iload_n dM_judge_46 rfl ?_
          refine V_ialdN (j := cN t) dM_judge_47 k113 (rng_N hb2 (by decide)).1 (rng_N hb2 (by decide)).2 (by decide) ?_
          refine V_topI (x' := gi M 113 (cN t)) (mR hM rfl) ?_
          refine V_if_lt (tgt := 69) dM_judge_48 rfl (fun _ => ?_) (fun h => absurd h (not_not_intro c16))
          refine V_bipush (v := 100) dM_judge_69 (by decide) ?_
          refine V_iload_n dM_judge_71 rfl ?_
          refine V_iadd dM_judge_72 ?_
          refine V_iret dM_judge_73 rfl rfl ?_
          rw [show q_judge M t i = (jdV M (cN t) i, M) by simp only [q_judge, if_pos hb2, if_neg hjj], jd_1 hN hn (no_place hI (rng_N hb2 (by decide)).2 (Decidable.not_not.mp (fun z => Int32.not_lt.mpr ((sort_i hI (rng_N hb2 (by decide)).2).mpr z) c16)) _)]
          exact ⟨rfl, rfl, hM, hS⟩
      exact lp 0 (Nat.zero_le _) rfl  _ hM hS
    · skip
      refine V_aload_n dM_judge_19 rfl ?_
      refine V_getR (a := 113) dM_judge_20 flM_190 k76 rfl (r76_59 hR) ?_
      refine V_iload_n dM_judge_23 rfl ?_
      refine V_ialdN (j := cN t) dM_judge_24 k113 (rng_N hb2 (by decide)).1 (rng_N hb2 (by decide)).2 (by decide) ?_
      refine V_topI (x' := gi M 113 (cN t)) (mR hM rfl) ?_
      refine V_iconst (v := 3) dM_judge_25 (by decide) ?_
      refine V_icmp_eq (tgt := 32) dM_judge_26 rfl (fun c26 => ?_) (fun c26 => ?_)
      · skip
        refine V_iconst (v := 0) dM_judge_32 (by decide) ?_
        refine V_istore_n (loc' := [(3, .int 0), (0, .ref 76), (1, .int t), (2, .int i)]) dM_judge_33 (by decide) rfl ?_
        have hjj : ¬ (¬ gi M 113 (cN t) = -1 ∧ ¬ gi M 113 (cN t) = 3) := fun q => q.2 c26
        refine V.locs (loc' := [(3, .int 0), (0, .ref 76), (1, .int t), (2, .int i)]) [0, 1, 2, 3] rfl ?_
        refine V_eqL (loc' := [(3, .int (nI 0)), (0, .ref 76), (1, .int t), (2, .int i)]) ?_ ?_
        · rfl
        have lp : ∀ n : Nat, n ≤ (mE M) → firstN (stB M (cN t) i) n = n → ∀ s : Hp, RM M s → Sc σ s → V l G mM_judge (rmd 2 0 0) (KA.length + 0) 0 34 [(3, .int (nI n)), (0, .ref 76), (1, .int t), (2, .int i)] [] KA s (PM σ (q_judge M t i)) := by
          refine lp_up (mE M) ?_ (fun n hn ihn => ?_)
          · skip
            intro hN
            intro s hM hS
            have hR := hM.1
            refine V_iload_n dM_judge_34 rfl ?_
            refine V_aload_n dM_judge_35 rfl ?_
            refine V_getE (x := nI (mE M)) dM_judge_36 flM_13 k76 rfl ((mR hM rfl).trans (iE hI).1) ?_
            refine V_icmp_ge (tgt := 106) dM_judge_39 rfl (fun _ => ?_) (fun h => absurd h (not_not_intro (nI_le (Nat.le_refl _) (sm9 hI))))
            refine V_bipush (v := -5) dM_judge_106 (by decide) ?_
            refine V_iret dM_judge_108 rfl rfl ?_
            rw [show q_judge M t i = (jdV M (cN t) i, M) by simp only [q_judge, if_pos hb2, if_neg hjj], jd_0 hN]
            exact ⟨rfl, rfl, hM, hS⟩
          · skip
            intro hN
            intro s hM hS
            have hR := hM.1
            refine V_iload_n dM_judge_34 rfl ?_
            refine V_aload_n dM_judge_35 rfl ?_
            refine V_getE (x := nI (mE M)) dM_judge_36 flM_13 k76 rfl ((mR hM rfl).trans (iE hI).1) ?_
            refine V_icmp_ge (tgt := 106) dM_judge_39 rfl (fun h => absurd h (nI_ge hn (sm9 hI))) (fun _ => ?_)
            refine V_aload_n dM_judge_42 rfl ?_
            refine V_getR (a := 113) dM_judge_43 flM_190 k76 rfl (r76_59 hR) ?_
            refine V_iload_n dM_judge_46 rfl ?_
            refine V_ialdN (j := cN t) dM_judge_47 k113 (rng_N hb2 (by decide)).1 (rng_N hb2 (by decide)).2 (by decide) ?_
            refine V_topI (x' := 3) ((mR hM rfl).trans c26) ?_
            refine V_if_lt (tgt := 69) dM_judge_48 rfl (fun h => absurd h (by decide)) (fun _ => ?_)
            refine V_iload_n dM_judge_51 rfl ?_
            refine V_if_lt (tgt := 69) dM_judge_52 rfl (fun c52 => ?_) (fun c52 => ?_)
            · skip
              refine V_bipush (v := 100) dM_judge_69 (by decide) ?_
              refine V_iload_n dM_judge_71 rfl ?_
              refine V_iadd dM_judge_72 ?_
              refine V_iret dM_judge_73 rfl rfl ?_
              rw [show q_judge M t i = (jdV M (cN t) i, M) by simp only [q_judge, if_pos hb2, if_neg hjj], jd_1 hN hn (jd_n hN c52)]
              exact ⟨rfl, rfl, hM, hS⟩
            · skip
              refine V_iload_n dM_judge_55 rfl ?_
              refine V_aload_n dM_judge_56 rfl ?_
              refine V_getR (a := 114) dM_judge_57 flM_193 k76 rfl (r76_60 hR) ?_
              refine V_iload_n dM_judge_60 rfl ?_
              refine V_ialdN (j := cN t) dM_judge_61 k114 (rng_N hb2 (by decide)).1 (rng_N hb2 (by decide)).2 (by decide) ?_
              refine V_topI (x' := nI (cN (gi M 114 (cN t)))) ((mR hM rfl).trans (iT hI (rng_N hb2 (by decide)).2).1.1) ?_
              refine V_iload_n dM_judge_62 rfl ?_
              refine V_isub dM_judge_63 ?_
              refine V_iconst (v := 1) dM_judge_64 (by decide) ?_
              refine V_isub dM_judge_65 ?_
              refine V_icmp_le (tgt := 74) dM_judge_66 rfl (fun c66 => ?_) (fun c66 => ?_)
              · skip
                have hp : rng (i + nI n) (cN (gi M 114 (cN t))) := (pl_iff (Int32.not_lt.mp c52) (lt9 hI hn) (iT hI (rng_N hb2 (by decide)).2).1.2).mp c66
                refine V_aload_n dM_judge_74 rfl ?_
                refine V_getR (a := 115) dM_judge_75 flM_196 k76 rfl (r76_61 hR) ?_
                refine V_bipush (v := 60) dM_judge_78 (by decide) ?_
                refine V_iload_n dM_judge_80 rfl ?_
                refine V_imul dM_judge_81 ?_
                refine V_iload_n dM_judge_82 rfl ?_
                refine V_iadd dM_judge_83 ?_
                refine V_iload_n dM_judge_84 rfl ?_
                refine V_iadd dM_judge_85 ?_
                refine V_laldN (j := 60 * cN t + cN (i + nI n)) dM_judge_86 k115 (by rw [Int32.add_assoc]; exact ix60 (rng_N hb2 (by decide)).1 (rng_N hp (by have := (iT hI (rng_N hb2 (by decide)).2).1.2; omega)).1) (by have := (rng_N hb2 (by decide)).2; have := (rng_N hp (by have := (iT hI (rng_N hb2 (by decide)).2).1.2; omega)).2; have := (iT hI (rng_N hb2 (by decide)).2).1.2; omega) (by decide) ?_
                refine V_topL (x' := gl M 115 (60 * cN t + cN (i + nI n))) (mRl hM rfl) ?_
                refine V_aload_n dM_judge_87 rfl ?_
                refine V_getR (a := 81) dM_judge_88 flM_35 k76 rfl (r76_8 hR) ?_
                refine V_iload_n dM_judge_91 rfl ?_
                refine V_ialdN (j := n) dM_judge_92 k81 rfl (lt9 hI hn) (by decide) ?_
                refine V_topI (x' := gi M 81 n) (mR hM rfl) ?_
                refine V_i2l dM_judge_93 ?_
                refine V_lcmp dM_judge_94 ?_
                refine V_if_eq (tgt := 100) dM_judge_95 rfl (fun c95 => ?_) (fun c95 => ?_)
                · skip
                  refine V_iinc (v := nI (n + 1)) (loc' := [(3, .int (nI (n + 1))), (0, .ref 76), (1, .int t), (2, .int i)]) dM_judge_100 rfl (nI_inc n) (by decide) rfl ?_
                  refine V_goto (tgt := 34) dM_judge_103 rfl ?_
                  refine V.locs (loc' := [(3, .int (nI (n + 1))), (0, .ref 76), (1, .int t), (2, .int i)]) [0, 1, 2, 3] rfl ?_
                  exact (ihn (firstN_s hN (stB_0 hp c95)) _ hM hS)
                · skip
                  refine V_iload_n dM_judge_98 rfl ?_
                  refine V_iret dM_judge_99 rfl rfl ?_
                  rw [show q_judge M t i = (jdV M (cN t) i, M) by simp only [q_judge, if_pos hb2, if_neg hjj], jd_2 hN hn hp c95]
                  exact ⟨rfl, rfl, hM, hS⟩
              · skip
                refine V_bipush (v := 100) dM_judge_69 (by decide) ?_
                refine V_iload_n dM_judge_71 rfl ?_
                refine V_iadd dM_judge_72 ?_
                refine V_iret dM_judge_73 rfl rfl ?_
                rw [show q_judge M t i = (jdV M (cN t) i, M) by simp only [q_judge, if_pos hb2, if_neg hjj], jd_1 hN hn (fun z => c66 ((pl_iff (Int32.not_lt.mp c52) (lt9 hI hn) (iT hI (rng_N hb2 (by decide)).2).1.2).mpr z))]
                exact ⟨rfl, rfl, hM, hS⟩
        exact lp 0 (Nat.zero_le _) rfl  _ hM hS
      · skip
        refine V_bipush (v := -12) dM_judge_29 (by decide) ?_
        refine V_iret dM_judge_31 rfl rfl ?_
        rw [show q_judge M t i = (-12, M) by simp only [q_judge, if_pos hb2, if_pos (And.intro (show ¬ gi M 113 (cN t) = -1 from fun q => c16 (by rw [q]; decide)) c26)]]
        exact ⟨rfl, rfl, hM, hS⟩
  · refine V_one ?_
    refine V_if_ne (tgt := 10) dM_judge_5 rfl (fun h => absurd h (by decide)) (fun _ => ?_)
    refine V_iconst (v := -1) dM_judge_8 (by decide) ?_
    refine V_iret dM_judge_9 rfl rfl ?_
    rw [show q_judge M t i = (-1, M) by simp only [q_judge, if_neg hb2]]
    exact ⟨rfl, rfl, hM, hS⟩
