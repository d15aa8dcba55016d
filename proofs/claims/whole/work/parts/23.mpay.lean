/-! what an envelope pays: the second object, on -/
theorem m_extra {l : Launch} {G : GT} {L : Nat → List Cl} {M σ : Hp} (hM : RM M σ) (hP : Pw L M) {e w : Nat} (he : e < 8) (hw : w < 6) (hs : Ps M e) : MM l G mM_extra 3 0 0 [.ref 76, .int (nI e), .int (nI w)] KA σ (QX (some (.int (exS L M (facI M e w (gi M 80 e) (mD M)) (gi M 76 12)))) σ) := by
  have hR := hM.1
  have hM0 := hM
  have hF : Gz σ σ := Gz.rfl
  refine MM.of (loc := [(0, .ref 76), (1, .int (nI e)), (2, .int (nI w))]) (by decide +kernel) rfl (Nat.le_of_ble_eq_true rfl) ?_
  rcases hP.law with h | ⟨f, hf6, hf, hfl, hn, hlen, hcl⟩
  · skip
    refine V_iconst (v := 0) dM_extra_0 (by decide) ?_
    refine V_istore_n (loc' := [(3, .int 0), (0, .ref 76), (1, .int (nI e)), (2, .int (nI w))]) dM_extra_1 (by decide) rfl ?_
    refine V_aload_n dM_extra_2 rfl ?_
    refine V_callV (as := []) (rest := []) (bs' := 0) rfl dM_extra_3 cmM_begin cvM_begin mlM_270 (Or.inl ⟨_, _, _, _, _, rfl, k76, by decide, rfl⟩) rfl rfl (m_begin0 hM h) (by decide) (Nat.le_refl _) (by decide) (Nat.le_of_ble_eq_true rfl) ?_
    rintro _ _ _ ⟨rfl, rfl, rfl⟩ -
    refine V_one ?_
    refine V_istore (loc' := [(4, .int 0), (3, .int 0), (0, .ref 76), (1, .int (nI e)), (2, .int (nI w))]) dM_extra_6 (by decide) rfl ?_
    refine V_iload dM_extra_8 rfl ?_
    refine V_aload_n dM_extra_10 rfl ?_
    refine V_callV (as := []) (rest := [.int 0]) (bs' := 0) rfl dM_extra_11 cmM_behind cvM_behind mlM_273 (Or.inl ⟨_, _, _, _, _, rfl, k76, by decide, rfl⟩) rfl rfl (m_behind0 hM h) (by decide) (Nat.le_refl _) (by decide) (Nat.le_of_ble_eq_true rfl) ?_
    rintro _ _ _ ⟨rfl, rfl, rfl⟩ -
    refine V_one ?_
    refine V_icmp_ge (tgt := 79) dM_extra_14 rfl (fun _ => ?_) (fun h => absurd h (by decide))
    refine V_iload_n dM_extra_79 rfl ?_
    exact V_iret dM_extra_80 rfl rfl ⟨by rw [h, exS, if_neg (fun q => absurd q.1 (by decide))], rfl, hF⟩
  · have hl7 := hP.2.1.1.2
    have lp : ∀ (rest : List Cl) (i : Nat) (x : Int32) (s : Hp), Gz σ s → (∀ (j : Nat) (c : Cl), rest[j]? = some c → clOk M f (i + j) c) → i + rest.length = (L f).length → ∀ r : Int32, x + extL (facI M e w (gi M 80 e) (mD M)) rest = r → V l G mM_extra (rmd 3 0 0) (KA.length + 0) 0 8 [(4, .int (nI (10 * f + i))), (3, .int x), (0, .ref 76), (1, .int (nI e)), (2, .int (nI w))] [] KA s (QX (some (.int r)) σ) := by
      intro rest
      induction rest with
      | nil =>
        intro i x s hF _ hil r hr
        have hM := hF.rm hM0
        have hR := hM.1
        simp only [extL, Int32.add_zero] at hr
        subst hr
        refine V_iload dM_extra_8 rfl ?_
        refine V_aload_n dM_extra_10 rfl ?_
        refine V_callV (as := []) (rest := [.int (nI (10 * f + i))]) (bs' := 0) rfl dM_extra_11 cmM_behind cvM_behind mlM_273 (Or.inl ⟨_, _, _, _, _, rfl, k76, by decide, rfl⟩) rfl rfl (m_behind1 hM hf6 hf hn) (by decide) (Nat.le_refl _) (by decide) (Nat.le_of_ble_eq_true rfl) ?_
        rintro _ _ _ ⟨rfl, rfl, rfl⟩ -
        refine V_one ?_
        refine V_icmp_ge (tgt := 79) dM_extra_14 rfl (fun _ => ?_) (fun h => absurd h (not_not_intro (nI_le (by simp at hil; omega) (by omega))))
        refine V_iload_n dM_extra_79 rfl ?_
        exact V_iret dM_extra_80 rfl rfl ⟨rfl, rfl, hF⟩
      | cons c rest ih =>
        intro i x s hF hok hil r hr
        have hM := hF.rm hM0
        have hR := hM.1
        have h0 := hok 0 c rfl
        rw [Nat.add_zero] at h0
        have hok2 : ∀ (j : Nat) (c : Cl), rest[j]? = some c → clOk M f (i + 1 + j) c := fun j c h => by
          have := hok (j + 1) c (by rw [List.getElem?_cons_succ]; exact h)
          rwa [show i + (j + 1) = i + 1 + j by omega] at this
        have hil2 : i + 1 + rest.length = (L f).length := by simp at hil; omega
        simp only [extL] at hr
        have hi10 : i < 10 := by simp at hil; omega
        by_cases h2 : c.1 = 2
        · skip
          refine V_iload dM_extra_8 rfl ?_
          refine V_aload_n dM_extra_10 rfl ?_
          refine V_callV (as := []) (rest := [.int (nI (10 * f + i))]) (bs' := 0) rfl dM_extra_11 cmM_behind cvM_behind mlM_273 (Or.inl ⟨_, _, _, _, _, rfl, k76, by decide, rfl⟩) rfl rfl (m_behind1 hM hf6 hf hn) (by decide) (Nat.le_refl _) (by decide) (Nat.le_of_ble_eq_true rfl) ?_
          rintro _ _ _ ⟨rfl, rfl, rfl⟩ -
          refine V_one ?_
          refine V_icmp_ge (tgt := 79) dM_extra_14 rfl (fun h => absurd h (nI_ge (a := 10 * f + i) (b := 10 * f + (L f).length) (by simp at hil; omega) (by omega))) (fun _ => ?_)
          refine V_aload_n dM_extra_17 rfl ?_
          refine V_getR (a := 86) dM_extra_18 flM_65 k76 rfl (r76_18 hR) ?_
          refine V_iload dM_extra_21 rfl ?_
          refine V_ialdN (j := 10 * f + i) dM_extra_23 k86 rfl (by omega) (by decide) ?_
          refine V_topI (x' := 2) ((mR hM rfl).trans (by rw [h0.1, h2]; rfl)) ?_
          refine V_iconst (v := 2) dM_extra_24 (by decide) ?_
          refine V_icmp_eq (tgt := 73) dM_extra_25 rfl (fun _ => ?_) (fun h => absurd h (fun q => q rfl))
          refine V_iinc (v := nI ((10 * f + i) + 1)) (loc' := [(4, .int (nI ((10 * f + i) + 1))), (3, .int x), (0, .ref 76), (1, .int (nI e)), (2, .int (nI w))]) dM_extra_73 rfl (nI_inc (10 * f + i)) (by decide) rfl ?_
          refine V_goto (tgt := 8) dM_extra_76 rfl ?_
          refine V.locs (loc' := [(4, .int (nI ((10 * f + i) + 1))), (3, .int x), (0, .ref 76), (1, .int (nI e)), (2, .int (nI w))]) [0, 1, 2, 3, 4] rfl ?_
          exact ih (i + 1) x _ hF hok2 hil2 r (by rw [← hr]; simp [termL, h2])
        · by_cases hc0 : c.1 = 0
          · skip
            refine V_iload dM_extra_8 rfl ?_
            refine V_aload_n dM_extra_10 rfl ?_
            refine V_callV (as := []) (rest := [.int (nI (10 * f + i))]) (bs' := 0) rfl dM_extra_11 cmM_behind cvM_behind mlM_273 (Or.inl ⟨_, _, _, _, _, rfl, k76, by decide, rfl⟩) rfl rfl (m_behind1 hM hf6 hf hn) (by decide) (Nat.le_refl _) (by decide) (Nat.le_of_ble_eq_true rfl) ?_
            rintro _ _ _ ⟨rfl, rfl, rfl⟩ -
            refine V_one ?_
            refine V_icmp_ge (tgt := 79) dM_extra_14 rfl (fun h => absurd h (nI_ge (a := 10 * f + i) (b := 10 * f + (L f).length) (by simp at hil; omega) (by omega))) (fun _ => ?_)
            refine V_aload_n dM_extra_17 rfl ?_
            refine V_getR (a := 86) dM_extra_18 flM_65 k76 rfl (r76_18 hR) ?_
            refine V_iload dM_extra_21 rfl ?_
            refine V_ialdN (j := 10 * f + i) dM_extra_23 k86 rfl (by omega) (by decide) ?_
            refine V_topI (x' := 0) ((mR hM rfl).trans (by rw [h0.1, hc0]; rfl)) ?_
            refine V_iconst (v := 2) dM_extra_24 (by decide) ?_
            refine V_icmp_eq (tgt := 73) dM_extra_25 rfl (fun h => absurd h (by decide)) (fun _ => ?_)
            refine V_aload_n dM_extra_28 rfl ?_
            refine V_iload dM_extra_29 rfl ?_
            refine V_iload_n dM_extra_31 rfl ?_
            refine V_iload_n dM_extra_32 rfl ?_
            refine V_callV (as := [.int (nI (10 * f + i)), .int (nI e), .int (nI w)]) (rest := []) (bs' := 0) rfl dM_extra_33 cmM_holds cvM_holds mlM_283 (Or.inl ⟨_, _, _, _, _, rfl, k76, by decide, rfl⟩) rfl rfl (m_holds hM hP he hw hs hf6 hi10 h0 h2) (by decide) (Nat.le_refl _) (by decide) (Nat.le_of_ble_eq_true rfl) ?_
            rintro _ _ s1 (⟨hb, rfl, rfl, hF1⟩ | ⟨hb, rfl, rfl, hF1⟩) -
            · refine V_one ?_
              have hF := hF.trans hF1
              have hM := hF.rm hM0
              have hR := hM.1
              refine V_if_ne (tgt := 42) dM_extra_36 rfl (fun _ => ?_) (fun h => absurd h (by decide))
              refine V_iload_n dM_extra_42 rfl ?_
              refine V_aload_n dM_extra_43 rfl ?_
              refine V_getR (a := 86) dM_extra_44 flM_65 k76 rfl (r76_18 hR) ?_
              refine V_iload dM_extra_47 rfl ?_
              refine V_ialdN (j := 10 * f + i) dM_extra_49 k86 rfl (by omega) (by decide) ?_
              refine V_topI (x' := 0) ((mR hM rfl).trans (by rw [h0.1, hc0]; rfl)) ?_
              refine V_if_ne (tgt := 63) dM_extra_50 rfl (fun h => absurd h (by decide)) (fun _ => ?_)
              refine V_aload_n dM_extra_53 rfl ?_
              refine V_getR (a := 87) dM_extra_54 flM_68 k76 rfl (r76_19 hR) ?_
              refine V_iload dM_extra_57 rfl ?_
              refine V_ialdN (j := 10 * f + i) dM_extra_59 k87 rfl (by omega) (by decide) ?_
              refine V_topI (x' := nI c.2.1) ((mR hM rfl).trans h0.2.2.1) ?_
              refine V_goto (tgt := 71) dM_extra_60 rfl ?_
              refine V_iadd dM_extra_71 ?_
              refine V_istore_n (loc' := [(3, .int (x + (nI c.2.1))), (4, .int (nI (10 * f + i))), (0, .ref 76), (1, .int (nI e)), (2, .int (nI w))]) dM_extra_72 (by decide) rfl ?_
              refine V_iinc (v := nI ((10 * f + i) + 1)) (loc' := [(4, .int (nI ((10 * f + i) + 1))), (3, .int (x + (nI c.2.1))), (0, .ref 76), (1, .int (nI e)), (2, .int (nI w))]) dM_extra_73 rfl (nI_inc (10 * f + i)) (by decide) rfl ?_
              refine V_goto (tgt := 8) dM_extra_76 rfl ?_
              refine V.locs (loc' := [(4, .int (nI ((10 * f + i) + 1))), (3, .int (x + (nI c.2.1))), (0, .ref 76), (1, .int (nI e)), (2, .int (nI w))]) [0, 1, 2, 3, 4] rfl ?_
              exact ih (i + 1) _ _ hF hok2 hil2 r (by rw [← hr]; simp [termL, h2, hc0, hb, Int32.add_assoc])
            · refine V_one ?_
              have hF := hF.trans hF1
              have hM := hF.rm hM0
              have hR := hM.1
              refine V_if_ne (tgt := 42) dM_extra_36 rfl (fun h => absurd h (by decide)) (fun _ => ?_)
              refine V_goto (tgt := 73) dM_extra_39 rfl ?_
              refine V_iinc (v := nI ((10 * f + i) + 1)) (loc' := [(4, .int (nI ((10 * f + i) + 1))), (3, .int x), (0, .ref 76), (1, .int (nI e)), (2, .int (nI w))]) dM_extra_73 rfl (nI_inc (10 * f + i)) (by decide) rfl ?_
              refine V_goto (tgt := 8) dM_extra_76 rfl ?_
              refine V.locs (loc' := [(4, .int (nI ((10 * f + i) + 1))), (3, .int x), (0, .ref 76), (1, .int (nI e)), (2, .int (nI w))]) [0, 1, 2, 3, 4] rfl ?_
              exact ih (i + 1) _ _ hF hok2 hil2 r (by rw [← hr]; simp [termL, h2, hc0, hb, Int32.add_assoc])
          · skip
            refine V_iload dM_extra_8 rfl ?_
            refine V_aload_n dM_extra_10 rfl ?_
            refine V_callV (as := []) (rest := [.int (nI (10 * f + i))]) (bs' := 0) rfl dM_extra_11 cmM_behind cvM_behind mlM_273 (Or.inl ⟨_, _, _, _, _, rfl, k76, by decide, rfl⟩) rfl rfl (m_behind1 hM hf6 hf hn) (by decide) (Nat.le_refl _) (by decide) (Nat.le_of_ble_eq_true rfl) ?_
            rintro _ _ _ ⟨rfl, rfl, rfl⟩ -
            refine V_one ?_
            refine V_icmp_ge (tgt := 79) dM_extra_14 rfl (fun h => absurd h (nI_ge (a := 10 * f + i) (b := 10 * f + (L f).length) (by simp at hil; omega) (by omega))) (fun _ => ?_)
            refine V_aload_n dM_extra_17 rfl ?_
            refine V_getR (a := 86) dM_extra_18 flM_65 k76 rfl (r76_18 hR) ?_
            refine V_iload dM_extra_21 rfl ?_
            refine V_ialdN (j := 10 * f + i) dM_extra_23 k86 rfl (by omega) (by decide) ?_
            refine V_topI (x' := 1) ((mR hM rfl).trans (by rw [h0.1, show c.1 = 1 by have := h0.2.1; omega]; rfl)) ?_
            refine V_iconst (v := 2) dM_extra_24 (by decide) ?_
            refine V_icmp_eq (tgt := 73) dM_extra_25 rfl (fun h => absurd h (by decide)) (fun _ => ?_)
            refine V_aload_n dM_extra_28 rfl ?_
            refine V_iload dM_extra_29 rfl ?_
            refine V_iload_n dM_extra_31 rfl ?_
            refine V_iload_n dM_extra_32 rfl ?_
            refine V_callV (as := [.int (nI (10 * f + i)), .int (nI e), .int (nI w)]) (rest := []) (bs' := 0) rfl dM_extra_33 cmM_holds cvM_holds mlM_283 (Or.inl ⟨_, _, _, _, _, rfl, k76, by decide, rfl⟩) rfl rfl (m_holds hM hP he hw hs hf6 hi10 h0 h2) (by decide) (Nat.le_refl _) (by decide) (Nat.le_of_ble_eq_true rfl) ?_
            rintro _ _ s1 (⟨hb, rfl, rfl, hF1⟩ | ⟨hb, rfl, rfl, hF1⟩) -
            · refine V_one ?_
              have hF := hF.trans hF1
              have hM := hF.rm hM0
              have hR := hM.1
              refine V_if_ne (tgt := 42) dM_extra_36 rfl (fun _ => ?_) (fun h => absurd h (by decide))
              refine V_iload_n dM_extra_42 rfl ?_
              refine V_aload_n dM_extra_43 rfl ?_
              refine V_getR (a := 86) dM_extra_44 flM_65 k76 rfl (r76_18 hR) ?_
              refine V_iload dM_extra_47 rfl ?_
              refine V_ialdN (j := 10 * f + i) dM_extra_49 k86 rfl (by omega) (by decide) ?_
              refine V_topI (x' := 1) ((mR hM rfl).trans (by rw [h0.1, show c.1 = 1 by have := h0.2.1; omega]; rfl)) ?_
              refine V_if_ne (tgt := 63) dM_extra_50 rfl (fun _ => ?_) (fun h => absurd h (by decide))
              refine V_aload_n dM_extra_63 rfl ?_
              refine V_getR (a := 87) dM_extra_64 flM_68 k76 rfl (r76_19 hR) ?_
              refine V_iload dM_extra_67 rfl ?_
              refine V_ialdN (j := 10 * f + i) dM_extra_69 k87 rfl (by omega) (by decide) ?_
              refine V_topI (x' := nI c.2.1) ((mR hM rfl).trans h0.2.2.1) ?_
              refine V_ineg dM_extra_70 ?_
              refine V_iadd dM_extra_71 ?_
              refine V_istore_n (loc' := [(3, .int (x + (-(nI c.2.1)))), (4, .int (nI (10 * f + i))), (0, .ref 76), (1, .int (nI e)), (2, .int (nI w))]) dM_extra_72 (by decide) rfl ?_
              refine V_iinc (v := nI ((10 * f + i) + 1)) (loc' := [(4, .int (nI ((10 * f + i) + 1))), (3, .int (x + (-(nI c.2.1)))), (0, .ref 76), (1, .int (nI e)), (2, .int (nI w))]) dM_extra_73 rfl (nI_inc (10 * f + i)) (by decide) rfl ?_
              refine V_goto (tgt := 8) dM_extra_76 rfl ?_
              refine V.locs (loc' := [(4, .int (nI ((10 * f + i) + 1))), (3, .int (x + (-(nI c.2.1)))), (0, .ref 76), (1, .int (nI e)), (2, .int (nI w))]) [0, 1, 2, 3, 4] rfl ?_
              exact ih (i + 1) _ _ hF hok2 hil2 r (by rw [← hr]; simp [termL, h2, hc0, hb, Int32.add_assoc])
            · refine V_one ?_
              have hF := hF.trans hF1
              have hM := hF.rm hM0
              have hR := hM.1
              refine V_if_ne (tgt := 42) dM_extra_36 rfl (fun h => absurd h (by decide)) (fun _ => ?_)
              refine V_goto (tgt := 73) dM_extra_39 rfl ?_
              refine V_iinc (v := nI ((10 * f + i) + 1)) (loc' := [(4, .int (nI ((10 * f + i) + 1))), (3, .int x), (0, .ref 76), (1, .int (nI e)), (2, .int (nI w))]) dM_extra_73 rfl (nI_inc (10 * f + i)) (by decide) rfl ?_
              refine V_goto (tgt := 8) dM_extra_76 rfl ?_
              refine V.locs (loc' := [(4, .int (nI ((10 * f + i) + 1))), (3, .int x), (0, .ref 76), (1, .int (nI e)), (2, .int (nI w))]) [0, 1, 2, 3, 4] rfl ?_
              exact ih (i + 1) _ _ hF hok2 hil2 r (by rw [← hr]; simp [termL, h2, hc0, hb, Int32.add_assoc])
    refine V_iconst (v := 0) dM_extra_0 (by decide) ?_
    refine V_istore_n (loc' := [(3, .int 0), (0, .ref 76), (1, .int (nI e)), (2, .int (nI w))]) dM_extra_1 (by decide) rfl ?_
    refine V_aload_n dM_extra_2 rfl ?_
    refine V_callV (as := []) (rest := []) (bs' := 0) rfl dM_extra_3 cmM_begin cvM_begin mlM_270 (Or.inl ⟨_, _, _, _, _, rfl, k76, by decide, rfl⟩) rfl rfl (m_begin1 hM hf6 hf) (by decide) (Nat.le_refl _) (by decide) (Nat.le_of_ble_eq_true rfl) ?_
    rintro _ _ _ ⟨rfl, rfl, rfl⟩ -
    refine V_one ?_
    refine V_istore (loc' := [(4, .int (nI (10 * f))), (3, .int 0), (0, .ref 76), (1, .int (nI e)), (2, .int (nI w))]) dM_extra_6 (by decide) rfl ?_
    refine V.locs (loc' := [(4, .int (nI (10 * f))), (3, .int 0), (0, .ref 76), (1, .int (nI e)), (2, .int (nI w))]) [0, 1, 2, 3, 4] rfl ?_
    rw [hf, exS, if_pos (rng_n hfl (by omega)), nI_cN (by omega)]
    exact lp (L f) 0 0 σ hF (fun j c h => by rw [Nat.zero_add]; exact hcl j c h) (by omega) _ (Int32.zero_add _)
theorem m_isTrue {l : Launch} {G : GT} {M σ : Hp} (hM : RM M σ) {e : Nat} (he : e < 8) (m : Int32) : MM l G mM_isTrue 1 0 0 [.ref 76, .int (nI e), .int m] KA σ (PZ (hasB (gi M 80 e) m) KA σ) := by
  have hR := hM.1
  refine MM.of (loc := [(0, .ref 76), (1, .int (nI e)), (2, .int m)]) (by decide +kernel) rfl (Nat.le_of_ble_eq_true rfl) ?_
  refine V_aload_n dM_isTrue_0 rfl ?_
  refine V_aload_n dM_isTrue_1 rfl ?_
  refine V_getR (a := 80) dM_isTrue_2 flM_32 k76 rfl (r76_7 hR) ?_
  refine V_iload_n dM_isTrue_5 rfl ?_
  refine V_ialdN (j := e) dM_isTrue_6 k80 rfl (by omega) (by decide) ?_
  refine V_topI (x' := gi M 80 e) (mR hM rfl) ?_
  refine V_iload_n dM_isTrue_7 rfl ?_
  refine V_callV (as := [.int (gi M 80 e), .int m]) (rest := []) (bs' := 0) rfl dM_isTrue_8 cmM_has cvM_has mlM_286 (Or.inl ⟨_, _, _, _, _, rfl, k76, by decide, rfl⟩) rfl rfl (m_has (gi M 80 e) m) (by decide) (Nat.le_refl _) (by decide) (Nat.le_of_ble_eq_true rfl) ?_
  rintro _ _ _ (⟨hb, rfl, rfl, rfl⟩ | ⟨hb, rfl, rfl, rfl⟩) -
  · refine V_one ?_
    exact V_zret dM_isTrue_11 rfl rfl rfl (Or.inl ⟨hb, rfl, rfl, rfl⟩)
  · refine V_one ?_
    exact V_zret dM_isTrue_11 rfl rfl rfl (Or.inr ⟨hb, rfl, rfl, rfl⟩)
theorem near_a : ∀ w : Nat, w < 6 → ∀ k : Nat, k < 64 → (hasB ((nI k <<< ((1 : Int32) &&& 31)) ||| (nI k >>> ((1 : Int32) &&& 31))) (nI w) ↔ ((¬ nI w ≤ 0 ∧ hasB (nI k) (nI w - 1)) ∨ hasB (nI k) (nI w + 1))) := by decide +kernel
theorem near_c : ∀ W : Nat, W < 7 → ∀ w : Nat, w < 6 → ∀ k : Nat, k < 64 → ¬ (k < 2 ^ W ∧ w < W ∧ hasB (nI k) (nI w + 1) ∧ nI W ≤ nI w + 1) := by decide +kernel
theorem near_b (W : Nat) (hW : W < 7) (w : Nat) (hw : w < 6) (k : Nat) (hk : k < 64) (h1 : k < 2 ^ W) (h2 : w < W) (h3 : hasB (nI k) (nI w + 1)) : ¬ nI W ≤ nI w + 1 := fun q => near_c W hW w hw k hk ⟨h1, h2, h3, q⟩
theorem near_iff (W : Nat) (hW : W < 7) (w : Nat) (hw : w < 6) (k : Nat) (hk : k < 64) (hkW : k < 2 ^ W) (hwW : w < W) : hasB ((nI k <<< ((1 : Int32) &&& 31)) ||| (nI k >>> ((1 : Int32) &&& 31))) (nI w) ↔ ((¬ nI w ≤ 0 ∧ hasB (nI k) (nI w - 1)) ∨ (¬ nI W ≤ nI w + 1 ∧ hasB (nI k) (nI w + 1))) := by
  rw [near_a w hw k hk]
  constructor
  · rintro (h | h)
    · exact Or.inl h
    · exact Or.inr ⟨near_b W hW w hw k hk hkW hwW h, h⟩
  · rintro (h | h)
    · exact Or.inl h
    · exact Or.inr h.2
theorem near_i {L : Nat → List Cl} {M : Hp} (hP : Pw L M) {e w : Nat} (hs : Ps M e) (hw : w < mW M) : hasB ((gi M 80 e <<< ((1 : Int32) &&& 31)) ||| (gi M 80 e >>> ((1 : Int32) &&& 31))) (nI w) ↔ ((¬ nI w ≤ 0 ∧ hasB (gi M 80 e) (nI w - 1)) ∨ (¬ nI (mW M) ≤ nI w + 1 ∧ hasB (gi M 80 e) (nI w + 1))) := by
  have h := near_iff (mW M) hP.w.2 w (by have := hP.w.2; omega) _ (hs.s64 hP) hs.2 hw
  rw [← hs.1] at h
  exact h
def nrS (M : Hp) (e w : Nat) : Prop := hasB ((gi M 80 e <<< ((1 : Int32) &&& 31)) ||| (gi M 80 e >>> ((1 : Int32) &&& 31))) (nI w)
theorem mx0 {z : Int32} (h : 0 ≤ z) : maxI 0 z = z := by
  unfold maxI
  split
  · rfl
  · next q => exact Int32.le_antisymm h (Int32.not_lt.mp q)
theorem mx1 {z : Int32} (h : ¬ 0 ≤ z) : maxI 0 z = 0 := if_neg (fun q => h (Int32.le_of_lt q))
theorem m_isNear {l : Launch} {G : GT} {L : Nat → List Cl} {M σ : Hp} (hM : RM M σ) (hP : Pw L M) {e w : Nat} (he : e < 8) (hw : w < mW M) (hs : Ps M e) : MM l G mM_isNear 2 0 0 [.ref 76, .int (nI e), .int (nI w)] KA σ (PZ (nrS M e w) KA σ) := by
  have hR := hM.1
  have hnear := near_i hP hs hw
  refine MM.of (loc := [(0, .ref 76), (1, .int (nI e)), (2, .int (nI w))]) (by decide +kernel) rfl (Nat.le_of_ble_eq_true rfl) ?_
  refine V_iload_n dM_isNear_0 rfl ?_
  refine V_if_le (tgt := 15) dM_isNear_1 rfl (fun c1 => ?_) (fun c1 => ?_)
  · skip
    refine V_iload_n dM_isNear_15 rfl ?_
    refine V_iconst (v := 1) dM_isNear_16 (by decide) ?_
    refine V_iadd dM_isNear_17 ?_
    refine V_aload_n dM_isNear_18 rfl ?_
    refine V_getE (x := nI (mW M)) dM_isNear_19 flM_7 k76 rfl ((mR hM rfl).trans hP.w.1) ?_
    refine V_icmp_ge (tgt := 40) dM_isNear_22 rfl (fun c22 => ?_) (fun c22 => ?_)
    · skip
      refine V_iconst (v := 0) dM_isNear_40 (by decide) ?_
      refine V_zret dM_isNear_41 rfl rfl rfl ?_
      simp only [PZ, nrS, hnear]
      simp_all
    · skip
      refine V_aload_n dM_isNear_25 rfl ?_
      refine V_iload_n dM_isNear_26 rfl ?_
      refine V_iload_n dM_isNear_27 rfl ?_
      refine V_iconst (v := 1) dM_isNear_28 (by decide) ?_
      refine V_iadd dM_isNear_29 ?_
      refine V_callV (as := [.int (nI e), .int ((nI w) + 1)]) (rest := []) (bs' := 0) rfl dM_isNear_30 cmM_isTrue cvM_isTrue mlM_289 (Or.inl ⟨_, _, _, _, _, rfl, k76, by decide, rfl⟩) rfl rfl (m_isTrue hM he ((nI w) + 1)) (by decide) (Nat.le_refl _) (by decide) (Nat.le_of_ble_eq_true rfl) ?_
      rintro _ _ _ (⟨hb30, rfl, rfl, rfl⟩ | ⟨hb30, rfl, rfl, rfl⟩) -
      · refine V_one ?_
        refine V_if_eq (tgt := 40) dM_isNear_33 rfl (fun h => absurd h (by decide)) (fun _ => ?_)
        refine V_iconst (v := 1) dM_isNear_36 (by decide) ?_
        refine V_goto (tgt := 41) dM_isNear_37 rfl ?_
        refine V_zret dM_isNear_41 rfl rfl rfl ?_
        simp only [PZ, nrS, hnear]
        simp_all
      · refine V_one ?_
        refine V_if_eq (tgt := 40) dM_isNear_33 rfl (fun _ => ?_) (fun h => absurd h (by decide))
        refine V_iconst (v := 0) dM_isNear_40 (by decide) ?_
        refine V_zret dM_isNear_41 rfl rfl rfl ?_
        simp only [PZ, nrS, hnear]
        simp_all
  · skip
    refine V_aload_n dM_isNear_4 rfl ?_
    refine V_iload_n dM_isNear_5 rfl ?_
    refine V_iload_n dM_isNear_6 rfl ?_
    refine V_iconst (v := 1) dM_isNear_7 (by decide) ?_
    refine V_isub dM_isNear_8 ?_
    refine V_callV (as := [.int (nI e), .int ((nI w) - 1)]) (rest := []) (bs' := 0) rfl dM_isNear_9 cmM_isTrue cvM_isTrue mlM_289 (Or.inl ⟨_, _, _, _, _, rfl, k76, by decide, rfl⟩) rfl rfl (m_isTrue hM he ((nI w) - 1)) (by decide) (Nat.le_refl _) (by decide) (Nat.le_of_ble_eq_true rfl) ?_
    rintro _ _ _ (⟨hb9, rfl, rfl, rfl⟩ | ⟨hb9, rfl, rfl, rfl⟩) -
    · refine V_one ?_
      refine V_if_ne (tgt := 36) dM_isNear_12 rfl (fun _ => ?_) (fun h => absurd h (by decide))
      refine V_iconst (v := 1) dM_isNear_36 (by decide) ?_
      refine V_goto (tgt := 41) dM_isNear_37 rfl ?_
      refine V_zret dM_isNear_41 rfl rfl rfl ?_
      simp only [PZ, nrS, hnear]
      simp_all
    · refine V_one ?_
      refine V_if_ne (tgt := 36) dM_isNear_12 rfl (fun h => absurd h (by decide)) (fun _ => ?_)
      refine V_iload_n dM_isNear_15 rfl ?_
      refine V_iconst (v := 1) dM_isNear_16 (by decide) ?_
      refine V_iadd dM_isNear_17 ?_
      refine V_aload_n dM_isNear_18 rfl ?_
      refine V_getE (x := nI (mW M)) dM_isNear_19 flM_7 k76 rfl ((mR hM rfl).trans hP.w.1) ?_
      refine V_icmp_ge (tgt := 40) dM_isNear_22 rfl (fun c22 => ?_) (fun c22 => ?_)
      · skip
        refine V_iconst (v := 0) dM_isNear_40 (by decide) ?_
        refine V_zret dM_isNear_41 rfl rfl rfl ?_
        simp only [PZ, nrS, hnear]
        simp_all
      · skip
        refine V_aload_n dM_isNear_25 rfl ?_
        refine V_iload_n dM_isNear_26 rfl ?_
        refine V_iload_n dM_isNear_27 rfl ?_
        refine V_iconst (v := 1) dM_isNear_28 (by decide) ?_
        refine V_iadd dM_isNear_29 ?_
        refine V_callV (as := [.int (nI e), .int ((nI w) + 1)]) (rest := []) (bs' := 0) rfl dM_isNear_30 cmM_isTrue cvM_isTrue mlM_289 (Or.inl ⟨_, _, _, _, _, rfl, k76, by decide, rfl⟩) rfl rfl (m_isTrue hM he ((nI w) + 1)) (by decide) (Nat.le_refl _) (by decide) (Nat.le_of_ble_eq_true rfl) ?_
        rintro _ _ _ (⟨hb30, rfl, rfl, rfl⟩ | ⟨hb30, rfl, rfl, rfl⟩) -
        · refine V_one ?_
          refine V_if_eq (tgt := 40) dM_isNear_33 rfl (fun h => absurd h (by decide)) (fun _ => ?_)
          refine V_iconst (v := 1) dM_isNear_36 (by decide) ?_
          refine V_goto (tgt := 41) dM_isNear_37 rfl ?_
          refine V_zret dM_isNear_41 rfl rfl rfl ?_
          simp only [PZ, nrS, hnear]
          simp_all
        · refine V_one ?_
          refine V_if_eq (tgt := 40) dM_isNear_33 rfl (fun _ => ?_) (fun h => absurd h (by decide))
          refine V_iconst (v := 0) dM_isNear_40 (by decide) ?_
          refine V_zret dM_isNear_41 rfl rfl rfl ?_
          simp only [PZ, nrS, hnear]
          simp_all
theorem near_d {M : Hp} {e w : Nat} (x : Int32) : True := trivial
def nrX (M : Hp) (e w : Nat) (x : Int32) : Int32 := if hasB (gi M 80 e) (nI w) then x else if hasB ((gi M 80 e <<< ((1 : Int32) &&& 31)) ||| (gi M 80 e >>> ((1 : Int32) &&& 31))) (nI w) then x / 2 else 0
def ltX (M : Hp) (e w : Nat) (x : Int32) : Int32 := maxI 0 ((if hasB (gi M 80 e) (nI w) then x else 0) - (nI (mD M) - gi M 82 e))
theorem m_near {l : Launch} {G : GT} {L : Nat → List Cl} {M σ : Hp} (hM : RM M σ) (hP : Pw L M) {e w : Nat} (he : e < 8) (hw : w < mW M) (hs : Ps M e) (x : Int32) : MM l G mM_near 3 0 0 [.ref 76, .int (nI e), .int (nI w), .int x] KA σ (PE (some (.int (nrX M e w x))) KA σ) := by
  have hR := hM.1
  refine MM.of (loc := [(0, .ref 76), (1, .int (nI e)), (2, .int (nI w)), (3, .int x)]) (by decide +kernel) rfl (Nat.le_of_ble_eq_true rfl) ?_
  refine V_aload_n dM_near_0 rfl ?_
  refine V_iload_n dM_near_1 rfl ?_
  refine V_iload_n dM_near_2 rfl ?_
  refine V_callV (as := [.int (nI e), .int (nI w)]) (rest := []) (bs' := 0) rfl dM_near_3 cmM_isTrue cvM_isTrue mlM_289 (Or.inl ⟨_, _, _, _, _, rfl, k76, by decide, rfl⟩) rfl rfl (m_isTrue hM he (nI w)) (by decide) (Nat.le_refl _) (by decide) (Nat.le_of_ble_eq_true rfl) ?_
  rintro _ _ _ (⟨hb3, rfl, rfl, rfl⟩ | ⟨hb3, rfl, rfl, rfl⟩) -
  · refine V_one ?_
    refine V_if_eq (tgt := 13) dM_near_6 rfl (fun h => absurd h (by decide)) (fun _ => ?_)
    refine V_iload_n dM_near_9 rfl ?_
    refine V_goto (tgt := 29) dM_near_10 rfl ?_
    refine V_iret dM_near_29 rfl rfl ?_
    refine ⟨congrArg (fun z => some (Value.int z)) ?_, rfl, rfl⟩
    simp only [nrX]
    simp_all [nrS]
  · refine V_one ?_
    refine V_if_eq (tgt := 13) dM_near_6 rfl (fun _ => ?_) (fun h => absurd h (by decide))
    refine V_aload_n dM_near_13 rfl ?_
    refine V_iload_n dM_near_14 rfl ?_
    refine V_iload_n dM_near_15 rfl ?_
    refine V_callV (as := [.int (nI e), .int (nI w)]) (rest := []) (bs' := 0) rfl dM_near_16 cmM_isNear cvM_isNear mlM_292 (Or.inl ⟨_, _, _, _, _, rfl, k76, by decide, rfl⟩) rfl rfl (m_isNear hM hP he hw hs) (by decide) (Nat.le_refl _) (by decide) (Nat.le_of_ble_eq_true rfl) ?_
    rintro _ _ _ (⟨hn, rfl, rfl, rfl⟩ | ⟨hn, rfl, rfl, rfl⟩) -
    · refine V_one ?_
      refine V_if_eq (tgt := 28) dM_near_19 rfl (fun h => absurd h (by decide)) (fun _ => ?_)
      refine V_iload_n dM_near_22 rfl ?_
      refine V_iconst (v := 2) dM_near_23 (by decide) ?_
      refine V_idiv dM_near_24 (by decide) ?_
      refine V_goto (tgt := 29) dM_near_25 rfl ?_
      refine V_iret dM_near_29 rfl rfl ?_
      refine ⟨congrArg (fun z => some (Value.int z)) ?_, rfl, rfl⟩
      simp only [nrX]
      simp_all [nrS]
    · refine V_one ?_
      refine V_if_eq (tgt := 28) dM_near_19 rfl (fun _ => ?_) (fun h => absurd h (by decide))
      refine V_iconst (v := 0) dM_near_28 (by decide) ?_
      refine V_iret dM_near_29 rfl rfl ?_
      refine ⟨congrArg (fun z => some (Value.int z)) ?_, rfl, rfl⟩
      simp only [nrX]
      simp_all [nrS]
theorem m_late {l : Launch} {G : GT} {L : Nat → List Cl} {M σ : Hp} (hM : RM M σ) (hP : Pw L M) {e w : Nat} (he : e < 8) (hw : w < mW M) (hs : Ps M e) (x : Int32) : MM l G mM_late 3 0 0 [.ref 76, .int (nI e), .int (nI w), .int x] KA σ (PE (some (.int (ltX M e w x))) KA σ) := by
  have hR := hM.1
  refine MM.of (loc := [(0, .ref 76), (1, .int (nI e)), (2, .int (nI w)), (3, .int x)]) (by decide +kernel) rfl (Nat.le_of_ble_eq_true rfl) ?_
  refine V_aload_n dM_late_0 rfl ?_
  refine V_iload_n dM_late_1 rfl ?_
  refine V_iload_n dM_late_2 rfl ?_
  refine V_callV (as := [.int (nI e), .int (nI w)]) (rest := []) (bs' := 0) rfl dM_late_3 cmM_isTrue cvM_isTrue mlM_289 (Or.inl ⟨_, _, _, _, _, rfl, k76, by decide, rfl⟩) rfl rfl (m_isTrue hM he (nI w)) (by decide) (Nat.le_refl _) (by decide) (Nat.le_of_ble_eq_true rfl) ?_
  rintro _ _ _ (⟨hb3, rfl, rfl, rfl⟩ | ⟨hb3, rfl, rfl, rfl⟩) -
  · refine V_one ?_
    refine V_if_eq (tgt := 13) dM_late_6 rfl (fun h => absurd h (by decide)) (fun _ => ?_)
    refine V_iload_n dM_late_9 rfl ?_
    refine V_goto (tgt := 14) dM_late_10 rfl ?_
    refine V_aload_n dM_late_14 rfl ?_
    refine V_iload_n dM_late_15 rfl ?_
    refine V_callV (as := [.int (nI e)]) (rest := [.int x]) (bs' := 0) rfl dM_late_16 cmM_old cvM_old mlM_220 (Or.inl ⟨_, _, _, _, _, rfl, k76, by decide, rfl⟩) rfl rfl (m_old hM hP he) (by decide) (Nat.le_refl _) (by decide) (Nat.le_of_ble_eq_true rfl) ?_
    rintro _ _ _ ⟨rfl, rfl, rfl⟩ -
    refine V_one ?_
    refine V_isub dM_late_19 ?_
    refine V_istore (loc' := [(4, .int (x - (nI (mD M) - gi M 82 e))), (0, .ref 76), (1, .int (nI e)), (2, .int (nI w)), (3, .int x)]) dM_late_20 (by decide) rfl ?_
    refine V_iload dM_late_22 rfl ?_
    refine V_if_ge (tgt := 31) dM_late_24 rfl (fun c24 => ?_) (fun c24 => ?_)
    · skip
      refine V_iload dM_late_31 rfl ?_
      refine V_iret dM_late_33 rfl rfl ?_
      refine ⟨congrArg (fun z => some (Value.int z)) ?_, rfl, rfl⟩
      simp only [ltX]
      first
      | rw [if_pos hb3, mx0 c24]
      | rw [if_neg hb3, mx0 c24]
    · skip
      refine V_iconst (v := 0) dM_late_27 (by decide) ?_
      refine V_goto (tgt := 33) dM_late_28 rfl ?_
      refine V_iret dM_late_33 rfl rfl ?_
      refine ⟨congrArg (fun z => some (Value.int z)) ?_, rfl, rfl⟩
      simp only [ltX]
      first
      | rw [if_pos hb3, mx1 c24]
      | rw [if_neg hb3, mx1 c24]
  · refine V_one ?_
    refine V_if_eq (tgt := 13) dM_late_6 rfl (fun _ => ?_) (fun h => absurd h (by decide))
    refine V_iconst (v := 0) dM_late_13 (by decide) ?_
    refine V_aload_n dM_late_14 rfl ?_
    refine V_iload_n dM_late_15 rfl ?_
    refine V_callV (as := [.int (nI e)]) (rest := [.int 0]) (bs' := 0) rfl dM_late_16 cmM_old cvM_old mlM_220 (Or.inl ⟨_, _, _, _, _, rfl, k76, by decide, rfl⟩) rfl rfl (m_old hM hP he) (by decide) (Nat.le_refl _) (by decide) (Nat.le_of_ble_eq_true rfl) ?_
    rintro _ _ _ ⟨rfl, rfl, rfl⟩ -
    refine V_one ?_
    refine V_isub dM_late_19 ?_
    refine V_istore (loc' := [(4, .int (0 - (nI (mD M) - gi M 82 e))), (0, .ref 76), (1, .int (nI e)), (2, .int (nI w)), (3, .int x)]) dM_late_20 (by decide) rfl ?_
    refine V_iload dM_late_22 rfl ?_
    refine V_if_ge (tgt := 31) dM_late_24 rfl (fun c24 => ?_) (fun c24 => ?_)
    · skip
      refine V_iload dM_late_31 rfl ?_
      refine V_iret dM_late_33 rfl rfl ?_
      refine ⟨congrArg (fun z => some (Value.int z)) ?_, rfl, rfl⟩
      simp only [ltX]
      first
      | rw [if_pos hb3, mx0 c24]
      | rw [if_neg hb3, mx0 c24]
    · skip
      refine V_iconst (v := 0) dM_late_27 (by decide) ?_
      refine V_goto (tgt := 33) dM_late_28 rfl ?_
      refine V_iret dM_late_33 rfl rfl ?_
      refine ⟨congrArg (fun z => some (Value.int z)) ?_, rfl, rfl⟩
      simp only [ltX]
      first
      | rw [if_pos hb3, mx1 c24]
      | rw [if_neg hb3, mx1 c24]
theorem m_gross {l : Launch} {G : GT} {L : Nat → List Cl} {M σ : Hp} (hM : RM M σ) (hP : Pw L M) {e w : Nat} (he : e < 8) (hw : w < mW M) (hs : Ps M e) (hd : mD M < 20000) : MM l G mM_gross 4 0 0 [.ref 76, .int (nI e), .int (nI w)] KA σ (PE (some (.int (grossI L M e w (gi M 80 e) (mD M)))) KA σ) := by
  have hR := hM.1
  refine MM.of (loc := [(0, .ref 76), (1, .int (nI e)), (2, .int (nI w))]) (by decide +kernel) rfl (Nat.le_of_ble_eq_true rfl) ?_
  refine V_aload_n dM_gross_0 rfl ?_
  refine V_callV (as := []) (rest := []) (bs' := 0) rfl dM_gross_1 cmM_base cvM_base mlM_295 (Or.inl ⟨_, _, _, _, _, rfl, k76, by decide, rfl⟩) rfl rfl (m_base hM hP) (by decide) (Nat.le_refl _) (by decide) (Nat.le_of_ble_eq_true rfl) ?_
  rintro _ _ _ ⟨rfl, rfl, rfl⟩ -
  refine V_one ?_
  refine V_aload_n dM_gross_4 rfl ?_
  refine V_getR (a := 79) dM_gross_5 flM_29 k76 rfl (r76_6 hR) ?_
  refine V_iload_n dM_gross_8 rfl ?_
  refine V_ialdN (j := e) dM_gross_9 k79 rfl (by omega) (by decide) ?_
  refine V_topI (x' := gi M 79 e) (mR hM rfl) ?_
  refine V_imul dM_gross_10 ?_
  refine V_istore_n (loc' := [(3, .int ((bsS L M (gi M 76 12)) * (gi M 79 e))), (0, .ref 76), (1, .int (nI e)), (2, .int (nI w))]) dM_gross_11 (by decide) rfl ?_
  refine V_aload_n dM_gross_12 rfl ?_
  refine V_iload_n dM_gross_13 rfl ?_
  refine V_iload_n dM_gross_14 rfl ?_
  refine V_callV (as := [.int (nI e), .int (nI w)]) (rest := []) (bs' := 0) rfl dM_gross_15 cmM_isTrue cvM_isTrue mlM_289 (Or.inl ⟨_, _, _, _, _, rfl, k76, by decide, rfl⟩) rfl rfl (m_isTrue hM he (nI w)) (by decide) (Nat.le_refl _) (by decide) (Nat.le_of_ble_eq_true rfl) ?_
  rintro _ _ _ (⟨hb15, rfl, rfl, rfl⟩ | ⟨hb15, rfl, rfl, rfl⟩) -
  · refine V_one ?_
    refine V_istore (loc' := [(4, .int 1), (3, .int ((bsS L M (gi M 76 12)) * (gi M 79 e))), (0, .ref 76), (1, .int (nI e)), (2, .int (nI w))]) dM_gross_18 (by decide) rfl ?_
    refine V_aload_n dM_gross_20 rfl ?_
    refine V_getR (a := 78) dM_gross_21 flM_26 k76 rfl (r76_5 hR) ?_
    refine V_iload_n dM_gross_24 rfl ?_
    refine V_ialdN (j := e) dM_gross_25 k78 rfl (by omega) (by decide) ?_
    refine V_topI (x' := gi M 78 e) (mR hM rfl) ?_
    by_cases s26_1 : (gi M 78 e) = 1
    · skip
      refine V_tsC (tgt := 64) 1 s26_1 dM_gross_26 (by decide) (by decide) rfl rfl ?_
      refine V_aload_n dM_gross_64 rfl ?_
      refine V_iload_n dM_gross_65 rfl ?_
      refine V_iload_n dM_gross_66 rfl ?_
      refine V_iload_n dM_gross_67 rfl ?_
      refine V_callV (as := [.int (nI e), .int (nI w), .int ((bsS L M (gi M 76 12)) * (gi M 79 e))]) (rest := []) (bs' := 0) rfl dM_gross_68 cmM_near cvM_near mlM_298 (Or.inl ⟨_, _, _, _, _, rfl, k76, by decide, rfl⟩) rfl rfl (m_near hM hP he hw hs ((bsS L M (gi M 76 12)) * (gi M 79 e))) (by decide) (Nat.le_refl _) (by decide) (Nat.le_of_ble_eq_true rfl) ?_
      rintro _ _ _ ⟨rfl, rfl, rfl⟩ -
      refine V_one ?_
      refine V_iret dM_gross_71 rfl rfl ?_
      refine ⟨congrArg (fun z => some (Value.int z)) ?_, rfl, rfl⟩
      simp only [grossI, grK, lateI, nrX, ltX]
      simp_all [Int32.sub_eq_add_neg, Int32.add_assoc]
    by_cases s26_2 : (gi M 78 e) = 2
    · skip
      refine V_tsC (tgt := 72) 2 s26_2 dM_gross_26 (by decide) (by decide) rfl rfl ?_
      refine V_iload dM_gross_72 rfl ?_
      refine V_if_eq (tgt := 94) dM_gross_74 rfl (fun h => absurd h (by decide)) (fun _ => ?_)
      refine V_iconst (v := 4) dM_gross_77 (by decide) ?_
      refine V_iload_n dM_gross_78 rfl ?_
      refine V_imul dM_gross_79 ?_
      refine V_aload_n dM_gross_80 rfl ?_
      refine V_aload_n dM_gross_81 rfl ?_
      refine V_getR (a := 80) dM_gross_82 flM_32 k76 rfl (r76_7 hR) ?_
      refine V_iload_n dM_gross_85 rfl ?_
      refine V_ialdN (j := e) dM_gross_86 k80 rfl (by omega) (by decide) ?_
      refine V_topI (x' := gi M 80 e) (mR hM rfl) ?_
      refine V_callV (as := [.int (gi M 80 e)]) (rest := [.int (4 * ((bsS L M (gi M 76 12)) * (gi M 79 e)))]) (bs' := 0) rfl dM_gross_87 cmM_ones cvM_ones mlM_276 (Or.inl ⟨_, _, _, _, _, rfl, k76, by decide, rfl⟩) rfl rfl (m_ones (gi M 80 e) _ (hs.s64 hP) hs.1) (by decide) (Nat.le_refl _) (by decide) (Nat.le_of_ble_eq_true rfl) ?_
      rintro _ _ _ ⟨rfl, rfl, rfl⟩ -
      refine V_one ?_
      refine V_idiv dM_gross_90 (fun q => absurd hb15 (by rw [hs.1, pc_z _ (hs.s64 hP) (by rw [← hs.1]; exact q)]; exact hasB0 (by have := hP.w.2; omega))) ?_
      refine V_goto (tgt := 95) dM_gross_91 rfl ?_
      refine V_iret dM_gross_95 rfl rfl ?_
      refine ⟨congrArg (fun z => some (Value.int z)) ?_, rfl, rfl⟩
      simp only [grossI, grK, lateI, nrX, ltX]
      simp_all [Int32.sub_eq_add_neg, Int32.add_assoc]
    by_cases s26_3 : (gi M 78 e) = 3
    · skip
      refine V_tsC (tgt := 96) 3 s26_3 dM_gross_26 (by decide) (by decide) rfl rfl ?_
      refine V_aload_n dM_gross_96 rfl ?_
      refine V_iload_n dM_gross_97 rfl ?_
      refine V_iload_n dM_gross_98 rfl ?_
      refine V_iload_n dM_gross_99 rfl ?_
      refine V_callV (as := [.int (nI e), .int (nI w), .int ((bsS L M (gi M 76 12)) * (gi M 79 e))]) (rest := []) (bs' := 0) rfl dM_gross_100 cmM_late cvM_late mlM_301 (Or.inl ⟨_, _, _, _, _, rfl, k76, by decide, rfl⟩) rfl rfl (m_late hM hP he hw hs ((bsS L M (gi M 76 12)) * (gi M 79 e))) (by decide) (Nat.le_refl _) (by decide) (Nat.le_of_ble_eq_true rfl) ?_
      rintro _ _ _ ⟨rfl, rfl, rfl⟩ -
      refine V_one ?_
      refine V_iret dM_gross_103 rfl rfl ?_
      refine ⟨congrArg (fun z => some (Value.int z)) ?_, rfl, rfl⟩
      simp only [grossI, grK, lateI, nrX, ltX]
      simp_all [Int32.sub_eq_add_neg, Int32.add_assoc]
    by_cases s26_4 : (gi M 78 e) = 4
    · skip
      refine V_tsC (tgt := 104) 4 s26_4 dM_gross_26 (by decide) (by decide) rfl rfl ?_
      refine V_aload_n dM_gross_104 rfl ?_
      refine V_iload_n dM_gross_105 rfl ?_
      refine V_iload_n dM_gross_106 rfl ?_
      refine V_iload_n dM_gross_107 rfl ?_
      refine V_callV (as := [.int (nI e), .int (nI w), .int ((bsS L M (gi M 76 12)) * (gi M 79 e))]) (rest := []) (bs' := 0) rfl dM_gross_108 cmM_near cvM_near mlM_298 (Or.inl ⟨_, _, _, _, _, rfl, k76, by decide, rfl⟩) rfl rfl (m_near hM hP he hw hs ((bsS L M (gi M 76 12)) * (gi M 79 e))) (by decide) (Nat.le_refl _) (by decide) (Nat.le_of_ble_eq_true rfl) ?_
      rintro _ _ _ ⟨rfl, rfl, rfl⟩ -
      refine V_one ?_
      refine V_iload dM_gross_111 rfl ?_
      refine V_if_eq (tgt := 128) dM_gross_113 rfl (fun h => absurd h (by decide)) (fun _ => ?_)
      refine V_bipush (v := 30) dM_gross_116 (by decide) ?_
      refine V_aload_n dM_gross_118 rfl ?_
      refine V_getR (a := 77) dM_gross_119 flM_22 k76 rfl (r76_4 hR) ?_
      refine V_iload_n dM_gross_122 rfl ?_
      refine V_ialdN (j := w) dM_gross_123 k77 rfl (by have := hP.w.2; omega) (by decide) ?_
      refine V_topI (x' := gi M 77 w) (mR hM rfl) ?_
      refine V_isub dM_gross_124 ?_
      refine V_goto (tgt := 129) dM_gross_125 rfl ?_
      refine V_iadd dM_gross_129 ?_
      refine V_iret dM_gross_130 rfl rfl ?_
      refine ⟨congrArg (fun z => some (Value.int z)) ?_, rfl, rfl⟩
      simp only [grossI, grK, lateI, nrX, ltX]
      simp_all [Int32.sub_eq_add_neg, Int32.add_assoc]
    by_cases s26_5 : (gi M 78 e) = 5
    · skip
      refine V_tsC (tgt := 131) 5 s26_5 dM_gross_26 (by decide) (by decide) rfl rfl ?_
      refine V_iload dM_gross_131 rfl ?_
      refine V_if_eq (tgt := 153) dM_gross_133 rfl (fun h => absurd h (by decide)) (fun _ => ?_)
      refine V_iconst (v := 4) dM_gross_136 (by decide) ?_
      refine V_iload_n dM_gross_137 rfl ?_
      refine V_imul dM_gross_138 ?_
      refine V_aload_n dM_gross_139 rfl ?_
      refine V_aload_n dM_gross_140 rfl ?_
      refine V_getR (a := 80) dM_gross_141 flM_32 k76 rfl (r76_7 hR) ?_
      refine V_iload_n dM_gross_144 rfl ?_
      refine V_ialdN (j := e) dM_gross_145 k80 rfl (by omega) (by decide) ?_
      refine V_topI (x' := gi M 80 e) (mR hM rfl) ?_
      refine V_callV (as := [.int (gi M 80 e)]) (rest := [.int (4 * ((bsS L M (gi M 76 12)) * (gi M 79 e)))]) (bs' := 0) rfl dM_gross_146 cmM_ones cvM_ones mlM_276 (Or.inl ⟨_, _, _, _, _, rfl, k76, by decide, rfl⟩) rfl rfl (m_ones (gi M 80 e) _ (hs.s64 hP) hs.1) (by decide) (Nat.le_refl _) (by decide) (Nat.le_of_ble_eq_true rfl) ?_
      rintro _ _ _ ⟨rfl, rfl, rfl⟩ -
      refine V_one ?_
      refine V_idiv dM_gross_149 (fun q => absurd hb15 (by rw [hs.1, pc_z _ (hs.s64 hP) (by rw [← hs.1]; exact q)]; exact hasB0 (by have := hP.w.2; omega))) ?_
      refine V_goto (tgt := 157) dM_gross_150 rfl ?_
      refine V_iret dM_gross_157 rfl rfl ?_
      refine ⟨congrArg (fun z => some (Value.int z)) ?_, rfl, rfl⟩
      simp only [grossI, grK, lateI, nrX, ltX]
      simp_all [Int32.sub_eq_add_neg, Int32.add_assoc]
    by_cases s26_6 : (gi M 78 e) = 6
    · skip
      refine V_tsC (tgt := 158) 6 s26_6 dM_gross_26 (by decide) (by decide) rfl rfl ?_
      refine V_aload_n dM_gross_158 rfl ?_
      refine V_iload_n dM_gross_159 rfl ?_
      refine V_iload_n dM_gross_160 rfl ?_
      refine V_iload_n dM_gross_161 rfl ?_
      refine V_callV (as := [.int (nI e), .int (nI w), .int ((bsS L M (gi M 76 12)) * (gi M 79 e))]) (rest := []) (bs' := 0) rfl dM_gross_162 cmM_late cvM_late mlM_301 (Or.inl ⟨_, _, _, _, _, rfl, k76, by decide, rfl⟩) rfl rfl (m_late hM hP he hw hs ((bsS L M (gi M 76 12)) * (gi M 79 e))) (by decide) (Nat.le_refl _) (by decide) (Nat.le_of_ble_eq_true rfl) ?_
      rintro _ _ _ ⟨rfl, rfl, rfl⟩ -
      refine V_one ?_
      refine V_aload_n dM_gross_165 rfl ?_
      refine V_getR (a := 83) dM_gross_166 flM_41 k76 rfl (r76_10 hR) ?_
      refine V_iconst (v := 4) dM_gross_169 (by decide) ?_
      refine V_iload_n dM_gross_170 rfl ?_
      refine V_imul dM_gross_171 ?_
      refine V_aload_n dM_gross_172 rfl ?_
      refine V_getE (x := nI (mD M)) dM_gross_173 flM_16 k76 rfl ((mR hM rfl).trans hP.1.2.2) ?_
      refine V_iconst (v := 4) dM_gross_176 (by decide) ?_
      refine V_irem dM_gross_177 (by decide) ?_
      refine V_iadd dM_gross_178 ?_
      refine V_ialdN (j := 4 * e + mD M % 4) dM_gross_179 k83 (by rw [show (4 : Int32) = nI 4 from rfl, pk_rem (by omega) (by decide) (by decide), pk_mul, nI_add]) (by omega) (by decide) ?_
      refine V_topI (x' := gi M 83 (4 * e + mD M % 4)) (mR hM rfl) ?_
      refine V_iadd dM_gross_180 ?_
      refine V_iret dM_gross_181 rfl rfl ?_
      refine ⟨congrArg (fun z => some (Value.int z)) ?_, rfl, rfl⟩
      simp only [grossI, grK, lateI, nrX, ltX]
      simp_all [Int32.sub_eq_add_neg, Int32.add_assoc]
    have t26_1 := lv_neT (a := 1) s26_1 (by decide)
    have t26_2 := lv_neT (a := 2) s26_2 (by decide)
    have t26_3 := lv_neT (a := 3) s26_3 (by decide)
    have t26_4 := lv_neT (a := 4) s26_4 (by decide)
    have t26_5 := lv_neT (a := 5) s26_5 (by decide)
    have t26_6 := lv_neT (a := 6) s26_6 (by decide)
    refine V_tsD (tgt := 182) dM_gross_26 (by omega) rfl ?_
    refine V_iload dM_gross_182 rfl ?_
    refine V_if_eq (tgt := 191) dM_gross_184 rfl (fun h => absurd h (by decide)) (fun _ => ?_)
    refine V_iload_n dM_gross_187 rfl ?_
    refine V_goto (tgt := 192) dM_gross_188 rfl ?_
    refine V_iret dM_gross_192 rfl rfl ?_
    refine ⟨congrArg (fun z => some (Value.int z)) ?_, rfl, rfl⟩
    simp only [grossI, grK, lateI, nrX, ltX]
    simp_all [Int32.sub_eq_add_neg, Int32.add_assoc]
  · refine V_one ?_
    refine V_istore (loc' := [(4, .int 0), (3, .int ((bsS L M (gi M 76 12)) * (gi M 79 e))), (0, .ref 76), (1, .int (nI e)), (2, .int (nI w))]) dM_gross_18 (by decide) rfl ?_
    refine V_aload_n dM_gross_20 rfl ?_
    refine V_getR (a := 78) dM_gross_21 flM_26 k76 rfl (r76_5 hR) ?_
    refine V_iload_n dM_gross_24 rfl ?_
    refine V_ialdN (j := e) dM_gross_25 k78 rfl (by omega) (by decide) ?_
    refine V_topI (x' := gi M 78 e) (mR hM rfl) ?_
    by_cases s26_1 : (gi M 78 e) = 1
    · skip
      refine V_tsC (tgt := 64) 1 s26_1 dM_gross_26 (by decide) (by decide) rfl rfl ?_
      refine V_aload_n dM_gross_64 rfl ?_
      refine V_iload_n dM_gross_65 rfl ?_
      refine V_iload_n dM_gross_66 rfl ?_
      refine V_iload_n dM_gross_67 rfl ?_
      refine V_callV (as := [.int (nI e), .int (nI w), .int ((bsS L M (gi M 76 12)) * (gi M 79 e))]) (rest := []) (bs' := 0) rfl dM_gross_68 cmM_near cvM_near mlM_298 (Or.inl ⟨_, _, _, _, _, rfl, k76, by decide, rfl⟩) rfl rfl (m_near hM hP he hw hs ((bsS L M (gi M 76 12)) * (gi M 79 e))) (by decide) (Nat.le_refl _) (by decide) (Nat.le_of_ble_eq_true rfl) ?_
      rintro _ _ _ ⟨rfl, rfl, rfl⟩ -
      refine V_one ?_
      refine V_iret dM_gross_71 rfl rfl ?_
      refine ⟨congrArg (fun z => some (Value.int z)) ?_, rfl, rfl⟩
      simp only [grossI, grK, lateI, nrX, ltX]
      simp_all [Int32.sub_eq_add_neg, Int32.add_assoc]
    by_cases s26_2 : (gi M 78 e) = 2
    · skip
      refine V_tsC (tgt := 72) 2 s26_2 dM_gross_26 (by decide) (by decide) rfl rfl ?_
      refine V_iload dM_gross_72 rfl ?_
      refine V_if_eq (tgt := 94) dM_gross_74 rfl (fun _ => ?_) (fun h => absurd h (by decide))
      refine V_iconst (v := 0) dM_gross_94 (by decide) ?_
      refine V_iret dM_gross_95 rfl rfl ?_
      refine ⟨congrArg (fun z => some (Value.int z)) ?_, rfl, rfl⟩
      simp only [grossI, grK, lateI, nrX, ltX]
      simp_all [Int32.sub_eq_add_neg, Int32.add_assoc]
    by_cases s26_3 : (gi M 78 e) = 3
    · skip
      refine V_tsC (tgt := 96) 3 s26_3 dM_gross_26 (by decide) (by decide) rfl rfl ?_
      refine V_aload_n dM_gross_96 rfl ?_
      refine V_iload_n dM_gross_97 rfl ?_
      refine V_iload_n dM_gross_98 rfl ?_
      refine V_iload_n dM_gross_99 rfl ?_
      refine V_callV (as := [.int (nI e), .int (nI w), .int ((bsS L M (gi M 76 12)) * (gi M 79 e))]) (rest := []) (bs' := 0) rfl dM_gross_100 cmM_late cvM_late mlM_301 (Or.inl ⟨_, _, _, _, _, rfl, k76, by decide, rfl⟩) rfl rfl (m_late hM hP he hw hs ((bsS L M (gi M 76 12)) * (gi M 79 e))) (by decide) (Nat.le_refl _) (by decide) (Nat.le_of_ble_eq_true rfl) ?_
      rintro _ _ _ ⟨rfl, rfl, rfl⟩ -
      refine V_one ?_
      refine V_iret dM_gross_103 rfl rfl ?_
      refine ⟨congrArg (fun z => some (Value.int z)) ?_, rfl, rfl⟩
      simp only [grossI, grK, lateI, nrX, ltX]
      simp_all [Int32.sub_eq_add_neg, Int32.add_assoc]
    by_cases s26_4 : (gi M 78 e) = 4
    · skip
      refine V_tsC (tgt := 104) 4 s26_4 dM_gross_26 (by decide) (by decide) rfl rfl ?_
      refine V_aload_n dM_gross_104 rfl ?_
      refine V_iload_n dM_gross_105 rfl ?_
      refine V_iload_n dM_gross_106 rfl ?_
      refine V_iload_n dM_gross_107 rfl ?_
      refine V_callV (as := [.int (nI e), .int (nI w), .int ((bsS L M (gi M 76 12)) * (gi M 79 e))]) (rest := []) (bs' := 0) rfl dM_gross_108 cmM_near cvM_near mlM_298 (Or.inl ⟨_, _, _, _, _, rfl, k76, by decide, rfl⟩) rfl rfl (m_near hM hP he hw hs ((bsS L M (gi M 76 12)) * (gi M 79 e))) (by decide) (Nat.le_refl _) (by decide) (Nat.le_of_ble_eq_true rfl) ?_
      rintro _ _ _ ⟨rfl, rfl, rfl⟩ -
      refine V_one ?_
      refine V_iload dM_gross_111 rfl ?_
      refine V_if_eq (tgt := 128) dM_gross_113 rfl (fun _ => ?_) (fun h => absurd h (by decide))
      refine V_iconst (v := 0) dM_gross_128 (by decide) ?_
      refine V_iadd dM_gross_129 ?_
      refine V_iret dM_gross_130 rfl rfl ?_
      refine ⟨congrArg (fun z => some (Value.int z)) ?_, rfl, rfl⟩
      simp only [grossI, grK, lateI, nrX, ltX]
      simp_all [Int32.sub_eq_add_neg, Int32.add_assoc]
    by_cases s26_5 : (gi M 78 e) = 5
    · skip
      refine V_tsC (tgt := 131) 5 s26_5 dM_gross_26 (by decide) (by decide) rfl rfl ?_
      refine V_iload dM_gross_131 rfl ?_
      refine V_if_eq (tgt := 153) dM_gross_133 rfl (fun _ => ?_) (fun h => absurd h (by decide))
      refine V_aload_n dM_gross_153 rfl ?_
      refine V_callV (as := []) (rest := []) (bs' := 0) rfl dM_gross_154 cmM_base cvM_base mlM_295 (Or.inl ⟨_, _, _, _, _, rfl, k76, by decide, rfl⟩) rfl rfl (m_base hM hP) (by decide) (Nat.le_refl _) (by decide) (Nat.le_of_ble_eq_true rfl) ?_
      rintro _ _ _ ⟨rfl, rfl, rfl⟩ -
      refine V_one ?_
      refine V_iret dM_gross_157 rfl rfl ?_
      refine ⟨congrArg (fun z => some (Value.int z)) ?_, rfl, rfl⟩
      simp only [grossI, grK, lateI, nrX, ltX]
      simp_all [Int32.sub_eq_add_neg, Int32.add_assoc]
    by_cases s26_6 : (gi M 78 e) = 6
    · skip
      refine V_tsC (tgt := 158) 6 s26_6 dM_gross_26 (by decide) (by decide) rfl rfl ?_
      refine V_aload_n dM_gross_158 rfl ?_
      refine V_iload_n dM_gross_159 rfl ?_
      refine V_iload_n dM_gross_160 rfl ?_
      refine V_iload_n dM_gross_161 rfl ?_
      refine V_callV (as := [.int (nI e), .int (nI w), .int ((bsS L M (gi M 76 12)) * (gi M 79 e))]) (rest := []) (bs' := 0) rfl dM_gross_162 cmM_late cvM_late mlM_301 (Or.inl ⟨_, _, _, _, _, rfl, k76, by decide, rfl⟩) rfl rfl (m_late hM hP he hw hs ((bsS L M (gi M 76 12)) * (gi M 79 e))) (by decide) (Nat.le_refl _) (by decide) (Nat.le_of_ble_eq_true rfl) ?_
      rintro _ _ _ ⟨rfl, rfl, rfl⟩ -
      refine V_one ?_
      refine V_aload_n dM_gross_165 rfl ?_
      refine V_getR (a := 83) dM_gross_166 flM_41 k76 rfl (r76_10 hR) ?_
      refine V_iconst (v := 4) dM_gross_169 (by decide) ?_
      refine V_iload_n dM_gross_170 rfl ?_
      refine V_imul dM_gross_171 ?_
      refine V_aload_n dM_gross_172 rfl ?_
      refine V_getE (x := nI (mD M)) dM_gross_173 flM_16 k76 rfl ((mR hM rfl).trans hP.1.2.2) ?_
      refine V_iconst (v := 4) dM_gross_176 (by decide) ?_
      refine V_irem dM_gross_177 (by decide) ?_
      refine V_iadd dM_gross_178 ?_
      refine V_ialdN (j := 4 * e + mD M % 4) dM_gross_179 k83 (by rw [show (4 : Int32) = nI 4 from rfl, pk_rem (by omega) (by decide) (by decide), pk_mul, nI_add]) (by omega) (by decide) ?_
      refine V_topI (x' := gi M 83 (4 * e + mD M % 4)) (mR hM rfl) ?_
      refine V_iadd dM_gross_180 ?_
      refine V_iret dM_gross_181 rfl rfl ?_
      refine ⟨congrArg (fun z => some (Value.int z)) ?_, rfl, rfl⟩
      simp only [grossI, grK, lateI, nrX, ltX]
      simp_all [Int32.sub_eq_add_neg, Int32.add_assoc]
    have t26_1 := lv_neT (a := 1) s26_1 (by decide)
    have t26_2 := lv_neT (a := 2) s26_2 (by decide)
    have t26_3 := lv_neT (a := 3) s26_3 (by decide)
    have t26_4 := lv_neT (a := 4) s26_4 (by decide)
    have t26_5 := lv_neT (a := 5) s26_5 (by decide)
    have t26_6 := lv_neT (a := 6) s26_6 (by decide)
    refine V_tsD (tgt := 182) dM_gross_26 (by omega) rfl ?_
    refine V_iload dM_gross_182 rfl ?_
    refine V_if_eq (tgt := 191) dM_gross_184 rfl (fun _ => ?_) (fun h => absurd h (by decide))
    refine V_iconst (v := 0) dM_gross_191 (by decide) ?_
    refine V_iret dM_gross_192 rfl rfl ?_
    refine ⟨congrArg (fun z => some (Value.int z)) ?_, rfl, rfl⟩
    simp only [grossI, grK, lateI, nrX, ltX]
    simp_all [Int32.sub_eq_add_neg, Int32.add_assoc]
theorem m_payOf {l : Launch} {G : GT} {L : Nat → List Cl} {M σ : Hp} (hM : RM M σ) (hP : Pw L M) {e w : Nat} (he : e < 8) (hw : w < mW M) (hs : Ps M e) (hd : mD M < 20000) : MM l G mM_payOf 5 0 0 [.ref 76, .int (nI e), .int (nI w)] KA σ (QX (some (.int (payS L M e w))) σ) := by
  have hR := hM.1
  have hM0 := hM
  have hF : Gz σ σ := Gz.rfl
  refine MM.of (loc := [(0, .ref 76), (1, .int (nI e)), (2, .int (nI w))]) (by decide +kernel) rfl (Nat.le_of_ble_eq_true rfl) ?_
  refine V_aload_n dM_payOf_0 rfl ?_
  refine V_iload_n dM_payOf_1 rfl ?_
  refine V_iload_n dM_payOf_2 rfl ?_
  refine V_callV (as := [.int (nI e), .int (nI w)]) (rest := []) (bs' := 0) rfl dM_payOf_3 cmM_gross cvM_gross mlM_304 (Or.inl ⟨_, _, _, _, _, rfl, k76, by decide, rfl⟩) rfl rfl (m_gross hM hP he hw hs hd) (by decide) (Nat.le_refl _) (by decide) (Nat.le_of_ble_eq_true rfl) ?_
  rintro _ _ _ ⟨rfl, rfl, rfl⟩ -
  refine V_one ?_
  refine V_aload_n dM_payOf_6 rfl ?_
  refine V_iload_n dM_payOf_7 rfl ?_
  refine V_iload_n dM_payOf_8 rfl ?_
  refine V_callV (as := [.int (nI e), .int (nI w)]) (rest := [.int (grossI L M e w (gi M 80 e) (mD M))]) (bs' := 0) rfl dM_payOf_9 cmM_extra cvM_extra mlM_308 (Or.inl ⟨_, _, _, _, _, rfl, k76, by decide, rfl⟩) rfl rfl (m_extra hM hP he (by have := hP.w.2; omega) hs) (by decide) (Nat.le_refl _) (by decide) (Nat.le_of_ble_eq_true rfl) ?_
  rintro _ _ s1 ⟨rfl, rfl, hF1⟩ -
  refine V_one ?_
  have hF := hF.trans hF1
  have hM := hF.rm hM0
  have hR := hM.1
  refine V_iadd dM_payOf_12 ?_
  refine V_istore_n (loc' := [(3, .int ((grossI L M e w (gi M 80 e) (mD M)) + (exS L M (facI M e w (gi M 80 e) (mD M)) (gi M 76 12)))), (0, .ref 76), (1, .int (nI e)), (2, .int (nI w))]) dM_payOf_13 (by decide) rfl ?_
  refine V_iload_n dM_payOf_14 rfl ?_
  refine V_if_ge (tgt := 22) dM_payOf_15 rfl (fun c15 => ?_) (fun c15 => ?_)
  · skip
    refine V_iload_n dM_payOf_22 rfl ?_
    exact V_iret dM_payOf_23 rfl rfl ⟨by rw [payS, payI, mx0 c15], rfl, hF⟩
  · skip
    refine V_iconst (v := 0) dM_payOf_18 (by decide) ?_
    refine V_goto (tgt := 23) dM_payOf_19 rfl ?_
    exact V_iret dM_payOf_23 rfl rfl ⟨by rw [payS, payI, mx1 c15], rfl, hF⟩
