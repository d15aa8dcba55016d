/-! the tapes: shift -/
def shp (i n : Int32) (len : Nat) : Prop := (0 ≤ i ∧ 0 ≤ n) ∧ n ≤ nI len ∧ i ≤ nI len - n
theorem shp_n {i n : Int32} {len : Nat} (h : shp i n len) (hl : len < 61) : i = nI (cN i) ∧ n = nI (cN n) ∧ cN i + cN n ≤ len := by
  obtain ⟨⟨h1, h2⟩, h3, h4⟩ := h
  obtain ⟨a, ha, rfl⟩ := nI_of (Int32.not_lt.mpr h1)
  obtain ⟨b, hb, rfl⟩ := nI_of (Int32.not_lt.mpr h2)
  rw [nI_cN ha, nI_cN hb]
  have h5 := (nI_leI hb (by omega)).mp h3
  rw [pk_sub h5, nI_leI ha (by omega)] at h4
  exact ⟨rfl, rfl, by omega⟩
theorem shp_m {i n : Int32} {len : Nat} (hn : 0 ≤ n) (hi : 0 ≤ i) (h : i ≤ nI len - n) (hl : len < 61) : shp i n len := by
  refine ⟨⟨hi, hn⟩, ?_, h⟩
  obtain ⟨b, hb, rfl⟩ := nI_of (Int32.not_lt.mpr hn)
  rw [nI_leI hb (by omega)]
  apply Nat.le_of_not_lt
  intro q
  have h2 := Int32.le_trans hi h
  rw [Int32.le_iff_toInt_le, Int32.toInt_sub, nI_toInt (by omega), nI_toInt hb] at h2
  have e : ((len : Int) - b).bmod (2 ^ 32) = (len : Int) - b := Int.bmod_eq_of_le (by omega) (by omega)
  rw [e] at h2
  have e0 : (0 : Int32).toInt = 0 := rfl
  omega
def cpI (M : Hp) (a b n : Nat) : Hp := cl64 M 115 115 a b n
def q_shift (M : Hp) (t i u j n : Int32) : Int32 × Hp := if rng t 6 ∧ rng u 6 then (if ¬ gi M 113 (cN t) = -1 ∧ ¬ gi M 113 (cN u) = -1 then (if gi M 113 (cN t) = gi M 113 (cN u) then (if ((0 ≤ i ∧ 0 ≤ n) ∧ n ≤ nI (cN (gi M 114 (cN t))) ∧ i ≤ nI (cN (gi M 114 (cN t))) - n) ∧ ((0 ≤ j ∧ 0 ≤ n) ∧ n ≤ nI (cN (gi M 114 (cN u))) ∧ j ≤ nI (cN (gi M 114 (cN u))) - n) then (n, cpI M (60 * cN t + cN i) (60 * cN u + cN j) (cN n)) else (-13, M)) else (-12, M)) else (-11, M)) else (-1, M)
theorem cl_in {M : Hp} {k0 k1 sp dp n b : Nat} (h : dp ≤ b ∧ b < dp + n) : gl (cl64 M k0 k1 sp dp n) k1 b = gl M k0 (sp + (b - dp)) := if_pos ⟨rfl, h⟩
theorem cl_out {M : Hp} {k0 k1 sp dp n a b : Nat} (h : ¬ (a = k1 ∧ dp ≤ b ∧ b < dp + n)) : gl (cl64 M k0 k1 sp dp n) a b = gl M a b := if_neg h
theorem RC_cp {L : Nat → List Cl} {M σ : Hp} {t u i j n : Nat} (hC : RC L M σ) (ht : t < 6) (hu : u < 6) (hi : i + n ≤ 60) (hj : j + n ≤ 60) : RC L (cpI M (60 * t + i) (60 * u + j) n) (cl64 σ (70 + t) (70 + u) i j n) := by
  obtain ⟨h1, h2, h3, h4, h5⟩ := hC
  refine ⟨h1, h2, h3, fun v m hv hm => ?_, h5⟩
  by_cases e : v = u ∧ j ≤ m ∧ m < j + n
  · obtain ⟨rfl, e1, e2⟩ := e
    rw [cl_in ⟨e1, e2⟩, h4 t (i + (m - j)) ht (by omega)]
    unfold cpI
    rw [cl_in (by omega)]
    congr 1
    omega
  · unfold cpI
    rw [cl_out (by omega), cl_out (by omega)]
    exact h4 v m hv hm
theorem Sm.cp {σ s : Hp} {k0 k1 sp dp n : Nat} (h : Sm σ s) (hk : k1 < 76) : Sm σ (cl64 s k0 k1 sp dp n) := fun k' j' h' => ⟨(h k' j' h').1, (cl_out (by omega)).trans (h k' j' h').2⟩
theorem cp_0 {M : Hp} {a b : Nat} : cpI M a b 0 = M := by
  unfold cpI cl64
  obtain ⟨x, y, z⟩ := M
  simp only []
  congr 2
  funext k j
  rw [if_neg (by omega)]
theorem cp_s {M : Hp} {a b n : Nat} : sl (cpI M a b n) 115 (b + n) (gl M 115 (a + n)) = cpI M a b (n + 1) := by
  unfold cpI cl64 sl gl
  obtain ⟨x, y, z⟩ := M
  simp only []
  congr 2
  funext k j
  by_cases h : k = 115 ∧ j = b + n
  · obtain ⟨rfl, rfl⟩ := h
    rw [if_pos ⟨rfl, rfl⟩, if_pos (by omega), show b + n - b = n by omega]
  · rw [if_neg h]
    by_cases h2 : k = 115 ∧ b ≤ j ∧ j < b + n
    · rw [if_pos h2, if_pos (by omega)]
    · rw [if_neg h2, if_neg (by omega)]
theorem c_thasPlaces {l : Launch} {G : GT} {L : Nat → List Cl} {M σ : Hp} (hC : RC L M σ) (hI : Inv L M) {t : Nat} (ht : t < 6) (i n : Int32) : MM l G mT_hasPlaces 0 0 0 [.ref 66, .int (nI t), .int i, .int n] KA σ (PZ ((0 ≤ i ∧ 0 ≤ n) ∧ n ≤ nI (cN (gi M 114 t)) ∧ i ≤ nI (cN (gi M 114 t)) - n) KA σ) := by
  have hR := hC.1
  refine MM.of (loc := [(0, .ref 66), (1, .int (nI t)), (2, .int i), (3, .int n)]) (by decide +kernel) rfl (Nat.le_of_ble_eq_true rfl) ?_
  refine V_iload_n dT_hasPlaces_0 rfl ?_
  refine V_if_lt (tgt := 34) dT_hasPlaces_1 rfl (fun c1 => ?_) (fun c1 => ?_)
  · skip
    refine V_iconst (v := 0) dT_hasPlaces_34 (by decide) ?_
    exact V_zret dT_hasPlaces_35 rfl rfl rfl (Or.inr ⟨fun q => Int32.not_lt.mpr q.1.1 c1, rfl, rfl, rfl⟩)
  · skip
    refine V_iload_n dT_hasPlaces_4 rfl ?_
    refine V_if_lt (tgt := 34) dT_hasPlaces_5 rfl (fun c5 => ?_) (fun c5 => ?_)
    · skip
      refine V_iconst (v := 0) dT_hasPlaces_34 (by decide) ?_
      exact V_zret dT_hasPlaces_35 rfl rfl rfl (Or.inr ⟨fun q => Int32.not_lt.mpr q.1.2 c5, rfl, rfl, rfl⟩)
    · skip
      refine V_iload_n dT_hasPlaces_8 rfl ?_
      refine V_aload_n dT_hasPlaces_9 rfl ?_
      refine V_getR (a := 68) dT_hasPlaces_10 flT_15 k66 rfl (r66_1 hR) ?_
      refine V_iload_n dT_hasPlaces_13 rfl ?_
      refine V_ialdN (j := t) dT_hasPlaces_14 k68 rfl ht (by decide) ?_
      refine V_topI (x' := nI (cN (gi M 114 t))) ((tZ hC ht).trans (iT hI ht).1.1) ?_
      refine V_icmp_gt (tgt := 34) dT_hasPlaces_15 rfl (fun c15 => ?_) (fun c15 => ?_)
      · skip
        refine V_iconst (v := 0) dT_hasPlaces_34 (by decide) ?_
        exact V_zret dT_hasPlaces_35 rfl rfl rfl (Or.inr ⟨fun q => Int32.not_lt.mpr q.2.1 c15, rfl, rfl, rfl⟩)
      · skip
        refine V_iload_n dT_hasPlaces_18 rfl ?_
        refine V_aload_n dT_hasPlaces_19 rfl ?_
        refine V_getR (a := 68) dT_hasPlaces_20 flT_15 k66 rfl (r66_1 hR) ?_
        refine V_iload_n dT_hasPlaces_23 rfl ?_
        refine V_ialdN (j := t) dT_hasPlaces_24 k68 rfl ht (by decide) ?_
        refine V_topI (x' := nI (cN (gi M 114 t))) ((tZ hC ht).trans (iT hI ht).1.1) ?_
        refine V_iload_n dT_hasPlaces_25 rfl ?_
        refine V_isub dT_hasPlaces_26 ?_
        refine V_icmp_gt (tgt := 34) dT_hasPlaces_27 rfl (fun c27 => ?_) (fun c27 => ?_)
        · skip
          refine V_iconst (v := 0) dT_hasPlaces_34 (by decide) ?_
          exact V_zret dT_hasPlaces_35 rfl rfl rfl (Or.inr ⟨fun q => Int32.not_lt.mpr q.2.2 c27, rfl, rfl, rfl⟩)
        · skip
          refine V_iconst (v := 1) dT_hasPlaces_30 (by decide) ?_
          refine V_goto (tgt := 35) dT_hasPlaces_31 rfl ?_
          exact V_zret dT_hasPlaces_35 rfl rfl rfl (Or.inl ⟨⟨⟨Int32.not_lt.mp c1, Int32.not_lt.mp c5⟩, Int32.not_lt.mp c15, Int32.not_lt.mp c27⟩, rfl, rfl, rfl⟩)
theorem g_shift {l : Launch} {G : GT} {L : Nat → List Cl} {M σ : Hp} (hC : RC L M σ) (hI : Inv L M) (t i u j n : Int32) : MM l G mG_shift 1 0 0 [.ref 0, .int t, .int i, .int u, .int j, .int n] KA σ (PQ L σ (q_shift M t i u j n)) := by
  have hR := hC.1
  have hC0 := hC
  have hS : Sm σ σ := Sm.rfl
  refine MM.of (loc := [(0, .ref 0), (1, .int t), (2, .int i), (3, .int u), (4, .int j), (5, .int n)]) (by decide +kernel) rfl (Nat.le_of_ble_eq_true rfl) ?_
  refine V_aload_n dG_shift_0 rfl ?_
  refine V_getR (a := 66) dG_shift_1 flG_56 k0 rfl (r0_7 hR) ?_
  refine V_iload_n dG_shift_4 rfl ?_
  refine V_callV (as := [.int t]) (rest := []) (bs' := 0) rfl dG_shift_5 cmT_has cvT_has mlG_239 (Or.inl ⟨_, _, _, _, _, rfl, k66, by decide, rfl⟩) rfl rfl (c_thas t) (by decide) (Nat.le_refl _) (by decide) (Nat.le_of_ble_eq_true rfl) ?_
  rintro _ _ _ (⟨hb5, rfl, rfl, rfl⟩ | ⟨hb5, rfl, rfl, rfl⟩) -
  · refine V_one ?_
    refine V_if_eq (tgt := 22) dG_shift_8 rfl (fun h => absurd h (by decide)) (fun _ => ?_)
    refine V_aload_n dG_shift_11 rfl ?_
    refine V_getR (a := 66) dG_shift_12 flG_56 k0 rfl (r0_7 hR) ?_
    refine V_iload_n dG_shift_15 rfl ?_
    refine V_callV (as := [.int u]) (rest := []) (bs' := 0) rfl dG_shift_16 cmT_has cvT_has mlG_239 (Or.inl ⟨_, _, _, _, _, rfl, k66, by decide, rfl⟩) rfl rfl (c_thas u) (by decide) (Nat.le_refl _) (by decide) (Nat.le_of_ble_eq_true rfl) ?_
    rintro _ _ _ (⟨hb16, rfl, rfl, rfl⟩ | ⟨hb16, rfl, rfl, rfl⟩) -
    · refine V_one ?_
      refine V_if_ne (tgt := 24) dG_shift_19 rfl (fun _ => ?_) (fun h => absurd h (by decide))
      refine V_aload_n dG_shift_24 rfl ?_
      refine V_getR (a := 66) dG_shift_25 flG_56 k0 rfl (r0_7 hR) ?_
      refine V_iload_n dG_shift_28 rfl ?_
      refine V_topI (x' := nI (cN t)) (rng_N hb5 (by decide)).1 ?_
      refine V_callV (as := [.int (nI (cN t))]) (rest := []) (bs' := 0) rfl dG_shift_29 cmT_holds cvT_holds mlG_242 (Or.inl ⟨_, _, _, _, _, rfl, k66, by decide, rfl⟩) rfl rfl (c_tholds hC hI (rng_N hb5 (by decide)).2) (by decide) (Nat.le_refl _) (by decide) (Nat.le_of_ble_eq_true rfl) ?_
      rintro _ _ _ (⟨hb29, rfl, rfl, rfl⟩ | ⟨hb29, rfl, rfl, rfl⟩) -
      · refine V_one ?_
        refine V_if_eq (tgt := 46) dG_shift_32 rfl (fun h => absurd h (by decide)) (fun _ => ?_)
        refine V_aload_n dG_shift_35 rfl ?_
        refine V_getR (a := 66) dG_shift_36 flG_56 k0 rfl (r0_7 hR) ?_
        refine V_iload_n dG_shift_39 rfl ?_
        refine V_topI (x' := nI (cN u)) (rng_N hb16 (by decide)).1 ?_
        refine V_callV (as := [.int (nI (cN u))]) (rest := []) (bs' := 0) rfl dG_shift_40 cmT_holds cvT_holds mlG_242 (Or.inl ⟨_, _, _, _, _, rfl, k66, by decide, rfl⟩) rfl rfl (c_tholds hC hI (rng_N hb16 (by decide)).2) (by decide) (Nat.le_refl _) (by decide) (Nat.le_of_ble_eq_true rfl) ?_
        rintro _ _ _ (⟨hb40, rfl, rfl, rfl⟩ | ⟨hb40, rfl, rfl, rfl⟩) -
        · refine V_one ?_
          refine V_if_ne (tgt := 49) dG_shift_43 rfl (fun _ => ?_) (fun h => absurd h (by decide))
          refine V_aload_n dG_shift_49 rfl ?_
          refine V_getR (a := 66) dG_shift_50 flG_56 k0 rfl (r0_7 hR) ?_
          refine V_getR (a := 67) dG_shift_53 flG_299 k66 rfl (r66_0 hR) ?_
          refine V_iload_n dG_shift_56 rfl ?_
          refine V_ialdN (j := cN t) dG_shift_57 k67 (rng_N hb5 (by decide)).1 (rng_N hb5 (by decide)).2 (by decide) ?_
          refine V_topI (x' := gi M 113 (cN t)) (tS hC (rng_N hb5 (by decide)).2) ?_
          refine V_aload_n dG_shift_58 rfl ?_
          refine V_getR (a := 66) dG_shift_59 flG_56 k0 rfl (r0_7 hR) ?_
          refine V_getR (a := 67) dG_shift_62 flG_299 k66 rfl (r66_0 hR) ?_
          refine V_iload_n dG_shift_65 rfl ?_
          refine V_ialdN (j := cN u) dG_shift_66 k67 (rng_N hb16 (by decide)).1 (rng_N hb16 (by decide)).2 (by decide) ?_
          refine V_topI (x' := gi M 113 (cN u)) (tS hC (rng_N hb16 (by decide)).2) ?_
          refine V_icmp_eq (tgt := 73) dG_shift_67 rfl (fun c67 => ?_) (fun c67 => ?_)
          · skip
            refine V_aload_n dG_shift_73 rfl ?_
            refine V_getR (a := 66) dG_shift_74 flG_56 k0 rfl (r0_7 hR) ?_
            refine V_iload_n dG_shift_77 rfl ?_
            refine V_topI (x' := nI (cN t)) (rng_N hb5 (by decide)).1 ?_
            refine V_iload_n dG_shift_78 rfl ?_
            refine V_iload dG_shift_79 rfl ?_
            refine V_callV (as := [.int (nI (cN t)), .int i, .int n]) (rest := []) (bs' := 0) rfl dG_shift_81 cmT_hasPlaces cvT_hasPlaces mlG_302 (Or.inl ⟨_, _, _, _, _, rfl, k66, by decide, rfl⟩) rfl rfl (c_thasPlaces hC hI (rng_N hb5 (by decide)).2 i n) (by decide) (Nat.le_refl _) (by decide) (Nat.le_of_ble_eq_true rfl) ?_
            rintro _ _ _ (⟨hb81, rfl, rfl, rfl⟩ | ⟨hb81, rfl, rfl, rfl⟩) -
            · refine V_one ?_
              refine V_if_eq (tgt := 102) dG_shift_84 rfl (fun h => absurd h (by decide)) (fun _ => ?_)
              refine V_aload_n dG_shift_87 rfl ?_
              refine V_getR (a := 66) dG_shift_88 flG_56 k0 rfl (r0_7 hR) ?_
              refine V_iload_n dG_shift_91 rfl ?_
              refine V_topI (x' := nI (cN u)) (rng_N hb16 (by decide)).1 ?_
              refine V_iload dG_shift_92 rfl ?_
              refine V_iload dG_shift_94 rfl ?_
              refine V_callV (as := [.int (nI (cN u)), .int j, .int n]) (rest := []) (bs' := 0) rfl dG_shift_96 cmT_hasPlaces cvT_hasPlaces mlG_302 (Or.inl ⟨_, _, _, _, _, rfl, k66, by decide, rfl⟩) rfl rfl (c_thasPlaces hC hI (rng_N hb16 (by decide)).2 j n) (by decide) (Nat.le_refl _) (by decide) (Nat.le_of_ble_eq_true rfl) ?_
              rintro _ _ _ (⟨hb96, rfl, rfl, rfl⟩ | ⟨hb96, rfl, rfl, rfl⟩) -
              · refine V_one ?_
                refine V_if_ne (tgt := 105) dG_shift_99 rfl (fun _ => ?_) (fun h => absurd h (by decide))
                refine V_aload_n dG_shift_105 rfl ?_
                refine V_getR (a := 66) dG_shift_106 flG_56 k0 rfl (r0_7 hR) ?_
                refine V_getR (a := 69) dG_shift_109 flG_306 k66 rfl (r66_2 hR) ?_
                refine V_iload_n dG_shift_112 rfl ?_
                refine V_aaldAN (j := cN t) (a := 70 + cN t) dG_shift_113 k69 (by decide) (rng_N hb5 (by decide)).1 (rng_N hb5 (by decide)).2 (by decide) (rIt hR (rng_N hb5 (by decide)).2) ?_
                refine V_iload_n dG_shift_114 rfl ?_
                refine V_aload_n dG_shift_115 rfl ?_
                refine V_getR (a := 66) dG_shift_116 flG_56 k0 rfl (r0_7 hR) ?_
                refine V_getR (a := 69) dG_shift_119 flG_306 k66 rfl (r66_2 hR) ?_
                refine V_iload_n dG_shift_122 rfl ?_
                refine V_aaldAN (j := cN u) (a := 70 + cN u) dG_shift_123 k69 (by decide) (rng_N hb16 (by decide)).1 (rng_N hb16 (by decide)).2 (by decide) (rIt hR (rng_N hb16 (by decide)).2) ?_
                refine V_iload dG_shift_124 rfl ?_
                refine V_iload dG_shift_126 rfl ?_
                have h1 := (shp_n (len := cN (gi M 114 (cN t))) hb81 (iT hI (rng_N hb5 (by decide)).2).1.2)
                have h2 := (shp_n (len := cN (gi M 114 (cN u))) hb96 (iT hI (rng_N hb16 (by decide)).2).1.2)
                have h3 := (iT hI (rng_N hb5 (by decide)).2).1.2
                have h4 := (iT hI (rng_N hb16 (by decide)).2).1.2
                have hn60 : cN n ≤ 60 := by omega
                refine V_copyl (k0 := 70 + cN t) (k1 := 70 + cN u) (n0 := 60) (n1 := 60) rfl dG_shift_128 mlG_310 acn acs iniJY (kT (rng_N hb5 (by decide)).2) (kT (rng_N hb16 (by decide)).2) (Int32.not_lt.mpr hb81.1.1) (Int32.not_lt.mpr hb96.1.1) (Int32.not_lt.mpr hb81.1.2) (show cN i + cN n ≤ 60 by omega) (show cN j + cN n ≤ 60 by omega) (by decide) (Nat.le_of_ble_eq_true rfl) ?_
                have hC := RC_cp (t := cN t) (u := cN u) (i := cN i) (j := cN j) (n := cN n) hC (rng_N hb5 (by decide)).2 (rng_N hb16 (by decide)).2 (by omega) (by omega)
                have hS : Sm σ (cl64 σ (70 + cN t) (70 + cN u) (cN i) (cN j) (cN n)) := hS.cp (by have := (rng_N hb16 (by decide)).2; omega)
                have hR := hC.1
                refine V_iload dG_shift_131 rfl ?_
                refine V_iret dG_shift_133 rfl rfl ?_
                have e : q_shift M t i u j n = (n, cpI M (60 * cN t + cN i) (60 * cN u + cN j) (cN n)) := by
                  simp only [q_shift, if_pos (And.intro hb5 hb16), if_pos (And.intro hb29 hb40), if_pos c67, if_pos (And.intro hb81 hb96)]
                rw [e]
                exact ⟨rfl, rfl, hC, hS⟩
              · refine V_one ?_
                refine V_if_ne (tgt := 105) dG_shift_99 rfl (fun h => absurd h (by decide)) (fun _ => ?_)
                refine V_bipush (v := -13) dG_shift_102 (by decide) ?_
                refine V_iret dG_shift_104 rfl rfl ?_
                have e : q_shift M t i u j n = ((-13), M) := by
                  simp only [q_shift, if_pos (And.intro hb5 hb16), if_pos (And.intro hb29 hb40), if_pos c67]
                  exact if_neg (fun q => hb96 q.2)
                rw [e]
                exact ⟨rfl, rfl, hC, hS⟩
            · refine V_one ?_
              refine V_if_eq (tgt := 102) dG_shift_84 rfl (fun _ => ?_) (fun h => absurd h (by decide))
              refine V_bipush (v := -13) dG_shift_102 (by decide) ?_
              refine V_iret dG_shift_104 rfl rfl ?_
              have e : q_shift M t i u j n = ((-13), M) := by
                simp only [q_shift, if_pos (And.intro hb5 hb16), if_pos (And.intro hb29 hb40), if_pos c67]
                exact if_neg (fun q => hb81 q.1)
              rw [e]
              exact ⟨rfl, rfl, hC, hS⟩
          · skip
            refine V_bipush (v := -12) dG_shift_70 (by decide) ?_
            refine V_iret dG_shift_72 rfl rfl ?_
            have e : q_shift M t i u j n = ((-12), M) := by
              simp only [q_shift, if_pos (And.intro hb5 hb16), if_pos (And.intro hb29 hb40), if_neg c67]
            rw [e]
            exact ⟨rfl, rfl, hC, hS⟩
        · refine V_one ?_
          refine V_if_ne (tgt := 49) dG_shift_43 rfl (fun h => absurd h (by decide)) (fun _ => ?_)
          refine V_bipush (v := -11) dG_shift_46 (by decide) ?_
          refine V_iret dG_shift_48 rfl rfl ?_
          have e : q_shift M t i u j n = ((-11), M) := by
            simp only [q_shift, if_pos (And.intro hb5 hb16)]
            exact if_neg (fun q => hb40 q.2)
          rw [e]
          exact ⟨rfl, rfl, hC, hS⟩
      · refine V_one ?_
        refine V_if_eq (tgt := 46) dG_shift_32 rfl (fun _ => ?_) (fun h => absurd h (by decide))
        refine V_bipush (v := -11) dG_shift_46 (by decide) ?_
        refine V_iret dG_shift_48 rfl rfl ?_
        have e : q_shift M t i u j n = ((-11), M) := by
          simp only [q_shift, if_pos (And.intro hb5 hb16)]
          exact if_neg (fun q => hb29 q.1)
        rw [e]
        exact ⟨rfl, rfl, hC, hS⟩
    · refine V_one ?_
      refine V_if_ne (tgt := 24) dG_shift_19 rfl (fun h => absurd h (by decide)) (fun _ => ?_)
      refine V_iconst (v := -1) dG_shift_22 (by decide) ?_
      refine V_iret dG_shift_23 rfl rfl ?_
      have e : q_shift M t i u j n = ((-1), M) := by
        unfold q_shift
        exact if_neg (fun q => hb16 q.2)
      rw [e]
      exact ⟨rfl, rfl, hC, hS⟩
  · refine V_one ?_
    refine V_if_eq (tgt := 22) dG_shift_8 rfl (fun _ => ?_) (fun h => absurd h (by decide))
    refine V_iconst (v := -1) dG_shift_22 (by decide) ?_
    refine V_iret dG_shift_23 rfl rfl ?_
    have e : q_shift M t i u j n = ((-1), M) := by
      unfold q_shift
      exact if_neg (fun q => hb5 q.1)
    rw [e]
    exact ⟨rfl, rfl, hC, hS⟩
theorem RM_asd {M s : Hp} {j : Nat} {x : Int64} (hM : RM M s) : RM M (sl s 116 j x) := ⟨hM.1, fun k' j' h => ⟨(hM.2 k' j' h).1, (gl_ne (by rintro rfl; exact absurd h (by simp [cnt]))).trans (hM.2 k' j' h).2⟩⟩
theorem asd_s {s : Hp} {k : Nat} {f : Nat → Int64} (h : ∀ m, m < k → gl s 116 m = f m) : ∀ m, m < k + 1 → gl (sl s 116 k (f k)) 116 m = f m := by
  intro m hm
  by_cases e : m = k
  · subst e
    exact gl_eq
  · exact (gl_nj e).trans (h m (by omega))
theorem m_shift {l : Launch} {G : GT} {L : Nat → List Cl} {M σ : Hp} (hM : RM M σ) (hI : Inv L M) (t i u j n : Int32) : MM l G mM_shift 2 0 0 [.ref 76, .int t, .int i, .int u, .int j, .int n] KA σ (PM σ (q_shift M t i u j n)) := by
  have hR := hM.1
  have hM0 := hM
  have hS : Sc σ σ := Sc.rfl
  refine MM.of (loc := [(0, .ref 76), (1, .int t), (2, .int i), (3, .int u), (4, .int j), (5, .int n)]) (by decide +kernel) rfl (Nat.le_of_ble_eq_true rfl) ?_
  refine V_aload_n dM_shift_0 rfl ?_
  refine V_iload_n dM_shift_1 rfl ?_
  refine V_callV (as := [.int t]) (rest := []) (bs' := 0) rfl dM_shift_2 cmM_isTape cvM_isTape mlM_353 (Or.inl ⟨_, _, _, _, _, rfl, k76, by decide, rfl⟩) rfl rfl (m_isTape hM hI t) (by decide) (Nat.le_refl _) (by decide) (Nat.le_of_ble_eq_true rfl) ?_
  rintro _ _ _ (⟨hb2, rfl, rfl, rfl⟩ | ⟨hb2, rfl, rfl, rfl⟩) -
  · refine V_one ?_
    refine V_if_eq (tgt := 16) dM_shift_5 rfl (fun h => absurd h (by decide)) (fun _ => ?_)
    refine V_aload_n dM_shift_8 rfl ?_
    refine V_iload_n dM_shift_9 rfl ?_
    refine V_callV (as := [.int u]) (rest := []) (bs' := 0) rfl dM_shift_10 cmM_isTape cvM_isTape mlM_353 (Or.inl ⟨_, _, _, _, _, rfl, k76, by decide, rfl⟩) rfl rfl (m_isTape hM hI u) (by decide) (Nat.le_refl _) (by decide) (Nat.le_of_ble_eq_true rfl) ?_
    rintro _ _ _ (⟨hb10, rfl, rfl, rfl⟩ | ⟨hb10, rfl, rfl, rfl⟩) -
    · refine V_one ?_
      refine V_if_ne (tgt := 18) dM_shift_13 rfl (fun _ => ?_) (fun h => absurd h (by decide))
      refine V_aload_n dM_shift_18 rfl ?_
      refine V_getR (a := 113) dM_shift_19 flM_190 k76 rfl (r76_59 hR) ?_
      refine V_iload_n dM_shift_22 rfl ?_
      refine V_ialdN (j := cN t) dM_shift_23 k113 (rng_N hb2 (by decide)).1 (rng_N hb2 (by decide)).2 (by decide) ?_
      refine V_topI (x' := gi M 113 (cN t)) (mR hM rfl) ?_
      refine V_if_lt (tgt := 36) dM_shift_24 rfl (fun c24 => ?_) (fun c24 => ?_)
      · skip
        have h24 : gi M 113 (cN t) = -1 := Decidable.not_not.mp (fun q => Int32.not_lt.mpr ((sort_i hI (rng_N hb2 (by decide)).2).mpr q) c24)
        refine V_bipush (v := -11) dM_shift_36 (by decide) ?_
        refine V_iret dM_shift_38 rfl rfl ?_
        have e : q_shift M t i u j n = ((-11), M) := by
          simp only [q_shift, if_pos (And.intro hb2 hb10)]
          exact if_neg (fun q => q.1 h24)
        rw [e]
        exact ⟨rfl, rfl, hM, hS⟩
      · skip
        have h24 : ¬ gi M 113 (cN t) = -1 := (sort_i hI (rng_N hb2 (by decide)).2).mp (Int32.not_lt.mp c24)
        refine V_aload_n dM_shift_27 rfl ?_
        refine V_getR (a := 113) dM_shift_28 flM_190 k76 rfl (r76_59 hR) ?_
        refine V_iload_n dM_shift_31 rfl ?_
        refine V_ialdN (j := cN u) dM_shift_32 k113 (rng_N hb10 (by decide)).1 (rng_N hb10 (by decide)).2 (by decide) ?_
        refine V_topI (x' := gi M 113 (cN u)) (mR hM rfl) ?_
        refine V_if_ge (tgt := 39) dM_shift_33 rfl (fun c33 => ?_) (fun c33 => ?_)
        · skip
          have h33 : ¬ gi M 113 (cN u) = -1 := (sort_i hI (rng_N hb10 (by decide)).2).mp c33
          refine V_aload_n dM_shift_39 rfl ?_
          refine V_getR (a := 113) dM_shift_40 flM_190 k76 rfl (r76_59 hR) ?_
          refine V_iload_n dM_shift_43 rfl ?_
          refine V_ialdN (j := cN t) dM_shift_44 k113 (rng_N hb2 (by decide)).1 (rng_N hb2 (by decide)).2 (by decide) ?_
          refine V_topI (x' := gi M 113 (cN t)) (mR hM rfl) ?_
          refine V_aload_n dM_shift_45 rfl ?_
          refine V_getR (a := 113) dM_shift_46 flM_190 k76 rfl (r76_59 hR) ?_
          refine V_iload_n dM_shift_49 rfl ?_
          refine V_ialdN (j := cN u) dM_shift_50 k113 (rng_N hb10 (by decide)).1 (rng_N hb10 (by decide)).2 (by decide) ?_
          refine V_topI (x' := gi M 113 (cN u)) (mR hM rfl) ?_
          refine V_icmp_eq (tgt := 57) dM_shift_51 rfl (fun c51 => ?_) (fun c51 => ?_)
          · skip
            refine V_iload dM_shift_57 rfl ?_
            refine V_if_lt (tgt := 98) dM_shift_59 rfl (fun c59 => ?_) (fun c59 => ?_)
            · skip
              refine V_bipush (v := -13) dM_shift_98 (by decide) ?_
              refine V_iret dM_shift_100 rfl rfl ?_
              have e : q_shift M t i u j n = ((-13), M) := by
                simp only [q_shift, if_pos (And.intro hb2 hb10), if_pos (And.intro h24 h33), if_pos c51]
                exact if_neg (fun q => Int32.not_lt.mpr q.1.1.2 c59)
              rw [e]
              exact ⟨rfl, rfl, hM, hS⟩
            · skip
              refine V_iload_n dM_shift_62 rfl ?_
              refine V_if_lt (tgt := 98) dM_shift_63 rfl (fun c63 => ?_) (fun c63 => ?_)
              · skip
                refine V_bipush (v := -13) dM_shift_98 (by decide) ?_
                refine V_iret dM_shift_100 rfl rfl ?_
                have e : q_shift M t i u j n = ((-13), M) := by
                  simp only [q_shift, if_pos (And.intro hb2 hb10), if_pos (And.intro h24 h33), if_pos c51]
                  exact if_neg (fun q => Int32.not_lt.mpr q.1.1.1 c63)
                rw [e]
                exact ⟨rfl, rfl, hM, hS⟩
              · skip
                refine V_iload dM_shift_66 rfl ?_
                refine V_if_lt (tgt := 98) dM_shift_68 rfl (fun c68 => ?_) (fun c68 => ?_)
                · skip
                  refine V_bipush (v := -13) dM_shift_98 (by decide) ?_
                  refine V_iret dM_shift_100 rfl rfl ?_
                  have e : q_shift M t i u j n = ((-13), M) := by
                    simp only [q_shift, if_pos (And.intro hb2 hb10), if_pos (And.intro h24 h33), if_pos c51]
                    exact if_neg (fun q => Int32.not_lt.mpr q.2.1.1 c68)
                  rw [e]
                  exact ⟨rfl, rfl, hM, hS⟩
                · skip
                  refine V_iload_n dM_shift_71 rfl ?_
                  refine V_aload_n dM_shift_72 rfl ?_
                  refine V_getR (a := 114) dM_shift_73 flM_193 k76 rfl (r76_60 hR) ?_
                  refine V_iload_n dM_shift_76 rfl ?_
                  refine V_ialdN (j := cN t) dM_shift_77 k114 (rng_N hb2 (by decide)).1 (rng_N hb2 (by decide)).2 (by decide) ?_
                  refine V_topI (x' := nI (cN (gi M 114 (cN t)))) ((mR hM rfl).trans (iT hI (rng_N hb2 (by decide)).2).1.1) ?_
                  refine V_iload dM_shift_78 rfl ?_
                  refine V_isub dM_shift_80 ?_
                  refine V_icmp_gt (tgt := 98) dM_shift_81 rfl (fun c81 => ?_) (fun c81 => ?_)
                  · skip
                    refine V_bipush (v := -13) dM_shift_98 (by decide) ?_
                    refine V_iret dM_shift_100 rfl rfl ?_
                    have e : q_shift M t i u j n = ((-13), M) := by
                      simp only [q_shift, if_pos (And.intro hb2 hb10), if_pos (And.intro h24 h33), if_pos c51]
                      exact if_neg (fun q => Int32.not_lt.mpr q.1.2.2 c81)
                    rw [e]
                    exact ⟨rfl, rfl, hM, hS⟩
                  · skip
                    refine V_iload dM_shift_84 rfl ?_
                    refine V_aload_n dM_shift_86 rfl ?_
                    refine V_getR (a := 114) dM_shift_87 flM_193 k76 rfl (r76_60 hR) ?_
                    refine V_iload_n dM_shift_90 rfl ?_
                    refine V_ialdN (j := cN u) dM_shift_91 k114 (rng_N hb10 (by decide)).1 (rng_N hb10 (by decide)).2 (by decide) ?_
                    refine V_topI (x' := nI (cN (gi M 114 (cN u)))) ((mR hM rfl).trans (iT hI (rng_N hb10 (by decide)).2).1.1) ?_
                    refine V_iload dM_shift_92 rfl ?_
                    refine V_isub dM_shift_94 ?_
                    refine V_icmp_le (tgt := 101) dM_shift_95 rfl (fun c95 => ?_) (fun c95 => ?_)
                    · skip
                      refine V_iconst (v := 0) dM_shift_101 (by decide) ?_
                      refine V_istore (loc' := [(6, .int 0), (0, .ref 76), (1, .int t), (2, .int i), (3, .int u), (4, .int j), (5, .int n)]) dM_shift_102 (by decide) rfl ?_
                      have hPA := shp_m (Int32.not_lt.mp c59) (Int32.not_lt.mp c63) (Int32.not_lt.mp c81) (iT hI (rng_N hb2 (by decide)).2).1.2
                      have hPB := shp_m (Int32.not_lt.mp c59) (Int32.not_lt.mp c68) c95 (iT hI (rng_N hb10 (by decide)).2).1.2
                      obtain ⟨a1, a2, a3⟩ := shp_n hPA (iT hI (rng_N hb2 (by decide)).2).1.2
                      obtain ⟨b1, b2, b3⟩ := shp_n hPB (iT hI (rng_N hb10 (by decide)).2).1.2
                      have w1 := (iT hI (rng_N hb2 (by decide)).2).1.2
                      have w2 := (iT hI (rng_N hb10 (by decide)).2).1.2
                      have t6 := (rng_N hb2 (by decide)).2
                      have u6 := (rng_N hb10 (by decide)).2
                      have e : q_shift M t i u j n = (n, cpI M (60 * cN t + cN i) (60 * cN u + cN j) (cN n)) := by
                        simp only [q_shift, if_pos (And.intro hb2 hb10), if_pos (And.intro h24 h33), if_pos c51]
                        exact if_pos (And.intro hPA hPB)
                      rw [e]
                      obtain ⟨b, hb⟩ : ∃ b, b = cN n := ⟨_, rfl⟩
                      rw [← hb] at a2 a3 b2 b3 ⊢
                      refine V.locs (loc' := [(6, .int 0), (0, .ref 76), (1, .int t), (2, .int i), (3, .int u), (4, .int j), (5, .int n)]) [0, 1, 2, 3, 4, 5, 6] rfl ?_
                      refine V_eqL (loc' := [(6, .int (nI 0)), (0, .ref 76), (1, .int t), (2, .int i), (3, .int u), (4, .int j), (5, .int (nI b))]) ?_ ?_
                      · rw [← a2]; rfl
                      have lq : ∀ k : Nat, k ≤ b → ∀ s : Hp, RM (cpI M (60 * cN t + cN i) (60 * cN u + cN j) k) s → Sc σ s → (∀ m, m < b → gl s 116 m = gl M 115 (60 * cN t + cN i + m)) → V l G mM_shift (rmd 2 0 0) (KA.length + 0) 0 141 [(6, .int (nI k)), (0, .ref 76), (1, .int t), (2, .int i), (3, .int u), (4, .int j), (5, .int (nI b))] [] KA s (PM σ (n, cpI M (60 * cN t + cN i) (60 * cN u + cN j) b)) := by
                        refine lp_up b ?_ (fun k hk ihk => ?_)
                        · skip
                          intro s hM hS hA
                          have hR := hM.1
                          refine V_iload dM_shift_141 rfl ?_
                          refine V_iload dM_shift_143 rfl ?_
                          refine V_icmp_ge (tgt := 176) dM_shift_145 rfl (fun _ => ?_) (fun h => absurd h (not_not_intro (nI_le (Nat.le_refl _) (by omega))))
                          refine V_iload dM_shift_176 rfl ?_
                          exact V_iret dM_shift_178 rfl rfl ⟨congrArg (fun z => some (Value.int z)) a2.symm, rfl, hM, hS⟩
                        · skip
                          intro s hM hS hA
                          have hR := hM.1
                          refine V_iload dM_shift_141 rfl ?_
                          refine V_iload dM_shift_143 rfl ?_
                          refine V_icmp_ge (tgt := 176) dM_shift_145 rfl (fun h => absurd h (nI_ge hk (by omega))) (fun _ => ?_)
                          refine V_aload_n dM_shift_148 rfl ?_
                          refine V_getR (a := 115) dM_shift_149 flM_196 k76 rfl (r76_61 hR) ?_
                          refine V_bipush (v := 60) dM_shift_152 (by decide) ?_
                          refine V_iload_n dM_shift_154 rfl ?_
                          refine V_imul dM_shift_155 ?_
                          refine V_iload dM_shift_156 rfl ?_
                          refine V_iadd dM_shift_158 ?_
                          refine V_iload dM_shift_159 rfl ?_
                          refine V_iadd dM_shift_161 ?_
                          refine V_aload_n dM_shift_162 rfl ?_
                          refine V_getR (a := 116) dM_shift_163 flM_200 k76 rfl (r76_62 hR) ?_
                          refine V_iload dM_shift_166 rfl ?_
                          refine V_laldN (j := k) dM_shift_168 k116 rfl (by omega) (by decide) ?_
                          refine V_topL (x' := gl M 115 (60 * cN t + cN i + k)) (hA k hk) ?_
                          refine V_lastN (j := 60 * cN u + cN j + k) dM_shift_169 k115 (by rw [ix60 (rng_N hb10 (by decide)).1 b1]; exact nI_add _ _) (by omega) (by decide) ?_
                          have hM : RM (cpI M (60 * cN t + cN i) (60 * cN u + cN j) (k + 1)) (sl s 115 (60 * cN u + cN j + k) (gl M 115 (60 * cN t + cN i + k))) := by
                            have q := RM_sl (k := 115) (j := 60 * cN u + cN j + k) (x := gl M 115 (60 * cN t + cN i + k)) hM
                            rwa [cp_s] at q
                          have hS := hS.setl (k := 115) (j := 60 * cN u + cN j + k) (x := gl M 115 (60 * cN t + cN i + k)) (by decide)
                          have hA : ∀ m, m < b → gl (sl s 115 (60 * cN u + cN j + k) (gl M 115 (60 * cN t + cN i + k))) 116 m = gl M 115 (60 * cN t + cN i + m) := fun m hm => (gl_ne (by decide)).trans (hA m hm)
                          refine V_iinc (v := nI (k + 1)) (loc' := [(6, .int (nI (k + 1))), (0, .ref 76), (1, .int t), (2, .int i), (3, .int u), (4, .int j), (5, .int (nI b))]) dM_shift_170 rfl (nI_inc k) (by decide) rfl ?_
                          refine V_goto (tgt := 141) dM_shift_173 rfl ?_
                          refine V.locs (loc' := [(6, .int (nI (k + 1))), (0, .ref 76), (1, .int t), (2, .int i), (3, .int u), (4, .int j), (5, .int (nI b))]) [0, 1, 2, 3, 4, 5, 6] rfl ?_
                          exact (ihk _ hM hS hA)
                      have lp : ∀ k : Nat, k ≤ b → ∀ s : Hp, RM M s → Sc σ s → (∀ m, m < k → gl s 116 m = gl M 115 (60 * cN t + cN i + m)) → V l G mM_shift (rmd 2 0 0) (KA.length + 0) 0 104 [(6, .int (nI k)), (0, .ref 76), (1, .int t), (2, .int i), (3, .int u), (4, .int j), (5, .int (nI b))] [] KA s (PM σ (n, cpI M (60 * cN t + cN i) (60 * cN u + cN j) b)) := by
                        refine lp_up b ?_ (fun k hk ihk => ?_)
                        · skip
                          intro s hM hS hA
                          have hR := hM.1
                          refine V_iload dM_shift_104 rfl ?_
                          refine V_iload dM_shift_106 rfl ?_
                          refine V_icmp_ge (tgt := 138) dM_shift_108 rfl (fun _ => ?_) (fun h => absurd h (not_not_intro (nI_le (Nat.le_refl _) (by omega))))
                          refine V_iconst (v := 0) dM_shift_138 (by decide) ?_
                          refine V_istore (loc' := [(6, .int 0), (0, .ref 76), (1, .int t), (2, .int i), (3, .int u), (4, .int j), (5, .int (nI b))]) dM_shift_139 (by decide) rfl ?_
                          refine V.locs (loc' := [(6, .int 0), (0, .ref 76), (1, .int t), (2, .int i), (3, .int u), (4, .int j), (5, .int (nI b))]) [0, 1, 2, 3, 4, 5, 6] rfl ?_
                          refine V_eqL (loc' := [(6, .int (nI 0)), (0, .ref 76), (1, .int t), (2, .int i), (3, .int u), (4, .int j), (5, .int (nI b))]) ?_ ?_
                          · rfl
                          exact (lq 0 (Nat.zero_le _) _ (by rw [cp_0]; exact hM) hS hA)
                        · skip
                          intro s hM hS hA
                          have hR := hM.1
                          refine V_iload dM_shift_104 rfl ?_
                          refine V_iload dM_shift_106 rfl ?_
                          refine V_icmp_ge (tgt := 138) dM_shift_108 rfl (fun h => absurd h (nI_ge hk (by omega))) (fun _ => ?_)
                          refine V_aload_n dM_shift_111 rfl ?_
                          refine V_getR (a := 116) dM_shift_112 flM_200 k76 rfl (r76_62 hR) ?_
                          refine V_iload dM_shift_115 rfl ?_
                          refine V_aload_n dM_shift_117 rfl ?_
                          refine V_getR (a := 115) dM_shift_118 flM_196 k76 rfl (r76_61 hR) ?_
                          refine V_bipush (v := 60) dM_shift_121 (by decide) ?_
                          refine V_iload_n dM_shift_123 rfl ?_
                          refine V_imul dM_shift_124 ?_
                          refine V_iload_n dM_shift_125 rfl ?_
                          refine V_iadd dM_shift_126 ?_
                          refine V_iload dM_shift_127 rfl ?_
                          refine V_iadd dM_shift_129 ?_
                          refine V_laldN (j := 60 * cN t + cN i + k) dM_shift_130 k115 (by rw [ix60 (rng_N hb2 (by decide)).1 a1]; exact nI_add _ _) (by omega) (by decide) ?_
                          refine V_topL (x' := gl M 115 (60 * cN t + cN i + k)) (mRl hM rfl) ?_
                          refine V_lastN (j := k) dM_shift_131 k116 rfl (by omega) (by decide) ?_
                          have hM : RM M (sl s 116 k (gl M 115 (60 * cN t + cN i + k))) := RM_asd hM
                          have hS := hS.setl (k := 116) (j := k) (x := gl M 115 (60 * cN t + cN i + k)) (by decide)
                          have hA := asd_s hA
                          refine V_iinc (v := nI (k + 1)) (loc' := [(6, .int (nI (k + 1))), (0, .ref 76), (1, .int t), (2, .int i), (3, .int u), (4, .int j), (5, .int (nI b))]) dM_shift_132 rfl (nI_inc k) (by decide) rfl ?_
                          refine V_goto (tgt := 104) dM_shift_135 rfl ?_
                          refine V.locs (loc' := [(6, .int (nI (k + 1))), (0, .ref 76), (1, .int t), (2, .int i), (3, .int u), (4, .int j), (5, .int (nI b))]) [0, 1, 2, 3, 4, 5, 6] rfl ?_
                          exact (ihk _ hM hS hA)
                      exact lp 0 (Nat.zero_le _) _ hM hS (fun m hm => absurd hm (Nat.not_lt_zero _))
                    · skip
                      refine V_bipush (v := -13) dM_shift_98 (by decide) ?_
                      refine V_iret dM_shift_100 rfl rfl ?_
                      have e : q_shift M t i u j n = ((-13), M) := by
                        simp only [q_shift, if_pos (And.intro hb2 hb10), if_pos (And.intro h24 h33), if_pos c51]
                        exact if_neg (fun q => c95 q.2.2.2)
                      rw [e]
                      exact ⟨rfl, rfl, hM, hS⟩
          · skip
            refine V_bipush (v := -12) dM_shift_54 (by decide) ?_
            refine V_iret dM_shift_56 rfl rfl ?_
            have e : q_shift M t i u j n = ((-12), M) := by
              simp only [q_shift, if_pos (And.intro hb2 hb10), if_pos (And.intro h24 h33), if_neg c51]
            rw [e]
            exact ⟨rfl, rfl, hM, hS⟩
        · skip
          have h33 : gi M 113 (cN u) = -1 := Decidable.not_not.mp (fun q => c33 ((sort_i hI (rng_N hb10 (by decide)).2).mpr q))
          refine V_bipush (v := -11) dM_shift_36 (by decide) ?_
          refine V_iret dM_shift_38 rfl rfl ?_
          have e : q_shift M t i u j n = ((-11), M) := by
            simp only [q_shift, if_pos (And.intro hb2 hb10)]
            exact if_neg (fun q => q.2 h33)
          rw [e]
          exact ⟨rfl, rfl, hM, hS⟩
    · refine V_one ?_
      refine V_if_ne (tgt := 18) dM_shift_13 rfl (fun h => absurd h (by decide)) (fun _ => ?_)
      refine V_iconst (v := -1) dM_shift_16 (by decide) ?_
      refine V_iret dM_shift_17 rfl rfl ?_
      have e : q_shift M t i u j n = ((-1), M) := by
        unfold q_shift
        exact if_neg (fun q => hb10 q.2)
      rw [e]
      exact ⟨rfl, rfl, hM, hS⟩
  · refine V_one ?_
    refine V_if_eq (tgt := 16) dM_shift_5 rfl (fun _ => ?_) (fun h => absurd h (by decide))
    refine V_iconst (v := -1) dM_shift_16 (by decide) ?_
    refine V_iret dM_shift_17 rfl rfl ?_
    have e : q_shift M t i u j n = ((-1), M) := by
      unfold q_shift
      exact if_neg (fun q => hb2 q.1)
    rw [e]
    exact ⟨rfl, rfl, hM, hS⟩
