/-! the tapes -/
theorem mpT : ∀ t : Nat, t < 6 → mp 67 t = some (113, t) ∧ mp 68 t = some (114, t) := by decide
theorem tS {L : Nat → List Cl} {M σ : Hp} (hC : RC L M σ) {t : Nat} (h : t < 6) : gi σ 67 t = gi M 113 t := hC.2.1 _ _ _ _ (mpT t h).1
theorem tZ {L : Nat → List Cl} {M σ : Hp} (hC : RC L M σ) {t : Nat} (h : t < 6) : gi σ 68 t = gi M 114 t := hC.2.1 _ _ _ _ (mpT t h).2
theorem tI {L : Nat → List Cl} {M σ : Hp} (hC : RC L M σ) {t i : Nat} (h : t < 6) (hi : i < 60) : gl σ (70 + t) i = gl M 115 (60 * t + i) := hC.2.2.2.1 t i h hi
theorem kT {t : Nat} (h : t < 6) : KA[70 + t]? = some (22, 60) := by have := kIt t h; rwa [Nat.one_mul] at this
theorem iT {L : Nat → List Cl} {M : Hp} (hI : Inv L M) {t : Nat} (h : t < 6) : isN (gi M 114 t) 61 ∧ (gi M 113 t = -1 ∧ gi M 114 t = 0 ∨ isN (gi M 113 t) 5) := hI.2.2.2.2.2.2.2.2.1 t h
theorem gl_eq {σ : Hp} {k j : Nat} {x : Int64} : gl (sl σ k j x) k j = x := by simp [gl, sl]
theorem gl_nj {σ : Hp} {k j k' j' : Nat} {x : Int64} (h : j' ≠ j) : gl (sl σ k j x) k' j' = gl σ k' j' := by simp [gl, sl, h]
theorem RC_sl {L : Nat → List Cl} {M σ : Hp} {t i : Nat} {x : Int64} (hC : RC L M σ) (ht : t < 6) (hi : i < 60) : RC L (sl M 115 (60 * t + i) x) (sl σ (70 + t) i x) := by
  obtain ⟨h1, h2, h3, h4, h5⟩ := hC
  refine ⟨h1, h2, h3, fun u j hu hj => ?_, h5⟩
  by_cases e : u = t ∧ j = i
  · obtain ⟨rfl, rfl⟩ := e
    rw [gl_eq, gl_eq]
  · have e1 : ¬ (70 + u = 70 + t ∧ j = i) := by omega
    have g1 : gl (sl σ (70 + t) i x) (70 + u) j = gl σ (70 + u) j := by simp only [gl, sl, if_neg e1]
    have g2 : gl (sl M 115 (60 * t + i) x) 115 (60 * u + j) = gl M 115 (60 * u + j) := gl_nj (by omega)
    rw [g1, g2]
    exact h4 u j hu hj
theorem RM_sl {M σ : Hp} {k j : Nat} {x : Int64} (hM : RM M σ) : RM (sl M k j x) (sl σ k j x) := by
  refine ⟨hM.1, fun k' j' h => ⟨(hM.2 k' j' h).1, ?_⟩⟩
  by_cases e : k' = k ∧ j' = j
  · obtain ⟨rfl, rfl⟩ := e
    rw [gl_eq, gl_eq]
  · have g1 : gl (sl σ k j x) k' j' = gl σ k' j' := by simp only [gl, sl, if_neg e]
    have g2 : gl (sl M k j x) k' j' = gl M k' j' := by simp only [gl, sl, if_neg e]
    rw [g1, g2]
    exact (hM.2 k' j' h).2
theorem Sm.setl {σ s : Hp} {k j : Nat} {x : Int64} (h : Sm σ s) (hk : k < 76) : Sm σ (sl s k j x) := fun k' j' h' => ⟨(h k' j' h').1, (gl_ne (by omega)).trans (h k' j' h').2⟩
theorem Sc.setl {σ s : Hp} {k j : Nat} {x : Int64} (h : Sc σ s) (hk : 76 ≤ k) : Sc σ (sl s k j x) := fun k' j' h' => ⟨(h k' j' h').1, (gl_ne (by omega)).trans (h k' j' h').2⟩
/-- a tape's items made 0 -/
def zN (M : Hp) (t : Nat) : Nat → Hp
  | 0 => M
  | n + 1 => sl (zN M t n) 115 (60 * t + n) 0
def cutS (k : Int32) (v : Int64) : Int64 := if k = 0 then v.toInt32.toInt8.toInt32.toInt64 else if k = 1 then v.toInt32.toInt16.toInt32.toInt64 else if k = 2 then v.toInt32.toInt64 else if k = 4 then (if lg_cmp v 0 = 0 then 0 else 1) else v
def q_tape (M : Hp) (t k n : Int32) : Int32 × Hp := if rng t 6 then (if k = -1 then (1, zN (si (si M 113 (cN t) (-1)) 114 (cN t) 0) (cN t) 60) else if 0 ≤ k ∧ k ≤ 4 then (if n ≤ 60 then (if 0 ≤ n then (1, zN (si (si M 113 (cN t) k) 114 (cN t) n) (cN t) 60) else (-14, M)) else (-2, M)) else (-2, M)) else (-1, M)
def q_item (M : Hp) (t i : Int32) (v : Int64) : Int32 × Hp := if rng t 6 then (if gi M 113 (cN t) = -1 then (-11, M) else if rng i (cN (gi M 114 (cN t))) then (1, sl M 115 (60 * cN t + cN i) (cutS (gi M 113 (cN t)) v)) else (-13, M)) else (-1, M)
def q_read (M : Hp) (t i : Int32) : Int64 × Hp := if rng t 6 then (if rng i (cN (gi M 114 (cN t))) then (gl M 115 (60 * cN t + cN i), M) else (-9223372036854775808, M)) else (-9223372036854775808, M)
theorem c_thas {l : Launch} {G : GT} {σ : Hp} (x : Int32) : MM l G mT_has 0 0 0 [.ref 66, .int x] KA σ (PZ (rng x 6) KA σ) := by
  skip
  refine MM.of (loc := [(0, .ref 66), (1, .int x)]) (by decide +kernel) rfl (Nat.le_of_ble_eq_true rfl) ?_
  refine V_iload_n dT_has_0 rfl ?_
  refine V_if_lt (tgt := 14) dT_has_1 rfl (fun c1 => ?_) (fun c1 => ?_)
  · skip
    refine V_iconst (v := 0) dT_has_14 (by decide) ?_
    exact V_zret dT_has_15 rfl rfl rfl (Or.inr ⟨fun q => Int32.not_lt.mpr q.1 c1, rfl, rfl, rfl⟩)
  · skip
    refine V_iload_n dT_has_4 rfl ?_
    refine V_bipush (v := 6) dT_has_5 (by decide) ?_
    refine V_icmp_ge (tgt := 14) dT_has_7 rfl (fun c7 => ?_) (fun c7 => ?_)
    · skip
      refine V_iconst (v := 0) dT_has_14 (by decide) ?_
      exact V_zret dT_has_15 rfl rfl rfl (Or.inr ⟨fun q => Int32.not_le.mpr q.2 c7, rfl, rfl, rfl⟩)
    · skip
      refine V_iconst (v := 1) dT_has_10 (by decide) ?_
      refine V_goto (tgt := 15) dT_has_11 rfl ?_
      exact V_zret dT_has_15 rfl rfl rfl (Or.inl ⟨⟨Int32.not_lt.mp c1, Int32.not_le.mp c7⟩, rfl, rfl, rfl⟩)
theorem c_tholds {l : Launch} {G : GT} {L : Nat → List Cl} {M σ : Hp} (hC : RC L M σ) (hI : Inv L M) {t : Nat} (ht : t < 6) : MM l G mT_holds 0 0 0 [.ref 66, .int (nI t)] KA σ (PZ (¬ gi M 113 t = -1) KA σ) := by
  have hR := hC.1
  refine MM.of (loc := [(0, .ref 66), (1, .int (nI t))]) (by decide +kernel) rfl (Nat.le_of_ble_eq_true rfl) ?_
  refine V_aload_n dT_holds_0 rfl ?_
  refine V_getR (a := 67) dT_holds_1 flT_9 k66 rfl (r66_0 hR) ?_
  refine V_iload_n dT_holds_4 rfl ?_
  refine V_ialdN (j := t) dT_holds_5 k67 rfl ht (by decide) ?_
  refine V_topI (x' := gi M 113 t) (tS hC ht) ?_
  refine V_iconst (v := -1) dT_holds_6 (by decide) ?_
  refine V_icmp_eq (tgt := 14) dT_holds_7 rfl (fun c7 => ?_) (fun c7 => ?_)
  · skip
    refine V_iconst (v := 0) dT_holds_14 (by decide) ?_
    exact V_zret dT_holds_15 rfl rfl rfl (Or.inr ⟨fun q => q c7, rfl, rfl, rfl⟩)
  · skip
    refine V_iconst (v := 1) dT_holds_10 (by decide) ?_
    refine V_goto (tgt := 15) dT_holds_11 rfl ?_
    exact V_zret dT_holds_15 rfl rfl rfl (Or.inl ⟨c7, rfl, rfl, rfl⟩)
theorem c_tlongs {l : Launch} {G : GT} {L : Nat → List Cl} {M σ : Hp} (hC : RC L M σ) (hI : Inv L M) {t : Nat} (ht : t < 6) : MM l G mT_isOfLongs 0 0 0 [.ref 66, .int (nI t)] KA σ (PZ (gi M 113 t = 3) KA σ) := by
  have hR := hC.1
  refine MM.of (loc := [(0, .ref 66), (1, .int (nI t))]) (by decide +kernel) rfl (Nat.le_of_ble_eq_true rfl) ?_
  refine V_aload_n dT_isOfLongs_0 rfl ?_
  refine V_getR (a := 67) dT_isOfLongs_1 flT_9 k66 rfl (r66_0 hR) ?_
  refine V_iload_n dT_isOfLongs_4 rfl ?_
  refine V_ialdN (j := t) dT_isOfLongs_5 k67 rfl ht (by decide) ?_
  refine V_topI (x' := gi M 113 t) (tS hC ht) ?_
  refine V_iconst (v := 3) dT_isOfLongs_6 (by decide) ?_
  refine V_icmp_ne (tgt := 14) dT_isOfLongs_7 rfl (fun c7 => ?_) (fun c7 => ?_)
  · skip
    refine V_iconst (v := 0) dT_isOfLongs_14 (by decide) ?_
    exact V_zret dT_isOfLongs_15 rfl rfl rfl (Or.inr ⟨c7, rfl, rfl, rfl⟩)
  · skip
    refine V_iconst (v := 1) dT_isOfLongs_10 (by decide) ?_
    refine V_goto (tgt := 15) dT_isOfLongs_11 rfl ?_
    exact V_zret dT_isOfLongs_15 rfl rfl rfl (Or.inl ⟨c7, rfl, rfl, rfl⟩)
theorem c_thasPlace {l : Launch} {G : GT} {L : Nat → List Cl} {M σ : Hp} (hC : RC L M σ) (hI : Inv L M) {t : Nat} (ht : t < 6) (i : Int32) : MM l G mT_hasPlace 0 0 0 [.ref 66, .int (nI t), .int i] KA σ (PZ (rng i (cN (gi M 114 t))) KA σ) := by
  have hR := hC.1
  refine MM.of (loc := [(0, .ref 66), (1, .int (nI t)), (2, .int i)]) (by decide +kernel) rfl (Nat.le_of_ble_eq_true rfl) ?_
  refine V_iload_n dT_hasPlace_0 rfl ?_
  refine V_if_lt (tgt := 18) dT_hasPlace_1 rfl (fun c1 => ?_) (fun c1 => ?_)
  · skip
    refine V_iconst (v := 0) dT_hasPlace_18 (by decide) ?_
    exact V_zret dT_hasPlace_19 rfl rfl rfl (Or.inr ⟨fun q => Int32.not_lt.mpr q.1 c1, rfl, rfl, rfl⟩)
  · skip
    refine V_iload_n dT_hasPlace_4 rfl ?_
    refine V_aload_n dT_hasPlace_5 rfl ?_
    refine V_getR (a := 68) dT_hasPlace_6 flT_15 k66 rfl (r66_1 hR) ?_
    refine V_iload_n dT_hasPlace_9 rfl ?_
    refine V_ialdN (j := t) dT_hasPlace_10 k68 rfl ht (by decide) ?_
    refine V_topI (x' := nI (cN (gi M 114 t))) ((tZ hC ht).trans (iT hI ht).1.1) ?_
    refine V_icmp_ge (tgt := 18) dT_hasPlace_11 rfl (fun c11 => ?_) (fun c11 => ?_)
    · skip
      refine V_iconst (v := 0) dT_hasPlace_18 (by decide) ?_
      exact V_zret dT_hasPlace_19 rfl rfl rfl (Or.inr ⟨fun q => Int32.not_le.mpr q.2 c11, rfl, rfl, rfl⟩)
    · skip
      refine V_iconst (v := 1) dT_hasPlace_14 (by decide) ?_
      refine V_goto (tgt := 19) dT_hasPlace_15 rfl ?_
      exact V_zret dT_hasPlace_19 rfl rfl rfl (Or.inl ⟨⟨Int32.not_lt.mp c1, Int32.not_le.mp c11⟩, rfl, rfl, rfl⟩)
theorem c_valueAt {l : Launch} {G : GT} {L : Nat → List Cl} {M σ : Hp} (hC : RC L M σ) (hI : Inv L M) {t i : Nat} (ht : t < 6) (hi : i < 60) : MM l G mT_valueAt 0 0 0 [.ref 66, .int (nI t), .int (nI i)] KA σ (PE (some (.long (gl M 115 (60 * t + i)))) KA σ) := by
  have hR := hC.1
  refine MM.of (loc := [(0, .ref 66), (1, .int (nI t)), (2, .int (nI i))]) (by decide +kernel) rfl (Nat.le_of_ble_eq_true rfl) ?_
  refine V_aload_n dT_valueAt_0 rfl ?_
  refine V_getR (a := 69) dT_valueAt_1 flT_20 k66 rfl (r66_2 hR) ?_
  refine V_iload_n dT_valueAt_4 rfl ?_
  refine V_aaldAN (j := t) (a := 70 + t) dT_valueAt_5 k69 (by decide) rfl ht (by decide) (by have := rIt hR ht; exact this) ?_
  refine V_iload_n dT_valueAt_6 rfl ?_
  refine V_laldN (j := i) dT_valueAt_7 (kT ht) rfl hi (by decide) ?_
  refine V_topL (x' := gl M 115 (60 * t + i)) (tI hC ht hi) ?_
  exact V_lret dT_valueAt_8 rfl rfl ⟨rfl, rfl, rfl⟩
theorem c_cut {l : Launch} {G : GT} {σ : Hp} (k : Int32) (v : Int64) : MM l G mT_cut 0 0 0 [.int k, .long v] KA σ (PE (some (.long (cutS k v))) KA σ) := by
  skip
  refine MM.of (loc := [(0, .int k), (1, .long v)]) (by decide +kernel) rfl (Nat.le_of_ble_eq_true rfl) ?_
  refine V_iload_n dT_cut_0 rfl ?_
  by_cases s1_0 : k = 0
  · skip
    refine V_tsC (tgt := 36) 0 s1_0 dT_cut_1 (by decide) (by decide) rfl rfl ?_
    refine V_lload_n dT_cut_36 rfl ?_
    refine V_l2i dT_cut_37 ?_
    refine V_i2b dT_cut_38 ?_
    refine V_i2l dT_cut_39 ?_
    refine V_lret dT_cut_40 rfl rfl ?_
    refine ⟨congrArg (fun z => some (Value.long z)) ?_, rfl, rfl⟩
    simp_all [cutS]
  by_cases s1_1 : k = 1
  · skip
    refine V_tsC (tgt := 41) 1 s1_1 dT_cut_1 (by decide) (by decide) rfl rfl ?_
    refine V_lload_n dT_cut_41 rfl ?_
    refine V_l2i dT_cut_42 ?_
    refine V_i2s dT_cut_43 ?_
    refine V_i2l dT_cut_44 ?_
    refine V_lret dT_cut_45 rfl rfl ?_
    refine ⟨congrArg (fun z => some (Value.long z)) ?_, rfl, rfl⟩
    simp_all [cutS]
  by_cases s1_2 : k = 2
  · skip
    refine V_tsC (tgt := 46) 2 s1_2 dT_cut_1 (by decide) (by decide) rfl rfl ?_
    refine V_lload_n dT_cut_46 rfl ?_
    refine V_l2i dT_cut_47 ?_
    refine V_i2l dT_cut_48 ?_
    refine V_lret dT_cut_49 rfl rfl ?_
    refine ⟨congrArg (fun z => some (Value.long z)) ?_, rfl, rfl⟩
    simp_all [cutS]
  by_cases s1_3 : k = 3
  · skip
    refine V_tsC (tgt := 62) 3 s1_3 dT_cut_1 (by decide) (by decide) rfl rfl ?_
    refine V_lload_n dT_cut_62 rfl ?_
    refine V_lret dT_cut_63 rfl rfl ?_
    refine ⟨congrArg (fun z => some (Value.long z)) ?_, rfl, rfl⟩
    simp_all [cutS]
  by_cases s1_4 : k = 4
  · skip
    refine V_tsC (tgt := 50) 4 s1_4 dT_cut_1 (by decide) (by decide) rfl rfl ?_
    refine V_lload_n dT_cut_50 rfl ?_
    refine V_lconst (v := 0) dT_cut_51 (by decide) ?_
    refine V_lcmp dT_cut_52 ?_
    refine V_if_eq (tgt := 60) dT_cut_53 rfl (fun c53 => ?_) (fun c53 => ?_)
    · skip
      refine V_lconst (v := 0) dT_cut_60 (by decide) ?_
      refine V_lret dT_cut_61 rfl rfl ?_
      refine ⟨congrArg (fun z => some (Value.long z)) ?_, rfl, rfl⟩
      simp_all [cutS]
    · skip
      refine V_lconst (v := 1) dT_cut_56 (by decide) ?_
      refine V_goto (tgt := 61) dT_cut_57 rfl ?_
      refine V_lret dT_cut_61 rfl rfl ?_
      refine ⟨congrArg (fun z => some (Value.long z)) ?_, rfl, rfl⟩
      simp_all [cutS]
  have t1_0 := lv_neT (a := 0) s1_0 (by decide)
  have t1_1 := lv_neT (a := 1) s1_1 (by decide)
  have t1_2 := lv_neT (a := 2) s1_2 (by decide)
  have t1_3 := lv_neT (a := 3) s1_3 (by decide)
  have t1_4 := lv_neT (a := 4) s1_4 (by decide)
  refine V_tsD (tgt := 62) dT_cut_1 (by omega) rfl ?_
  refine V_lload_n dT_cut_62 rfl ?_
  refine V_lret dT_cut_63 rfl rfl ?_
  refine ⟨congrArg (fun z => some (Value.long z)) ?_, rfl, rfl⟩
  simp_all [cutS]
def PN (L : Nat → List Cl) (M' σ : Hp) : Option Value → List Kd → Hp → Prop := fun r k s => r = none ∧ KA = k ∧ RC L M' s ∧ Sm σ s
def PNm (M' σ : Hp) : Option Value → List Kd → Hp → Prop := fun r k s => r = none ∧ KA = k ∧ RM M' s ∧ Sc σ s
theorem c_put {l : Launch} {G : GT} {L : Nat → List Cl} {M σ : Hp} (hC : RC L M σ) (hI : Inv L M) {t i : Nat} (ht : t < 6) (hi : i < 60) (v : Int64) : MM l G mT_put 1 0 0 [.ref 66, .int (nI t), .int (nI i), .long v] KA σ (PN L (sl M 115 (60 * t + i) (cutS (gi M 113 t) v)) σ) := by
  have hR := hC.1
  have hS : Sm σ σ := Sm.rfl
  refine MM.of (loc := [(0, .ref 66), (1, .int (nI t)), (2, .int (nI i)), (3, .long v)]) (by decide +kernel) rfl (Nat.le_of_ble_eq_true rfl) ?_
  refine V_aload_n dT_put_0 rfl ?_
  refine V_getR (a := 69) dT_put_1 flT_20 k66 rfl (r66_2 hR) ?_
  refine V_iload_n dT_put_4 rfl ?_
  refine V_aaldAN (j := t) (a := 70 + t) dT_put_5 k69 (by decide) rfl ht (by decide) (by have := rIt hR ht; exact this) ?_
  refine V_iload_n dT_put_6 rfl ?_
  refine V_aload_n dT_put_7 rfl ?_
  refine V_getR (a := 67) dT_put_8 flT_9 k66 rfl (r66_0 hR) ?_
  refine V_iload_n dT_put_11 rfl ?_
  refine V_ialdN (j := t) dT_put_12 k67 rfl ht (by decide) ?_
  refine V_topI (x' := gi M 113 t) (tS hC ht) ?_
  refine V_lload_n dT_put_13 rfl ?_
  refine V_callS (as := [.int (gi M 113 t), .long v]) (rest := [.int (nI i), .ref (70 + t)]) (bs' := 0) rfl dT_put_14 cmT_cut stT_cut mlT_23 rfl rfl (c_cut (gi M 113 t) v) (by decide) (Nat.le_refl _) (by decide) (Nat.le_of_ble_eq_true rfl) ?_
  rintro _ _ _ ⟨rfl, rfl, rfl⟩ -
  refine V_one ?_
  refine V_lastN (j := i) dT_put_17 (kT ht) rfl hi (by decide) ?_
  have hC := RC_sl (t := t) (i := i) (x := cutS (gi M 113 t) v) hC ht hi
  have hS : Sm σ (sl σ (70 + t) i (cutS (gi M 113 t) v)) := hS.setl (by omega)
  exact V_ret dT_put_18 rfl rfl ⟨rfl, rfl, hC, hS⟩
theorem c_remake {l : Launch} {G : GT} {L : Nat → List Cl} {M σ : Hp} (hC : RC L M σ) (hI : Inv L M) {t : Nat} (ht : t < 6) (k n : Int32) : MM l G mT_remake 0 0 0 [.ref 66, .int (nI t), .int k, .int n] KA σ (PN L (zN (si (si M 113 t k) 114 t n) t 60) σ) := by
  have hR := hC.1
  have hS : Sm σ σ := Sm.rfl
  refine MM.of (loc := [(0, .ref 66), (1, .int (nI t)), (2, .int k), (3, .int n)]) (by decide +kernel) rfl (Nat.le_of_ble_eq_true rfl) ?_
  refine V_aload_n dT_remake_0 rfl ?_
  refine V_getR (a := 67) dT_remake_1 flT_9 k66 rfl (r66_0 hR) ?_
  refine V_iload_n dT_remake_4 rfl ?_
  refine V_iload_n dT_remake_5 rfl ?_
  refine V_iastN (j := t) dT_remake_6 k67 rfl ht (by decide) ?_
  have hC := RC_set (k := 67) (j := t) (a := 113) (b := t) (x := k) hC (mpT _ ht).1 (by first | decide | omega)
  have hS := hS.set (k := 67) (j := t) (x := k) (by omega)
  have hR := hC.1
  refine V_aload_n dT_remake_7 rfl ?_
  refine V_getR (a := 68) dT_remake_8 flT_15 k66 rfl (r66_1 hR) ?_
  refine V_iload_n dT_remake_11 rfl ?_
  refine V_iload_n dT_remake_12 rfl ?_
  refine V_iastN (j := t) dT_remake_13 k68 rfl ht (by decide) ?_
  have hC := RC_set (k := 68) (j := t) (a := 114) (b := t) (x := n) hC (mpT _ ht).2 (by first | decide | omega)
  have hS := hS.set (k := 68) (j := t) (x := n) (by omega)
  have hR := hC.1
  refine V_iconst (v := 0) dT_remake_14 (by decide) ?_
  refine V_istore (loc' := [(4, .int 0), (0, .ref 66), (1, .int (nI t)), (2, .int k), (3, .int n)]) dT_remake_15 (by decide) rfl ?_
  refine V.locs (loc' := [(4, .int 0), (0, .ref 66), (1, .int (nI t)), (2, .int k), (3, .int n)]) [0, 1, 2, 3, 4] rfl ?_
  refine V_eqL (loc' := [(4, .int (nI 0)), (0, .ref 66), (1, .int (nI t)), (2, .int k), (3, .int n)]) ?_ ?_
  · rfl
  have lp : ∀ i : Nat, i ≤ 60 → ∀ s : Hp, RC L (zN (si (si M 113 t k) 114 t n) t i) s → Sm σ s → V l G mT_remake (rmd 0 0 0) (KA.length + 0) 0 17 [(4, .int (nI i)), (0, .ref 66), (1, .int (nI t)), (2, .int k), (3, .int n)] [] KA s (PN L (zN (si (si M 113 t k) 114 t n) t 60) σ) := by
    refine lp_up 60 ?_ (fun i hi ihi => ?_)
    · skip
      intro s hC hS
      have hR := hC.1
      refine V_iload dT_remake_17 rfl ?_
      refine V_bipush (v := 60) dT_remake_19 (by decide) ?_
      refine V_icmp_ge (tgt := 40) dT_remake_21 rfl (fun _ => ?_) (fun h => absurd h (not_not_intro (nI_le (a := 60) (b := 60) (by decide) (by decide))))
      exact V_ret dT_remake_40 rfl rfl ⟨rfl, rfl, hC, hS⟩
    · skip
      intro s hC hS
      have hR := hC.1
      refine V_iload dT_remake_17 rfl ?_
      refine V_bipush (v := 60) dT_remake_19 (by decide) ?_
      refine V_icmp_ge (tgt := 40) dT_remake_21 rfl (fun h => absurd h (nI_ge (a := i) (b := 60) hi (by decide))) (fun _ => ?_)
      refine V_aload_n dT_remake_24 rfl ?_
      refine V_getR (a := 69) dT_remake_25 flT_20 k66 rfl (r66_2 hR) ?_
      refine V_iload_n dT_remake_28 rfl ?_
      refine V_aaldAN (j := t) (a := 70 + t) dT_remake_29 k69 (by decide) rfl ht (by decide) (by have := rIt hR ht; exact this) ?_
      refine V_iload dT_remake_30 rfl ?_
      refine V_lconst (v := 0) dT_remake_32 (by decide) ?_
      refine V_lastN (j := i) dT_remake_33 (kT ht) rfl hi (by decide) ?_
      have hC : RC L (zN (si (si M 113 t k) 114 t n) t (i + 1)) (sl s (70 + t) i 0) := RC_sl (t := t) (i := i) (x := 0) hC ht hi
      have hS : Sm σ (sl s (70 + t) i 0) := hS.setl (by omega)
      refine V_iinc (v := nI (i + 1)) (loc' := [(4, .int (nI (i + 1))), (0, .ref 66), (1, .int (nI t)), (2, .int k), (3, .int n)]) dT_remake_34 rfl (nI_inc i) (by decide) rfl ?_
      refine V_goto (tgt := 17) dT_remake_37 rfl ?_
      refine V.locs (loc' := [(4, .int (nI (i + 1))), (0, .ref 66), (1, .int (nI t)), (2, .int k), (3, .int n)]) [0, 1, 2, 3, 4] rfl ?_
      exact (ihi _ hC hS)
  exact lp 0 (Nat.zero_le _) _ hC hS
theorem g_tape {l : Launch} {G : GT} {L : Nat → List Cl} {M σ : Hp} (hC : RC L M σ) (hI : Inv L M) (t k n : Int32) : MM l G mG_tape 1 0 0 [.ref 0, .int t, .int k, .int n] KA σ (PQ L σ (q_tape M t k n)) := by
  have hR := hC.1
  have hC0 := hC
  have hS : Sm σ σ := Sm.rfl
  refine MM.of (loc := [(0, .ref 0), (1, .int t), (2, .int k), (3, .int n)]) (by decide +kernel) rfl (Nat.le_of_ble_eq_true rfl) ?_
  refine V_aload_n dG_tape_0 rfl ?_
  refine V_getR (a := 66) dG_tape_1 flG_56 k0 rfl (r0_7 hR) ?_
  refine V_iload_n dG_tape_4 rfl ?_
  refine V_callV (as := [.int t]) (rest := []) (bs' := 0) rfl dG_tape_5 cmT_has cvT_has mlG_239 (Or.inl ⟨_, _, _, _, _, rfl, k66, by decide, rfl⟩) rfl rfl (c_thas t) (by decide) (Nat.le_refl _) (by decide) (Nat.le_of_ble_eq_true rfl) ?_
  rintro _ _ _ (⟨hb5, rfl, rfl, rfl⟩ | ⟨hb5, rfl, rfl, rfl⟩) -
  · refine V_one ?_
    refine V_if_ne (tgt := 13) dG_tape_8 rfl (fun _ => ?_) (fun h => absurd h (by decide))
    refine V_iload_n dG_tape_13 rfl ?_
    refine V_iconst (v := -1) dG_tape_14 (by decide) ?_
    refine V_icmp_ne (tgt := 30) dG_tape_15 rfl (fun c15 => ?_) (fun c15 => ?_)
    · skip
      refine V_iload_n dG_tape_30 rfl ?_
      refine V_iconst (v := 4) dG_tape_31 (by decide) ?_
      refine V_callS (as := [.int k, .int 4]) (rest := []) (bs' := 0) rfl dG_tape_32 cmG_isUpTo stG_isUpTo mlG_75 rfl rfl (c_isUpTo k 4) (by decide) (Nat.le_refl _) (by decide) (Nat.le_of_ble_eq_true rfl) ?_
      rintro _ _ _ (⟨hb32, rfl, rfl, rfl⟩ | ⟨hb32, rfl, rfl, rfl⟩) -
      · refine V_one ?_
        refine V_if_eq (tgt := 44) dG_tape_35 rfl (fun h => absurd h (by decide)) (fun _ => ?_)
        refine V_iload_n dG_tape_38 rfl ?_
        refine V_bipush (v := 60) dG_tape_39 (by decide) ?_
        refine V_icmp_le (tgt := 47) dG_tape_41 rfl (fun c41 => ?_) (fun c41 => ?_)
        · skip
          refine V_iload_n dG_tape_47 rfl ?_
          refine V_if_ge (tgt := 54) dG_tape_48 rfl (fun c48 => ?_) (fun c48 => ?_)
          · skip
            refine V_aload_n dG_tape_54 rfl ?_
            refine V_getR (a := 66) dG_tape_55 flG_56 k0 rfl (r0_7 hR) ?_
            refine V_iload_n dG_tape_58 rfl ?_
            refine V_topI (x' := nI (cN t)) (rng_N hb5 (by decide)).1 ?_
            refine V_iload_n dG_tape_59 rfl ?_
            refine V_iload_n dG_tape_60 rfl ?_
            refine V_callV (as := [.int (nI (cN t)), .int k, .int n]) (rest := []) (bs' := 0) rfl dG_tape_61 cmT_remake cvT_remake mlG_291 (Or.inl ⟨_, _, _, _, _, rfl, k66, by decide, rfl⟩) rfl rfl (c_remake hC hI (rng_N hb5 (by decide)).2 k n) (by decide) (Nat.le_refl _) (by decide) (Nat.le_of_ble_eq_true rfl) ?_
            rintro _ _ s1 ⟨rfl, rfl, hC, hS1⟩ -
            refine V_non ?_
            have hS := hS.trans hS1
            refine V_iconst (v := 1) dG_tape_64 (by decide) ?_
            refine V_iret dG_tape_65 rfl rfl ?_
            have e : q_tape M t k n = (1, zN (si (si M 113 (cN t) k) 114 (cN t) n) (cN t) 60) := by
              skip
              first
              | (simp only [q_tape, if_pos hb5, if_neg c15, if_pos hb32, if_pos c41, if_pos c48]; done)
              | (simp [q_tape, hb5, c15, hb32, c41, c48]; done)
              | (simp_all [q_tape]; done)
            rw [e]
            exact ⟨rfl, rfl, hC, hS⟩
          · skip
            refine V_bipush (v := -14) dG_tape_51 (by decide) ?_
            refine V_iret dG_tape_53 rfl rfl ?_
            have e : q_tape M t k n = ((-14), M) := by
              skip
              first
              | (simp only [q_tape, if_pos hb5, if_neg c15, if_pos hb32, if_pos c41, if_neg c48]; done)
              | (simp [q_tape, hb5, c15, hb32, c41, c48]; done)
              | (simp_all [q_tape]; done)
            rw [e]
            exact ⟨rfl, rfl, hC, hS⟩
        · skip
          refine V_bipush (v := -2) dG_tape_44 (by decide) ?_
          refine V_iret dG_tape_46 rfl rfl ?_
          have e : q_tape M t k n = ((-2), M) := by
            skip
            first
            | (simp only [q_tape, if_pos hb5, if_neg c15, if_pos hb32, if_neg c41]; done)
            | (simp [q_tape, hb5, c15, hb32, c41]; done)
            | (simp_all [q_tape]; done)
          rw [e]
          exact ⟨rfl, rfl, hC, hS⟩
      · refine V_one ?_
        refine V_if_eq (tgt := 44) dG_tape_35 rfl (fun _ => ?_) (fun h => absurd h (by decide))
        refine V_bipush (v := -2) dG_tape_44 (by decide) ?_
        refine V_iret dG_tape_46 rfl rfl ?_
        have e : q_tape M t k n = ((-2), M) := by
          skip
          first
          | (simp only [q_tape, if_pos hb5, if_neg c15, if_neg hb32]; done)
          | (simp [q_tape, hb5, c15, hb32]; done)
          | (simp_all [q_tape]; done)
        rw [e]
        exact ⟨rfl, rfl, hC, hS⟩
    · skip
      refine V_aload_n dG_tape_18 rfl ?_
      refine V_getR (a := 66) dG_tape_19 flG_56 k0 rfl (r0_7 hR) ?_
      refine V_iload_n dG_tape_22 rfl ?_
      refine V_topI (x' := nI (cN t)) (rng_N hb5 (by decide)).1 ?_
      refine V_iload_n dG_tape_23 rfl ?_
      refine V_iconst (v := 0) dG_tape_24 (by decide) ?_
      refine V_callV (as := [.int (nI (cN t)), .int k, .int 0]) (rest := []) (bs' := 0) rfl dG_tape_25 cmT_remake cvT_remake mlG_291 (Or.inl ⟨_, _, _, _, _, rfl, k66, by decide, rfl⟩) rfl rfl (c_remake hC hI (rng_N hb5 (by decide)).2 k 0) (by decide) (Nat.le_refl _) (by decide) (Nat.le_of_ble_eq_true rfl) ?_
      rintro _ _ s1 ⟨rfl, rfl, hC, hS1⟩ -
      refine V_non ?_
      have hS := hS.trans hS1
      refine V_iconst (v := 1) dG_tape_28 (by decide) ?_
      refine V_iret dG_tape_29 rfl rfl ?_
      have e : q_tape M t k n = (1, zN (si (si M 113 (cN t) k) 114 (cN t) 0) (cN t) 60) := by
        skip
        first
        | (simp only [q_tape, if_pos hb5, if_pos c15]; done)
        | (simp [q_tape, hb5, c15]; done)
        | (simp_all [q_tape]; done)
      rw [e]
      exact ⟨rfl, rfl, hC, hS⟩
  · refine V_one ?_
    refine V_if_ne (tgt := 13) dG_tape_8 rfl (fun h => absurd h (by decide)) (fun _ => ?_)
    refine V_iconst (v := -1) dG_tape_11 (by decide) ?_
    refine V_iret dG_tape_12 rfl rfl ?_
    have e : q_tape M t k n = ((-1), M) := by
      skip
      first
      | (simp only [q_tape, if_neg hb5]; done)
      | (simp [q_tape, hb5]; done)
      | (simp_all [q_tape]; done)
    rw [e]
    exact ⟨rfl, rfl, hC, hS⟩
theorem g_item {l : Launch} {G : GT} {L : Nat → List Cl} {M σ : Hp} (hC : RC L M σ) (hI : Inv L M) (t i : Int32) (v : Int64) : MM l G mG_item 2 0 0 [.ref 0, .int t, .int i, .long v] KA σ (PQ L σ (q_item M t i v)) := by
  have hR := hC.1
  have hC0 := hC
  have hS : Sm σ σ := Sm.rfl
  refine MM.of (loc := [(0, .ref 0), (1, .int t), (2, .int i), (3, .long v)]) (by decide +kernel) rfl (Nat.le_of_ble_eq_true rfl) ?_
  refine V_aload_n dG_item_0 rfl ?_
  refine V_getR (a := 66) dG_item_1 flG_56 k0 rfl (r0_7 hR) ?_
  refine V_iload_n dG_item_4 rfl ?_
  refine V_callV (as := [.int t]) (rest := []) (bs' := 0) rfl dG_item_5 cmT_has cvT_has mlG_239 (Or.inl ⟨_, _, _, _, _, rfl, k66, by decide, rfl⟩) rfl rfl (c_thas t) (by decide) (Nat.le_refl _) (by decide) (Nat.le_of_ble_eq_true rfl) ?_
  rintro _ _ _ (⟨hb5, rfl, rfl, rfl⟩ | ⟨hb5, rfl, rfl, rfl⟩) -
  · refine V_one ?_
    refine V_if_ne (tgt := 13) dG_item_8 rfl (fun _ => ?_) (fun h => absurd h (by decide))
    refine V_aload_n dG_item_13 rfl ?_
    refine V_getR (a := 66) dG_item_14 flG_56 k0 rfl (r0_7 hR) ?_
    refine V_iload_n dG_item_17 rfl ?_
    refine V_topI (x' := nI (cN t)) (rng_N hb5 (by decide)).1 ?_
    refine V_callV (as := [.int (nI (cN t))]) (rest := []) (bs' := 0) rfl dG_item_18 cmT_holds cvT_holds mlG_242 (Or.inl ⟨_, _, _, _, _, rfl, k66, by decide, rfl⟩) rfl rfl (c_tholds hC hI (rng_N hb5 (by decide)).2) (by decide) (Nat.le_refl _) (by decide) (Nat.le_of_ble_eq_true rfl) ?_
    rintro _ _ _ (⟨hy18, rfl, rfl, rfl⟩ | ⟨hx18, rfl, rfl, rfl⟩) -
    · refine V_one ?_
      have hb18 : ¬ gi M 113 (cN t) = -1 := hy18
      refine V_if_ne (tgt := 27) dG_item_21 rfl (fun _ => ?_) (fun h => absurd h (by decide))
      refine V_aload_n dG_item_27 rfl ?_
      refine V_getR (a := 66) dG_item_28 flG_56 k0 rfl (r0_7 hR) ?_
      refine V_iload_n dG_item_31 rfl ?_
      refine V_topI (x' := nI (cN t)) (rng_N hb5 (by decide)).1 ?_
      refine V_iload_n dG_item_32 rfl ?_
      refine V_callV (as := [.int (nI (cN t)), .int i]) (rest := []) (bs' := 0) rfl dG_item_33 cmT_hasPlace cvT_hasPlace mlG_248 (Or.inl ⟨_, _, _, _, _, rfl, k66, by decide, rfl⟩) rfl rfl (c_thasPlace hC hI (rng_N hb5 (by decide)).2 i) (by decide) (Nat.le_refl _) (by decide) (Nat.le_of_ble_eq_true rfl) ?_
      rintro _ _ _ (⟨hb33, rfl, rfl, rfl⟩ | ⟨hb33, rfl, rfl, rfl⟩) -
      · refine V_one ?_
        refine V_if_ne (tgt := 42) dG_item_36 rfl (fun _ => ?_) (fun h => absurd h (by decide))
        refine V_aload_n dG_item_42 rfl ?_
        refine V_getR (a := 66) dG_item_43 flG_56 k0 rfl (r0_7 hR) ?_
        refine V_iload_n dG_item_46 rfl ?_
        refine V_topI (x' := nI (cN t)) (rng_N hb5 (by decide)).1 ?_
        refine V_iload_n dG_item_47 rfl ?_
        refine V_topI (x' := nI (cN i)) (rng_N hb33 (by have := (iT hI (rng_N hb5 (by decide)).2).1.2; omega)).1 ?_
        refine V_lload_n dG_item_48 rfl ?_
        refine V_callV (as := [.int (nI (cN t)), .int (nI (cN i)), .long v]) (rest := []) (bs' := 0) rfl dG_item_49 cmT_put cvT_put mlG_295 (Or.inl ⟨_, _, _, _, _, rfl, k66, by decide, rfl⟩) rfl rfl (c_put hC hI (rng_N hb5 (by decide)).2 (by have := (rng_N hb33 (by have := (iT hI (rng_N hb5 (by decide)).2).1.2; omega)).2; have := (iT hI (rng_N hb5 (by decide)).2).1.2; omega) v) (by decide) (Nat.le_refl _) (by decide) (Nat.le_of_ble_eq_true rfl) ?_
        rintro _ _ s1 ⟨rfl, rfl, hC, hS1⟩ -
        refine V_non ?_
        have hS := hS.trans hS1
        refine V_iconst (v := 1) dG_item_52 (by decide) ?_
        refine V_iret dG_item_53 rfl rfl ?_
        have e : q_item M t i v = (1, sl M 115 (60 * cN t + cN i) (cutS (gi M 113 (cN t)) v)) := by
          simp only [q_item, if_pos hb5, if_neg hb18, if_pos hb33]
        rw [e]
        exact ⟨rfl, rfl, hC, hS⟩
      · refine V_one ?_
        refine V_if_ne (tgt := 42) dG_item_36 rfl (fun h => absurd h (by decide)) (fun _ => ?_)
        refine V_bipush (v := -13) dG_item_39 (by decide) ?_
        refine V_iret dG_item_41 rfl rfl ?_
        have e : q_item M t i v = ((-13), M) := by
          simp only [q_item, if_pos hb5, if_neg hb18, if_neg hb33]
        rw [e]
        exact ⟨rfl, rfl, hC, hS⟩
    · refine V_one ?_
      have hb18 : gi M 113 (cN t) = -1 := Decidable.not_not.mp hx18
      have hcn18 := True.intro
      refine V_if_ne (tgt := 27) dG_item_21 rfl (fun h => absurd h (by decide)) (fun _ => ?_)
      refine V_bipush (v := -11) dG_item_24 (by decide) ?_
      refine V_iret dG_item_26 rfl rfl ?_
      have e : q_item M t i v = ((-11), M) := by
        simp only [q_item, if_pos hb5, if_pos hb18]
      rw [e]
      exact ⟨rfl, rfl, hC, hS⟩
  · refine V_one ?_
    refine V_if_ne (tgt := 13) dG_item_8 rfl (fun h => absurd h (by decide)) (fun _ => ?_)
    refine V_iconst (v := -1) dG_item_11 (by decide) ?_
    refine V_iret dG_item_12 rfl rfl ?_
    have e : q_item M t i v = ((-1), M) := by
      simp only [q_item, if_neg hb5]
    rw [e]
    exact ⟨rfl, rfl, hC, hS⟩
theorem g_read {l : Launch} {G : GT} {L : Nat → List Cl} {M σ : Hp} (hC : RC L M σ) (hI : Inv L M) (t i : Int32) : MM l G mG_read 2 0 0 [.ref 0, .int t, .int i] KA σ (PQl L σ (q_read M t i)) := by
  have hR := hC.1
  have hC0 := hC
  have hS : Sm σ σ := Sm.rfl
  refine MM.of (loc := [(0, .ref 0), (1, .int t), (2, .int i)]) (by decide +kernel) rfl (Nat.le_of_ble_eq_true rfl) ?_
  refine V_aload_n dG_read_0 rfl ?_
  refine V_getR (a := 66) dG_read_1 flG_56 k0 rfl (r0_7 hR) ?_
  refine V_iload_n dG_read_4 rfl ?_
  refine V_callV (as := [.int t]) (rest := []) (bs' := 0) rfl dG_read_5 cmT_has cvT_has mlG_239 (Or.inl ⟨_, _, _, _, _, rfl, k66, by decide, rfl⟩) rfl rfl (c_thas t) (by decide) (Nat.le_refl _) (by decide) (Nat.le_of_ble_eq_true rfl) ?_
  rintro _ _ _ (⟨hb5, rfl, rfl, rfl⟩ | ⟨hb5, rfl, rfl, rfl⟩) -
  · refine V_one ?_
    refine V_if_eq (tgt := 23) dG_read_8 rfl (fun h => absurd h (by decide)) (fun _ => ?_)
    refine V_aload_n dG_read_11 rfl ?_
    refine V_getR (a := 66) dG_read_12 flG_56 k0 rfl (r0_7 hR) ?_
    refine V_iload_n dG_read_15 rfl ?_
    refine V_topI (x' := nI (cN t)) (rng_N hb5 (by decide)).1 ?_
    refine V_iload_n dG_read_16 rfl ?_
    refine V_callV (as := [.int (nI (cN t)), .int i]) (rest := []) (bs' := 0) rfl dG_read_17 cmT_hasPlace cvT_hasPlace mlG_248 (Or.inl ⟨_, _, _, _, _, rfl, k66, by decide, rfl⟩) rfl rfl (c_thasPlace hC hI (rng_N hb5 (by decide)).2 i) (by decide) (Nat.le_refl _) (by decide) (Nat.le_of_ble_eq_true rfl) ?_
    rintro _ _ _ (⟨hb17, rfl, rfl, rfl⟩ | ⟨hb17, rfl, rfl, rfl⟩) -
    · refine V_one ?_
      refine V_if_ne (tgt := 27) dG_read_20 rfl (fun _ => ?_) (fun h => absurd h (by decide))
      refine V_aload_n dG_read_27 rfl ?_
      refine V_getR (a := 66) dG_read_28 flG_56 k0 rfl (r0_7 hR) ?_
      refine V_iload_n dG_read_31 rfl ?_
      refine V_topI (x' := nI (cN t)) (rng_N hb5 (by decide)).1 ?_
      refine V_iload_n dG_read_32 rfl ?_
      refine V_topI (x' := nI (cN i)) (rng_N hb17 (by have := (iT hI (rng_N hb5 (by decide)).2).1.2; omega)).1 ?_
      refine V_callV (as := [.int (nI (cN t)), .int (nI (cN i))]) (rest := []) (bs' := 0) rfl dG_read_33 cmT_valueAt cvT_valueAt mlG_251 (Or.inl ⟨_, _, _, _, _, rfl, k66, by decide, rfl⟩) rfl rfl (c_valueAt hC hI (rng_N hb5 (by decide)).2 (by have := (rng_N hb17 (by have := (iT hI (rng_N hb5 (by decide)).2).1.2; omega)).2; have := (iT hI (rng_N hb5 (by decide)).2).1.2; omega)) (by decide) (Nat.le_refl _) (by decide) (Nat.le_of_ble_eq_true rfl) ?_
      rintro _ _ _ ⟨rfl, rfl, rfl⟩ -
      refine V_one ?_
      refine V_lret dG_read_36 rfl rfl ?_
      have e : q_read M t i = (gl M 115 (60 * cN t + cN i), M) := by
        skip
        first
        | (simp only [q_read, if_pos hb5, if_pos hb17]; done)
        | (simp [q_read, hb5, hb17]; done)
        | (simp_all [q_read]; done)
      rw [e]
      exact ⟨rfl, rfl, hC, hS⟩
    · refine V_one ?_
      refine V_if_ne (tgt := 27) dG_read_20 rfl (fun h => absurd h (by decide)) (fun _ => ?_)
      refine V_ldc2 dG_read_23 klG_153 ?_
      refine V_lret dG_read_26 rfl rfl ?_
      have e : q_read M t i = ((-9223372036854775808), M) := by
        skip
        first
        | (simp only [q_read, if_pos hb5, if_neg hb17]; done)
        | (simp [q_read, hb5, hb17]; done)
        | (simp_all [q_read]; done)
      rw [e]
      exact ⟨rfl, rfl, hC, hS⟩
  · refine V_one ?_
    refine V_if_eq (tgt := 23) dG_read_8 rfl (fun _ => ?_) (fun h => absurd h (by decide))
    refine V_ldc2 dG_read_23 klG_153 ?_
    refine V_lret dG_read_26 rfl rfl ?_
    have e : q_read M t i = ((-9223372036854775808), M) := by
      skip
      first
      | (simp only [q_read, if_neg hb5]; done)
      | (simp [q_read, hb5]; done)
      | (simp_all [q_read]; done)
    rw [e]
    exact ⟨rfl, rfl, hC, hS⟩
theorem m_isTape {l : Launch} {G : GT} {L : Nat → List Cl} {M σ : Hp} (hM : RM M σ) (hI : Inv L M) (x : Int32) : MM l G mM_isTape 1 0 0 [.ref 76, .int x] KA σ (PZ (rng x 6) KA σ) := by
  have hR := hM.1
  refine MM.of (loc := [(0, .ref 76), (1, .int x)]) (by decide +kernel) rfl (Nat.le_of_ble_eq_true rfl) ?_
  refine V_aload_n dM_isTape_0 rfl ?_
  refine V_iload_n dM_isTape_1 rfl ?_
  refine V_iconst (v := 0) dM_isTape_2 (by decide) ?_
  refine V_iconst (v := 5) dM_isTape_3 (by decide) ?_
  refine V_callV (as := [.int x, .int 0, .int 5]) (rest := []) (bs' := 0) rfl dM_isTape_4 cmM_in cvM_in mlM_203 (Or.inl ⟨_, _, _, _, _, rfl, k76, by decide, rfl⟩) rfl rfl (m_in x 0 5) (by decide) (Nat.le_refl _) (by decide) (Nat.le_of_ble_eq_true rfl) ?_
  rintro _ _ _ (⟨hb, rfl, rfl, rfl⟩ | ⟨hb, rfl, rfl, rfl⟩) -
  · refine V_one ?_
    exact V_zret dM_isTape_7 rfl rfl rfl (Or.inl ⟨(le_pred x (n := 6) (by decide)).mp hb, rfl, rfl, rfl⟩)
  · refine V_one ?_
    exact V_zret dM_isTape_7 rfl rfl rfl (Or.inr ⟨fun q => hb ((le_pred x (n := 6) (by decide)).mpr q), rfl, rfl, rfl⟩)
theorem m_narrow {l : Launch} {G : GT} {σ : Hp} (k : Int32) (v : Int64) : MM l G mM_narrow 0 0 0 [.ref 76, .int k, .long v] KA σ (PE (some (.long (cutS k v))) KA σ) := by
  refine MM.of (loc := [(0, .ref 76), (1, .int k), (2, .long v)]) (by decide +kernel) rfl (Nat.le_of_ble_eq_true rfl) ?_
  refine V_iload_n dM_narrow_0 rfl ?_
  refine V_if_ne (tgt := 11) dM_narrow_1 rfl (fun c1 => ?_) (fun c1 => ?_)
  · skip
    refine V_iload_n dM_narrow_11 rfl ?_
    refine V_iconst (v := 1) dM_narrow_12 (by decide) ?_
    refine V_icmp_ne (tgt := 23) dM_narrow_13 rfl (fun c13 => ?_) (fun c13 => ?_)
    · skip
      refine V_iload_n dM_narrow_23 rfl ?_
      refine V_iconst (v := 2) dM_narrow_24 (by decide) ?_
      refine V_icmp_ne (tgt := 34) dM_narrow_25 rfl (fun c25 => ?_) (fun c25 => ?_)
      · skip
        refine V_iload_n dM_narrow_34 rfl ?_
        refine V_iconst (v := 4) dM_narrow_35 (by decide) ?_
        refine V_icmp_ne (tgt := 53) dM_narrow_36 rfl (fun c36 => ?_) (fun c36 => ?_)
        · skip
          refine V_lload_n dM_narrow_53 rfl ?_
          refine V_lret dM_narrow_54 rfl rfl ?_
          refine ⟨congrArg (fun z => some (Value.long z)) ?_, rfl, rfl⟩
          simp_all [cutS]
        · skip
          refine V_lload_n dM_narrow_39 rfl ?_
          refine V_lconst (v := 0) dM_narrow_40 (by decide) ?_
          refine V_lcmp dM_narrow_41 ?_
          refine V_if_eq (tgt := 49) dM_narrow_42 rfl (fun c42 => ?_) (fun c42 => ?_)
          · skip
            refine V_lconst (v := 0) dM_narrow_49 (by decide) ?_
            refine V_goto (tgt := 54) dM_narrow_50 rfl ?_
            refine V_lret dM_narrow_54 rfl rfl ?_
            refine ⟨congrArg (fun z => some (Value.long z)) ?_, rfl, rfl⟩
            simp_all [cutS]
          · skip
            refine V_lconst (v := 1) dM_narrow_45 (by decide) ?_
            refine V_goto (tgt := 54) dM_narrow_46 rfl ?_
            refine V_lret dM_narrow_54 rfl rfl ?_
            refine ⟨congrArg (fun z => some (Value.long z)) ?_, rfl, rfl⟩
            simp_all [cutS]
      · skip
        refine V_lload_n dM_narrow_28 rfl ?_
        refine V_l2i dM_narrow_29 ?_
        refine V_i2l dM_narrow_30 ?_
        refine V_goto (tgt := 54) dM_narrow_31 rfl ?_
        refine V_lret dM_narrow_54 rfl rfl ?_
        refine ⟨congrArg (fun z => some (Value.long z)) ?_, rfl, rfl⟩
        simp_all [cutS]
    · skip
      refine V_lload_n dM_narrow_16 rfl ?_
      refine V_l2i dM_narrow_17 ?_
      refine V_i2s dM_narrow_18 ?_
      refine V_i2l dM_narrow_19 ?_
      refine V_goto (tgt := 54) dM_narrow_20 rfl ?_
      refine V_lret dM_narrow_54 rfl rfl ?_
      refine ⟨congrArg (fun z => some (Value.long z)) ?_, rfl, rfl⟩
      simp_all [cutS]
  · skip
    refine V_lload_n dM_narrow_4 rfl ?_
    refine V_l2i dM_narrow_5 ?_
    refine V_i2b dM_narrow_6 ?_
    refine V_i2l dM_narrow_7 ?_
    refine V_goto (tgt := 54) dM_narrow_8 rfl ?_
    refine V_lret dM_narrow_54 rfl rfl ?_
    refine ⟨congrArg (fun z => some (Value.long z)) ?_, rfl, rfl⟩
    simp_all [cutS]
