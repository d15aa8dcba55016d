/-! law: both objects walked-/
theorem TX_M {L : Nat → List Cl} {M σ : Hp} (hC : RC L M σ) (hI : Inv L M) : TX σ (mF M) (chM M) := by
  refine ⟨by have := (iF hI).2; omega, fun q hq => ?_, fun q hq => chM_255 hq⟩
  have h := chM_lt hI hq
  have h2 := (iF hI).2
  have e : mp 48 q = some (84, q) := by
    have h100 : q < 100 := by omega
    clear hq h
    revert q
    decide
  exact ⟨(hC.2.1 48 q 84 q e).trans h.1, h.2⟩
theorem grS : ∀ f : Nat, f < 6 → True := fun _ _ => trivial
def PEn (L : Nat → List Cl) (M σ : Hp) : Option Value → List Kd → Hp → Prop := fun r k t => r = some (.int (aL M)) ∧ KA = k ∧ Sm σ t ∧ if fe M = 6 then t = σ else EN σ t (fe M) (lwM M)
def PQw (L : Nat → List Cl) (M σ : Hp) : Option Value → List Kd → Hp → Prop := fun r k t => r = some (.int (aL M)) ∧ KA = k ∧ Sm σ t ∧ RF t ∧ ∀ L' M', LSt L M L' M' → RC L' M' t
def PMw (L : Nat → List Cl) (M σ : Hp) : Option Value → List Kd → Hp → Prop := fun r k t => r = some (.int (aL M)) ∧ KA = k ∧ Sc σ t ∧ ∃ L' M', LSt L M L' M' ∧ RM M' t
theorem RS.sm {σ s : Hp} {f n p b : Nat} {ops : List Nat} (h : RS σ s f n p b ops) (hf : f < 6) : Sm σ s := fun k j hk => ⟨h.1 k j (by omega) (by omega), h.2.1 k j⟩
theorem EN.ok {σ s : Hp} {f n : Nat} {r : Rw} {ops : List Nat} {p b : Nat} (hf : f < 6) (h : RS σ s f n p b ops) (hr : r.1 = true) (hb : r.2.2.1 = b) (ho : r.2.2.2.1 = ops) : EN σ (si (si (si (si s 47 1 0) 56 f (nI ops.length)) 57 f (nI b)) 47 2 (nI (f + 1))) f r := by
  subst hb
  subst ho
  refine ⟨fun k j h1 h2 h3 h4 => ?_, h.2.1, h.2.2.1, ?_, ?_⟩
  · have e1 : ¬ (k = 47 ∧ j = 2) := by omega
    have e2 : ¬ (k = 57 ∧ j = f) := by omega
    have e3 : ¬ (k = 56 ∧ j = f) := by omega
    have e4 : ¬ (k = 47 ∧ j = 1) := by omega
    rw [← h.1 k j h4 h2]
    simp [gi, si, e1, e2, e3, e4]
  · rw [gi_nj (by decide), gi_ne (by decide), gi_ne (by decide), gi_eq]
  · rw [if_pos hr]
    refine ⟨gi_eq, ?_, ?_, fun j op hj => ?_⟩
    · rw [gi_ne (by decide), gi_ne (by decide), gi_eq]
    · rw [gi_ne (by decide), gi_eq]
    · rw [gi_ne (by omega), gi_ne (by omega), gi_ne (by omega), gi_ne (by omega)]
      exact h.2.2.2.2.2.2.2.2.1 j op hj
theorem EN.no {σ s : Hp} {f n : Nat} {r : Rw} {ops : List Nat} {p b : Nat} (hf : f < 6) (h : RS σ s f n p b ops) (hr : r.1 = false) : EN σ (si s 47 1 0) f r := by
  refine ⟨fun k j h1 h2 h3 h4 => ?_, h.2.1, h.2.2.1, gi_eq, ?_⟩
  · have e4 : ¬ (k = 47 ∧ j = 1) := by omega
    rw [← h.1 k j h4 h2]
    simp [gi, si, e4]
  · rw [if_neg (by rw [hr]; decide), gi_nj (by decide)]
    exact h.1 47 2 (by decide) (by omega)
theorem c_lenact {l : Launch} {G : GT} {L : Nat → List Cl} {M σ : Hp} (hC : RC L M σ) (hI : Inv L M) : MM l G mL_enact 17 0 0 [.ref 47] KA σ (PEn L M σ) := by
  refine MM.of (loc := [(0, .ref 47)]) (by decide +kernel) rfl (Nat.le_of_ble_eq_true rfl) ?_
  have hR := hC.1
  have hT := TX_M hC hI
  by_cases h6 : fe M = 6
  · skip
    refine V_aload_n dL_enact_0 rfl ?_
    refine V_getE (x := nI (fe M)) dL_enact_1 flL_39 k47 rfl ((hC.2.1 47 2 76 11 rfl).trans (iL hI).1) ?_
    refine V_bipush (v := 6) dL_enact_4 (by decide) ?_
    refine V_icmp_lt (tgt := 12) dL_enact_6 rfl (fun h => absurd h (by rw [h6]; exact nI_nlt (a := 6) (b := 6) (by decide) (by decide))) (fun _ => ?_)
    refine V_bipush (v := -4) dL_enact_9 (by decide) ?_
    refine V_iret dL_enact_11 rfl rfl ?_
    rw [show (-4 : Int32) = aL M from (if_pos h6).symm]
    refine ⟨rfl, rfl, Sm.rfl, ?_⟩
    rw [if_pos h6]
  · have hfe : fe M < 6 := by have := (iL hI).2; omega
    refine V_aload_n dL_enact_0 rfl ?_
    refine V_getE (x := nI (fe M)) dL_enact_1 flL_39 k47 rfl ((hC.2.1 47 2 76 11 rfl).trans (iL hI).1) ?_
    refine V_bipush (v := 6) dL_enact_4 (by decide) ?_
    refine V_icmp_lt (tgt := 12) dL_enact_6 rfl (fun _ => ?_) (fun h => absurd h (not_not_intro (nI_lt (b := 6) hfe (by decide))))
    refine V_aload_n dL_enact_12 rfl ?_
    refine V_getR (a := 58) dL_enact_13 flL_31 k47 rfl (r47_6 hR) ?_
    refine V_aload_n dL_enact_16 rfl ?_
    refine V_getE (x := nI (mF M)) dL_enact_17 flL_35 k47 rfl ((hC.2.1 47 1 76 13 rfl).trans (iF hI).1) ?_
    refine V_aload_n dL_enact_20 rfl ?_
    refine V_getR (a := 49) dL_enact_21 flL_17 k47 rfl (r47_3 hR) ?_
    refine V_aload_n dL_enact_24 rfl ?_
    refine V_getE (x := nI (fe M)) dL_enact_25 flL_39 k47 rfl ((hC.2.1 47 2 76 11 rfl).trans (iL hI).1) ?_
    refine V_aaldAN (j := fe M) (a := 50 + fe M) dL_enact_28 k49 (by decide) rfl hfe (by decide) (rSt hR hfe) ?_
    refine V_callV (as := [.int (nI (mF M)), .ref (50 + fe M)]) (rest := []) (bs' := 0) rfl dL_enact_29 cmR_reads cvR_reads mlL_42 (Or.inl ⟨_, _, _, _, _, rfl, k58, by decide, rfl⟩) rfl rfl (c_rreads hR hfe hT) (by decide) (Nat.le_refl _) (by decide) (Nat.le_of_ble_eq_true rfl) ?_
    rintro _ _ t1 (⟨hk, rfl, rfl, hS⟩ | ⟨hk, rfl, rfl, b2, o2, hS⟩) -
    · refine V_one ?_
      have hR1 := hS.rf hR
      have hk2 : (lwM M).1 = true := hk
      have hS : RS σ t1 (fe M) (mF M) (lwM M).2.1 (lwM M).2.2.1 (lwM M).2.2.2.1 := hS
      refine V_istore_n (loc' := [(1, .int 1), (0, .ref 47)]) dL_enact_32 (by decide) rfl ?_
      refine V_aload_n dL_enact_33 rfl ?_
      refine V_iconst (v := 0) dL_enact_34 (by decide) ?_
      refine V_putI dL_enact_35 flL_35 (fpL_1 _) (Or.inl rfl) k47 rfl ?_
      have hR : RF _ := hR1
      refine V_iload_n dL_enact_38 rfl ?_
      refine V_if_ne (tgt := 53) dL_enact_39 rfl (fun _ => ?_) (fun h => absurd h (by decide))
      refine V_aload_n dL_enact_53 rfl ?_
      refine V_getR (a := 56) dL_enact_54 flL_20 k47 rfl (r47_4 hR) ?_
      refine V_aload_n dL_enact_57 rfl ?_
      refine V_getE (x := nI (fe M)) dL_enact_58 flL_39 k47 rfl ((gi_nj (by decide)).trans ((hS.1 47 2 (by decide) (by omega)).trans ((hC.2.1 47 2 76 11 rfl).trans (iL hI).1))) ?_
      refine V_aload_n dL_enact_61 rfl ?_
      refine V_getR (a := 58) dL_enact_62 flL_31 k47 rfl (r47_6 hR) ?_
      refine V_getE (x := nI (lwM M).2.2.2.1.length) dL_enact_65 flL_49 k58 rfl ((gi_ne (by decide)).trans hS.g4) ?_
      refine V_iastN (j := fe M) dL_enact_68 k56 rfl hfe (by decide) ?_
      refine V_aload_n dL_enact_69 rfl ?_
      refine V_getR (a := 57) dL_enact_70 flL_23 k47 rfl (r47_5 hR) ?_
      refine V_aload_n dL_enact_73 rfl ?_
      refine V_getE (x := nI (fe M)) dL_enact_74 flL_39 k47 rfl ((gi_ne (by decide)).trans ((gi_nj (by decide)).trans ((hS.1 47 2 (by decide) (by omega)).trans ((hC.2.1 47 2 76 11 rfl).trans (iL hI).1)))) ?_
      refine V_aload_n dL_enact_77 rfl ?_
      refine V_getR (a := 58) dL_enact_78 flL_31 k47 rfl (r47_6 hR) ?_
      refine V_getE (x := nI (lwM M).2.2.1) dL_enact_81 flL_52 k58 rfl ((gi_ne (by decide)).trans ((gi_ne (by decide)).trans hS.g5)) ?_
      refine V_iastN (j := fe M) dL_enact_84 k57 rfl hfe (by decide) ?_
      refine V_aload_n dL_enact_85 rfl ?_
      refine V_dup dL_enact_86 rfl ?_
      refine V_getE (x := nI (fe M)) dL_enact_87 flL_39 k47 rfl ((gi_ne (by decide)).trans ((gi_ne (by decide)).trans ((gi_nj (by decide)).trans ((hS.1 47 2 (by decide) (by omega)).trans ((hC.2.1 47 2 76 11 rfl).trans (iL hI).1))))) ?_
      refine V_iconst (v := 1) dL_enact_90 (by decide) ?_
      refine V_iadd dL_enact_91 ?_
      refine V_topI (x' := nI (fe M + 1)) (nI_1 _) ?_
      refine V_putI dL_enact_92 flL_39 (fpL_2 _) (Or.inl rfl) k47 rfl ?_
      refine V_aload_n dL_enact_95 rfl ?_
      refine V_getE (x := nI (fe M + 1)) dL_enact_96 flL_39 k47 rfl gi_eq ?_
      refine V_iconst (v := 1) dL_enact_99 (by decide) ?_
      refine V_isub dL_enact_100 ?_
      refine V_topI (x' := nI (fe M)) (nI_pred _) ?_
      refine V_iret dL_enact_101 rfl rfl ?_
      have e : aL M = nI (fe M) := (if_neg h6).trans (if_pos hk2)
      rw [← e]
      refine ⟨rfl, rfl, ((((hS.sm hfe).set (by decide)).set (by decide)).set (by decide)).set (by decide), ?_⟩
      rw [if_neg h6]
      exact EN.ok hfe hS hk2 rfl rfl
    · refine V_one ?_
      have hR1 := hS.rf hR
      have hk2 : (lwM M).1 = false := hk
      have hS : RS σ t1 (fe M) (mF M) (lwM M).2.1 b2 o2 := hS
      refine V_istore_n (loc' := [(1, .int 0), (0, .ref 47)]) dL_enact_32 (by decide) rfl ?_
      refine V_aload_n dL_enact_33 rfl ?_
      refine V_iconst (v := 0) dL_enact_34 (by decide) ?_
      refine V_putI dL_enact_35 flL_35 (fpL_1 _) (Or.inl rfl) k47 rfl ?_
      have hR : RF _ := hR1
      refine V_iload_n dL_enact_38 rfl ?_
      refine V_if_ne (tgt := 53) dL_enact_39 rfl (fun h => absurd h (by decide)) (fun _ => ?_)
      refine V_bipush (v := -10) dL_enact_42 (by decide) ?_
      refine V_aload_n dL_enact_44 rfl ?_
      refine V_getR (a := 58) dL_enact_45 flL_31 k47 rfl (r47_6 hR) ?_
      refine V_getE (x := nI (lwM M).2.1) dL_enact_48 flL_46 k58 rfl ((gi_ne (by decide)).trans hS.g3) ?_
      refine V_isub dL_enact_51 ?_
      refine V_iret dL_enact_52 rfl rfl ?_
      have e : aL M = -10 - nI (lwM M).2.1 := (if_neg h6).trans (if_neg (by rw [hk2]; decide))
      rw [← e]
      refine ⟨rfl, rfl, (hS.sm hfe).set (by decide), ?_⟩
      rw [if_neg h6]
      exact EN.no hfe hS hk2
theorem aL_neg {L : Nat → List Cl} {M : Hp} (hI : Inv L M) : aL M < 0 ↔ ¬ (fe M ≠ 6 ∧ (lwM M).1 = true) := by
  have h1 := (iL hI).2
  have h2 := (lwM_gd hI).1
  have h3 := (iF hI).2
  unfold aL
  by_cases h6 : fe M = 6
  · rw [if_pos h6]
    exact ⟨fun _ q => q.1 h6, fun _ => by decide⟩
  · rw [if_neg h6]
    by_cases ho : (lwM M).1 = true
    · rw [if_pos ho]
      exact ⟨fun q => absurd q (nI_pos (by omega)), fun q => absurd ⟨h6, ho⟩ q⟩
    · rw [if_neg ho]
      refine ⟨fun _ q => ho q.2, fun _ => ?_⟩
      rw [Int32.lt_iff_toInt_lt, Int32.toInt_sub, nI_toInt (by omega)]
      have e : (-10 : Int32).toInt = -10 := rfl
      rw [e, Int32.toInt_zero, Int.bmod_def]
      split <;> omega
theorem g_law {l : Launch} {G : GT} {L : Nat → List Cl} {M σ : Hp} (hC : RC L M σ) (hI : Inv L M) : MM l G mG_law 18 0 0 [.ref 0] KA σ (PQw L M σ) := by
  refine MM.of (loc := [(0, .ref 0)]) (by decide +kernel) rfl (Nat.le_of_ble_eq_true rfl) ?_
  have hR := hC.1
  refine V_aload_n dG_law_0 rfl ?_
  refine V_getR (a := 47) dG_law_1 flG_24 k0 rfl (r0_3 hR) ?_
  refine V_callV (as := []) (rest := []) (bs' := 0) rfl dG_law_4 cmL_enact cvL_enact mlG_120 (Or.inl ⟨_, _, _, _, _, rfl, k47, by decide, rfl⟩) rfl rfl (c_lenact hC hI) (by decide) (Nat.le_refl _) (by decide) (Nat.le_of_ble_eq_true rfl) ?_
  rintro _ _ t1 ⟨rfl, rfl, hSm, hE⟩ -
  refine V_one ?_
  refine V_istore_n (loc' := [(1, .int (aL M)), (0, .ref 0)]) dG_law_7 (by decide) rfl ?_
  refine V_iload_n dG_law_8 rfl ?_
  refine V_if_lt (tgt := 20) dG_law_9 rfl (fun c9 => ?_) (fun c9 => ?_)
  · have hno := (aL_neg hI).mp c9
    refine V_iload_n dG_law_20 rfl ?_
    refine V_iret dG_law_21 rfl rfl ?_
    have hRt : RF t1 := by
      by_cases h6 : fe M = 6
      · rw [if_pos h6] at hE
        rw [hE]
        exact hC.1
      · rw [if_neg h6] at hE
        exact fun q hq => (hE.2.2.1 _ _ (grl_58 q hq)).trans (hC.1 q hq)
    refine ⟨rfl, rfl, hSm, hRt, fun L' M' hLS => ?_⟩
    by_cases h6 : fe M = 6
    · rw [if_pos h6] at hE
      have hLS2 := hLS.2.2
      rw [if_pos h6] at hLS2
      rw [hE, hLS2.1, hLS2.2]
      exact hC
    · rw [if_neg h6] at hE
      have ho : ¬ (lwM M).1 = true := fun q => hno ⟨h6, q⟩
      have h16 : gi t1 1 6 = gi σ 1 6 := hE.1 1 6 (by omega) (by omega) (by omega) (by omega)
      have hr := RC_law hC hI h6 hE (x := gi σ 1 6) (by rw [if_neg ho]) hLS
      rw [← h16, si_same] at hr
      exact hr
  · have hyes : fe M ≠ 6 ∧ (lwM M).1 = true := by
      by_cases h : fe M ≠ 6 ∧ (lwM M).1 = true
      · exact h
      · exact absurd ((aL_neg hI).mpr h) c9
    rw [if_neg hyes.1] at hE
    have hRt : RF t1 := fun q hq => (hE.2.2.1 _ _ (grl_58 q hq)).trans (hR q hq)
    have hR := hRt
    refine V_aload_n dG_law_12 rfl ?_
    refine V_getR (a := 1) dG_law_13 flG_12 k0 rfl (r0_0 hR) ?_
    refine V_iload_n dG_law_16 rfl ?_
    refine V_putI dG_law_17 flG_124 (fpF_6 _) (Or.inl rfl) k1 rfl ?_
    refine V_iload_n dG_law_20 rfl ?_
    refine V_iret dG_law_21 rfl rfl ?_
    refine ⟨rfl, rfl, hSm.set (by decide), hR, fun L' M' hLS => ?_⟩
    refine RC_law hC hI hyes.1 hE ?_ hLS
    rw [if_pos hyes.2]
    exact (if_neg hyes.1).trans (if_pos hyes.2)
