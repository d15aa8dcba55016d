/-! the first object: a fair becomes as another -/
/-- s is sigma, where a's cells (as P tells) stand at b's -/
def CPY (σ s : Hp) (a b : Nat) (P : Nat → Nat → Prop) : Prop := (∀ i j : Nat, i < 23 → P i j → gi s (b + i) j = gi σ (a + i) j) ∧ (∀ k j : Nat, (∀ i : Nat, i < 23 → k = b + i → ¬ P i j) → gi s k j = gi σ k j) ∧ (∀ k j : Nat, gl s k j = gl σ k j) ∧ ∀ k j : Nat, gr s k j = gr σ k j
theorem CPY.nil {σ : Hp} {a b : Nat} : CPY σ σ a b (fun _ _ => False) := ⟨fun _ _ _ h => h.elim, fun _ _ _ => rfl, fun _ _ => rfl, fun _ _ => rfl⟩
theorem CPY.step {σ s s' : Hp} {a b : Nat} {P N : Nat → Nat → Prop} (hab : a + 23 ≤ b ∨ b + 23 ≤ a) (h : CPY σ s a b P) (h1 : ∀ i j, i < 23 → N i j → gi s' (b + i) j = gi s (a + i) j) (h2 : ∀ k j : Nat, (∀ i : Nat, i < 23 → k = b + i → ¬ N i j) → gi s' k j = gi s k j) (h3 : ∀ k j : Nat, gl s' k j = gl s k j) (h4 : ∀ k j : Nat, gr s' k j = gr s k j) {P' : Nat → Nat → Prop} (hP : ∀ i j, i < 23 → (P' i j ↔ P i j ∨ N i j)) : CPY σ s' a b P' := by
  refine ⟨fun i j hi hp => ?_, fun k j hk => ?_, fun k j => (h3 k j).trans (h.2.2.1 k j), fun k j => (h4 k j).trans (h.2.2.2 k j)⟩
  · by_cases hn : N i j
    · rw [h1 i j hi hn]
      exact h.2.1 _ _ (fun i' hi' e => by omega)
    · rw [h2 (b + i) j (fun i' hi' e => by have e2 : i' = i := by omega
                                           subst e2
                                           exact hn)]
      exact h.1 i j hi (((hP i j hi).mp hp).resolve_right hn)
  · rw [h2 k j (fun i hi e hn => hk i hi e ((hP i j hi).mpr (Or.inr hn)))]
    exact h.2.1 k j (fun i hi e hp => hk i hi e ((hP i j hi).mpr (Or.inl hp)))
theorem CPY.put {σ s : Hp} {a b i j k k' : Nat} {P P' : Nat → Nat → Prop} (hab : a + 23 ≤ b ∨ b + 23 ≤ a) (h : CPY σ s a b P) (hi : i < 23) (hk : k = b + i) (hk' : k' = a + i) (hP : ∀ x y, x < 23 → (P' x y ↔ P x y ∨ (x = i ∧ y = j))) : CPY σ (si s k j (gi s k' j)) a b P' := by
  subst hk
  subst hk'
  refine CPY.step (s' := si s (b + i) j (gi s (a + i) j)) hab h (N := fun x y => x = i ∧ y = j) (fun x y _ hn => ?_) (fun k y hk => ?_) (fun _ _ => rfl) (fun _ _ => rfl) hP
  · obtain ⟨rfl, rfl⟩ := hn
    exact gi_eq
  · by_cases e : k = b + i ∧ y = j
    · exact absurd ⟨rfl, e.2⟩ (hk i hi e.1)
    · simp [gi, si, e]
theorem CPY.cpi {σ s : Hp} {a b i n k k' : Nat} {P P' : Nat → Nat → Prop} (hab : a + 23 ≤ b ∨ b + 23 ≤ a) (h : CPY σ s a b P) (hi : i < 23) (hk : k = b + i) (hk' : k' = a + i) (hP : ∀ x y, x < 23 → (P' x y ↔ P x y ∨ (x = i ∧ y < n))) : CPY σ (ci s k' k 0 0 n) a b P' := by
  subst hk
  subst hk'
  refine CPY.step (s' := ci s (a + i) (b + i) 0 0 n) hab h (N := fun x y => x = i ∧ y < n) (fun x y _ hn => ?_) (fun k y hk => ?_) (fun _ _ => rfl) (fun _ _ => rfl) hP
  · obtain ⟨rfl, hy⟩ := hn
    show (if b + x = b + x ∧ 0 ≤ y ∧ y < 0 + n then gi s (a + x) (0 + (y - 0)) else gi s (b + x) y) = _
    rw [if_pos ⟨rfl, by omega, by omega⟩, Nat.zero_add, Nat.sub_zero]
  · show (if k = b + i ∧ 0 ≤ y ∧ y < 0 + n then gi s (a + i) (0 + (y - 0)) else gi s k y) = _
    rw [if_neg (fun e => hk i hi e.1 ⟨rfl, by omega⟩)]
theorem CPY.ec {σ s t : Hp} {a b i k k' : Nat} {P P' : Nat → Nat → Prop} (hab : a + 23 ≤ b ∨ b + 23 ≤ a) (h : CPY σ s a b P) (hE : EC s t k' k) (hi : i + 1 < 23) (hk : k = b + i) (hk' : k' = a + i) (hP : ∀ x y, x < 23 → (P' x y ↔ P x y ∨ (x = i ∧ 1 ≤ y ∧ y ≤ 5 ∨ x = i + 1 ∧ y < 4))) : CPY σ t a b P' := by
  subst hk
  subst hk'
  refine CPY.step hab h (N := fun x y => x = i ∧ 1 ≤ y ∧ y ≤ 5 ∨ x = i + 1 ∧ y < 4) (fun x y _ hn => ?_) (fun k y hk => ?_) hE.2.1 hE.2.2 hP
  · rw [hE.1]
    rcases hn with ⟨rfl, hy⟩ | ⟨rfl, hy⟩
    · rw [if_pos ⟨rfl, hy⟩]
    · rw [if_neg (by omega), if_pos ⟨by omega, hy⟩]
      rfl
  · rw [hE.1, if_neg (fun e => hk i (by omega) e.1 (Or.inl ⟨rfl, e.2⟩)), if_neg (fun e => hk (i + 1) hi (by omega) (Or.inr ⟨rfl, e.2⟩))]
theorem CPY.wc {σ s t : Hp} {a b i k k' : Nat} {P P' : Nat → Nat → Prop} (hab : a + 23 ≤ b ∨ b + 23 ≤ a) (h : CPY σ s a b P) (hE : WC s t k' k) (hi : i + 1 < 23) (hk : k = b + i) (hk' : k' = a + i) (hP : ∀ x y, x < 23 → (P' x y ↔ P x y ∨ (x = i ∧ y = 0 ∨ x = i + 1 ∧ y < 24))) : CPY σ t a b P' := by
  subst hk
  subst hk'
  refine CPY.step hab h (N := fun x y => x = i ∧ y = 0 ∨ x = i + 1 ∧ y < 24) (fun x y _ hn => ?_) (fun k y hk => ?_) hE.2.1 hE.2.2 hP
  · rw [hE.1]
    rcases hn with ⟨rfl, hy⟩ | ⟨rfl, hy⟩
    · rw [if_pos ⟨rfl, hy⟩, hy]
    · rw [if_neg (by omega), if_pos ⟨by omega, hy⟩]
      rfl
  · rw [hE.1, if_neg (fun e => hk i (by omega) e.1 (Or.inl ⟨rfl, e.2⟩)), if_neg (fun e => hk (i + 1) hi (by omega) (Or.inr ⟨rfl, e.2⟩))]
theorem CPY.imp {σ s : Hp} {a b : Nat} {P P' : Nat → Nat → Prop} (h : CPY σ s a b P) (hP : ∀ x y, x < 23 → (P' x y ↔ P x y)) : CPY σ s a b P' := ⟨fun i j hi hp => h.1 i j hi ((hP i j hi).mp hp), fun k j hk => h.2.1 k j (fun i hi e hp => hk i hi e ((hP i j hi).mpr hp)), h.2.2⟩
theorem CPY.rf {σ s : Hp} {a b : Nat} {P : Nat → Nat → Prop} (h : CPY σ s a b P) (hR : RF σ) : RF s := fun q hq => (h.2.2.2 _ _).trans (hR q hq)
def cpA (i j : Nat) : Prop := i = 0 ∧ j = 0 ∨ i = 1 ∧ j < 6
def cpL (n i j : Nat) : Prop := i = 0 ∧ (j = 0 ∨ j = 2) ∨ i = 1 ∧ j < 6 ∨ (7 ≤ i ∧ i < 7 + 2 * n ∧ (i % 2 = 1 ∧ 1 ≤ j ∧ j ≤ 5 ∨ i % 2 = 0 ∧ j < 4))
def cpB (i j : Nat) : Prop := i = 0 ∧ (j = 0 ∨ j = 2 ∨ j = 4 ∨ j = 5 ∨ j = 6) ∨ i = 1 ∧ j < 6 ∨ (7 ≤ i ∧ (i % 2 = 1 ∧ 1 ≤ j ∧ j ≤ 5 ∨ i % 2 = 0 ∧ j < 4))
def cpD (i j : Nat) : Prop := cpB i j ∨ i = 3 ∧ j = 0 ∨ i = 4 ∧ j < 24
def cpF (i j : Nat) : Prop := cpB i j ∨ (i = 3 ∨ i = 5) ∧ j = 0 ∨ (i = 4 ∨ i = 6) ∧ j < 24
theorem c_becomeF1 {l : Launch} {G : GT} {σ : Hp} (hR : RF σ) : MM l G mF_becomeAs 2 0 0 [.ref 24, .ref 1] KA σ (fun r k s => r = none ∧ KA = k ∧ CPY σ s 1 24 cpF) := by
  have hR0 := hR
  refine MM.of (loc := [(0, .ref 24), (1, .ref 1)]) (by decide +kernel) rfl (Nat.le_of_ble_eq_true rfl) ?_
  refine V_aload_n dF_becomeAs_0 rfl ?_
  refine V_aload_n dF_becomeAs_1 rfl ?_
  refine V_getI dF_becomeAs_2 flF_38 k1 rfl ?_
  refine V_putI dF_becomeAs_5 flF_38 (fpF_0 _) (Or.inl rfl) k24 rfl ?_
  have hP : CPY σ σ 1 24 (fun _ _ => False) := CPY.nil
  have hP : CPY σ (si σ 24 0 (gi σ 1 0)) 1 24 (fun x y => x = 0 ∧ y = 0) := CPY.put (i := 0) (j := 0) (by decide) hP (by decide) rfl rfl (fun x y _ => by first | (dsimp only [cpA, cpL, cpB, cpD, cpF]; omega) | simp)
  have hR : RF _ := hP.rf hR0
  refine V_aload_n dF_becomeAs_8 rfl ?_
  refine V_getR (a := 2) dF_becomeAs_9 flF_9 k1 rfl (r1_1 hR) ?_
  refine V_iconst (v := 0) dF_becomeAs_12 (by decide) ?_
  refine V_aload_n dF_becomeAs_13 rfl ?_
  refine V_getR (a := 25) dF_becomeAs_14 flF_9 k24 rfl (r24_1 hR) ?_
  refine V_iconst (v := 0) dF_becomeAs_17 (by decide) ?_
  refine V_bipush (v := 6) dF_becomeAs_18 (by decide) ?_
  refine V_copyi (k0 := 2) (k1 := 25) (n0 := 6) (n1 := 6) rfl dF_becomeAs_20 mlF_41 acn acs iniJY k2 k25 (by decide) (by decide) (by decide) (by decide) (by decide) (by decide) (Nat.le_of_ble_eq_true rfl) ?_
  have hP : CPY σ (ci (si σ 24 0 (gi σ 1 0)) 2 25 0 0 6) 1 24 cpA := CPY.cpi (i := 1) (n := 6) (by decide) hP (by decide) rfl rfl (fun x y _ => by first | (dsimp only [cpA, cpL, cpB, cpD, cpF]; omega) | simp)
  have hR : RF _ := hP.rf hR0
  refine V_aload_n dF_becomeAs_23 rfl ?_
  refine V_aload_n dF_becomeAs_24 rfl ?_
  refine V_getI dF_becomeAs_25 flF_47 k1 rfl ?_
  refine V_putI dF_becomeAs_28 flF_47 (fpF_2 _) (Or.inl rfl) k24 rfl ?_
  have hP : CPY σ (si (ci (si σ 24 0 (gi σ 1 0)) 2 25 0 0 6) 24 2 (gi (ci (si σ 24 0 (gi σ 1 0)) 2 25 0 0 6) 1 2)) 1 24 (cpL 0) := CPY.put (i := 0) (j := 2) (by decide) hP (by decide) rfl rfl (fun x y _ => by first | (dsimp only [cpA, cpL, cpB, cpD, cpF]; omega) | simp)
  have hR : RF _ := hP.rf hR0
  refine V_iconst (v := 0) dF_becomeAs_31 (by decide) ?_
  refine V_istore_n (loc' := [(2, .int 0), (0, .ref 24), (1, .ref 1)]) dF_becomeAs_32 (by decide) rfl ?_
  have hP : CPY σ (si (ci (si σ 24 0 (gi σ 1 0)) 2 25 0 0 6) 24 2 (gi (ci (si σ 24 0 (gi σ 1 0)) 2 25 0 0 6) 1 2)) 1 24 (cpL 0) := hP
  have lp : ∀ n : Nat, n ≤ 8 → ∀ s : Hp, CPY σ s 1 24 (cpL n) → V l G mF_becomeAs (rmd 2 0 0) (KA.length + 0) 0 33 [(2, .int (nI n)), (0, .ref 24), (1, .ref 1)] [] KA s (fun r k s => r = none ∧ KA = k ∧ CPY σ s 1 24 cpF) := by
    refine lp_up 8 ?_ (fun n hn ihn => ?_)
    · skip
      intro s hP
      have hR : RF s := hP.rf hR0
      refine V_iload_n dF_becomeAs_33 rfl ?_
      refine V_bipush (v := 8) dF_becomeAs_34 (by decide) ?_
      refine V_icmp_ge (tgt := 60) dF_becomeAs_36 rfl (fun _ => ?_) (fun h => absurd h (not_not_intro (nI_le (a := 8) (b := 8) (by decide) (by decide))))
      refine V_aload_n dF_becomeAs_60 rfl ?_
      refine V_aload_n dF_becomeAs_61 rfl ?_
      refine V_getI dF_becomeAs_62 flF_54 k1 rfl ?_
      refine V_putI dF_becomeAs_65 flF_54 (fpF_4 _) (Or.inl rfl) k24 rfl ?_
      have hP : CPY σ (si s 24 4 (gi s 1 4)) 1 24 (fun x y => cpL 8 x y ∨ x = 0 ∧ y = 4) := CPY.put (i := 0) (j := 4) (by decide) hP (by decide) rfl rfl (fun x y _ => by first | (dsimp only [cpA, cpL, cpB, cpD, cpF]; omega) | simp)
      have hR : RF _ := hP.rf hR0
      refine V_aload_n dF_becomeAs_68 rfl ?_
      refine V_aload_n dF_becomeAs_69 rfl ?_
      refine V_getI dF_becomeAs_70 flF_57 k1 rfl ?_
      refine V_putI dF_becomeAs_73 flF_57 (fpF_5 _) (Or.inl rfl) k24 rfl ?_
      have hP : CPY σ (si (si s 24 4 (gi s 1 4)) 24 5 (gi (si s 24 4 (gi s 1 4)) 1 5)) 1 24 (fun x y => cpL 8 x y ∨ x = 0 ∧ (y = 4 ∨ y = 5)) := CPY.put (i := 0) (j := 5) (by decide) hP (by decide) rfl rfl (fun x y _ => by first | (dsimp only [cpA, cpL, cpB, cpD, cpF]; omega) | simp)
      have hR : RF _ := hP.rf hR0
      refine V_aload_n dF_becomeAs_76 rfl ?_
      refine V_aload_n dF_becomeAs_77 rfl ?_
      refine V_getI dF_becomeAs_78 flF_21 k1 rfl ?_
      refine V_putI dF_becomeAs_81 flF_21 (fpF_6 _) (Or.inl rfl) k24 rfl ?_
      have hP : CPY σ (si (si (si s 24 4 (gi s 1 4)) 24 5 (gi (si s 24 4 (gi s 1 4)) 1 5)) 24 6 (gi (si (si s 24 4 (gi s 1 4)) 24 5 (gi (si s 24 4 (gi s 1 4)) 1 5)) 1 6)) 1 24 cpB := CPY.put (i := 0) (j := 6) (by decide) hP (by decide) rfl rfl (fun x y _ => by first | (dsimp only [cpA, cpL, cpB, cpD, cpF]; omega) | simp)
      have hR : RF _ := hP.rf hR0
      refine V_aload_n dF_becomeAs_84 rfl ?_
      refine V_getR (a := 27) dF_becomeAs_85 flF_28 k24 rfl (r24_7 hR) ?_
      refine V_aload_n dF_becomeAs_88 rfl ?_
      refine V_getR (a := 4) dF_becomeAs_89 flF_28 k1 rfl (r1_7 hR) ?_
      refine V_callV (as := [.ref 4]) (rest := []) (bs' := 0) rfl dF_becomeAs_92 cmW_becomeAs cvW_becomeAs mlF_60 (Or.inl ⟨_, _, _, _, _, rfl, k27, by decide, rfl⟩) rfl rfl (c_becomeW hR (a := 4) (b := 27) (by decide) k4 k27 k5 k28 (r4_1 hR) (r27_1 hR)) (by decide) (Nat.le_refl _) (by decide) (Nat.le_of_ble_eq_true rfl) ?_
      rintro _ _ u ⟨rfl, rfl, hE⟩ -
      refine V_non ?_
      have hP : CPY σ u 1 24 cpD := CPY.wc (i := 3) (by decide) hP hE (by decide) rfl rfl (fun x y _ => by first | (dsimp only [cpA, cpL, cpB, cpD, cpF]; omega) | simp)
      have hR : RF u := hP.rf hR0
      refine V_aload_n dF_becomeAs_95 rfl ?_
      refine V_getR (a := 29) dF_becomeAs_96 flF_32 k24 rfl (r24_8 hR) ?_
      refine V_aload_n dF_becomeAs_99 rfl ?_
      refine V_getR (a := 6) dF_becomeAs_100 flF_32 k1 rfl (r1_8 hR) ?_
      refine V_callV (as := [.ref 6]) (rest := []) (bs' := 0) rfl dF_becomeAs_103 cmW_becomeAs cvW_becomeAs mlF_60 (Or.inl ⟨_, _, _, _, _, rfl, k29, by decide, rfl⟩) rfl rfl (c_becomeW hR (a := 6) (b := 29) (by decide) k6 k29 k7 k30 (r6_1 hR) (r29_1 hR)) (by decide) (Nat.le_refl _) (by decide) (Nat.le_of_ble_eq_true rfl) ?_
      rintro _ _ w ⟨rfl, rfl, hE⟩ -
      refine V_non ?_
      have hP : CPY σ w 1 24 cpF := CPY.wc (i := 5) (by decide) hP hE (by decide) rfl rfl (fun x y _ => by first | (dsimp only [cpA, cpL, cpB, cpD, cpF]; omega) | simp)
      have hR : RF w := hP.rf hR0
      exact V_ret dF_becomeAs_106 rfl rfl ⟨rfl, rfl, hP⟩
    · skip
      intro s hP
      have hR : RF s := hP.rf hR0
      refine V_iload_n dF_becomeAs_33 rfl ?_
      refine V_bipush (v := 8) dF_becomeAs_34 (by decide) ?_
      refine V_icmp_ge (tgt := 60) dF_becomeAs_36 rfl (fun h => absurd h (nI_ge (a := n) (b := 8) hn (by decide))) (fun _ => ?_)
      refine V_aload_n dF_becomeAs_39 rfl ?_
      refine V_getR (a := 26) dF_becomeAs_40 flF_17 k24 rfl (r24_3 hR) ?_
      refine V_iload_n dF_becomeAs_43 rfl ?_
      refine V_aaldN (j := n) (a := 31 + 2 * n) dF_becomeAs_44 k26 rfl (by omega) (by decide) (rI hR hn) ?_
      refine V_aload_n dF_becomeAs_45 rfl ?_
      refine V_getR (a := 3) dF_becomeAs_46 flF_17 k1 rfl (r1_3 hR) ?_
      refine V_iload_n dF_becomeAs_49 rfl ?_
      refine V_aaldN (j := n) (a := 8 + 2 * n) dF_becomeAs_50 k3 rfl (by omega) (by decide) (rE hR hn) ?_
      refine V_callV (as := [.ref (8 + 2 * n)]) (rest := []) (bs' := 0) rfl dF_becomeAs_51 cmE_becomeAs cvE_becomeAs mlF_50 (Or.inl ⟨_, _, _, _, _, rfl, (kI n hn), by decide, rfl⟩) rfl rfl (c_becomeE hR (a := 8 + 2 * n) (b := 31 + 2 * n) (by omega) (kE n hn) (kI n hn) (by rw [show 8 + 2 * n + 1 = 9 + 2 * n by omega]; exact kEr n hn) (by rw [show 31 + 2 * n + 1 = 32 + 2 * n by omega]; exact kIr n hn) (by rw [show 8 + 2 * n + 1 = 9 + 2 * n by omega]; exact rEr hR hn) (by rw [show 31 + 2 * n + 1 = 32 + 2 * n by omega]; exact rIr hR hn)) (by decide) (Nat.le_refl _) (by decide) (Nat.le_of_ble_eq_true rfl) ?_
      rintro _ _ t ⟨rfl, rfl, hE⟩ -
      refine V_non ?_
      have hP : CPY σ t 1 24 (cpL (n + 1)) := CPY.ec (i := 7 + 2 * n) (by decide) hP hE (by omega) (by omega) (by omega) (fun x y _ => by first | (dsimp only [cpA, cpL, cpB, cpD, cpF]; omega) | simp)
      have hR : RF t := hP.rf hR0
      refine V_iinc (v := nI (n + 1)) (loc' := [(2, .int (nI (n + 1))), (0, .ref 24), (1, .ref 1)]) dF_becomeAs_54 rfl (nI_inc n) (by decide) rfl ?_
      refine V_goto (tgt := 33) dF_becomeAs_57 rfl ?_
      refine V.locs (loc' := [(2, .int (nI (n + 1))), (0, .ref 24), (1, .ref 1)]) [0, 1, 2] rfl ?_
      exact (ihn _ hP)
  refine V.locs (loc' := [(2, .int 0), (0, .ref 24), (1, .ref 1)]) [0, 1, 2] rfl ?_
  refine V_eqL (loc' := [(2, .int (nI 0)), (0, .ref 24), (1, .ref 1)]) ?_ ?_
  · rfl
  exact (lp 0 (Nat.zero_le _) _ hP)
theorem c_becomeF24 {l : Launch} {G : GT} {σ : Hp} (hR : RF σ) : MM l G mF_becomeAs 2 0 0 [.ref 1, .ref 24] KA σ (fun r k s => r = none ∧ KA = k ∧ CPY σ s 24 1 cpF) := by
  have hR0 := hR
  refine MM.of (loc := [(0, .ref 1), (1, .ref 24)]) (by decide +kernel) rfl (Nat.le_of_ble_eq_true rfl) ?_
  refine V_aload_n dF_becomeAs_0 rfl ?_
  refine V_aload_n dF_becomeAs_1 rfl ?_
  refine V_getI dF_becomeAs_2 flF_38 k24 rfl ?_
  refine V_putI dF_becomeAs_5 flF_38 (fpF_0 _) (Or.inl rfl) k1 rfl ?_
  have hP : CPY σ σ 24 1 (fun _ _ => False) := CPY.nil
  have hP : CPY σ (si σ 1 0 (gi σ 24 0)) 24 1 (fun x y => x = 0 ∧ y = 0) := CPY.put (i := 0) (j := 0) (by decide) hP (by decide) rfl rfl (fun x y _ => by first | (dsimp only [cpA, cpL, cpB, cpD, cpF]; omega) | simp)
  have hR : RF _ := hP.rf hR0
  refine V_aload_n dF_becomeAs_8 rfl ?_
  refine V_getR (a := 25) dF_becomeAs_9 flF_9 k24 rfl (r24_1 hR) ?_
  refine V_iconst (v := 0) dF_becomeAs_12 (by decide) ?_
  refine V_aload_n dF_becomeAs_13 rfl ?_
  refine V_getR (a := 2) dF_becomeAs_14 flF_9 k1 rfl (r1_1 hR) ?_
  refine V_iconst (v := 0) dF_becomeAs_17 (by decide) ?_
  refine V_bipush (v := 6) dF_becomeAs_18 (by decide) ?_
  refine V_copyi (k0 := 25) (k1 := 2) (n0 := 6) (n1 := 6) rfl dF_becomeAs_20 mlF_41 acn acs iniJY k25 k2 (by decide) (by decide) (by decide) (by decide) (by decide) (by decide) (Nat.le_of_ble_eq_true rfl) ?_
  have hP : CPY σ (ci (si σ 1 0 (gi σ 24 0)) 25 2 0 0 6) 24 1 cpA := CPY.cpi (i := 1) (n := 6) (by decide) hP (by decide) rfl rfl (fun x y _ => by first | (dsimp only [cpA, cpL, cpB, cpD, cpF]; omega) | simp)
  have hR : RF _ := hP.rf hR0
  refine V_aload_n dF_becomeAs_23 rfl ?_
  refine V_aload_n dF_becomeAs_24 rfl ?_
  refine V_getI dF_becomeAs_25 flF_47 k24 rfl ?_
  refine V_putI dF_becomeAs_28 flF_47 (fpF_2 _) (Or.inl rfl) k1 rfl ?_
  have hP : CPY σ (si (ci (si σ 1 0 (gi σ 24 0)) 25 2 0 0 6) 1 2 (gi (ci (si σ 1 0 (gi σ 24 0)) 25 2 0 0 6) 24 2)) 24 1 (cpL 0) := CPY.put (i := 0) (j := 2) (by decide) hP (by decide) rfl rfl (fun x y _ => by first | (dsimp only [cpA, cpL, cpB, cpD, cpF]; omega) | simp)
  have hR : RF _ := hP.rf hR0
  refine V_iconst (v := 0) dF_becomeAs_31 (by decide) ?_
  refine V_istore_n (loc' := [(2, .int 0), (0, .ref 1), (1, .ref 24)]) dF_becomeAs_32 (by decide) rfl ?_
  have hP : CPY σ (si (ci (si σ 1 0 (gi σ 24 0)) 25 2 0 0 6) 1 2 (gi (ci (si σ 1 0 (gi σ 24 0)) 25 2 0 0 6) 24 2)) 24 1 (cpL 0) := hP
  have lp : ∀ n : Nat, n ≤ 8 → ∀ s : Hp, CPY σ s 24 1 (cpL n) → V l G mF_becomeAs (rmd 2 0 0) (KA.length + 0) 0 33 [(2, .int (nI n)), (0, .ref 1), (1, .ref 24)] [] KA s (fun r k s => r = none ∧ KA = k ∧ CPY σ s 24 1 cpF) := by
    refine lp_up 8 ?_ (fun n hn ihn => ?_)
    · skip
      intro s hP
      have hR : RF s := hP.rf hR0
      refine V_iload_n dF_becomeAs_33 rfl ?_
      refine V_bipush (v := 8) dF_becomeAs_34 (by decide) ?_
      refine V_icmp_ge (tgt := 60) dF_becomeAs_36 rfl (fun _ => ?_) (fun h => absurd h (not_not_intro (nI_le (a := 8) (b := 8) (by decide) (by decide))))
      refine V_aload_n dF_becomeAs_60 rfl ?_
      refine V_aload_n dF_becomeAs_61 rfl ?_
      refine V_getI dF_becomeAs_62 flF_54 k24 rfl ?_
      refine V_putI dF_becomeAs_65 flF_54 (fpF_4 _) (Or.inl rfl) k1 rfl ?_
      have hP : CPY σ (si s 1 4 (gi s 24 4)) 24 1 (fun x y => cpL 8 x y ∨ x = 0 ∧ y = 4) := CPY.put (i := 0) (j := 4) (by decide) hP (by decide) rfl rfl (fun x y _ => by first | (dsimp only [cpA, cpL, cpB, cpD, cpF]; omega) | simp)
      have hR : RF _ := hP.rf hR0
      refine V_aload_n dF_becomeAs_68 rfl ?_
      refine V_aload_n dF_becomeAs_69 rfl ?_
      refine V_getI dF_becomeAs_70 flF_57 k24 rfl ?_
      refine V_putI dF_becomeAs_73 flF_57 (fpF_5 _) (Or.inl rfl) k1 rfl ?_
      have hP : CPY σ (si (si s 1 4 (gi s 24 4)) 1 5 (gi (si s 1 4 (gi s 24 4)) 24 5)) 24 1 (fun x y => cpL 8 x y ∨ x = 0 ∧ (y = 4 ∨ y = 5)) := CPY.put (i := 0) (j := 5) (by decide) hP (by decide) rfl rfl (fun x y _ => by first | (dsimp only [cpA, cpL, cpB, cpD, cpF]; omega) | simp)
      have hR : RF _ := hP.rf hR0
      refine V_aload_n dF_becomeAs_76 rfl ?_
      refine V_aload_n dF_becomeAs_77 rfl ?_
      refine V_getI dF_becomeAs_78 flF_21 k24 rfl ?_
      refine V_putI dF_becomeAs_81 flF_21 (fpF_6 _) (Or.inl rfl) k1 rfl ?_
      have hP : CPY σ (si (si (si s 1 4 (gi s 24 4)) 1 5 (gi (si s 1 4 (gi s 24 4)) 24 5)) 1 6 (gi (si (si s 1 4 (gi s 24 4)) 1 5 (gi (si s 1 4 (gi s 24 4)) 24 5)) 24 6)) 24 1 cpB := CPY.put (i := 0) (j := 6) (by decide) hP (by decide) rfl rfl (fun x y _ => by first | (dsimp only [cpA, cpL, cpB, cpD, cpF]; omega) | simp)
      have hR : RF _ := hP.rf hR0
      refine V_aload_n dF_becomeAs_84 rfl ?_
      refine V_getR (a := 4) dF_becomeAs_85 flF_28 k1 rfl (r1_7 hR) ?_
      refine V_aload_n dF_becomeAs_88 rfl ?_
      refine V_getR (a := 27) dF_becomeAs_89 flF_28 k24 rfl (r24_7 hR) ?_
      refine V_callV (as := [.ref 27]) (rest := []) (bs' := 0) rfl dF_becomeAs_92 cmW_becomeAs cvW_becomeAs mlF_60 (Or.inl ⟨_, _, _, _, _, rfl, k4, by decide, rfl⟩) rfl rfl (c_becomeW hR (a := 27) (b := 4) (by decide) k27 k4 k28 k5 (r27_1 hR) (r4_1 hR)) (by decide) (Nat.le_refl _) (by decide) (Nat.le_of_ble_eq_true rfl) ?_
      rintro _ _ u ⟨rfl, rfl, hE⟩ -
      refine V_non ?_
      have hP : CPY σ u 24 1 cpD := CPY.wc (i := 3) (by decide) hP hE (by decide) rfl rfl (fun x y _ => by first | (dsimp only [cpA, cpL, cpB, cpD, cpF]; omega) | simp)
      have hR : RF u := hP.rf hR0
      refine V_aload_n dF_becomeAs_95 rfl ?_
      refine V_getR (a := 6) dF_becomeAs_96 flF_32 k1 rfl (r1_8 hR) ?_
      refine V_aload_n dF_becomeAs_99 rfl ?_
      refine V_getR (a := 29) dF_becomeAs_100 flF_32 k24 rfl (r24_8 hR) ?_
      refine V_callV (as := [.ref 29]) (rest := []) (bs' := 0) rfl dF_becomeAs_103 cmW_becomeAs cvW_becomeAs mlF_60 (Or.inl ⟨_, _, _, _, _, rfl, k6, by decide, rfl⟩) rfl rfl (c_becomeW hR (a := 29) (b := 6) (by decide) k29 k6 k30 k7 (r29_1 hR) (r6_1 hR)) (by decide) (Nat.le_refl _) (by decide) (Nat.le_of_ble_eq_true rfl) ?_
      rintro _ _ w ⟨rfl, rfl, hE⟩ -
      refine V_non ?_
      have hP : CPY σ w 24 1 cpF := CPY.wc (i := 5) (by decide) hP hE (by decide) rfl rfl (fun x y _ => by first | (dsimp only [cpA, cpL, cpB, cpD, cpF]; omega) | simp)
      have hR : RF w := hP.rf hR0
      exact V_ret dF_becomeAs_106 rfl rfl ⟨rfl, rfl, hP⟩
    · skip
      intro s hP
      have hR : RF s := hP.rf hR0
      refine V_iload_n dF_becomeAs_33 rfl ?_
      refine V_bipush (v := 8) dF_becomeAs_34 (by decide) ?_
      refine V_icmp_ge (tgt := 60) dF_becomeAs_36 rfl (fun h => absurd h (nI_ge (a := n) (b := 8) hn (by decide))) (fun _ => ?_)
      refine V_aload_n dF_becomeAs_39 rfl ?_
      refine V_getR (a := 3) dF_becomeAs_40 flF_17 k1 rfl (r1_3 hR) ?_
      refine V_iload_n dF_becomeAs_43 rfl ?_
      refine V_aaldN (j := n) (a := 8 + 2 * n) dF_becomeAs_44 k3 rfl (by omega) (by decide) (rE hR hn) ?_
      refine V_aload_n dF_becomeAs_45 rfl ?_
      refine V_getR (a := 26) dF_becomeAs_46 flF_17 k24 rfl (r24_3 hR) ?_
      refine V_iload_n dF_becomeAs_49 rfl ?_
      refine V_aaldN (j := n) (a := 31 + 2 * n) dF_becomeAs_50 k26 rfl (by omega) (by decide) (rI hR hn) ?_
      refine V_callV (as := [.ref (31 + 2 * n)]) (rest := []) (bs' := 0) rfl dF_becomeAs_51 cmE_becomeAs cvE_becomeAs mlF_50 (Or.inl ⟨_, _, _, _, _, rfl, (kE n hn), by decide, rfl⟩) rfl rfl (c_becomeE hR (a := 31 + 2 * n) (b := 8 + 2 * n) (by omega) (kI n hn) (kE n hn) (by rw [show 31 + 2 * n + 1 = 32 + 2 * n by omega]; exact kIr n hn) (by rw [show 8 + 2 * n + 1 = 9 + 2 * n by omega]; exact kEr n hn) (by rw [show 31 + 2 * n + 1 = 32 + 2 * n by omega]; exact rIr hR hn) (by rw [show 8 + 2 * n + 1 = 9 + 2 * n by omega]; exact rEr hR hn)) (by decide) (Nat.le_refl _) (by decide) (Nat.le_of_ble_eq_true rfl) ?_
      rintro _ _ t ⟨rfl, rfl, hE⟩ -
      refine V_non ?_
      have hP : CPY σ t 24 1 (cpL (n + 1)) := CPY.ec (i := 7 + 2 * n) (by decide) hP hE (by omega) (by omega) (by omega) (fun x y _ => by first | (dsimp only [cpA, cpL, cpB, cpD, cpF]; omega) | simp)
      have hR : RF t := hP.rf hR0
      refine V_iinc (v := nI (n + 1)) (loc' := [(2, .int (nI (n + 1))), (0, .ref 1), (1, .ref 24)]) dF_becomeAs_54 rfl (nI_inc n) (by decide) rfl ?_
      refine V_goto (tgt := 33) dF_becomeAs_57 rfl ?_
      refine V.locs (loc' := [(2, .int (nI (n + 1))), (0, .ref 1), (1, .ref 24)]) [0, 1, 2] rfl ?_
      exact (ihn _ hP)
  refine V.locs (loc' := [(2, .int 0), (0, .ref 1), (1, .ref 24)]) [0, 1, 2] rfl ?_
  refine V_eqL (loc' := [(2, .int (nI 0)), (0, .ref 1), (1, .ref 24)]) ?_ ?_
  · rfl
  exact (lp 0 (Nat.zero_le _) _ hP)
