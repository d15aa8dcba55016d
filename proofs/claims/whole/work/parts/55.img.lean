/-! image and undo: the first object -/
def cpFb (i j : Nat) : Bool := decide ((i = 0 ∧ (j = 0 ∨ j = 2 ∨ j = 4 ∨ j = 5 ∨ j = 6) ∨ i = 1 ∧ j < 6 ∨ (7 ≤ i ∧ (i % 2 = 1 ∧ 1 ≤ j ∧ j ≤ 5 ∨ i % 2 = 0 ∧ j < 4))) ∨ (i = 3 ∨ i = 5) ∧ j = 0 ∨ (i = 4 ∨ i = 6) ∧ j < 24)
theorem cpFb_of {i j : Nat} (h : cpFb i j = true) : cpF i j := by
  have h2 := of_decide_eq_true h
  exact h2
def imok (k j : Nat) : Bool := match mp k j with
  | none => true
  | some q => if 24 ≤ k ∧ k < 47 then cpFb (k - 24) j && (match mp (k - 23) j with | some q' => decide (im q.1 q.2 = some q') && decide (¬ (q'.1 = 76 ∧ q'.2 = 37)) | none => false) else decide (im q.1 q.2 = none) && (decide (¬ (q.1 = 76 ∧ q.2 = 37)) || decide (k = 0 ∧ j = 2))
def umok (k j : Nat) : Bool := match mp k j with
  | none => true
  | some q => if 1 ≤ k ∧ k < 24 then cpFb (k - 1) j && (match mp (k + 23) j with | some q' => decide (um q.1 q.2 = some q') | none => false) else decide (um q.1 q.2 = none)
theorem im_all : (List.range 76).all (fun k => (List.range 100).all (fun j => imok k j)) = true := by decide +kernel
theorem um_all : (List.range 76).all (fun k => (List.range 100).all (fun j => umok k j)) = true := by decide +kernel
theorem CPY.sm {σ s : Hp} {a b : Nat} {P : Nat → Nat → Prop} (h : CPY σ s a b P) (hb : b + 23 ≤ 76) : Sm σ s := fun k j hk => ⟨h.2.1 k j (fun i hi e => by omega), h.2.2.1 k j⟩
theorem CPY.out {σ s : Hp} {a b : Nat} {P : Nat → Nat → Prop} (h : CPY σ s a b P) {k j : Nat} (hk : k < b ∨ b + 23 ≤ k) : gi s k j = gi σ k j := h.2.1 k j (fun i hi e => by omega)
theorem cpF_n0 {i : Nat} (h : 7 ≤ i) (h2 : i % 2 = 1) : ¬ cpF i 0 := by unfold cpF cpB; omega
theorem RC_img {L : Nat → List Cl} {M σ t : Hp} (hC : RC L M σ) (h : CPY σ t 1 24 cpF) : RC L (imgM M) (si t 0 2 1) := by
  obtain ⟨h1, h2, h3, h4, h5⟩ := hC
  refine ⟨h.rf h1, fun k j a b hk => ?_, fun n hn => ?_, fun t' i ht hi => ?_, fun f hf hf' => ?_⟩
  · obtain ⟨l1, l2⟩ := mp_lt hk
    have ok := List.all_eq_true.mp (List.all_eq_true.mp im_all k (List.mem_range.mpr l1)) j (List.mem_range.mpr l2)
    unfold imok at ok
    rw [hk] at ok
    by_cases hr : 24 ≤ k ∧ k < 47
    · simp only [if_pos hr] at ok
      cases hq : mp (k - 23) j with
      | none => rw [hq] at ok; simp at ok
      | some q' =>
        rw [hq] at ok
        simp only [Bool.and_eq_true, decide_eq_true_eq] at ok
        obtain ⟨o1, o2, o3⟩ := ok
        have g1 : gi (si t 0 2 1) k j = gi t k j := gi_ne (by omega)
        have g2 := h.1 (k - 24) j (by omega) (cpFb_of o1)
        rw [show 24 + (k - 24) = k by omega, show 1 + (k - 24) = k - 23 by omega] at g2
        rw [g1, g2, h2 _ _ _ _ hq]
        show _ = gi (cpM im (si M 76 37 1)) a b
        rw [cp_some o2]
        simp [gi, si, o3]
    · simp only [if_neg hr, Bool.and_eq_true, Bool.or_eq_true, decide_eq_true_eq] at ok
      obtain ⟨o1, o2⟩ := ok
      show _ = gi (cpM im (si M 76 37 1)) a b
      rw [cp_none o1]
      rcases o2 with o2 | ⟨rfl, rfl⟩
      · have e : ¬ (k = 0 ∧ j = 2) := by
          rintro ⟨rfl, rfl⟩
          have e2 : mp 0 2 = some (76, 37) := rfl
          rw [e2] at hk
          cases hk
          exact o2 ⟨rfl, rfl⟩
        have g1 : gi (si t 0 2 1) k j = gi t k j := by simp [gi, si, e]
        have g2 : gi (si M 76 37 1) a b = gi M a b := by simp [gi, si, o2]
        rw [g1, g2, h.out (by omega)]
        exact h2 _ _ _ _ hk
      · have e2 : mp 0 2 = some (76, 37) := rfl
        rw [e2] at hk
        cases hk
        rw [gi_eq, gi_eq]
  · rw [gi_ne (by omega), gi_ne (by omega), h.out (by omega)]
    refine ⟨(h3 n hn).1, ?_⟩
    rw [h.2.1 (31 + 2 * n) 0 (fun i hi e => cpF_n0 (by omega) (by omega))]
    exact (h3 n hn).2
  · show gl t (70 + t') i = gl M 115 (60 * t' + i)
    rw [h.2.2.1]
    exact h4 t' i ht hi
  · have g := h5 f hf hf'
    have e : ∀ k j, 47 ≤ k → gi (si t 0 2 1) k j = gi σ k j := fun k j hk => (gi_ne (by omega)).trans (h.out (by omega))
    rw [e 57 f (by omega), e 56 f (by omega)]
    obtain ⟨g1, ops, g2, g3, g4, g5⟩ := g
    exact ⟨g1, ops, g2, g3, fun j op ho => by rw [e (50 + f) j (by omega)]; exact g4 j op ho, g5⟩
theorem RC_und {L : Nat → List Cl} {M σ t : Hp} (hC : RC L M σ) (h : CPY σ t 24 1 cpF) : RC L (undM M) t := by
  obtain ⟨h1, h2, h3, h4, h5⟩ := hC
  refine ⟨h.rf h1, fun k j a b hk => ?_, fun n hn => ?_, fun t' i ht hi => ?_, fun f hf hf' => ?_⟩
  · obtain ⟨l1, l2⟩ := mp_lt hk
    have ok := List.all_eq_true.mp (List.all_eq_true.mp um_all k (List.mem_range.mpr l1)) j (List.mem_range.mpr l2)
    unfold umok at ok
    rw [hk] at ok
    by_cases hr : 1 ≤ k ∧ k < 24
    · simp only [if_pos hr] at ok
      cases hq : mp (k + 23) j with
      | none => rw [hq] at ok; simp at ok
      | some q' =>
        rw [hq] at ok
        simp only [Bool.and_eq_true, decide_eq_true_eq] at ok
        obtain ⟨o1, o2⟩ := ok
        have g2 := h.1 (k - 1) j (by omega) (cpFb_of o1)
        rw [show 1 + (k - 1) = k by omega, show 24 + (k - 1) = k + 23 by omega] at g2
        rw [g2, h2 _ _ _ _ hq]
        show _ = gi (cpM um M) a b
        rw [cp_some o2]
    · simp only [if_neg hr, decide_eq_true_eq] at ok
      show _ = gi (cpM um M) a b
      rw [cp_none ok, h.out (by omega)]
      exact h2 _ _ _ _ hk
  · rw [h.out (k := 31 + 2 * n) (by omega), h.2.1 (8 + 2 * n) 0 (fun i hi e => cpF_n0 (by omega) (by omega))]
    exact h3 n hn
  · rw [h.2.2.1]
    exact h4 t' i ht hi
  · have g := h5 f hf hf'
    have e : ∀ k j, 47 ≤ k → gi t k j = gi σ k j := fun k j hk => h.out (by omega)
    rw [e 57 f (by omega), e 56 f (by omega)]
    obtain ⟨g1, ops, g2, g3, g4, g5⟩ := g
    exact ⟨g1, ops, g2, g3, fun j op ho => by rw [e (50 + f) j (by omega)]; exact g4 j op ho, g5⟩
theorem g_image {l : Launch} {G : GT} {L : Nat → List Cl} {M σ : Hp} (hC : RC L M σ) (hI : Inv L M) : MM l G mG_image 3 0 0 [.ref 0] KA σ (PQ L σ (q_image M)) := by
  have hR := hC.1
  refine MM.of (loc := [(0, .ref 0)]) (by decide +kernel) rfl (Nat.le_of_ble_eq_true rfl) ?_
  refine V_aload_n dG_image_0 rfl ?_
  refine V_getR (a := 24) dG_image_1 flG_18 k0 rfl (r0_1 hR) ?_
  refine V_aload_n dG_image_4 rfl ?_
  refine V_getR (a := 1) dG_image_5 flG_12 k0 rfl (r0_0 hR) ?_
  refine V_callV (as := [.ref 1]) (rest := []) (bs' := 0) rfl dG_image_8 cmF_becomeAs cvF_becomeAs mlG_259 (Or.inl ⟨_, _, _, _, _, rfl, k24, by decide, rfl⟩) rfl rfl (c_becomeF1 hR) (by decide) (Nat.le_refl _) (by decide) (Nat.le_of_ble_eq_true rfl) ?_
  rintro _ _ t ⟨rfl, rfl, hP⟩ -
  refine V_non ?_
  have hR : RF t := hP.rf hR
  refine V_aload_n dG_image_11 rfl ?_
  refine V_iconst (v := 1) dG_image_12 (by decide) ?_
  refine V_putZ dG_image_13 flG_263 (fpG_2 _) (Or.inl rfl) k0 rfl (by decide) ?_
  have hC2 : RC L (imgM M) (si t 0 2 1) := RC_img hC hP
  have hS : Sm σ (si t 0 2 1) := (hP.sm (by decide)).set (by decide)
  have hR := hC2.1
  refine V_aload_n dG_image_16 rfl ?_
  refine V_getR (a := 1) dG_image_17 flG_12 k0 rfl (r0_0 hR) ?_
  refine V_getE (x := nI (mE M)) dG_image_20 flG_164 k1 rfl ((hC2.2.1 1 2 76 1 rfl).trans (iE hI).1) ?_
  exact V_iret dG_image_23 rfl rfl ⟨rfl, rfl, hC2, hS⟩
theorem g_undo {l : Launch} {G : GT} {L : Nat → List Cl} {M σ : Hp} (hC : RC L M σ) (hI : Inv L M) : MM l G mG_undo 3 0 0 [.ref 0] KA σ (PQ L σ (q_undo M)) := by
  have hR := hC.1
  refine MM.of (loc := [(0, .ref 0)]) (by decide +kernel) rfl (Nat.le_of_ble_eq_true rfl) ?_
  refine V_aload_n dG_undo_0 rfl ?_
  refine V_getE (x := gi M 76 37) dG_undo_1 flG_263 k0 rfl (hC.2.1 0 2 76 37 rfl) ?_
  refine V_if_ne (tgt := 10) dG_undo_4 rfl (fun c4 => ?_) (fun c4 => ?_)
  · skip
    refine V_aload_n dG_undo_10 rfl ?_
    refine V_getR (a := 1) dG_undo_11 flG_12 k0 rfl (r0_0 hR) ?_
    refine V_aload_n dG_undo_14 rfl ?_
    refine V_getR (a := 24) dG_undo_15 flG_18 k0 rfl (r0_1 hR) ?_
    refine V_callV (as := [.ref 24]) (rest := []) (bs' := 0) rfl dG_undo_18 cmF_becomeAs cvF_becomeAs mlG_259 (Or.inl ⟨_, _, _, _, _, rfl, k1, by decide, rfl⟩) rfl rfl (c_becomeF24 hR) (by decide) (Nat.le_refl _) (by decide) (Nat.le_of_ble_eq_true rfl) ?_
    rintro _ _ t ⟨rfl, rfl, hP⟩ -
    refine V_non ?_
    have hR : RF t := hP.rf hR
    have hC2 : RC L (undM M) t := RC_und hC hP
    have hS : Sm σ t := hP.sm (by decide)
    refine V_aload_n dG_undo_21 rfl ?_
    refine V_getR (a := 1) dG_undo_22 flG_12 k0 rfl (r0_0 hR) ?_
    refine V_getE (x := gi M 76 40) dG_undo_25 flG_164 k1 rfl (hC2.2.1 1 2 76 1 rfl) ?_
    refine V_iret dG_undo_28 rfl rfl ?_
    rw [show q_undo M = (gi M 76 40, undM M) from if_neg c4]
    exact ⟨rfl, rfl, hC2, hS⟩
  · skip
    refine V_bipush (v := -3) dG_undo_7 (by decide) ?_
    refine V_iret dG_undo_9 rfl rfl ?_
    rw [show q_undo M = (-3, M) from if_pos c4]
    exact ⟨rfl, rfl, hC, Sm.rfl⟩
