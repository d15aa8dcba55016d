/-! act -/
def actV (K a : Nat) (x num v : Int32) : Int32 := match K, a with
  | 0, 0 => x + num
  | 0, 1 => (x + num) - v
  | 0, 2 => ((x + num) - v) * 2
  | 1, 0 => x + num
  | 1, 1 => ((x + num) - v) ^^^ 6
  | 1, 2 => (((x + num) - v) ^^^ 6) * 2
  | 2, 0 => ((x * 3) + num)
  | 2, 1 => ((x * 3) + num) - v
  | 2, 2 => (((x * 3) + num) - v) * 2
  | 3, 0 => x + num
  | 3, 1 => (x + num) - v
  | 3, 2 => (((x + num) - v) * 2) + ((1 + num) - v)
  | 4, 0 => -(x + num)
  | 4, 1 => (((-((x + 1) + num)) - v) ^^^ 6)
  | 4, 2 => (((-((x + 1) + num)) - v) ^^^ 6) * 2
  | 5, 0 => ((x * 3) + num)
  | 5, 1 => ((x * 3) + num) - v
  | 5, 2 => (((((x - num) * 3) + num) - v) * 2)
  | 6, 0 => (x + num) ^^^ v
  | 6, 1 => (((x + num) ^^^ v) - v) + (2 + num)
  | 6, 2 => (((((x + num) ^^^ v) - v) + (2 + num)) * 2) + ((((1 + num) ^^^ v) - v) + (2 + num))
  | _, _ => 0
def actM (K a : Nat) (M : Hp) : Hp := match K, a with
  | 0, 0 => bodyL 0 10 M
  | 0, 1 => bodyL 1 10 (bodyL 0 11 M)
  | 0, 2 => bodyL 2 10 (bodyL 1 11 (bodyL 0 12 M))
  | 1, 0 => bodyL 0 10 M
  | 1, 1 => bodyL 2 10 (bodyL 1 11 (bodyL 0 20 M))
  | 1, 2 => bodyL 3 10 (bodyL 2 11 (bodyL 1 20 (bodyL 0 12 M)))
  | 2, 0 => bodyL 1 10 (bodyL 0 30 M)
  | 2, 1 => bodyL 2 10 (bodyL 1 30 (bodyL 0 11 M))
  | 2, 2 => bodyL 3 10 (bodyL 2 30 (bodyL 1 11 (bodyL 0 12 M)))
  | 3, 0 => bodyL 0 10 M
  | 3, 1 => bodyL 1 10 (bodyL 0 11 M)
  | 3, 2 => bodyL 5 10 (bodyL 4 11 (bodyL 3 10 (bodyL 2 11 (bodyL 1 12 (bodyL 0 40 M)))))
  | 4, 0 => bodyL 1 10 (bodyL 0 50 M)
  | 4, 1 => bodyL 4 10 (bodyL 3 50 (bodyL 2 11 (bodyL 1 20 (bodyL 0 51 M))))
  | 4, 2 => bodyL 5 10 (bodyL 4 50 (bodyL 3 11 (bodyL 2 20 (bodyL 1 51 (bodyL 0 12 M)))))
  | 5, 0 => bodyL 1 10 (bodyL 0 30 M)
  | 5, 1 => bodyL 2 10 (bodyL 1 30 (bodyL 0 11 M))
  | 5, 2 => bodyL 4 10 (bodyL 3 30 (bodyL 2 11 (bodyL 1 12 (bodyL 0 60 M))))
  | 6, 0 => bodyL 1 10 (bodyL 0 71 M)
  | 6, 1 => bodyL 4 10 (bodyL 3 10 (bodyL 2 71 (bodyL 1 11 (bodyL 0 70 M))))
  | 6, 2 => bodyL 11 10 (bodyL 10 10 (bodyL 9 71 (bodyL 8 11 (bodyL 7 70 (bodyL 6 10 (bodyL 5 10 (bodyL 4 71 (bodyL 3 11 (bodyL 2 70 (bodyL 1 12 (bodyL 0 40 M)))))))))))
  | _, _ => M
def q_act (M : Hp) (e a x : Int32) : Int32 × Hp := if rng e (mE M) ∧ (0 ≤ a ∧ a ≤ 2) then (actV (cN (gi M 78 (cN e))) (cN a) x (nI (cN e)) (gi M 79 (cN e)), actM (cN (gi M 78 (cN e))) (cN a) (si M 76 57 0)) else (0, si M 76 57 0)
theorem I_ran {L : Nat → List Cl} {M : Hp} (hI : Inv L M) {n : Nat} (hn : n < 1000) : Inv L (si M 76 57 (nI n)) := by
  obtain ⟨a1, a2, a3, a4, a5, a6, a7, a8, a9, a10⟩ := hI
  refine ⟨a1, a2, a3, ?_, a5, a6, a7, isN_of rfl hn (by decide), a9, a10⟩
  intro f hf hf'
  obtain ⟨h1, h2, h3⟩ := a4 f hf hf'
  exact ⟨h1, h2, h3⟩
theorem I_112 {L : Nat → List Cl} {M : Hp} (hI : Inv L M) {j : Nat} {x : Int32} : Inv L (si M 112 j x) := by
  obtain ⟨a1, a2, a3, a4, a5, a6, a7, a8, a9, a10⟩ := hI
  refine ⟨a1, a2, a3, ?_, a5, a6, a7, a8, a9, a10⟩
  intro f hf hf'
  obtain ⟨h1, h2, h3⟩ := a4 f hf hf'
  exact ⟨h1, h2, h3⟩
theorem I_body {L : Nat → List Cl} {M : Hp} (hI : Inv L M) {r : Nat} {b : Int32} (hr : r < 999) : Inv L (bodyL r b M) := I_ran (I_112 hI) (by omega)
theorem up2 {a : Int32} (h : 0 ≤ a ∧ a ≤ 2) : a = 0 ∨ a = 1 ∨ a = 2 := by
  have h1 := isN_le (n := 2) rfl (by decide) h
  have h2 := h1.2
  have h3 : cN a = 0 ∨ cN a = 1 ∨ cN a = 2 := by omega
  rcases h3 with q | q | q
  · exact Or.inl (by rw [h1.1, q]; rfl)
  · exact Or.inr (Or.inl (by rw [h1.1, q]; rfl))
  · exact Or.inr (Or.inr (by rw [h1.1, q]; rfl))
theorem mp_64 : ∀ j : Nat, j < 100 → ¬ j = 0 → mp 64 j = none := by decide
theorem RC_64 {L : Nat → List Cl} {M σ : Hp} {j : Nat} {x : Int32} (hC : RC L M σ) (hj : ¬ j = 0) (h100 : j < 100) : RC L M (si σ 64 j x) := by
  obtain ⟨h1, hd, h3, h4, h5⟩ := hC
  refine ⟨h1, fun k' j' a' b' h' => ?_, fun n hn => ⟨(gi_ne (by omega)).trans (h3 n hn).1, (gi_ne (by omega)).trans (h3 n hn).2⟩, h4, fun f hf hf' => ?_⟩
  · have e : ¬ (k' = 64 ∧ j' = j) := by
      rintro ⟨rfl, rfl⟩
      rw [mp_64 _ h100 hj] at h'
      cases h'
    have g1 : gi (si σ 64 j x) k' j' = gi σ k' j' := by simp only [gi, si, if_neg e]
    rw [g1]
    exact hd k' j' a' b' h'
  · obtain ⟨g1, ops, g2, g3, g4, g5⟩ := h5 f hf hf'
    exact ⟨(gi_ne (by omega)).trans g1, ops, g2, (gi_ne (by omega)).trans g3, fun j op hj => ⟨(gi_ne (by omega)).trans (g4 j op hj).1, (g4 j op hj).2⟩, g5⟩
theorem Iq_act {L : Nat → List Cl} {M : Hp} (hI : Inv L M) (e a x : Int32) : Inv L (q_act M e a x).2 := by
  have h0 : Inv L (si M 76 57 0) := I_ran (n := 0) hI (by decide)
  unfold q_act
  split
  · show Inv L (actM _ _ _)
    unfold actM
    split <;> first | exact h0 | (repeat first | exact h0 | refine I_body ?_ (by decide))
  · exact h0
theorem c_perform_0_0 {l : Launch} {G : GT} {L : Nat → List Cl} {M σ : Hp} (hC : RC L M σ) {j : Nat} (h8 : j < 8) (hK : gi M 78 j = nI 0) (hr : gi M 76 57 = nI 0) (x : Int32) : MM l G mA_perform 2 0 0 [.ref 64, .ref (8 + 2 * j), .int 0, .int x] KA σ (PQ L σ (actV 0 0 x (nI j) (gi M 79 j), actM 0 0 M)) := by
  have hR := hC.1
  have hC0 := hC
  have hS : Sm σ σ := Sm.rfl
  refine MM.of (loc := [(0, .ref 64), (1, .ref (8 + 2 * j)), (2, .int 0), (3, .int x)]) (by decide +kernel) rfl (Nat.le_of_ble_eq_true rfl) ?_
  refine V_aload_n dA_perform_0 rfl ?_
  refine V_aload_n dA_perform_1 rfl ?_
  refine V_getE (x := 0) dA_perform_2 flA_19 (kE _ h8) rfl ((eK hC h8).trans hK) ?_
  refine V_putI dA_perform_5 flA_24 (fpA_2 _) (Or.inl rfl) k64 rfl ?_
  have hC := RC_64 (j := 2) (x := 0) hC (by decide) (by decide)
  have hS : Sm σ (si σ 64 2 0) := hS.set (by decide)
  have hR := hC.1
  refine V_aload_n dA_perform_8 rfl ?_
  refine V_aload_n dA_perform_9 rfl ?_
  refine V_getE (x := nI j) dA_perform_10 flA_25 (kE _ h8) rfl (eN hC h8) ?_
  refine V_putI dA_perform_13 flA_28 (fpA_3 _) (Or.inl rfl) k64 rfl ?_
  have hC := RC_64 (j := 3) (x := nI j) hC (by decide) (by decide)
  have hS : Sm σ (si (si σ 64 2 0) 64 3 (nI j)) := hS.set (by decide)
  have hR := hC.1
  refine V_aload_n dA_perform_16 rfl ?_
  refine V_aload_n dA_perform_17 rfl ?_
  refine V_getE (x := gi M 79 j) dA_perform_18 flA_29 (kE _ h8) rfl (eV hC h8) ?_
  refine V_putI dA_perform_21 flA_32 (fpA_4 _) (Or.inl rfl) k64 rfl ?_
  have hC := RC_64 (j := 4) (x := gi M 79 j) hC (by decide) (by decide)
  have hS : Sm σ (si (si (si σ 64 2 0) 64 3 (nI j)) 64 4 (gi M 79 j)) := hS.set (by decide)
  have hR := hC.1
  refine V_aload_n dA_perform_24 rfl ?_
  refine V_aload_n dA_perform_25 rfl ?_
  refine V_getE (x := 0) dA_perform_26 flA_24 k64 rfl (by simp [gi, si]) ?_
  refine V_iload_n dA_perform_29 rfl ?_
  refine V_iload_n dA_perform_30 rfl ?_
  refine V_iconst (v := 0) dA_perform_31 (by decide) ?_
  refine V_callV (as := [.int 0, .int 0, .int x, .int 0]) (rest := []) (bs' := 0) rfl dA_perform_32 cmA_run cvA_run mlA_33 (Or.inl ⟨_, _, _, _, _, rfl, k64, by decide, rfl⟩) rfl rfl (c_run_0_0_0_0 hC (num := nI j) (v := gi M 79 j) ⟨by simp [gi, si] <;> rfl, by simp [gi, si], by simp [gi, si]⟩ hr x (dp := 0) (by decide)) (by decide) (Nat.le_refl _) (by decide) (Nat.le_of_ble_eq_true rfl) ?_
  rintro _ _ s1 ⟨rfl, rfl, hC, hS1, hA1⟩ -
  refine V_one ?_
  have hS := hS.trans hS1
  exact V_iret dA_perform_35 rfl rfl ⟨rfl, rfl, hC, hS⟩
theorem c_perform_0_1 {l : Launch} {G : GT} {L : Nat → List Cl} {M σ : Hp} (hC : RC L M σ) {j : Nat} (h8 : j < 8) (hK : gi M 78 j = nI 0) (hr : gi M 76 57 = nI 0) (x : Int32) : MM l G mA_perform 4 0 0 [.ref 64, .ref (8 + 2 * j), .int 1, .int x] KA σ (PQ L σ (actV 0 1 x (nI j) (gi M 79 j), actM 0 1 M)) := by
  have hR := hC.1
  have hC0 := hC
  have hS : Sm σ σ := Sm.rfl
  refine MM.of (loc := [(0, .ref 64), (1, .ref (8 + 2 * j)), (2, .int 1), (3, .int x)]) (by decide +kernel) rfl (Nat.le_of_ble_eq_true rfl) ?_
  refine V_aload_n dA_perform_0 rfl ?_
  refine V_aload_n dA_perform_1 rfl ?_
  refine V_getE (x := 0) dA_perform_2 flA_19 (kE _ h8) rfl ((eK hC h8).trans hK) ?_
  refine V_putI dA_perform_5 flA_24 (fpA_2 _) (Or.inl rfl) k64 rfl ?_
  have hC := RC_64 (j := 2) (x := 0) hC (by decide) (by decide)
  have hS : Sm σ (si σ 64 2 0) := hS.set (by decide)
  have hR := hC.1
  refine V_aload_n dA_perform_8 rfl ?_
  refine V_aload_n dA_perform_9 rfl ?_
  refine V_getE (x := nI j) dA_perform_10 flA_25 (kE _ h8) rfl (eN hC h8) ?_
  refine V_putI dA_perform_13 flA_28 (fpA_3 _) (Or.inl rfl) k64 rfl ?_
  have hC := RC_64 (j := 3) (x := nI j) hC (by decide) (by decide)
  have hS : Sm σ (si (si σ 64 2 0) 64 3 (nI j)) := hS.set (by decide)
  have hR := hC.1
  refine V_aload_n dA_perform_16 rfl ?_
  refine V_aload_n dA_perform_17 rfl ?_
  refine V_getE (x := gi M 79 j) dA_perform_18 flA_29 (kE _ h8) rfl (eV hC h8) ?_
  refine V_putI dA_perform_21 flA_32 (fpA_4 _) (Or.inl rfl) k64 rfl ?_
  have hC := RC_64 (j := 4) (x := gi M 79 j) hC (by decide) (by decide)
  have hS : Sm σ (si (si (si σ 64 2 0) 64 3 (nI j)) 64 4 (gi M 79 j)) := hS.set (by decide)
  have hR := hC.1
  refine V_aload_n dA_perform_24 rfl ?_
  refine V_aload_n dA_perform_25 rfl ?_
  refine V_getE (x := 0) dA_perform_26 flA_24 k64 rfl (by simp [gi, si]) ?_
  refine V_iload_n dA_perform_29 rfl ?_
  refine V_iload_n dA_perform_30 rfl ?_
  refine V_iconst (v := 0) dA_perform_31 (by decide) ?_
  refine V_callV (as := [.int 0, .int 1, .int x, .int 0]) (rest := []) (bs' := 0) rfl dA_perform_32 cmA_run cvA_run mlA_33 (Or.inl ⟨_, _, _, _, _, rfl, k64, by decide, rfl⟩) rfl rfl (c_run_0_0_1_0 hC (num := nI j) (v := gi M 79 j) ⟨by simp [gi, si] <;> rfl, by simp [gi, si], by simp [gi, si]⟩ hr x (dp := 0) (by decide)) (by decide) (Nat.le_refl _) (by decide) (Nat.le_of_ble_eq_true rfl) ?_
  rintro _ _ s1 ⟨rfl, rfl, hC, hS1, hA1⟩ -
  refine V_one ?_
  have hS := hS.trans hS1
  exact V_iret dA_perform_35 rfl rfl ⟨rfl, rfl, hC, hS⟩
theorem c_perform_0_2 {l : Launch} {G : GT} {L : Nat → List Cl} {M σ : Hp} (hC : RC L M σ) {j : Nat} (h8 : j < 8) (hK : gi M 78 j = nI 0) (hr : gi M 76 57 = nI 0) (x : Int32) : MM l G mA_perform 6 0 0 [.ref 64, .ref (8 + 2 * j), .int 2, .int x] KA σ (PQ L σ (actV 0 2 x (nI j) (gi M 79 j), actM 0 2 M)) := by
  have hR := hC.1
  have hC0 := hC
  have hS : Sm σ σ := Sm.rfl
  refine MM.of (loc := [(0, .ref 64), (1, .ref (8 + 2 * j)), (2, .int 2), (3, .int x)]) (by decide +kernel) rfl (Nat.le_of_ble_eq_true rfl) ?_
  refine V_aload_n dA_perform_0 rfl ?_
  refine V_aload_n dA_perform_1 rfl ?_
  refine V_getE (x := 0) dA_perform_2 flA_19 (kE _ h8) rfl ((eK hC h8).trans hK) ?_
  refine V_putI dA_perform_5 flA_24 (fpA_2 _) (Or.inl rfl) k64 rfl ?_
  have hC := RC_64 (j := 2) (x := 0) hC (by decide) (by decide)
  have hS : Sm σ (si σ 64 2 0) := hS.set (by decide)
  have hR := hC.1
  refine V_aload_n dA_perform_8 rfl ?_
  refine V_aload_n dA_perform_9 rfl ?_
  refine V_getE (x := nI j) dA_perform_10 flA_25 (kE _ h8) rfl (eN hC h8) ?_
  refine V_putI dA_perform_13 flA_28 (fpA_3 _) (Or.inl rfl) k64 rfl ?_
  have hC := RC_64 (j := 3) (x := nI j) hC (by decide) (by decide)
  have hS : Sm σ (si (si σ 64 2 0) 64 3 (nI j)) := hS.set (by decide)
  have hR := hC.1
  refine V_aload_n dA_perform_16 rfl ?_
  refine V_aload_n dA_perform_17 rfl ?_
  refine V_getE (x := gi M 79 j) dA_perform_18 flA_29 (kE _ h8) rfl (eV hC h8) ?_
  refine V_putI dA_perform_21 flA_32 (fpA_4 _) (Or.inl rfl) k64 rfl ?_
  have hC := RC_64 (j := 4) (x := gi M 79 j) hC (by decide) (by decide)
  have hS : Sm σ (si (si (si σ 64 2 0) 64 3 (nI j)) 64 4 (gi M 79 j)) := hS.set (by decide)
  have hR := hC.1
  refine V_aload_n dA_perform_24 rfl ?_
  refine V_aload_n dA_perform_25 rfl ?_
  refine V_getE (x := 0) dA_perform_26 flA_24 k64 rfl (by simp [gi, si]) ?_
  refine V_iload_n dA_perform_29 rfl ?_
  refine V_iload_n dA_perform_30 rfl ?_
  refine V_iconst (v := 0) dA_perform_31 (by decide) ?_
  refine V_callV (as := [.int 0, .int 2, .int x, .int 0]) (rest := []) (bs' := 0) rfl dA_perform_32 cmA_run cvA_run mlA_33 (Or.inl ⟨_, _, _, _, _, rfl, k64, by decide, rfl⟩) rfl rfl (c_run_0_0_2_0 hC (num := nI j) (v := gi M 79 j) ⟨by simp [gi, si] <;> rfl, by simp [gi, si], by simp [gi, si]⟩ hr x (dp := 0) (by decide)) (by decide) (Nat.le_refl _) (by decide) (Nat.le_of_ble_eq_true rfl) ?_
  rintro _ _ s1 ⟨rfl, rfl, hC, hS1, hA1⟩ -
  refine V_one ?_
  have hS := hS.trans hS1
  exact V_iret dA_perform_35 rfl rfl ⟨rfl, rfl, hC, hS⟩
theorem c_perform_1_0 {l : Launch} {G : GT} {L : Nat → List Cl} {M σ : Hp} (hC : RC L M σ) {j : Nat} (h8 : j < 8) (hK : gi M 78 j = nI 1) (hr : gi M 76 57 = nI 0) (x : Int32) : MM l G mA_perform 2 0 0 [.ref 64, .ref (8 + 2 * j), .int 0, .int x] KA σ (PQ L σ (actV 1 0 x (nI j) (gi M 79 j), actM 1 0 M)) := by
  have hR := hC.1
  have hC0 := hC
  have hS : Sm σ σ := Sm.rfl
  refine MM.of (loc := [(0, .ref 64), (1, .ref (8 + 2 * j)), (2, .int 0), (3, .int x)]) (by decide +kernel) rfl (Nat.le_of_ble_eq_true rfl) ?_
  refine V_aload_n dA_perform_0 rfl ?_
  refine V_aload_n dA_perform_1 rfl ?_
  refine V_getE (x := 1) dA_perform_2 flA_19 (kE _ h8) rfl ((eK hC h8).trans hK) ?_
  refine V_putI dA_perform_5 flA_24 (fpA_2 _) (Or.inl rfl) k64 rfl ?_
  have hC := RC_64 (j := 2) (x := 1) hC (by decide) (by decide)
  have hS : Sm σ (si σ 64 2 1) := hS.set (by decide)
  have hR := hC.1
  refine V_aload_n dA_perform_8 rfl ?_
  refine V_aload_n dA_perform_9 rfl ?_
  refine V_getE (x := nI j) dA_perform_10 flA_25 (kE _ h8) rfl (eN hC h8) ?_
  refine V_putI dA_perform_13 flA_28 (fpA_3 _) (Or.inl rfl) k64 rfl ?_
  have hC := RC_64 (j := 3) (x := nI j) hC (by decide) (by decide)
  have hS : Sm σ (si (si σ 64 2 1) 64 3 (nI j)) := hS.set (by decide)
  have hR := hC.1
  refine V_aload_n dA_perform_16 rfl ?_
  refine V_aload_n dA_perform_17 rfl ?_
  refine V_getE (x := gi M 79 j) dA_perform_18 flA_29 (kE _ h8) rfl (eV hC h8) ?_
  refine V_putI dA_perform_21 flA_32 (fpA_4 _) (Or.inl rfl) k64 rfl ?_
  have hC := RC_64 (j := 4) (x := gi M 79 j) hC (by decide) (by decide)
  have hS : Sm σ (si (si (si σ 64 2 1) 64 3 (nI j)) 64 4 (gi M 79 j)) := hS.set (by decide)
  have hR := hC.1
  refine V_aload_n dA_perform_24 rfl ?_
  refine V_aload_n dA_perform_25 rfl ?_
  refine V_getE (x := 1) dA_perform_26 flA_24 k64 rfl (by simp [gi, si]) ?_
  refine V_iload_n dA_perform_29 rfl ?_
  refine V_iload_n dA_perform_30 rfl ?_
  refine V_iconst (v := 0) dA_perform_31 (by decide) ?_
  refine V_callV (as := [.int 1, .int 0, .int x, .int 0]) (rest := []) (bs' := 0) rfl dA_perform_32 cmA_run cvA_run mlA_33 (Or.inl ⟨_, _, _, _, _, rfl, k64, by decide, rfl⟩) rfl rfl (c_run_1_1_0_0 hC (num := nI j) (v := gi M 79 j) ⟨by simp [gi, si] <;> rfl, by simp [gi, si], by simp [gi, si]⟩ hr x (dp := 0) (by decide)) (by decide) (Nat.le_refl _) (by decide) (Nat.le_of_ble_eq_true rfl) ?_
  rintro _ _ s1 ⟨rfl, rfl, hC, hS1, hA1⟩ -
  refine V_one ?_
  have hS := hS.trans hS1
  exact V_iret dA_perform_35 rfl rfl ⟨rfl, rfl, hC, hS⟩
theorem c_perform_1_1 {l : Launch} {G : GT} {L : Nat → List Cl} {M σ : Hp} (hC : RC L M σ) {j : Nat} (h8 : j < 8) (hK : gi M 78 j = nI 1) (hr : gi M 76 57 = nI 0) (x : Int32) : MM l G mA_perform 6 0 0 [.ref 64, .ref (8 + 2 * j), .int 1, .int x] KA σ (PQ L σ (actV 1 1 x (nI j) (gi M 79 j), actM 1 1 M)) := by
  have hR := hC.1
  have hC0 := hC
  have hS : Sm σ σ := Sm.rfl
  refine MM.of (loc := [(0, .ref 64), (1, .ref (8 + 2 * j)), (2, .int 1), (3, .int x)]) (by decide +kernel) rfl (Nat.le_of_ble_eq_true rfl) ?_
  refine V_aload_n dA_perform_0 rfl ?_
  refine V_aload_n dA_perform_1 rfl ?_
  refine V_getE (x := 1) dA_perform_2 flA_19 (kE _ h8) rfl ((eK hC h8).trans hK) ?_
  refine V_putI dA_perform_5 flA_24 (fpA_2 _) (Or.inl rfl) k64 rfl ?_
  have hC := RC_64 (j := 2) (x := 1) hC (by decide) (by decide)
  have hS : Sm σ (si σ 64 2 1) := hS.set (by decide)
  have hR := hC.1
  refine V_aload_n dA_perform_8 rfl ?_
  refine V_aload_n dA_perform_9 rfl ?_
  refine V_getE (x := nI j) dA_perform_10 flA_25 (kE _ h8) rfl (eN hC h8) ?_
  refine V_putI dA_perform_13 flA_28 (fpA_3 _) (Or.inl rfl) k64 rfl ?_
  have hC := RC_64 (j := 3) (x := nI j) hC (by decide) (by decide)
  have hS : Sm σ (si (si σ 64 2 1) 64 3 (nI j)) := hS.set (by decide)
  have hR := hC.1
  refine V_aload_n dA_perform_16 rfl ?_
  refine V_aload_n dA_perform_17 rfl ?_
  refine V_getE (x := gi M 79 j) dA_perform_18 flA_29 (kE _ h8) rfl (eV hC h8) ?_
  refine V_putI dA_perform_21 flA_32 (fpA_4 _) (Or.inl rfl) k64 rfl ?_
  have hC := RC_64 (j := 4) (x := gi M 79 j) hC (by decide) (by decide)
  have hS : Sm σ (si (si (si σ 64 2 1) 64 3 (nI j)) 64 4 (gi M 79 j)) := hS.set (by decide)
  have hR := hC.1
  refine V_aload_n dA_perform_24 rfl ?_
  refine V_aload_n dA_perform_25 rfl ?_
  refine V_getE (x := 1) dA_perform_26 flA_24 k64 rfl (by simp [gi, si]) ?_
  refine V_iload_n dA_perform_29 rfl ?_
  refine V_iload_n dA_perform_30 rfl ?_
  refine V_iconst (v := 0) dA_perform_31 (by decide) ?_
  refine V_callV (as := [.int 1, .int 1, .int x, .int 0]) (rest := []) (bs' := 0) rfl dA_perform_32 cmA_run cvA_run mlA_33 (Or.inl ⟨_, _, _, _, _, rfl, k64, by decide, rfl⟩) rfl rfl (c_run_1_1_1_0 hC (num := nI j) (v := gi M 79 j) ⟨by simp [gi, si] <;> rfl, by simp [gi, si], by simp [gi, si]⟩ hr x (dp := 0) (by decide)) (by decide) (Nat.le_refl _) (by decide) (Nat.le_of_ble_eq_true rfl) ?_
  rintro _ _ s1 ⟨rfl, rfl, hC, hS1, hA1⟩ -
  refine V_one ?_
  have hS := hS.trans hS1
  exact V_iret dA_perform_35 rfl rfl ⟨rfl, rfl, hC, hS⟩
theorem c_perform_1_2 {l : Launch} {G : GT} {L : Nat → List Cl} {M σ : Hp} (hC : RC L M σ) {j : Nat} (h8 : j < 8) (hK : gi M 78 j = nI 1) (hr : gi M 76 57 = nI 0) (x : Int32) : MM l G mA_perform 8 0 0 [.ref 64, .ref (8 + 2 * j), .int 2, .int x] KA σ (PQ L σ (actV 1 2 x (nI j) (gi M 79 j), actM 1 2 M)) := by
  have hR := hC.1
  have hC0 := hC
  have hS : Sm σ σ := Sm.rfl
  refine MM.of (loc := [(0, .ref 64), (1, .ref (8 + 2 * j)), (2, .int 2), (3, .int x)]) (by decide +kernel) rfl (Nat.le_of_ble_eq_true rfl) ?_
  refine V_aload_n dA_perform_0 rfl ?_
  refine V_aload_n dA_perform_1 rfl ?_
  refine V_getE (x := 1) dA_perform_2 flA_19 (kE _ h8) rfl ((eK hC h8).trans hK) ?_
  refine V_putI dA_perform_5 flA_24 (fpA_2 _) (Or.inl rfl) k64 rfl ?_
  have hC := RC_64 (j := 2) (x := 1) hC (by decide) (by decide)
  have hS : Sm σ (si σ 64 2 1) := hS.set (by decide)
  have hR := hC.1
  refine V_aload_n dA_perform_8 rfl ?_
  refine V_aload_n dA_perform_9 rfl ?_
  refine V_getE (x := nI j) dA_perform_10 flA_25 (kE _ h8) rfl (eN hC h8) ?_
  refine V_putI dA_perform_13 flA_28 (fpA_3 _) (Or.inl rfl) k64 rfl ?_
  have hC := RC_64 (j := 3) (x := nI j) hC (by decide) (by decide)
  have hS : Sm σ (si (si σ 64 2 1) 64 3 (nI j)) := hS.set (by decide)
  have hR := hC.1
  refine V_aload_n dA_perform_16 rfl ?_
  refine V_aload_n dA_perform_17 rfl ?_
  refine V_getE (x := gi M 79 j) dA_perform_18 flA_29 (kE _ h8) rfl (eV hC h8) ?_
  refine V_putI dA_perform_21 flA_32 (fpA_4 _) (Or.inl rfl) k64 rfl ?_
  have hC := RC_64 (j := 4) (x := gi M 79 j) hC (by decide) (by decide)
  have hS : Sm σ (si (si (si σ 64 2 1) 64 3 (nI j)) 64 4 (gi M 79 j)) := hS.set (by decide)
  have hR := hC.1
  refine V_aload_n dA_perform_24 rfl ?_
  refine V_aload_n dA_perform_25 rfl ?_
  refine V_getE (x := 1) dA_perform_26 flA_24 k64 rfl (by simp [gi, si]) ?_
  refine V_iload_n dA_perform_29 rfl ?_
  refine V_iload_n dA_perform_30 rfl ?_
  refine V_iconst (v := 0) dA_perform_31 (by decide) ?_
  refine V_callV (as := [.int 1, .int 2, .int x, .int 0]) (rest := []) (bs' := 0) rfl dA_perform_32 cmA_run cvA_run mlA_33 (Or.inl ⟨_, _, _, _, _, rfl, k64, by decide, rfl⟩) rfl rfl (c_run_1_1_2_0 hC (num := nI j) (v := gi M 79 j) ⟨by simp [gi, si] <;> rfl, by simp [gi, si], by simp [gi, si]⟩ hr x (dp := 0) (by decide)) (by decide) (Nat.le_refl _) (by decide) (Nat.le_of_ble_eq_true rfl) ?_
  rintro _ _ s1 ⟨rfl, rfl, hC, hS1, hA1⟩ -
  refine V_one ?_
  have hS := hS.trans hS1
  exact V_iret dA_perform_35 rfl rfl ⟨rfl, rfl, hC, hS⟩
theorem c_perform_2_0 {l : Launch} {G : GT} {L : Nat → List Cl} {M σ : Hp} (hC : RC L M σ) {j : Nat} (h8 : j < 8) (hK : gi M 78 j = nI 2) (hr : gi M 76 57 = nI 0) (x : Int32) : MM l G mA_perform 4 0 0 [.ref 64, .ref (8 + 2 * j), .int 0, .int x] KA σ (PQ L σ (actV 2 0 x (nI j) (gi M 79 j), actM 2 0 M)) := by
  have hR := hC.1
  have hC0 := hC
  have hS : Sm σ σ := Sm.rfl
  refine MM.of (loc := [(0, .ref 64), (1, .ref (8 + 2 * j)), (2, .int 0), (3, .int x)]) (by decide +kernel) rfl (Nat.le_of_ble_eq_true rfl) ?_
  refine V_aload_n dA_perform_0 rfl ?_
  refine V_aload_n dA_perform_1 rfl ?_
  refine V_getE (x := 2) dA_perform_2 flA_19 (kE _ h8) rfl ((eK hC h8).trans hK) ?_
  refine V_putI dA_perform_5 flA_24 (fpA_2 _) (Or.inl rfl) k64 rfl ?_
  have hC := RC_64 (j := 2) (x := 2) hC (by decide) (by decide)
  have hS : Sm σ (si σ 64 2 2) := hS.set (by decide)
  have hR := hC.1
  refine V_aload_n dA_perform_8 rfl ?_
  refine V_aload_n dA_perform_9 rfl ?_
  refine V_getE (x := nI j) dA_perform_10 flA_25 (kE _ h8) rfl (eN hC h8) ?_
  refine V_putI dA_perform_13 flA_28 (fpA_3 _) (Or.inl rfl) k64 rfl ?_
  have hC := RC_64 (j := 3) (x := nI j) hC (by decide) (by decide)
  have hS : Sm σ (si (si σ 64 2 2) 64 3 (nI j)) := hS.set (by decide)
  have hR := hC.1
  refine V_aload_n dA_perform_16 rfl ?_
  refine V_aload_n dA_perform_17 rfl ?_
  refine V_getE (x := gi M 79 j) dA_perform_18 flA_29 (kE _ h8) rfl (eV hC h8) ?_
  refine V_putI dA_perform_21 flA_32 (fpA_4 _) (Or.inl rfl) k64 rfl ?_
  have hC := RC_64 (j := 4) (x := gi M 79 j) hC (by decide) (by decide)
  have hS : Sm σ (si (si (si σ 64 2 2) 64 3 (nI j)) 64 4 (gi M 79 j)) := hS.set (by decide)
  have hR := hC.1
  refine V_aload_n dA_perform_24 rfl ?_
  refine V_aload_n dA_perform_25 rfl ?_
  refine V_getE (x := 2) dA_perform_26 flA_24 k64 rfl (by simp [gi, si]) ?_
  refine V_iload_n dA_perform_29 rfl ?_
  refine V_iload_n dA_perform_30 rfl ?_
  refine V_iconst (v := 0) dA_perform_31 (by decide) ?_
  refine V_callV (as := [.int 2, .int 0, .int x, .int 0]) (rest := []) (bs' := 0) rfl dA_perform_32 cmA_run cvA_run mlA_33 (Or.inl ⟨_, _, _, _, _, rfl, k64, by decide, rfl⟩) rfl rfl (c_run_2_2_0_0 hC (num := nI j) (v := gi M 79 j) ⟨by simp [gi, si] <;> rfl, by simp [gi, si], by simp [gi, si]⟩ hr x (dp := 0) (by decide)) (by decide) (Nat.le_refl _) (by decide) (Nat.le_of_ble_eq_true rfl) ?_
  rintro _ _ s1 ⟨rfl, rfl, hC, hS1, hA1⟩ -
  refine V_one ?_
  have hS := hS.trans hS1
  exact V_iret dA_perform_35 rfl rfl ⟨rfl, rfl, hC, hS⟩
theorem c_perform_2_1 {l : Launch} {G : GT} {L : Nat → List Cl} {M σ : Hp} (hC : RC L M σ) {j : Nat} (h8 : j < 8) (hK : gi M 78 j = nI 2) (hr : gi M 76 57 = nI 0) (x : Int32) : MM l G mA_perform 6 0 0 [.ref 64, .ref (8 + 2 * j), .int 1, .int x] KA σ (PQ L σ (actV 2 1 x (nI j) (gi M 79 j), actM 2 1 M)) := by
  have hR := hC.1
  have hC0 := hC
  have hS : Sm σ σ := Sm.rfl
  refine MM.of (loc := [(0, .ref 64), (1, .ref (8 + 2 * j)), (2, .int 1), (3, .int x)]) (by decide +kernel) rfl (Nat.le_of_ble_eq_true rfl) ?_
  refine V_aload_n dA_perform_0 rfl ?_
  refine V_aload_n dA_perform_1 rfl ?_
  refine V_getE (x := 2) dA_perform_2 flA_19 (kE _ h8) rfl ((eK hC h8).trans hK) ?_
  refine V_putI dA_perform_5 flA_24 (fpA_2 _) (Or.inl rfl) k64 rfl ?_
  have hC := RC_64 (j := 2) (x := 2) hC (by decide) (by decide)
  have hS : Sm σ (si σ 64 2 2) := hS.set (by decide)
  have hR := hC.1
  refine V_aload_n dA_perform_8 rfl ?_
  refine V_aload_n dA_perform_9 rfl ?_
  refine V_getE (x := nI j) dA_perform_10 flA_25 (kE _ h8) rfl (eN hC h8) ?_
  refine V_putI dA_perform_13 flA_28 (fpA_3 _) (Or.inl rfl) k64 rfl ?_
  have hC := RC_64 (j := 3) (x := nI j) hC (by decide) (by decide)
  have hS : Sm σ (si (si σ 64 2 2) 64 3 (nI j)) := hS.set (by decide)
  have hR := hC.1
  refine V_aload_n dA_perform_16 rfl ?_
  refine V_aload_n dA_perform_17 rfl ?_
  refine V_getE (x := gi M 79 j) dA_perform_18 flA_29 (kE _ h8) rfl (eV hC h8) ?_
  refine V_putI dA_perform_21 flA_32 (fpA_4 _) (Or.inl rfl) k64 rfl ?_
  have hC := RC_64 (j := 4) (x := gi M 79 j) hC (by decide) (by decide)
  have hS : Sm σ (si (si (si σ 64 2 2) 64 3 (nI j)) 64 4 (gi M 79 j)) := hS.set (by decide)
  have hR := hC.1
  refine V_aload_n dA_perform_24 rfl ?_
  refine V_aload_n dA_perform_25 rfl ?_
  refine V_getE (x := 2) dA_perform_26 flA_24 k64 rfl (by simp [gi, si]) ?_
  refine V_iload_n dA_perform_29 rfl ?_
  refine V_iload_n dA_perform_30 rfl ?_
  refine V_iconst (v := 0) dA_perform_31 (by decide) ?_
  refine V_callV (as := [.int 2, .int 1, .int x, .int 0]) (rest := []) (bs' := 0) rfl dA_perform_32 cmA_run cvA_run mlA_33 (Or.inl ⟨_, _, _, _, _, rfl, k64, by decide, rfl⟩) rfl rfl (c_run_2_2_1_0 hC (num := nI j) (v := gi M 79 j) ⟨by simp [gi, si] <;> rfl, by simp [gi, si], by simp [gi, si]⟩ hr x (dp := 0) (by decide)) (by decide) (Nat.le_refl _) (by decide) (Nat.le_of_ble_eq_true rfl) ?_
  rintro _ _ s1 ⟨rfl, rfl, hC, hS1, hA1⟩ -
  refine V_one ?_
  have hS := hS.trans hS1
  exact V_iret dA_perform_35 rfl rfl ⟨rfl, rfl, hC, hS⟩
theorem c_perform_2_2 {l : Launch} {G : GT} {L : Nat → List Cl} {M σ : Hp} (hC : RC L M σ) {j : Nat} (h8 : j < 8) (hK : gi M 78 j = nI 2) (hr : gi M 76 57 = nI 0) (x : Int32) : MM l G mA_perform 8 0 0 [.ref 64, .ref (8 + 2 * j), .int 2, .int x] KA σ (PQ L σ (actV 2 2 x (nI j) (gi M 79 j), actM 2 2 M)) := by
  have hR := hC.1
  have hC0 := hC
  have hS : Sm σ σ := Sm.rfl
  refine MM.of (loc := [(0, .ref 64), (1, .ref (8 + 2 * j)), (2, .int 2), (3, .int x)]) (by decide +kernel) rfl (Nat.le_of_ble_eq_true rfl) ?_
  refine V_aload_n dA_perform_0 rfl ?_
  refine V_aload_n dA_perform_1 rfl ?_
  refine V_getE (x := 2) dA_perform_2 flA_19 (kE _ h8) rfl ((eK hC h8).trans hK) ?_
  refine V_putI dA_perform_5 flA_24 (fpA_2 _) (Or.inl rfl) k64 rfl ?_
  have hC := RC_64 (j := 2) (x := 2) hC (by decide) (by decide)
  have hS : Sm σ (si σ 64 2 2) := hS.set (by decide)
  have hR := hC.1
  refine V_aload_n dA_perform_8 rfl ?_
  refine V_aload_n dA_perform_9 rfl ?_
  refine V_getE (x := nI j) dA_perform_10 flA_25 (kE _ h8) rfl (eN hC h8) ?_
  refine V_putI dA_perform_13 flA_28 (fpA_3 _) (Or.inl rfl) k64 rfl ?_
  have hC := RC_64 (j := 3) (x := nI j) hC (by decide) (by decide)
  have hS : Sm σ (si (si σ 64 2 2) 64 3 (nI j)) := hS.set (by decide)
  have hR := hC.1
  refine V_aload_n dA_perform_16 rfl ?_
  refine V_aload_n dA_perform_17 rfl ?_
  refine V_getE (x := gi M 79 j) dA_perform_18 flA_29 (kE _ h8) rfl (eV hC h8) ?_
  refine V_putI dA_perform_21 flA_32 (fpA_4 _) (Or.inl rfl) k64 rfl ?_
  have hC := RC_64 (j := 4) (x := gi M 79 j) hC (by decide) (by decide)
  have hS : Sm σ (si (si (si σ 64 2 2) 64 3 (nI j)) 64 4 (gi M 79 j)) := hS.set (by decide)
  have hR := hC.1
  refine V_aload_n dA_perform_24 rfl ?_
  refine V_aload_n dA_perform_25 rfl ?_
  refine V_getE (x := 2) dA_perform_26 flA_24 k64 rfl (by simp [gi, si]) ?_
  refine V_iload_n dA_perform_29 rfl ?_
  refine V_iload_n dA_perform_30 rfl ?_
  refine V_iconst (v := 0) dA_perform_31 (by decide) ?_
  refine V_callV (as := [.int 2, .int 2, .int x, .int 0]) (rest := []) (bs' := 0) rfl dA_perform_32 cmA_run cvA_run mlA_33 (Or.inl ⟨_, _, _, _, _, rfl, k64, by decide, rfl⟩) rfl rfl (c_run_2_2_2_0 hC (num := nI j) (v := gi M 79 j) ⟨by simp [gi, si] <;> rfl, by simp [gi, si], by simp [gi, si]⟩ hr x (dp := 0) (by decide)) (by decide) (Nat.le_refl _) (by decide) (Nat.le_of_ble_eq_true rfl) ?_
  rintro _ _ s1 ⟨rfl, rfl, hC, hS1, hA1⟩ -
  refine V_one ?_
  have hS := hS.trans hS1
  exact V_iret dA_perform_35 rfl rfl ⟨rfl, rfl, hC, hS⟩
theorem c_perform_3_0 {l : Launch} {G : GT} {L : Nat → List Cl} {M σ : Hp} (hC : RC L M σ) {j : Nat} (h8 : j < 8) (hK : gi M 78 j = nI 3) (hr : gi M 76 57 = nI 0) (x : Int32) : MM l G mA_perform 2 0 0 [.ref 64, .ref (8 + 2 * j), .int 0, .int x] KA σ (PQ L σ (actV 3 0 x (nI j) (gi M 79 j), actM 3 0 M)) := by
  have hR := hC.1
  have hC0 := hC
  have hS : Sm σ σ := Sm.rfl
  refine MM.of (loc := [(0, .ref 64), (1, .ref (8 + 2 * j)), (2, .int 0), (3, .int x)]) (by decide +kernel) rfl (Nat.le_of_ble_eq_true rfl) ?_
  refine V_aload_n dA_perform_0 rfl ?_
  refine V_aload_n dA_perform_1 rfl ?_
  refine V_getE (x := 3) dA_perform_2 flA_19 (kE _ h8) rfl ((eK hC h8).trans hK) ?_
  refine V_putI dA_perform_5 flA_24 (fpA_2 _) (Or.inl rfl) k64 rfl ?_
  have hC := RC_64 (j := 2) (x := 3) hC (by decide) (by decide)
  have hS : Sm σ (si σ 64 2 3) := hS.set (by decide)
  have hR := hC.1
  refine V_aload_n dA_perform_8 rfl ?_
  refine V_aload_n dA_perform_9 rfl ?_
  refine V_getE (x := nI j) dA_perform_10 flA_25 (kE _ h8) rfl (eN hC h8) ?_
  refine V_putI dA_perform_13 flA_28 (fpA_3 _) (Or.inl rfl) k64 rfl ?_
  have hC := RC_64 (j := 3) (x := nI j) hC (by decide) (by decide)
  have hS : Sm σ (si (si σ 64 2 3) 64 3 (nI j)) := hS.set (by decide)
  have hR := hC.1
  refine V_aload_n dA_perform_16 rfl ?_
  refine V_aload_n dA_perform_17 rfl ?_
  refine V_getE (x := gi M 79 j) dA_perform_18 flA_29 (kE _ h8) rfl (eV hC h8) ?_
  refine V_putI dA_perform_21 flA_32 (fpA_4 _) (Or.inl rfl) k64 rfl ?_
  have hC := RC_64 (j := 4) (x := gi M 79 j) hC (by decide) (by decide)
  have hS : Sm σ (si (si (si σ 64 2 3) 64 3 (nI j)) 64 4 (gi M 79 j)) := hS.set (by decide)
  have hR := hC.1
  refine V_aload_n dA_perform_24 rfl ?_
  refine V_aload_n dA_perform_25 rfl ?_
  refine V_getE (x := 3) dA_perform_26 flA_24 k64 rfl (by simp [gi, si]) ?_
  refine V_iload_n dA_perform_29 rfl ?_
  refine V_iload_n dA_perform_30 rfl ?_
  refine V_iconst (v := 0) dA_perform_31 (by decide) ?_
  refine V_callV (as := [.int 3, .int 0, .int x, .int 0]) (rest := []) (bs' := 0) rfl dA_perform_32 cmA_run cvA_run mlA_33 (Or.inl ⟨_, _, _, _, _, rfl, k64, by decide, rfl⟩) rfl rfl (c_run_3_3_0_0 hC (num := nI j) (v := gi M 79 j) ⟨by simp [gi, si] <;> rfl, by simp [gi, si], by simp [gi, si]⟩ hr x (dp := 0) (by decide)) (by decide) (Nat.le_refl _) (by decide) (Nat.le_of_ble_eq_true rfl) ?_
  rintro _ _ s1 ⟨rfl, rfl, hC, hS1, hA1⟩ -
  refine V_one ?_
  have hS := hS.trans hS1
  exact V_iret dA_perform_35 rfl rfl ⟨rfl, rfl, hC, hS⟩
theorem c_perform_3_1 {l : Launch} {G : GT} {L : Nat → List Cl} {M σ : Hp} (hC : RC L M σ) {j : Nat} (h8 : j < 8) (hK : gi M 78 j = nI 3) (hr : gi M 76 57 = nI 0) (x : Int32) : MM l G mA_perform 4 0 0 [.ref 64, .ref (8 + 2 * j), .int 1, .int x] KA σ (PQ L σ (actV 3 1 x (nI j) (gi M 79 j), actM 3 1 M)) := by
  have hR := hC.1
  have hC0 := hC
  have hS : Sm σ σ := Sm.rfl
  refine MM.of (loc := [(0, .ref 64), (1, .ref (8 + 2 * j)), (2, .int 1), (3, .int x)]) (by decide +kernel) rfl (Nat.le_of_ble_eq_true rfl) ?_
  refine V_aload_n dA_perform_0 rfl ?_
  refine V_aload_n dA_perform_1 rfl ?_
  refine V_getE (x := 3) dA_perform_2 flA_19 (kE _ h8) rfl ((eK hC h8).trans hK) ?_
  refine V_putI dA_perform_5 flA_24 (fpA_2 _) (Or.inl rfl) k64 rfl ?_
  have hC := RC_64 (j := 2) (x := 3) hC (by decide) (by decide)
  have hS : Sm σ (si σ 64 2 3) := hS.set (by decide)
  have hR := hC.1
  refine V_aload_n dA_perform_8 rfl ?_
  refine V_aload_n dA_perform_9 rfl ?_
  refine V_getE (x := nI j) dA_perform_10 flA_25 (kE _ h8) rfl (eN hC h8) ?_
  refine V_putI dA_perform_13 flA_28 (fpA_3 _) (Or.inl rfl) k64 rfl ?_
  have hC := RC_64 (j := 3) (x := nI j) hC (by decide) (by decide)
  have hS : Sm σ (si (si σ 64 2 3) 64 3 (nI j)) := hS.set (by decide)
  have hR := hC.1
  refine V_aload_n dA_perform_16 rfl ?_
  refine V_aload_n dA_perform_17 rfl ?_
  refine V_getE (x := gi M 79 j) dA_perform_18 flA_29 (kE _ h8) rfl (eV hC h8) ?_
  refine V_putI dA_perform_21 flA_32 (fpA_4 _) (Or.inl rfl) k64 rfl ?_
  have hC := RC_64 (j := 4) (x := gi M 79 j) hC (by decide) (by decide)
  have hS : Sm σ (si (si (si σ 64 2 3) 64 3 (nI j)) 64 4 (gi M 79 j)) := hS.set (by decide)
  have hR := hC.1
  refine V_aload_n dA_perform_24 rfl ?_
  refine V_aload_n dA_perform_25 rfl ?_
  refine V_getE (x := 3) dA_perform_26 flA_24 k64 rfl (by simp [gi, si]) ?_
  refine V_iload_n dA_perform_29 rfl ?_
  refine V_iload_n dA_perform_30 rfl ?_
  refine V_iconst (v := 0) dA_perform_31 (by decide) ?_
  refine V_callV (as := [.int 3, .int 1, .int x, .int 0]) (rest := []) (bs' := 0) rfl dA_perform_32 cmA_run cvA_run mlA_33 (Or.inl ⟨_, _, _, _, _, rfl, k64, by decide, rfl⟩) rfl rfl (c_run_3_3_1_0 hC (num := nI j) (v := gi M 79 j) ⟨by simp [gi, si] <;> rfl, by simp [gi, si], by simp [gi, si]⟩ hr x (dp := 0) (by decide)) (by decide) (Nat.le_refl _) (by decide) (Nat.le_of_ble_eq_true rfl) ?_
  rintro _ _ s1 ⟨rfl, rfl, hC, hS1, hA1⟩ -
  refine V_one ?_
  have hS := hS.trans hS1
  exact V_iret dA_perform_35 rfl rfl ⟨rfl, rfl, hC, hS⟩
theorem c_perform_3_2 {l : Launch} {G : GT} {L : Nat → List Cl} {M σ : Hp} (hC : RC L M σ) {j : Nat} (h8 : j < 8) (hK : gi M 78 j = nI 3) (hr : gi M 76 57 = nI 0) (x : Int32) : MM l G mA_perform 8 0 0 [.ref 64, .ref (8 + 2 * j), .int 2, .int x] KA σ (PQ L σ (actV 3 2 x (nI j) (gi M 79 j), actM 3 2 M)) := by
  have hR := hC.1
  have hC0 := hC
  have hS : Sm σ σ := Sm.rfl
  refine MM.of (loc := [(0, .ref 64), (1, .ref (8 + 2 * j)), (2, .int 2), (3, .int x)]) (by decide +kernel) rfl (Nat.le_of_ble_eq_true rfl) ?_
  refine V_aload_n dA_perform_0 rfl ?_
  refine V_aload_n dA_perform_1 rfl ?_
  refine V_getE (x := 3) dA_perform_2 flA_19 (kE _ h8) rfl ((eK hC h8).trans hK) ?_
  refine V_putI dA_perform_5 flA_24 (fpA_2 _) (Or.inl rfl) k64 rfl ?_
  have hC := RC_64 (j := 2) (x := 3) hC (by decide) (by decide)
  have hS : Sm σ (si σ 64 2 3) := hS.set (by decide)
  have hR := hC.1
  refine V_aload_n dA_perform_8 rfl ?_
  refine V_aload_n dA_perform_9 rfl ?_
  refine V_getE (x := nI j) dA_perform_10 flA_25 (kE _ h8) rfl (eN hC h8) ?_
  refine V_putI dA_perform_13 flA_28 (fpA_3 _) (Or.inl rfl) k64 rfl ?_
  have hC := RC_64 (j := 3) (x := nI j) hC (by decide) (by decide)
  have hS : Sm σ (si (si σ 64 2 3) 64 3 (nI j)) := hS.set (by decide)
  have hR := hC.1
  refine V_aload_n dA_perform_16 rfl ?_
  refine V_aload_n dA_perform_17 rfl ?_
  refine V_getE (x := gi M 79 j) dA_perform_18 flA_29 (kE _ h8) rfl (eV hC h8) ?_
  refine V_putI dA_perform_21 flA_32 (fpA_4 _) (Or.inl rfl) k64 rfl ?_
  have hC := RC_64 (j := 4) (x := gi M 79 j) hC (by decide) (by decide)
  have hS : Sm σ (si (si (si σ 64 2 3) 64 3 (nI j)) 64 4 (gi M 79 j)) := hS.set (by decide)
  have hR := hC.1
  refine V_aload_n dA_perform_24 rfl ?_
  refine V_aload_n dA_perform_25 rfl ?_
  refine V_getE (x := 3) dA_perform_26 flA_24 k64 rfl (by simp [gi, si]) ?_
  refine V_iload_n dA_perform_29 rfl ?_
  refine V_iload_n dA_perform_30 rfl ?_
  refine V_iconst (v := 0) dA_perform_31 (by decide) ?_
  refine V_callV (as := [.int 3, .int 2, .int x, .int 0]) (rest := []) (bs' := 0) rfl dA_perform_32 cmA_run cvA_run mlA_33 (Or.inl ⟨_, _, _, _, _, rfl, k64, by decide, rfl⟩) rfl rfl (c_run_3_3_2_0 hC (num := nI j) (v := gi M 79 j) ⟨by simp [gi, si] <;> rfl, by simp [gi, si], by simp [gi, si]⟩ hr x (dp := 0) (by decide)) (by decide) (Nat.le_refl _) (by decide) (Nat.le_of_ble_eq_true rfl) ?_
  rintro _ _ s1 ⟨rfl, rfl, hC, hS1, hA1⟩ -
  refine V_one ?_
  have hS := hS.trans hS1
  exact V_iret dA_perform_35 rfl rfl ⟨rfl, rfl, hC, hS⟩
theorem c_perform_4_0 {l : Launch} {G : GT} {L : Nat → List Cl} {M σ : Hp} (hC : RC L M σ) {j : Nat} (h8 : j < 8) (hK : gi M 78 j = nI 4) (hr : gi M 76 57 = nI 0) (x : Int32) : MM l G mA_perform 4 0 0 [.ref 64, .ref (8 + 2 * j), .int 0, .int x] KA σ (PQ L σ (actV 4 0 x (nI j) (gi M 79 j), actM 4 0 M)) := by
  have hR := hC.1
  have hC0 := hC
  have hS : Sm σ σ := Sm.rfl
  refine MM.of (loc := [(0, .ref 64), (1, .ref (8 + 2 * j)), (2, .int 0), (3, .int x)]) (by decide +kernel) rfl (Nat.le_of_ble_eq_true rfl) ?_
  refine V_aload_n dA_perform_0 rfl ?_
  refine V_aload_n dA_perform_1 rfl ?_
  refine V_getE (x := 4) dA_perform_2 flA_19 (kE _ h8) rfl ((eK hC h8).trans hK) ?_
  refine V_putI dA_perform_5 flA_24 (fpA_2 _) (Or.inl rfl) k64 rfl ?_
  have hC := RC_64 (j := 2) (x := 4) hC (by decide) (by decide)
  have hS : Sm σ (si σ 64 2 4) := hS.set (by decide)
  have hR := hC.1
  refine V_aload_n dA_perform_8 rfl ?_
  refine V_aload_n dA_perform_9 rfl ?_
  refine V_getE (x := nI j) dA_perform_10 flA_25 (kE _ h8) rfl (eN hC h8) ?_
  refine V_putI dA_perform_13 flA_28 (fpA_3 _) (Or.inl rfl) k64 rfl ?_
  have hC := RC_64 (j := 3) (x := nI j) hC (by decide) (by decide)
  have hS : Sm σ (si (si σ 64 2 4) 64 3 (nI j)) := hS.set (by decide)
  have hR := hC.1
  refine V_aload_n dA_perform_16 rfl ?_
  refine V_aload_n dA_perform_17 rfl ?_
  refine V_getE (x := gi M 79 j) dA_perform_18 flA_29 (kE _ h8) rfl (eV hC h8) ?_
  refine V_putI dA_perform_21 flA_32 (fpA_4 _) (Or.inl rfl) k64 rfl ?_
  have hC := RC_64 (j := 4) (x := gi M 79 j) hC (by decide) (by decide)
  have hS : Sm σ (si (si (si σ 64 2 4) 64 3 (nI j)) 64 4 (gi M 79 j)) := hS.set (by decide)
  have hR := hC.1
  refine V_aload_n dA_perform_24 rfl ?_
  refine V_aload_n dA_perform_25 rfl ?_
  refine V_getE (x := 4) dA_perform_26 flA_24 k64 rfl (by simp [gi, si]) ?_
  refine V_iload_n dA_perform_29 rfl ?_
  refine V_iload_n dA_perform_30 rfl ?_
  refine V_iconst (v := 0) dA_perform_31 (by decide) ?_
  refine V_callV (as := [.int 4, .int 0, .int x, .int 0]) (rest := []) (bs' := 0) rfl dA_perform_32 cmA_run cvA_run mlA_33 (Or.inl ⟨_, _, _, _, _, rfl, k64, by decide, rfl⟩) rfl rfl (c_run_4_4_0_0 hC (num := nI j) (v := gi M 79 j) ⟨by simp [gi, si] <;> rfl, by simp [gi, si], by simp [gi, si]⟩ hr x (dp := 0) (by decide)) (by decide) (Nat.le_refl _) (by decide) (Nat.le_of_ble_eq_true rfl) ?_
  rintro _ _ s1 ⟨rfl, rfl, hC, hS1, hA1⟩ -
  refine V_one ?_
  have hS := hS.trans hS1
  exact V_iret dA_perform_35 rfl rfl ⟨rfl, rfl, hC, hS⟩
theorem c_perform_4_1 {l : Launch} {G : GT} {L : Nat → List Cl} {M σ : Hp} (hC : RC L M σ) {j : Nat} (h8 : j < 8) (hK : gi M 78 j = nI 4) (hr : gi M 76 57 = nI 0) (x : Int32) : MM l G mA_perform 10 0 0 [.ref 64, .ref (8 + 2 * j), .int 1, .int x] KA σ (PQ L σ (actV 4 1 x (nI j) (gi M 79 j), actM 4 1 M)) := by
  have hR := hC.1
  have hC0 := hC
  have hS : Sm σ σ := Sm.rfl
  refine MM.of (loc := [(0, .ref 64), (1, .ref (8 + 2 * j)), (2, .int 1), (3, .int x)]) (by decide +kernel) rfl (Nat.le_of_ble_eq_true rfl) ?_
  refine V_aload_n dA_perform_0 rfl ?_
  refine V_aload_n dA_perform_1 rfl ?_
  refine V_getE (x := 4) dA_perform_2 flA_19 (kE _ h8) rfl ((eK hC h8).trans hK) ?_
  refine V_putI dA_perform_5 flA_24 (fpA_2 _) (Or.inl rfl) k64 rfl ?_
  have hC := RC_64 (j := 2) (x := 4) hC (by decide) (by decide)
  have hS : Sm σ (si σ 64 2 4) := hS.set (by decide)
  have hR := hC.1
  refine V_aload_n dA_perform_8 rfl ?_
  refine V_aload_n dA_perform_9 rfl ?_
  refine V_getE (x := nI j) dA_perform_10 flA_25 (kE _ h8) rfl (eN hC h8) ?_
  refine V_putI dA_perform_13 flA_28 (fpA_3 _) (Or.inl rfl) k64 rfl ?_
  have hC := RC_64 (j := 3) (x := nI j) hC (by decide) (by decide)
  have hS : Sm σ (si (si σ 64 2 4) 64 3 (nI j)) := hS.set (by decide)
  have hR := hC.1
  refine V_aload_n dA_perform_16 rfl ?_
  refine V_aload_n dA_perform_17 rfl ?_
  refine V_getE (x := gi M 79 j) dA_perform_18 flA_29 (kE _ h8) rfl (eV hC h8) ?_
  refine V_putI dA_perform_21 flA_32 (fpA_4 _) (Or.inl rfl) k64 rfl ?_
  have hC := RC_64 (j := 4) (x := gi M 79 j) hC (by decide) (by decide)
  have hS : Sm σ (si (si (si σ 64 2 4) 64 3 (nI j)) 64 4 (gi M 79 j)) := hS.set (by decide)
  have hR := hC.1
  refine V_aload_n dA_perform_24 rfl ?_
  refine V_aload_n dA_perform_25 rfl ?_
  refine V_getE (x := 4) dA_perform_26 flA_24 k64 rfl (by simp [gi, si]) ?_
  refine V_iload_n dA_perform_29 rfl ?_
  refine V_iload_n dA_perform_30 rfl ?_
  refine V_iconst (v := 0) dA_perform_31 (by decide) ?_
  refine V_callV (as := [.int 4, .int 1, .int x, .int 0]) (rest := []) (bs' := 0) rfl dA_perform_32 cmA_run cvA_run mlA_33 (Or.inl ⟨_, _, _, _, _, rfl, k64, by decide, rfl⟩) rfl rfl (c_run_4_4_1_0 hC (num := nI j) (v := gi M 79 j) ⟨by simp [gi, si] <;> rfl, by simp [gi, si], by simp [gi, si]⟩ hr x (dp := 0) (by decide)) (by decide) (Nat.le_refl _) (by decide) (Nat.le_of_ble_eq_true rfl) ?_
  rintro _ _ s1 ⟨rfl, rfl, hC, hS1, hA1⟩ -
  refine V_one ?_
  have hS := hS.trans hS1
  exact V_iret dA_perform_35 rfl rfl ⟨rfl, rfl, hC, hS⟩
theorem c_perform_4_2 {l : Launch} {G : GT} {L : Nat → List Cl} {M σ : Hp} (hC : RC L M σ) {j : Nat} (h8 : j < 8) (hK : gi M 78 j = nI 4) (hr : gi M 76 57 = nI 0) (x : Int32) : MM l G mA_perform 12 0 0 [.ref 64, .ref (8 + 2 * j), .int 2, .int x] KA σ (PQ L σ (actV 4 2 x (nI j) (gi M 79 j), actM 4 2 M)) := by
  have hR := hC.1
  have hC0 := hC
  have hS : Sm σ σ := Sm.rfl
  refine MM.of (loc := [(0, .ref 64), (1, .ref (8 + 2 * j)), (2, .int 2), (3, .int x)]) (by decide +kernel) rfl (Nat.le_of_ble_eq_true rfl) ?_
  refine V_aload_n dA_perform_0 rfl ?_
  refine V_aload_n dA_perform_1 rfl ?_
  refine V_getE (x := 4) dA_perform_2 flA_19 (kE _ h8) rfl ((eK hC h8).trans hK) ?_
  refine V_putI dA_perform_5 flA_24 (fpA_2 _) (Or.inl rfl) k64 rfl ?_
  have hC := RC_64 (j := 2) (x := 4) hC (by decide) (by decide)
  have hS : Sm σ (si σ 64 2 4) := hS.set (by decide)
  have hR := hC.1
  refine V_aload_n dA_perform_8 rfl ?_
  refine V_aload_n dA_perform_9 rfl ?_
  refine V_getE (x := nI j) dA_perform_10 flA_25 (kE _ h8) rfl (eN hC h8) ?_
  refine V_putI dA_perform_13 flA_28 (fpA_3 _) (Or.inl rfl) k64 rfl ?_
  have hC := RC_64 (j := 3) (x := nI j) hC (by decide) (by decide)
  have hS : Sm σ (si (si σ 64 2 4) 64 3 (nI j)) := hS.set (by decide)
  have hR := hC.1
  refine V_aload_n dA_perform_16 rfl ?_
  refine V_aload_n dA_perform_17 rfl ?_
  refine V_getE (x := gi M 79 j) dA_perform_18 flA_29 (kE _ h8) rfl (eV hC h8) ?_
  refine V_putI dA_perform_21 flA_32 (fpA_4 _) (Or.inl rfl) k64 rfl ?_
  have hC := RC_64 (j := 4) (x := gi M 79 j) hC (by decide) (by decide)
  have hS : Sm σ (si (si (si σ 64 2 4) 64 3 (nI j)) 64 4 (gi M 79 j)) := hS.set (by decide)
  have hR := hC.1
  refine V_aload_n dA_perform_24 rfl ?_
  refine V_aload_n dA_perform_25 rfl ?_
  refine V_getE (x := 4) dA_perform_26 flA_24 k64 rfl (by simp [gi, si]) ?_
  refine V_iload_n dA_perform_29 rfl ?_
  refine V_iload_n dA_perform_30 rfl ?_
  refine V_iconst (v := 0) dA_perform_31 (by decide) ?_
  refine V_callV (as := [.int 4, .int 2, .int x, .int 0]) (rest := []) (bs' := 0) rfl dA_perform_32 cmA_run cvA_run mlA_33 (Or.inl ⟨_, _, _, _, _, rfl, k64, by decide, rfl⟩) rfl rfl (c_run_4_4_2_0 hC (num := nI j) (v := gi M 79 j) ⟨by simp [gi, si] <;> rfl, by simp [gi, si], by simp [gi, si]⟩ hr x (dp := 0) (by decide)) (by decide) (Nat.le_refl _) (by decide) (Nat.le_of_ble_eq_true rfl) ?_
  rintro _ _ s1 ⟨rfl, rfl, hC, hS1, hA1⟩ -
  refine V_one ?_
  have hS := hS.trans hS1
  exact V_iret dA_perform_35 rfl rfl ⟨rfl, rfl, hC, hS⟩
theorem c_perform_5_0 {l : Launch} {G : GT} {L : Nat → List Cl} {M σ : Hp} (hC : RC L M σ) {j : Nat} (h8 : j < 8) (hK : gi M 78 j = nI 5) (hr : gi M 76 57 = nI 0) (x : Int32) : MM l G mA_perform 4 0 0 [.ref 64, .ref (8 + 2 * j), .int 0, .int x] KA σ (PQ L σ (actV 5 0 x (nI j) (gi M 79 j), actM 5 0 M)) := by
  have hR := hC.1
  have hC0 := hC
  have hS : Sm σ σ := Sm.rfl
  refine MM.of (loc := [(0, .ref 64), (1, .ref (8 + 2 * j)), (2, .int 0), (3, .int x)]) (by decide +kernel) rfl (Nat.le_of_ble_eq_true rfl) ?_
  refine V_aload_n dA_perform_0 rfl ?_
  refine V_aload_n dA_perform_1 rfl ?_
  refine V_getE (x := 5) dA_perform_2 flA_19 (kE _ h8) rfl ((eK hC h8).trans hK) ?_
  refine V_putI dA_perform_5 flA_24 (fpA_2 _) (Or.inl rfl) k64 rfl ?_
  have hC := RC_64 (j := 2) (x := 5) hC (by decide) (by decide)
  have hS : Sm σ (si σ 64 2 5) := hS.set (by decide)
  have hR := hC.1
  refine V_aload_n dA_perform_8 rfl ?_
  refine V_aload_n dA_perform_9 rfl ?_
  refine V_getE (x := nI j) dA_perform_10 flA_25 (kE _ h8) rfl (eN hC h8) ?_
  refine V_putI dA_perform_13 flA_28 (fpA_3 _) (Or.inl rfl) k64 rfl ?_
  have hC := RC_64 (j := 3) (x := nI j) hC (by decide) (by decide)
  have hS : Sm σ (si (si σ 64 2 5) 64 3 (nI j)) := hS.set (by decide)
  have hR := hC.1
  refine V_aload_n dA_perform_16 rfl ?_
  refine V_aload_n dA_perform_17 rfl ?_
  refine V_getE (x := gi M 79 j) dA_perform_18 flA_29 (kE _ h8) rfl (eV hC h8) ?_
  refine V_putI dA_perform_21 flA_32 (fpA_4 _) (Or.inl rfl) k64 rfl ?_
  have hC := RC_64 (j := 4) (x := gi M 79 j) hC (by decide) (by decide)
  have hS : Sm σ (si (si (si σ 64 2 5) 64 3 (nI j)) 64 4 (gi M 79 j)) := hS.set (by decide)
  have hR := hC.1
  refine V_aload_n dA_perform_24 rfl ?_
  refine V_aload_n dA_perform_25 rfl ?_
  refine V_getE (x := 5) dA_perform_26 flA_24 k64 rfl (by simp [gi, si]) ?_
  refine V_iload_n dA_perform_29 rfl ?_
  refine V_iload_n dA_perform_30 rfl ?_
  refine V_iconst (v := 0) dA_perform_31 (by decide) ?_
  refine V_callV (as := [.int 5, .int 0, .int x, .int 0]) (rest := []) (bs' := 0) rfl dA_perform_32 cmA_run cvA_run mlA_33 (Or.inl ⟨_, _, _, _, _, rfl, k64, by decide, rfl⟩) rfl rfl (c_run_5_5_0_0 hC (num := nI j) (v := gi M 79 j) ⟨by simp [gi, si] <;> rfl, by simp [gi, si], by simp [gi, si]⟩ hr x (dp := 0) (by decide)) (by decide) (Nat.le_refl _) (by decide) (Nat.le_of_ble_eq_true rfl) ?_
  rintro _ _ s1 ⟨rfl, rfl, hC, hS1, hA1⟩ -
  refine V_one ?_
  have hS := hS.trans hS1
  exact V_iret dA_perform_35 rfl rfl ⟨rfl, rfl, hC, hS⟩
theorem c_perform_5_1 {l : Launch} {G : GT} {L : Nat → List Cl} {M σ : Hp} (hC : RC L M σ) {j : Nat} (h8 : j < 8) (hK : gi M 78 j = nI 5) (hr : gi M 76 57 = nI 0) (x : Int32) : MM l G mA_perform 6 0 0 [.ref 64, .ref (8 + 2 * j), .int 1, .int x] KA σ (PQ L σ (actV 5 1 x (nI j) (gi M 79 j), actM 5 1 M)) := by
  have hR := hC.1
  have hC0 := hC
  have hS : Sm σ σ := Sm.rfl
  refine MM.of (loc := [(0, .ref 64), (1, .ref (8 + 2 * j)), (2, .int 1), (3, .int x)]) (by decide +kernel) rfl (Nat.le_of_ble_eq_true rfl) ?_
  refine V_aload_n dA_perform_0 rfl ?_
  refine V_aload_n dA_perform_1 rfl ?_
  refine V_getE (x := 5) dA_perform_2 flA_19 (kE _ h8) rfl ((eK hC h8).trans hK) ?_
  refine V_putI dA_perform_5 flA_24 (fpA_2 _) (Or.inl rfl) k64 rfl ?_
  have hC := RC_64 (j := 2) (x := 5) hC (by decide) (by decide)
  have hS : Sm σ (si σ 64 2 5) := hS.set (by decide)
  have hR := hC.1
  refine V_aload_n dA_perform_8 rfl ?_
  refine V_aload_n dA_perform_9 rfl ?_
  refine V_getE (x := nI j) dA_perform_10 flA_25 (kE _ h8) rfl (eN hC h8) ?_
  refine V_putI dA_perform_13 flA_28 (fpA_3 _) (Or.inl rfl) k64 rfl ?_
  have hC := RC_64 (j := 3) (x := nI j) hC (by decide) (by decide)
  have hS : Sm σ (si (si σ 64 2 5) 64 3 (nI j)) := hS.set (by decide)
  have hR := hC.1
  refine V_aload_n dA_perform_16 rfl ?_
  refine V_aload_n dA_perform_17 rfl ?_
  refine V_getE (x := gi M 79 j) dA_perform_18 flA_29 (kE _ h8) rfl (eV hC h8) ?_
  refine V_putI dA_perform_21 flA_32 (fpA_4 _) (Or.inl rfl) k64 rfl ?_
  have hC := RC_64 (j := 4) (x := gi M 79 j) hC (by decide) (by decide)
  have hS : Sm σ (si (si (si σ 64 2 5) 64 3 (nI j)) 64 4 (gi M 79 j)) := hS.set (by decide)
  have hR := hC.1
  refine V_aload_n dA_perform_24 rfl ?_
  refine V_aload_n dA_perform_25 rfl ?_
  refine V_getE (x := 5) dA_perform_26 flA_24 k64 rfl (by simp [gi, si]) ?_
  refine V_iload_n dA_perform_29 rfl ?_
  refine V_iload_n dA_perform_30 rfl ?_
  refine V_iconst (v := 0) dA_perform_31 (by decide) ?_
  refine V_callV (as := [.int 5, .int 1, .int x, .int 0]) (rest := []) (bs' := 0) rfl dA_perform_32 cmA_run cvA_run mlA_33 (Or.inl ⟨_, _, _, _, _, rfl, k64, by decide, rfl⟩) rfl rfl (c_run_5_5_1_0 hC (num := nI j) (v := gi M 79 j) ⟨by simp [gi, si] <;> rfl, by simp [gi, si], by simp [gi, si]⟩ hr x (dp := 0) (by decide)) (by decide) (Nat.le_refl _) (by decide) (Nat.le_of_ble_eq_true rfl) ?_
  rintro _ _ s1 ⟨rfl, rfl, hC, hS1, hA1⟩ -
  refine V_one ?_
  have hS := hS.trans hS1
  exact V_iret dA_perform_35 rfl rfl ⟨rfl, rfl, hC, hS⟩
theorem c_perform_5_2 {l : Launch} {G : GT} {L : Nat → List Cl} {M σ : Hp} (hC : RC L M σ) {j : Nat} (h8 : j < 8) (hK : gi M 78 j = nI 5) (hr : gi M 76 57 = nI 0) (x : Int32) : MM l G mA_perform 10 0 0 [.ref 64, .ref (8 + 2 * j), .int 2, .int x] KA σ (PQ L σ (actV 5 2 x (nI j) (gi M 79 j), actM 5 2 M)) := by
  have hR := hC.1
  have hC0 := hC
  have hS : Sm σ σ := Sm.rfl
  refine MM.of (loc := [(0, .ref 64), (1, .ref (8 + 2 * j)), (2, .int 2), (3, .int x)]) (by decide +kernel) rfl (Nat.le_of_ble_eq_true rfl) ?_
  refine V_aload_n dA_perform_0 rfl ?_
  refine V_aload_n dA_perform_1 rfl ?_
  refine V_getE (x := 5) dA_perform_2 flA_19 (kE _ h8) rfl ((eK hC h8).trans hK) ?_
  refine V_putI dA_perform_5 flA_24 (fpA_2 _) (Or.inl rfl) k64 rfl ?_
  have hC := RC_64 (j := 2) (x := 5) hC (by decide) (by decide)
  have hS : Sm σ (si σ 64 2 5) := hS.set (by decide)
  have hR := hC.1
  refine V_aload_n dA_perform_8 rfl ?_
  refine V_aload_n dA_perform_9 rfl ?_
  refine V_getE (x := nI j) dA_perform_10 flA_25 (kE _ h8) rfl (eN hC h8) ?_
  refine V_putI dA_perform_13 flA_28 (fpA_3 _) (Or.inl rfl) k64 rfl ?_
  have hC := RC_64 (j := 3) (x := nI j) hC (by decide) (by decide)
  have hS : Sm σ (si (si σ 64 2 5) 64 3 (nI j)) := hS.set (by decide)
  have hR := hC.1
  refine V_aload_n dA_perform_16 rfl ?_
  refine V_aload_n dA_perform_17 rfl ?_
  refine V_getE (x := gi M 79 j) dA_perform_18 flA_29 (kE _ h8) rfl (eV hC h8) ?_
  refine V_putI dA_perform_21 flA_32 (fpA_4 _) (Or.inl rfl) k64 rfl ?_
  have hC := RC_64 (j := 4) (x := gi M 79 j) hC (by decide) (by decide)
  have hS : Sm σ (si (si (si σ 64 2 5) 64 3 (nI j)) 64 4 (gi M 79 j)) := hS.set (by decide)
  have hR := hC.1
  refine V_aload_n dA_perform_24 rfl ?_
  refine V_aload_n dA_perform_25 rfl ?_
  refine V_getE (x := 5) dA_perform_26 flA_24 k64 rfl (by simp [gi, si]) ?_
  refine V_iload_n dA_perform_29 rfl ?_
  refine V_iload_n dA_perform_30 rfl ?_
  refine V_iconst (v := 0) dA_perform_31 (by decide) ?_
  refine V_callV (as := [.int 5, .int 2, .int x, .int 0]) (rest := []) (bs' := 0) rfl dA_perform_32 cmA_run cvA_run mlA_33 (Or.inl ⟨_, _, _, _, _, rfl, k64, by decide, rfl⟩) rfl rfl (c_run_5_5_2_0 hC (num := nI j) (v := gi M 79 j) ⟨by simp [gi, si] <;> rfl, by simp [gi, si], by simp [gi, si]⟩ hr x (dp := 0) (by decide)) (by decide) (Nat.le_refl _) (by decide) (Nat.le_of_ble_eq_true rfl) ?_
  rintro _ _ s1 ⟨rfl, rfl, hC, hS1, hA1⟩ -
  refine V_one ?_
  have hS := hS.trans hS1
  exact V_iret dA_perform_35 rfl rfl ⟨rfl, rfl, hC, hS⟩
theorem c_perform_6_0 {l : Launch} {G : GT} {L : Nat → List Cl} {M σ : Hp} (hC : RC L M σ) {j : Nat} (h8 : j < 8) (hK : gi M 78 j = nI 6) (hr : gi M 76 57 = nI 0) (x : Int32) : MM l G mA_perform 4 0 0 [.ref 64, .ref (8 + 2 * j), .int 0, .int x] KA σ (PQ L σ (actV 6 0 x (nI j) (gi M 79 j), actM 6 0 M)) := by
  have hR := hC.1
  have hC0 := hC
  have hS : Sm σ σ := Sm.rfl
  refine MM.of (loc := [(0, .ref 64), (1, .ref (8 + 2 * j)), (2, .int 0), (3, .int x)]) (by decide +kernel) rfl (Nat.le_of_ble_eq_true rfl) ?_
  refine V_aload_n dA_perform_0 rfl ?_
  refine V_aload_n dA_perform_1 rfl ?_
  refine V_getE (x := 6) dA_perform_2 flA_19 (kE _ h8) rfl ((eK hC h8).trans hK) ?_
  refine V_putI dA_perform_5 flA_24 (fpA_2 _) (Or.inl rfl) k64 rfl ?_
  have hC := RC_64 (j := 2) (x := 6) hC (by decide) (by decide)
  have hS : Sm σ (si σ 64 2 6) := hS.set (by decide)
  have hR := hC.1
  refine V_aload_n dA_perform_8 rfl ?_
  refine V_aload_n dA_perform_9 rfl ?_
  refine V_getE (x := nI j) dA_perform_10 flA_25 (kE _ h8) rfl (eN hC h8) ?_
  refine V_putI dA_perform_13 flA_28 (fpA_3 _) (Or.inl rfl) k64 rfl ?_
  have hC := RC_64 (j := 3) (x := nI j) hC (by decide) (by decide)
  have hS : Sm σ (si (si σ 64 2 6) 64 3 (nI j)) := hS.set (by decide)
  have hR := hC.1
  refine V_aload_n dA_perform_16 rfl ?_
  refine V_aload_n dA_perform_17 rfl ?_
  refine V_getE (x := gi M 79 j) dA_perform_18 flA_29 (kE _ h8) rfl (eV hC h8) ?_
  refine V_putI dA_perform_21 flA_32 (fpA_4 _) (Or.inl rfl) k64 rfl ?_
  have hC := RC_64 (j := 4) (x := gi M 79 j) hC (by decide) (by decide)
  have hS : Sm σ (si (si (si σ 64 2 6) 64 3 (nI j)) 64 4 (gi M 79 j)) := hS.set (by decide)
  have hR := hC.1
  refine V_aload_n dA_perform_24 rfl ?_
  refine V_aload_n dA_perform_25 rfl ?_
  refine V_getE (x := 6) dA_perform_26 flA_24 k64 rfl (by simp [gi, si]) ?_
  refine V_iload_n dA_perform_29 rfl ?_
  refine V_iload_n dA_perform_30 rfl ?_
  refine V_iconst (v := 0) dA_perform_31 (by decide) ?_
  refine V_callV (as := [.int 6, .int 0, .int x, .int 0]) (rest := []) (bs' := 0) rfl dA_perform_32 cmA_run cvA_run mlA_33 (Or.inl ⟨_, _, _, _, _, rfl, k64, by decide, rfl⟩) rfl rfl (c_run_6_6_0_0 hC (num := nI j) (v := gi M 79 j) ⟨by simp [gi, si] <;> rfl, by simp [gi, si], by simp [gi, si]⟩ hr x (dp := 0) (by decide)) (by decide) (Nat.le_refl _) (by decide) (Nat.le_of_ble_eq_true rfl) ?_
  rintro _ _ s1 ⟨rfl, rfl, hC, hS1, hA1⟩ -
  refine V_one ?_
  have hS := hS.trans hS1
  exact V_iret dA_perform_35 rfl rfl ⟨rfl, rfl, hC, hS⟩
theorem c_perform_6_1 {l : Launch} {G : GT} {L : Nat → List Cl} {M σ : Hp} (hC : RC L M σ) {j : Nat} (h8 : j < 8) (hK : gi M 78 j = nI 6) (hr : gi M 76 57 = nI 0) (x : Int32) : MM l G mA_perform 8 0 0 [.ref 64, .ref (8 + 2 * j), .int 1, .int x] KA σ (PQ L σ (actV 6 1 x (nI j) (gi M 79 j), actM 6 1 M)) := by
  have hR := hC.1
  have hC0 := hC
  have hS : Sm σ σ := Sm.rfl
  refine MM.of (loc := [(0, .ref 64), (1, .ref (8 + 2 * j)), (2, .int 1), (3, .int x)]) (by decide +kernel) rfl (Nat.le_of_ble_eq_true rfl) ?_
  refine V_aload_n dA_perform_0 rfl ?_
  refine V_aload_n dA_perform_1 rfl ?_
  refine V_getE (x := 6) dA_perform_2 flA_19 (kE _ h8) rfl ((eK hC h8).trans hK) ?_
  refine V_putI dA_perform_5 flA_24 (fpA_2 _) (Or.inl rfl) k64 rfl ?_
  have hC := RC_64 (j := 2) (x := 6) hC (by decide) (by decide)
  have hS : Sm σ (si σ 64 2 6) := hS.set (by decide)
  have hR := hC.1
  refine V_aload_n dA_perform_8 rfl ?_
  refine V_aload_n dA_perform_9 rfl ?_
  refine V_getE (x := nI j) dA_perform_10 flA_25 (kE _ h8) rfl (eN hC h8) ?_
  refine V_putI dA_perform_13 flA_28 (fpA_3 _) (Or.inl rfl) k64 rfl ?_
  have hC := RC_64 (j := 3) (x := nI j) hC (by decide) (by decide)
  have hS : Sm σ (si (si σ 64 2 6) 64 3 (nI j)) := hS.set (by decide)
  have hR := hC.1
  refine V_aload_n dA_perform_16 rfl ?_
  refine V_aload_n dA_perform_17 rfl ?_
  refine V_getE (x := gi M 79 j) dA_perform_18 flA_29 (kE _ h8) rfl (eV hC h8) ?_
  refine V_putI dA_perform_21 flA_32 (fpA_4 _) (Or.inl rfl) k64 rfl ?_
  have hC := RC_64 (j := 4) (x := gi M 79 j) hC (by decide) (by decide)
  have hS : Sm σ (si (si (si σ 64 2 6) 64 3 (nI j)) 64 4 (gi M 79 j)) := hS.set (by decide)
  have hR := hC.1
  refine V_aload_n dA_perform_24 rfl ?_
  refine V_aload_n dA_perform_25 rfl ?_
  refine V_getE (x := 6) dA_perform_26 flA_24 k64 rfl (by simp [gi, si]) ?_
  refine V_iload_n dA_perform_29 rfl ?_
  refine V_iload_n dA_perform_30 rfl ?_
  refine V_iconst (v := 0) dA_perform_31 (by decide) ?_
  refine V_callV (as := [.int 6, .int 1, .int x, .int 0]) (rest := []) (bs' := 0) rfl dA_perform_32 cmA_run cvA_run mlA_33 (Or.inl ⟨_, _, _, _, _, rfl, k64, by decide, rfl⟩) rfl rfl (c_run_6_6_1_0 hC (num := nI j) (v := gi M 79 j) ⟨by simp [gi, si] <;> rfl, by simp [gi, si], by simp [gi, si]⟩ hr x (dp := 0) (by decide)) (by decide) (Nat.le_refl _) (by decide) (Nat.le_of_ble_eq_true rfl) ?_
  rintro _ _ s1 ⟨rfl, rfl, hC, hS1, hA1⟩ -
  refine V_one ?_
  have hS := hS.trans hS1
  exact V_iret dA_perform_35 rfl rfl ⟨rfl, rfl, hC, hS⟩
theorem c_perform_6_2 {l : Launch} {G : GT} {L : Nat → List Cl} {M σ : Hp} (hC : RC L M σ) {j : Nat} (h8 : j < 8) (hK : gi M 78 j = nI 6) (hr : gi M 76 57 = nI 0) (x : Int32) : MM l G mA_perform 12 0 0 [.ref 64, .ref (8 + 2 * j), .int 2, .int x] KA σ (PQ L σ (actV 6 2 x (nI j) (gi M 79 j), actM 6 2 M)) := by
  have hR := hC.1
  have hC0 := hC
  have hS : Sm σ σ := Sm.rfl
  refine MM.of (loc := [(0, .ref 64), (1, .ref (8 + 2 * j)), (2, .int 2), (3, .int x)]) (by decide +kernel) rfl (Nat.le_of_ble_eq_true rfl) ?_
  refine V_aload_n dA_perform_0 rfl ?_
  refine V_aload_n dA_perform_1 rfl ?_
  refine V_getE (x := 6) dA_perform_2 flA_19 (kE _ h8) rfl ((eK hC h8).trans hK) ?_
  refine V_putI dA_perform_5 flA_24 (fpA_2 _) (Or.inl rfl) k64 rfl ?_
  have hC := RC_64 (j := 2) (x := 6) hC (by decide) (by decide)
  have hS : Sm σ (si σ 64 2 6) := hS.set (by decide)
  have hR := hC.1
  refine V_aload_n dA_perform_8 rfl ?_
  refine V_aload_n dA_perform_9 rfl ?_
  refine V_getE (x := nI j) dA_perform_10 flA_25 (kE _ h8) rfl (eN hC h8) ?_
  refine V_putI dA_perform_13 flA_28 (fpA_3 _) (Or.inl rfl) k64 rfl ?_
  have hC := RC_64 (j := 3) (x := nI j) hC (by decide) (by decide)
  have hS : Sm σ (si (si σ 64 2 6) 64 3 (nI j)) := hS.set (by decide)
  have hR := hC.1
  refine V_aload_n dA_perform_16 rfl ?_
  refine V_aload_n dA_perform_17 rfl ?_
  refine V_getE (x := gi M 79 j) dA_perform_18 flA_29 (kE _ h8) rfl (eV hC h8) ?_
  refine V_putI dA_perform_21 flA_32 (fpA_4 _) (Or.inl rfl) k64 rfl ?_
  have hC := RC_64 (j := 4) (x := gi M 79 j) hC (by decide) (by decide)
  have hS : Sm σ (si (si (si σ 64 2 6) 64 3 (nI j)) 64 4 (gi M 79 j)) := hS.set (by decide)
  have hR := hC.1
  refine V_aload_n dA_perform_24 rfl ?_
  refine V_aload_n dA_perform_25 rfl ?_
  refine V_getE (x := 6) dA_perform_26 flA_24 k64 rfl (by simp [gi, si]) ?_
  refine V_iload_n dA_perform_29 rfl ?_
  refine V_iload_n dA_perform_30 rfl ?_
  refine V_iconst (v := 0) dA_perform_31 (by decide) ?_
  refine V_callV (as := [.int 6, .int 2, .int x, .int 0]) (rest := []) (bs' := 0) rfl dA_perform_32 cmA_run cvA_run mlA_33 (Or.inl ⟨_, _, _, _, _, rfl, k64, by decide, rfl⟩) rfl rfl (c_run_6_6_2_0 hC (num := nI j) (v := gi M 79 j) ⟨by simp [gi, si] <;> rfl, by simp [gi, si], by simp [gi, si]⟩ hr x (dp := 0) (by decide)) (by decide) (Nat.le_refl _) (by decide) (Nat.le_of_ble_eq_true rfl) ?_
  rintro _ _ s1 ⟨rfl, rfl, hC, hS1, hA1⟩ -
  refine V_one ?_
  have hS := hS.trans hS1
  exact V_iret dA_perform_35 rfl rfl ⟨rfl, rfl, hC, hS⟩
theorem c_forget {l : Launch} {G : GT} {L : Nat → List Cl} {M σ : Hp} (hC : RC L M σ) : MM l G mA_forget 0 0 0 [.ref 64] KA σ (PN L (si M 76 57 0) σ) := by
  have hR := hC.1
  have hC0 := hC
  have hS : Sm σ σ := Sm.rfl
  refine MM.of (loc := [(0, .ref 64)]) (by decide +kernel) rfl (Nat.le_of_ble_eq_true rfl) ?_
  refine V_aload_n dA_forget_0 rfl ?_
  refine V_iconst (v := 0) dA_forget_1 (by decide) ?_
  refine V_putI dA_forget_2 flA_15 (fpA_0 _) (Or.inl rfl) k64 rfl ?_
  have hC := RC_set (k := 64) (j := 0) (a := 76) (b := 57) (x := 0) hC rfl (by first | decide | omega)
  have hS := hS.set (k := 64) (j := 0) (x := 0) (by omega)
  have hR := hC.1
  exact V_ret dA_forget_5 rfl rfl ⟨rfl, rfl, hC, hS⟩
theorem g_act {l : Launch} {G : GT} {L : Nat → List Cl} {M σ : Hp} (hC : RC L M σ) (hI : Inv L M) (e a x : Int32) : MM l G mG_act 13 0 0 [.ref 0, .int e, .int a, .int x] KA σ (PQ L σ (q_act M e a x)) := by
  have hR := hC.1
  have hC0 := hC
  have hS : Sm σ σ := Sm.rfl
  refine MM.of (loc := [(0, .ref 0), (1, .int e), (2, .int a), (3, .int x)]) (by decide +kernel) rfl (Nat.le_of_ble_eq_true rfl) ?_
  refine V_aload_n dG_act_0 rfl ?_
  refine V_getR (a := 64) dG_act_1 flG_49 k0 rfl (r0_6 hR) ?_
  refine V_callV (as := []) (rest := []) (bs' := 0) rfl dG_act_4 cmA_forget cvA_forget mlG_267 (Or.inl ⟨_, _, _, _, _, rfl, k64, by decide, rfl⟩) rfl rfl (c_forget hC) (by decide) (Nat.le_refl _) (by decide) (Nat.le_of_ble_eq_true rfl) ?_
  rintro _ _ s1 ⟨rfl, rfl, hC, hS1⟩ -
  refine V_non ?_
  have hS := hS.trans hS1
  have hI0 := hI
  have hI := I_ran (n := 0) hI0 (by decide)
  have hR := hC.1
  refine V_aload_n dG_act_7 rfl ?_
  refine V_getR (a := 1) dG_act_8 flG_12 k0 rfl (r0_0 hR) ?_
  refine V_iload_n dG_act_11 rfl ?_
  refine V_callV (as := [.int e]) (rest := []) (bs' := 0) rfl dG_act_12 cmF_find cvF_find mlG_90 (Or.inl ⟨_, _, _, _, _, rfl, k1, by decide, rfl⟩) rfl rfl (c_find hC hI e) (by decide) (Nat.le_refl _) (by decide) (Nat.le_of_ble_eq_true rfl) ?_
  rintro _ _ _ (⟨j, hj, hxj, rfl, rfl, rfl⟩ | ⟨hbe, rfl, rfl, rfl⟩) -
  · refine V_one ?_
    have hbe : rng e (mE M) := hxj ▸ rng_n hj (sm9 hI0)
    have h8 : j < 8 := lt9 hI0 hj
    have hcn : cN e = j := by rw [hxj]; exact nI_cN (by omega)
    refine V_astore (loc' := [(4, .ref (8 + 2 * j)), (0, .ref 0), (1, .int e), (2, .int a), (3, .int x)]) dG_act_15 (by decide) rfl ?_
    refine V_aload dG_act_17 rfl ?_
    refine V_ifnull dG_act_19 ?_
    refine V_iload_n dG_act_22 rfl ?_
    refine V_iconst (v := 2) dG_act_23 (by decide) ?_
    refine V_callS (as := [.int a, .int 2]) (rest := []) (bs' := 0) rfl dG_act_24 cmG_isUpTo stG_isUpTo mlG_75 rfl rfl (c_isUpTo a 2) (by decide) (Nat.le_refl _) (by decide) (Nat.le_of_ble_eq_true rfl) ?_
    rintro _ _ _ (⟨hba, rfl, rfl, rfl⟩ | ⟨hba, rfl, rfl, rfl⟩) -
    · refine V_one ?_
      refine V_if_ne (tgt := 32) dG_act_27 rfl (fun _ => ?_) (fun h => absurd h (by decide))
      obtain ⟨k, hkk⟩ : ∃ k, k = cN (gi M 78 j) := ⟨_, rfl⟩
      have hk7 : k < 7 := by rw [hkk]; exact (kN hI0 hj).2
      have hkv : gi M 78 j = nI k := by rw [hkk]; exact (kN hI0 hj).1
      rcases up2 hba with ha | ha | ha <;> subst ha
      · match k, hk7, hkk, hkv with
        | 0, _, hkk, hkv =>
          refine V_aload_n dG_act_32 rfl ?_
          refine V_getR (a := 64) dG_act_33 flG_49 k0 rfl (r0_6 hR) ?_
          refine V_aload dG_act_36 rfl ?_
          refine V_iload_n dG_act_38 rfl ?_
          refine V_iload_n dG_act_39 rfl ?_
          refine V_callV (as := [.ref (8 + 2 * j), .int 0, .int x]) (rest := []) (bs' := 0) rfl dG_act_40 cmA_perform cvA_perform mlG_270 (Or.inl ⟨_, _, _, _, _, rfl, k64, by decide, rfl⟩) rfl rfl (c_perform_0_0 hC h8 hkv rfl x) (by decide) (Nat.le_refl _) (by decide) (Nat.le_of_ble_eq_true rfl) ?_
          rintro _ _ s2 ⟨rfl, rfl, hC, hS1⟩ -
          refine V_one ?_
          have hS := hS.trans hS1
          refine V_iret dG_act_43 rfl rfl ?_
          have e1 : q_act M e 0 x = (actV 0 0 x (nI j) (gi M 79 j), actM 0 0 (si M 76 57 0)) := by
            unfold q_act
            rw [if_pos ⟨hbe, hba⟩, hcn, hkv]
            rfl
          rw [e1]
          exact ⟨rfl, rfl, hC, hS⟩
        | 1, _, hkk, hkv =>
          refine V_aload_n dG_act_32 rfl ?_
          refine V_getR (a := 64) dG_act_33 flG_49 k0 rfl (r0_6 hR) ?_
          refine V_aload dG_act_36 rfl ?_
          refine V_iload_n dG_act_38 rfl ?_
          refine V_iload_n dG_act_39 rfl ?_
          refine V_callV (as := [.ref (8 + 2 * j), .int 0, .int x]) (rest := []) (bs' := 0) rfl dG_act_40 cmA_perform cvA_perform mlG_270 (Or.inl ⟨_, _, _, _, _, rfl, k64, by decide, rfl⟩) rfl rfl (c_perform_1_0 hC h8 hkv rfl x) (by decide) (Nat.le_refl _) (by decide) (Nat.le_of_ble_eq_true rfl) ?_
          rintro _ _ s2 ⟨rfl, rfl, hC, hS1⟩ -
          refine V_one ?_
          have hS := hS.trans hS1
          refine V_iret dG_act_43 rfl rfl ?_
          have e1 : q_act M e 0 x = (actV 1 0 x (nI j) (gi M 79 j), actM 1 0 (si M 76 57 0)) := by
            unfold q_act
            rw [if_pos ⟨hbe, hba⟩, hcn, hkv]
            rfl
          rw [e1]
          exact ⟨rfl, rfl, hC, hS⟩
        | 2, _, hkk, hkv =>
          refine V_aload_n dG_act_32 rfl ?_
          refine V_getR (a := 64) dG_act_33 flG_49 k0 rfl (r0_6 hR) ?_
          refine V_aload dG_act_36 rfl ?_
          refine V_iload_n dG_act_38 rfl ?_
          refine V_iload_n dG_act_39 rfl ?_
          refine V_callV (as := [.ref (8 + 2 * j), .int 0, .int x]) (rest := []) (bs' := 0) rfl dG_act_40 cmA_perform cvA_perform mlG_270 (Or.inl ⟨_, _, _, _, _, rfl, k64, by decide, rfl⟩) rfl rfl (c_perform_2_0 hC h8 hkv rfl x) (by decide) (Nat.le_refl _) (by decide) (Nat.le_of_ble_eq_true rfl) ?_
          rintro _ _ s2 ⟨rfl, rfl, hC, hS1⟩ -
          refine V_one ?_
          have hS := hS.trans hS1
          refine V_iret dG_act_43 rfl rfl ?_
          have e1 : q_act M e 0 x = (actV 2 0 x (nI j) (gi M 79 j), actM 2 0 (si M 76 57 0)) := by
            unfold q_act
            rw [if_pos ⟨hbe, hba⟩, hcn, hkv]
            rfl
          rw [e1]
          exact ⟨rfl, rfl, hC, hS⟩
        | 3, _, hkk, hkv =>
          refine V_aload_n dG_act_32 rfl ?_
          refine V_getR (a := 64) dG_act_33 flG_49 k0 rfl (r0_6 hR) ?_
          refine V_aload dG_act_36 rfl ?_
          refine V_iload_n dG_act_38 rfl ?_
          refine V_iload_n dG_act_39 rfl ?_
          refine V_callV (as := [.ref (8 + 2 * j), .int 0, .int x]) (rest := []) (bs' := 0) rfl dG_act_40 cmA_perform cvA_perform mlG_270 (Or.inl ⟨_, _, _, _, _, rfl, k64, by decide, rfl⟩) rfl rfl (c_perform_3_0 hC h8 hkv rfl x) (by decide) (Nat.le_refl _) (by decide) (Nat.le_of_ble_eq_true rfl) ?_
          rintro _ _ s2 ⟨rfl, rfl, hC, hS1⟩ -
          refine V_one ?_
          have hS := hS.trans hS1
          refine V_iret dG_act_43 rfl rfl ?_
          have e1 : q_act M e 0 x = (actV 3 0 x (nI j) (gi M 79 j), actM 3 0 (si M 76 57 0)) := by
            unfold q_act
            rw [if_pos ⟨hbe, hba⟩, hcn, hkv]
            rfl
          rw [e1]
          exact ⟨rfl, rfl, hC, hS⟩
        | 4, _, hkk, hkv =>
          refine V_aload_n dG_act_32 rfl ?_
          refine V_getR (a := 64) dG_act_33 flG_49 k0 rfl (r0_6 hR) ?_
          refine V_aload dG_act_36 rfl ?_
          refine V_iload_n dG_act_38 rfl ?_
          refine V_iload_n dG_act_39 rfl ?_
          refine V_callV (as := [.ref (8 + 2 * j), .int 0, .int x]) (rest := []) (bs' := 0) rfl dG_act_40 cmA_perform cvA_perform mlG_270 (Or.inl ⟨_, _, _, _, _, rfl, k64, by decide, rfl⟩) rfl rfl (c_perform_4_0 hC h8 hkv rfl x) (by decide) (Nat.le_refl _) (by decide) (Nat.le_of_ble_eq_true rfl) ?_
          rintro _ _ s2 ⟨rfl, rfl, hC, hS1⟩ -
          refine V_one ?_
          have hS := hS.trans hS1
          refine V_iret dG_act_43 rfl rfl ?_
          have e1 : q_act M e 0 x = (actV 4 0 x (nI j) (gi M 79 j), actM 4 0 (si M 76 57 0)) := by
            unfold q_act
            rw [if_pos ⟨hbe, hba⟩, hcn, hkv]
            rfl
          rw [e1]
          exact ⟨rfl, rfl, hC, hS⟩
        | 5, _, hkk, hkv =>
          refine V_aload_n dG_act_32 rfl ?_
          refine V_getR (a := 64) dG_act_33 flG_49 k0 rfl (r0_6 hR) ?_
          refine V_aload dG_act_36 rfl ?_
          refine V_iload_n dG_act_38 rfl ?_
          refine V_iload_n dG_act_39 rfl ?_
          refine V_callV (as := [.ref (8 + 2 * j), .int 0, .int x]) (rest := []) (bs' := 0) rfl dG_act_40 cmA_perform cvA_perform mlG_270 (Or.inl ⟨_, _, _, _, _, rfl, k64, by decide, rfl⟩) rfl rfl (c_perform_5_0 hC h8 hkv rfl x) (by decide) (Nat.le_refl _) (by decide) (Nat.le_of_ble_eq_true rfl) ?_
          rintro _ _ s2 ⟨rfl, rfl, hC, hS1⟩ -
          refine V_one ?_
          have hS := hS.trans hS1
          refine V_iret dG_act_43 rfl rfl ?_
          have e1 : q_act M e 0 x = (actV 5 0 x (nI j) (gi M 79 j), actM 5 0 (si M 76 57 0)) := by
            unfold q_act
            rw [if_pos ⟨hbe, hba⟩, hcn, hkv]
            rfl
          rw [e1]
          exact ⟨rfl, rfl, hC, hS⟩
        | 6, _, hkk, hkv =>
          refine V_aload_n dG_act_32 rfl ?_
          refine V_getR (a := 64) dG_act_33 flG_49 k0 rfl (r0_6 hR) ?_
          refine V_aload dG_act_36 rfl ?_
          refine V_iload_n dG_act_38 rfl ?_
          refine V_iload_n dG_act_39 rfl ?_
          refine V_callV (as := [.ref (8 + 2 * j), .int 0, .int x]) (rest := []) (bs' := 0) rfl dG_act_40 cmA_perform cvA_perform mlG_270 (Or.inl ⟨_, _, _, _, _, rfl, k64, by decide, rfl⟩) rfl rfl (c_perform_6_0 hC h8 hkv rfl x) (by decide) (Nat.le_refl _) (by decide) (Nat.le_of_ble_eq_true rfl) ?_
          rintro _ _ s2 ⟨rfl, rfl, hC, hS1⟩ -
          refine V_one ?_
          have hS := hS.trans hS1
          refine V_iret dG_act_43 rfl rfl ?_
          have e1 : q_act M e 0 x = (actV 6 0 x (nI j) (gi M 79 j), actM 6 0 (si M 76 57 0)) := by
            unfold q_act
            rw [if_pos ⟨hbe, hba⟩, hcn, hkv]
            rfl
          rw [e1]
          exact ⟨rfl, rfl, hC, hS⟩
      · match k, hk7, hkk, hkv with
        | 0, _, hkk, hkv =>
          refine V_aload_n dG_act_32 rfl ?_
          refine V_getR (a := 64) dG_act_33 flG_49 k0 rfl (r0_6 hR) ?_
          refine V_aload dG_act_36 rfl ?_
          refine V_iload_n dG_act_38 rfl ?_
          refine V_iload_n dG_act_39 rfl ?_
          refine V_callV (as := [.ref (8 + 2 * j), .int 1, .int x]) (rest := []) (bs' := 0) rfl dG_act_40 cmA_perform cvA_perform mlG_270 (Or.inl ⟨_, _, _, _, _, rfl, k64, by decide, rfl⟩) rfl rfl (c_perform_0_1 hC h8 hkv rfl x) (by decide) (Nat.le_refl _) (by decide) (Nat.le_of_ble_eq_true rfl) ?_
          rintro _ _ s2 ⟨rfl, rfl, hC, hS1⟩ -
          refine V_one ?_
          have hS := hS.trans hS1
          refine V_iret dG_act_43 rfl rfl ?_
          have e1 : q_act M e 1 x = (actV 0 1 x (nI j) (gi M 79 j), actM 0 1 (si M 76 57 0)) := by
            unfold q_act
            rw [if_pos ⟨hbe, hba⟩, hcn, hkv]
            rfl
          rw [e1]
          exact ⟨rfl, rfl, hC, hS⟩
        | 1, _, hkk, hkv =>
          refine V_aload_n dG_act_32 rfl ?_
          refine V_getR (a := 64) dG_act_33 flG_49 k0 rfl (r0_6 hR) ?_
          refine V_aload dG_act_36 rfl ?_
          refine V_iload_n dG_act_38 rfl ?_
          refine V_iload_n dG_act_39 rfl ?_
          refine V_callV (as := [.ref (8 + 2 * j), .int 1, .int x]) (rest := []) (bs' := 0) rfl dG_act_40 cmA_perform cvA_perform mlG_270 (Or.inl ⟨_, _, _, _, _, rfl, k64, by decide, rfl⟩) rfl rfl (c_perform_1_1 hC h8 hkv rfl x) (by decide) (Nat.le_refl _) (by decide) (Nat.le_of_ble_eq_true rfl) ?_
          rintro _ _ s2 ⟨rfl, rfl, hC, hS1⟩ -
          refine V_one ?_
          have hS := hS.trans hS1
          refine V_iret dG_act_43 rfl rfl ?_
          have e1 : q_act M e 1 x = (actV 1 1 x (nI j) (gi M 79 j), actM 1 1 (si M 76 57 0)) := by
            unfold q_act
            rw [if_pos ⟨hbe, hba⟩, hcn, hkv]
            rfl
          rw [e1]
          exact ⟨rfl, rfl, hC, hS⟩
        | 2, _, hkk, hkv =>
          refine V_aload_n dG_act_32 rfl ?_
          refine V_getR (a := 64) dG_act_33 flG_49 k0 rfl (r0_6 hR) ?_
          refine V_aload dG_act_36 rfl ?_
          refine V_iload_n dG_act_38 rfl ?_
          refine V_iload_n dG_act_39 rfl ?_
          refine V_callV (as := [.ref (8 + 2 * j), .int 1, .int x]) (rest := []) (bs' := 0) rfl dG_act_40 cmA_perform cvA_perform mlG_270 (Or.inl ⟨_, _, _, _, _, rfl, k64, by decide, rfl⟩) rfl rfl (c_perform_2_1 hC h8 hkv rfl x) (by decide) (Nat.le_refl _) (by decide) (Nat.le_of_ble_eq_true rfl) ?_
          rintro _ _ s2 ⟨rfl, rfl, hC, hS1⟩ -
          refine V_one ?_
          have hS := hS.trans hS1
          refine V_iret dG_act_43 rfl rfl ?_
          have e1 : q_act M e 1 x = (actV 2 1 x (nI j) (gi M 79 j), actM 2 1 (si M 76 57 0)) := by
            unfold q_act
            rw [if_pos ⟨hbe, hba⟩, hcn, hkv]
            rfl
          rw [e1]
          exact ⟨rfl, rfl, hC, hS⟩
        | 3, _, hkk, hkv =>
          refine V_aload_n dG_act_32 rfl ?_
          refine V_getR (a := 64) dG_act_33 flG_49 k0 rfl (r0_6 hR) ?_
          refine V_aload dG_act_36 rfl ?_
          refine V_iload_n dG_act_38 rfl ?_
          refine V_iload_n dG_act_39 rfl ?_
          refine V_callV (as := [.ref (8 + 2 * j), .int 1, .int x]) (rest := []) (bs' := 0) rfl dG_act_40 cmA_perform cvA_perform mlG_270 (Or.inl ⟨_, _, _, _, _, rfl, k64, by decide, rfl⟩) rfl rfl (c_perform_3_1 hC h8 hkv rfl x) (by decide) (Nat.le_refl _) (by decide) (Nat.le_of_ble_eq_true rfl) ?_
          rintro _ _ s2 ⟨rfl, rfl, hC, hS1⟩ -
          refine V_one ?_
          have hS := hS.trans hS1
          refine V_iret dG_act_43 rfl rfl ?_
          have e1 : q_act M e 1 x = (actV 3 1 x (nI j) (gi M 79 j), actM 3 1 (si M 76 57 0)) := by
            unfold q_act
            rw [if_pos ⟨hbe, hba⟩, hcn, hkv]
            rfl
          rw [e1]
          exact ⟨rfl, rfl, hC, hS⟩
        | 4, _, hkk, hkv =>
          refine V_aload_n dG_act_32 rfl ?_
          refine V_getR (a := 64) dG_act_33 flG_49 k0 rfl (r0_6 hR) ?_
          refine V_aload dG_act_36 rfl ?_
          refine V_iload_n dG_act_38 rfl ?_
          refine V_iload_n dG_act_39 rfl ?_
          refine V_callV (as := [.ref (8 + 2 * j), .int 1, .int x]) (rest := []) (bs' := 0) rfl dG_act_40 cmA_perform cvA_perform mlG_270 (Or.inl ⟨_, _, _, _, _, rfl, k64, by decide, rfl⟩) rfl rfl (c_perform_4_1 hC h8 hkv rfl x) (by decide) (Nat.le_refl _) (by decide) (Nat.le_of_ble_eq_true rfl) ?_
          rintro _ _ s2 ⟨rfl, rfl, hC, hS1⟩ -
          refine V_one ?_
          have hS := hS.trans hS1
          refine V_iret dG_act_43 rfl rfl ?_
          have e1 : q_act M e 1 x = (actV 4 1 x (nI j) (gi M 79 j), actM 4 1 (si M 76 57 0)) := by
            unfold q_act
            rw [if_pos ⟨hbe, hba⟩, hcn, hkv]
            rfl
          rw [e1]
          exact ⟨rfl, rfl, hC, hS⟩
        | 5, _, hkk, hkv =>
          refine V_aload_n dG_act_32 rfl ?_
          refine V_getR (a := 64) dG_act_33 flG_49 k0 rfl (r0_6 hR) ?_
          refine V_aload dG_act_36 rfl ?_
          refine V_iload_n dG_act_38 rfl ?_
          refine V_iload_n dG_act_39 rfl ?_
          refine V_callV (as := [.ref (8 + 2 * j), .int 1, .int x]) (rest := []) (bs' := 0) rfl dG_act_40 cmA_perform cvA_perform mlG_270 (Or.inl ⟨_, _, _, _, _, rfl, k64, by decide, rfl⟩) rfl rfl (c_perform_5_1 hC h8 hkv rfl x) (by decide) (Nat.le_refl _) (by decide) (Nat.le_of_ble_eq_true rfl) ?_
          rintro _ _ s2 ⟨rfl, rfl, hC, hS1⟩ -
          refine V_one ?_
          have hS := hS.trans hS1
          refine V_iret dG_act_43 rfl rfl ?_
          have e1 : q_act M e 1 x = (actV 5 1 x (nI j) (gi M 79 j), actM 5 1 (si M 76 57 0)) := by
            unfold q_act
            rw [if_pos ⟨hbe, hba⟩, hcn, hkv]
            rfl
          rw [e1]
          exact ⟨rfl, rfl, hC, hS⟩
        | 6, _, hkk, hkv =>
          refine V_aload_n dG_act_32 rfl ?_
          refine V_getR (a := 64) dG_act_33 flG_49 k0 rfl (r0_6 hR) ?_
          refine V_aload dG_act_36 rfl ?_
          refine V_iload_n dG_act_38 rfl ?_
          refine V_iload_n dG_act_39 rfl ?_
          refine V_callV (as := [.ref (8 + 2 * j), .int 1, .int x]) (rest := []) (bs' := 0) rfl dG_act_40 cmA_perform cvA_perform mlG_270 (Or.inl ⟨_, _, _, _, _, rfl, k64, by decide, rfl⟩) rfl rfl (c_perform_6_1 hC h8 hkv rfl x) (by decide) (Nat.le_refl _) (by decide) (Nat.le_of_ble_eq_true rfl) ?_
          rintro _ _ s2 ⟨rfl, rfl, hC, hS1⟩ -
          refine V_one ?_
          have hS := hS.trans hS1
          refine V_iret dG_act_43 rfl rfl ?_
          have e1 : q_act M e 1 x = (actV 6 1 x (nI j) (gi M 79 j), actM 6 1 (si M 76 57 0)) := by
            unfold q_act
            rw [if_pos ⟨hbe, hba⟩, hcn, hkv]
            rfl
          rw [e1]
          exact ⟨rfl, rfl, hC, hS⟩
      · match k, hk7, hkk, hkv with
        | 0, _, hkk, hkv =>
          refine V_aload_n dG_act_32 rfl ?_
          refine V_getR (a := 64) dG_act_33 flG_49 k0 rfl (r0_6 hR) ?_
          refine V_aload dG_act_36 rfl ?_
          refine V_iload_n dG_act_38 rfl ?_
          refine V_iload_n dG_act_39 rfl ?_
          refine V_callV (as := [.ref (8 + 2 * j), .int 2, .int x]) (rest := []) (bs' := 0) rfl dG_act_40 cmA_perform cvA_perform mlG_270 (Or.inl ⟨_, _, _, _, _, rfl, k64, by decide, rfl⟩) rfl rfl (c_perform_0_2 hC h8 hkv rfl x) (by decide) (Nat.le_refl _) (by decide) (Nat.le_of_ble_eq_true rfl) ?_
          rintro _ _ s2 ⟨rfl, rfl, hC, hS1⟩ -
          refine V_one ?_
          have hS := hS.trans hS1
          refine V_iret dG_act_43 rfl rfl ?_
          have e1 : q_act M e 2 x = (actV 0 2 x (nI j) (gi M 79 j), actM 0 2 (si M 76 57 0)) := by
            unfold q_act
            rw [if_pos ⟨hbe, hba⟩, hcn, hkv]
            rfl
          rw [e1]
          exact ⟨rfl, rfl, hC, hS⟩
        | 1, _, hkk, hkv =>
          refine V_aload_n dG_act_32 rfl ?_
          refine V_getR (a := 64) dG_act_33 flG_49 k0 rfl (r0_6 hR) ?_
          refine V_aload dG_act_36 rfl ?_
          refine V_iload_n dG_act_38 rfl ?_
          refine V_iload_n dG_act_39 rfl ?_
          refine V_callV (as := [.ref (8 + 2 * j), .int 2, .int x]) (rest := []) (bs' := 0) rfl dG_act_40 cmA_perform cvA_perform mlG_270 (Or.inl ⟨_, _, _, _, _, rfl, k64, by decide, rfl⟩) rfl rfl (c_perform_1_2 hC h8 hkv rfl x) (by decide) (Nat.le_refl _) (by decide) (Nat.le_of_ble_eq_true rfl) ?_
          rintro _ _ s2 ⟨rfl, rfl, hC, hS1⟩ -
          refine V_one ?_
          have hS := hS.trans hS1
          refine V_iret dG_act_43 rfl rfl ?_
          have e1 : q_act M e 2 x = (actV 1 2 x (nI j) (gi M 79 j), actM 1 2 (si M 76 57 0)) := by
            unfold q_act
            rw [if_pos ⟨hbe, hba⟩, hcn, hkv]
            rfl
          rw [e1]
          exact ⟨rfl, rfl, hC, hS⟩
        | 2, _, hkk, hkv =>
          refine V_aload_n dG_act_32 rfl ?_
          refine V_getR (a := 64) dG_act_33 flG_49 k0 rfl (r0_6 hR) ?_
          refine V_aload dG_act_36 rfl ?_
          refine V_iload_n dG_act_38 rfl ?_
          refine V_iload_n dG_act_39 rfl ?_
          refine V_callV (as := [.ref (8 + 2 * j), .int 2, .int x]) (rest := []) (bs' := 0) rfl dG_act_40 cmA_perform cvA_perform mlG_270 (Or.inl ⟨_, _, _, _, _, rfl, k64, by decide, rfl⟩) rfl rfl (c_perform_2_2 hC h8 hkv rfl x) (by decide) (Nat.le_refl _) (by decide) (Nat.le_of_ble_eq_true rfl) ?_
          rintro _ _ s2 ⟨rfl, rfl, hC, hS1⟩ -
          refine V_one ?_
          have hS := hS.trans hS1
          refine V_iret dG_act_43 rfl rfl ?_
          have e1 : q_act M e 2 x = (actV 2 2 x (nI j) (gi M 79 j), actM 2 2 (si M 76 57 0)) := by
            unfold q_act
            rw [if_pos ⟨hbe, hba⟩, hcn, hkv]
            rfl
          rw [e1]
          exact ⟨rfl, rfl, hC, hS⟩
        | 3, _, hkk, hkv =>
          refine V_aload_n dG_act_32 rfl ?_
          refine V_getR (a := 64) dG_act_33 flG_49 k0 rfl (r0_6 hR) ?_
          refine V_aload dG_act_36 rfl ?_
          refine V_iload_n dG_act_38 rfl ?_
          refine V_iload_n dG_act_39 rfl ?_
          refine V_callV (as := [.ref (8 + 2 * j), .int 2, .int x]) (rest := []) (bs' := 0) rfl dG_act_40 cmA_perform cvA_perform mlG_270 (Or.inl ⟨_, _, _, _, _, rfl, k64, by decide, rfl⟩) rfl rfl (c_perform_3_2 hC h8 hkv rfl x) (by decide) (Nat.le_refl _) (by decide) (Nat.le_of_ble_eq_true rfl) ?_
          rintro _ _ s2 ⟨rfl, rfl, hC, hS1⟩ -
          refine V_one ?_
          have hS := hS.trans hS1
          refine V_iret dG_act_43 rfl rfl ?_
          have e1 : q_act M e 2 x = (actV 3 2 x (nI j) (gi M 79 j), actM 3 2 (si M 76 57 0)) := by
            unfold q_act
            rw [if_pos ⟨hbe, hba⟩, hcn, hkv]
            rfl
          rw [e1]
          exact ⟨rfl, rfl, hC, hS⟩
        | 4, _, hkk, hkv =>
          refine V_aload_n dG_act_32 rfl ?_
          refine V_getR (a := 64) dG_act_33 flG_49 k0 rfl (r0_6 hR) ?_
          refine V_aload dG_act_36 rfl ?_
          refine V_iload_n dG_act_38 rfl ?_
          refine V_iload_n dG_act_39 rfl ?_
          refine V_callV (as := [.ref (8 + 2 * j), .int 2, .int x]) (rest := []) (bs' := 0) rfl dG_act_40 cmA_perform cvA_perform mlG_270 (Or.inl ⟨_, _, _, _, _, rfl, k64, by decide, rfl⟩) rfl rfl (c_perform_4_2 hC h8 hkv rfl x) (by decide) (Nat.le_refl _) (by decide) (Nat.le_of_ble_eq_true rfl) ?_
          rintro _ _ s2 ⟨rfl, rfl, hC, hS1⟩ -
          refine V_one ?_
          have hS := hS.trans hS1
          refine V_iret dG_act_43 rfl rfl ?_
          have e1 : q_act M e 2 x = (actV 4 2 x (nI j) (gi M 79 j), actM 4 2 (si M 76 57 0)) := by
            unfold q_act
            rw [if_pos ⟨hbe, hba⟩, hcn, hkv]
            rfl
          rw [e1]
          exact ⟨rfl, rfl, hC, hS⟩
        | 5, _, hkk, hkv =>
          refine V_aload_n dG_act_32 rfl ?_
          refine V_getR (a := 64) dG_act_33 flG_49 k0 rfl (r0_6 hR) ?_
          refine V_aload dG_act_36 rfl ?_
          refine V_iload_n dG_act_38 rfl ?_
          refine V_iload_n dG_act_39 rfl ?_
          refine V_callV (as := [.ref (8 + 2 * j), .int 2, .int x]) (rest := []) (bs' := 0) rfl dG_act_40 cmA_perform cvA_perform mlG_270 (Or.inl ⟨_, _, _, _, _, rfl, k64, by decide, rfl⟩) rfl rfl (c_perform_5_2 hC h8 hkv rfl x) (by decide) (Nat.le_refl _) (by decide) (Nat.le_of_ble_eq_true rfl) ?_
          rintro _ _ s2 ⟨rfl, rfl, hC, hS1⟩ -
          refine V_one ?_
          have hS := hS.trans hS1
          refine V_iret dG_act_43 rfl rfl ?_
          have e1 : q_act M e 2 x = (actV 5 2 x (nI j) (gi M 79 j), actM 5 2 (si M 76 57 0)) := by
            unfold q_act
            rw [if_pos ⟨hbe, hba⟩, hcn, hkv]
            rfl
          rw [e1]
          exact ⟨rfl, rfl, hC, hS⟩
        | 6, _, hkk, hkv =>
          refine V_aload_n dG_act_32 rfl ?_
          refine V_getR (a := 64) dG_act_33 flG_49 k0 rfl (r0_6 hR) ?_
          refine V_aload dG_act_36 rfl ?_
          refine V_iload_n dG_act_38 rfl ?_
          refine V_iload_n dG_act_39 rfl ?_
          refine V_callV (as := [.ref (8 + 2 * j), .int 2, .int x]) (rest := []) (bs' := 0) rfl dG_act_40 cmA_perform cvA_perform mlG_270 (Or.inl ⟨_, _, _, _, _, rfl, k64, by decide, rfl⟩) rfl rfl (c_perform_6_2 hC h8 hkv rfl x) (by decide) (Nat.le_refl _) (by decide) (Nat.le_of_ble_eq_true rfl) ?_
          rintro _ _ s2 ⟨rfl, rfl, hC, hS1⟩ -
          refine V_one ?_
          have hS := hS.trans hS1
          refine V_iret dG_act_43 rfl rfl ?_
          have e1 : q_act M e 2 x = (actV 6 2 x (nI j) (gi M 79 j), actM 6 2 (si M 76 57 0)) := by
            unfold q_act
            rw [if_pos ⟨hbe, hba⟩, hcn, hkv]
            rfl
          rw [e1]
          exact ⟨rfl, rfl, hC, hS⟩
    · refine V_one ?_
      refine V_if_ne (tgt := 32) dG_act_27 rfl (fun h => absurd h (by decide)) (fun _ => ?_)
      refine V_iconst (v := 0) dG_act_30 (by decide) ?_
      refine V_iret dG_act_31 rfl rfl ?_
      rw [show q_act M e a x = (0, si M 76 57 0) from if_neg (fun q => hba q.2)]
      exact ⟨rfl, rfl, hC, hS⟩
  · refine V_one ?_
    refine V_astoreN (loc' := [(4, .null), (0, .ref 0), (1, .int e), (2, .int a), (3, .int x)]) dG_act_15 (by decide) rfl ?_
    refine V_aloadN dG_act_17 rfl ?_
    refine V_ifnullN (tgt := 30) dG_act_19 rfl ?_
    refine V_iconst (v := 0) dG_act_30 (by decide) ?_
    refine V_iret dG_act_31 rfl rfl ?_
    rw [show q_act M e a x = (0, si M 76 57 0) from if_neg (fun q => hbe q.1)]
    exact ⟨rfl, rfl, hC, hS⟩
theorem m_act {l : Launch} {G : GT} {L : Nat → List Cl} {M σ : Hp} (hM : RM M σ) (hI : Inv L M) (e a x : Int32) : MM l G mM_act 9 0 0 [.ref 76, .int e, .int a, .int x] KA σ (PM σ (q_act M e a x)) := by
  have hR := hM.1
  have hM0 := hM
  have hS : Sc σ σ := Sc.rfl
  refine MM.of (loc := [(0, .ref 76), (1, .int e), (2, .int a), (3, .int x)]) (by decide +kernel) rfl (Nat.le_of_ble_eq_true rfl) ?_
  refine V_aload_n dM_act_0 rfl ?_
  refine V_iconst (v := 0) dM_act_1 (by decide) ?_
  refine V_putI dM_act_2 flM_184 (fpM_57 _) (Or.inl rfl) k76 rfl ?_
  have hM := RM_set (k := 76) (j := 57) (x := 0) hM
  have hS := hS.set (k := 76) (j := 57) (x := 0) (by omega)
  have hR := hM.1
  have hI0 := hI
  have hI : Inv L (si M 76 57 0) := I_ran (n := 0) hI0 (by decide)
  refine V_aload_n dM_act_5 rfl ?_
  refine V_iload_n dM_act_6 rfl ?_
  refine V_callV (as := [.int e]) (rest := []) (bs' := 0) rfl dM_act_7 cmM_isEnvelope cvM_isEnvelope mlM_217 (Or.inl ⟨_, _, _, _, _, rfl, k76, by decide, rfl⟩) rfl rfl (m_isEnvelope hM hI.pw e) (by decide) (Nat.le_refl _) (by decide) (Nat.le_of_ble_eq_true rfl) ?_
  rintro _ _ _ (⟨hb7, rfl, rfl, rfl⟩ | ⟨hb7, rfl, rfl, rfl⟩) -
  · refine V_one ?_
    refine V_if_eq (tgt := 23) dM_act_10 rfl (fun h => absurd h (by decide)) (fun _ => ?_)
    refine V_aload_n dM_act_13 rfl ?_
    refine V_iload_n dM_act_14 rfl ?_
    refine V_iconst (v := 0) dM_act_15 (by decide) ?_
    refine V_iconst (v := 2) dM_act_16 (by decide) ?_
    refine V_callV (as := [.int a, .int 0, .int 2]) (rest := []) (bs' := 0) rfl dM_act_17 cmM_in cvM_in mlM_203 (Or.inl ⟨_, _, _, _, _, rfl, k76, by decide, rfl⟩) rfl rfl (m_in a 0 2) (by decide) (Nat.le_refl _) (by decide) (Nat.le_of_ble_eq_true rfl) ?_
    rintro _ _ _ (⟨hb17, rfl, rfl, rfl⟩ | ⟨hb17, rfl, rfl, rfl⟩) -
    · refine V_one ?_
      refine V_if_ne (tgt := 25) dM_act_20 rfl (fun _ => ?_) (fun h => absurd h (by decide))
      have hb7 : rng e (mE M) := hb7
      have hj := (rng_N hb7 (sm9 hI0)).2
      have h8 := lt9 hI0 hj
      obtain ⟨k, hkk⟩ : ∃ k, k = cN (gi M 78 (cN e)) := ⟨_, rfl⟩
      have hk7 : k < 7 := by rw [hkk]; exact (kN hI0 hj).2
      have hkv : gi M 78 (cN e) = nI k := by rw [hkk]; exact (kN hI0 hj).1
      rcases up2 hb17 with ha | ha | ha <;> subst ha
      · match k, hk7, hkk, hkv with
        | 0, _, hkk, hkv =>
          refine V_iload_n dM_act_25 rfl ?_
          refine V_if_ne (tgt := 38) dM_act_26 rfl (fun h => absurd h (by decide)) (fun _ => ?_)
          refine V_aload_n dM_act_29 rfl ?_
          refine V_iload_n dM_act_30 rfl ?_
          refine V_iload_n dM_act_31 rfl ?_
          refine V_callV (as := [.int e, .int x]) (rest := []) (bs' := 0) rfl dM_act_32 cmM_sealsAct cvM_sealsAct mlM_362 (Or.inl ⟨_, _, _, _, _, rfl, k76, by decide, rfl⟩) rfl rfl (m_sealsAct_0_0 hM h8 (rng_N hb7 (sm9 hI0)).1 hkv rfl rfl x) (by decide) (Nat.le_refl _) (by decide) (Nat.le_of_ble_eq_true rfl) ?_
          rintro _ _ s2 ⟨rfl, rfl, hM, hS1⟩ -
          refine V_one ?_
          have hS := hS.trans hS1
          refine V_goto (tgt := 58) dM_act_35 rfl ?_
          refine V_iret dM_act_58 rfl rfl ?_
          have e1 : q_act M e 0 x = (actV 0 0 x (nI (cN e)) (gi M 79 (cN e)), actM 0 0 (si M 76 57 0)) := by
            unfold q_act
            rw [if_pos ⟨hb7, hb17⟩, hkv]
            rfl
          rw [e1, ← (rng_N hb7 (sm9 hI0)).1]
          exact ⟨rfl, rfl, hM, hS⟩
        | 1, _, hkk, hkv =>
          refine V_iload_n dM_act_25 rfl ?_
          refine V_if_ne (tgt := 38) dM_act_26 rfl (fun h => absurd h (by decide)) (fun _ => ?_)
          refine V_aload_n dM_act_29 rfl ?_
          refine V_iload_n dM_act_30 rfl ?_
          refine V_iload_n dM_act_31 rfl ?_
          refine V_callV (as := [.int e, .int x]) (rest := []) (bs' := 0) rfl dM_act_32 cmM_sealsAct cvM_sealsAct mlM_362 (Or.inl ⟨_, _, _, _, _, rfl, k76, by decide, rfl⟩) rfl rfl (m_sealsAct_1_0 hM h8 (rng_N hb7 (sm9 hI0)).1 hkv rfl rfl x) (by decide) (Nat.le_refl _) (by decide) (Nat.le_of_ble_eq_true rfl) ?_
          rintro _ _ s2 ⟨rfl, rfl, hM, hS1⟩ -
          refine V_one ?_
          have hS := hS.trans hS1
          refine V_goto (tgt := 58) dM_act_35 rfl ?_
          refine V_iret dM_act_58 rfl rfl ?_
          have e1 : q_act M e 0 x = (actV 1 0 x (nI (cN e)) (gi M 79 (cN e)), actM 1 0 (si M 76 57 0)) := by
            unfold q_act
            rw [if_pos ⟨hb7, hb17⟩, hkv]
            rfl
          rw [e1, ← (rng_N hb7 (sm9 hI0)).1]
          exact ⟨rfl, rfl, hM, hS⟩
        | 2, _, hkk, hkv =>
          refine V_iload_n dM_act_25 rfl ?_
          refine V_if_ne (tgt := 38) dM_act_26 rfl (fun h => absurd h (by decide)) (fun _ => ?_)
          refine V_aload_n dM_act_29 rfl ?_
          refine V_iload_n dM_act_30 rfl ?_
          refine V_iload_n dM_act_31 rfl ?_
          refine V_callV (as := [.int e, .int x]) (rest := []) (bs' := 0) rfl dM_act_32 cmM_sealsAct cvM_sealsAct mlM_362 (Or.inl ⟨_, _, _, _, _, rfl, k76, by decide, rfl⟩) rfl rfl (m_sealsAct_2_0 hM h8 (rng_N hb7 (sm9 hI0)).1 hkv rfl rfl x) (by decide) (Nat.le_refl _) (by decide) (Nat.le_of_ble_eq_true rfl) ?_
          rintro _ _ s2 ⟨rfl, rfl, hM, hS1⟩ -
          refine V_one ?_
          have hS := hS.trans hS1
          refine V_goto (tgt := 58) dM_act_35 rfl ?_
          refine V_iret dM_act_58 rfl rfl ?_
          have e1 : q_act M e 0 x = (actV 2 0 x (nI (cN e)) (gi M 79 (cN e)), actM 2 0 (si M 76 57 0)) := by
            unfold q_act
            rw [if_pos ⟨hb7, hb17⟩, hkv]
            rfl
          rw [e1, ← (rng_N hb7 (sm9 hI0)).1]
          exact ⟨rfl, rfl, hM, hS⟩
        | 3, _, hkk, hkv =>
          refine V_iload_n dM_act_25 rfl ?_
          refine V_if_ne (tgt := 38) dM_act_26 rfl (fun h => absurd h (by decide)) (fun _ => ?_)
          refine V_aload_n dM_act_29 rfl ?_
          refine V_iload_n dM_act_30 rfl ?_
          refine V_iload_n dM_act_31 rfl ?_
          refine V_callV (as := [.int e, .int x]) (rest := []) (bs' := 0) rfl dM_act_32 cmM_sealsAct cvM_sealsAct mlM_362 (Or.inl ⟨_, _, _, _, _, rfl, k76, by decide, rfl⟩) rfl rfl (m_sealsAct_3_0 hM h8 (rng_N hb7 (sm9 hI0)).1 hkv rfl rfl x) (by decide) (Nat.le_refl _) (by decide) (Nat.le_of_ble_eq_true rfl) ?_
          rintro _ _ s2 ⟨rfl, rfl, hM, hS1⟩ -
          refine V_one ?_
          have hS := hS.trans hS1
          refine V_goto (tgt := 58) dM_act_35 rfl ?_
          refine V_iret dM_act_58 rfl rfl ?_
          have e1 : q_act M e 0 x = (actV 3 0 x (nI (cN e)) (gi M 79 (cN e)), actM 3 0 (si M 76 57 0)) := by
            unfold q_act
            rw [if_pos ⟨hb7, hb17⟩, hkv]
            rfl
          rw [e1, ← (rng_N hb7 (sm9 hI0)).1]
          exact ⟨rfl, rfl, hM, hS⟩
        | 4, _, hkk, hkv =>
          refine V_iload_n dM_act_25 rfl ?_
          refine V_if_ne (tgt := 38) dM_act_26 rfl (fun h => absurd h (by decide)) (fun _ => ?_)
          refine V_aload_n dM_act_29 rfl ?_
          refine V_iload_n dM_act_30 rfl ?_
          refine V_iload_n dM_act_31 rfl ?_
          refine V_callV (as := [.int e, .int x]) (rest := []) (bs' := 0) rfl dM_act_32 cmM_sealsAct cvM_sealsAct mlM_362 (Or.inl ⟨_, _, _, _, _, rfl, k76, by decide, rfl⟩) rfl rfl (m_sealsAct_4_0 hM h8 (rng_N hb7 (sm9 hI0)).1 hkv rfl rfl x) (by decide) (Nat.le_refl _) (by decide) (Nat.le_of_ble_eq_true rfl) ?_
          rintro _ _ s2 ⟨rfl, rfl, hM, hS1⟩ -
          refine V_one ?_
          have hS := hS.trans hS1
          refine V_goto (tgt := 58) dM_act_35 rfl ?_
          refine V_iret dM_act_58 rfl rfl ?_
          have e1 : q_act M e 0 x = (actV 4 0 x (nI (cN e)) (gi M 79 (cN e)), actM 4 0 (si M 76 57 0)) := by
            unfold q_act
            rw [if_pos ⟨hb7, hb17⟩, hkv]
            rfl
          rw [e1, ← (rng_N hb7 (sm9 hI0)).1]
          exact ⟨rfl, rfl, hM, hS⟩
        | 5, _, hkk, hkv =>
          refine V_iload_n dM_act_25 rfl ?_
          refine V_if_ne (tgt := 38) dM_act_26 rfl (fun h => absurd h (by decide)) (fun _ => ?_)
          refine V_aload_n dM_act_29 rfl ?_
          refine V_iload_n dM_act_30 rfl ?_
          refine V_iload_n dM_act_31 rfl ?_
          refine V_callV (as := [.int e, .int x]) (rest := []) (bs' := 0) rfl dM_act_32 cmM_sealsAct cvM_sealsAct mlM_362 (Or.inl ⟨_, _, _, _, _, rfl, k76, by decide, rfl⟩) rfl rfl (m_sealsAct_5_0 hM h8 (rng_N hb7 (sm9 hI0)).1 hkv rfl rfl x) (by decide) (Nat.le_refl _) (by decide) (Nat.le_of_ble_eq_true rfl) ?_
          rintro _ _ s2 ⟨rfl, rfl, hM, hS1⟩ -
          refine V_one ?_
          have hS := hS.trans hS1
          refine V_goto (tgt := 58) dM_act_35 rfl ?_
          refine V_iret dM_act_58 rfl rfl ?_
          have e1 : q_act M e 0 x = (actV 5 0 x (nI (cN e)) (gi M 79 (cN e)), actM 5 0 (si M 76 57 0)) := by
            unfold q_act
            rw [if_pos ⟨hb7, hb17⟩, hkv]
            rfl
          rw [e1, ← (rng_N hb7 (sm9 hI0)).1]
          exact ⟨rfl, rfl, hM, hS⟩
        | 6, _, hkk, hkv =>
          refine V_iload_n dM_act_25 rfl ?_
          refine V_if_ne (tgt := 38) dM_act_26 rfl (fun h => absurd h (by decide)) (fun _ => ?_)
          refine V_aload_n dM_act_29 rfl ?_
          refine V_iload_n dM_act_30 rfl ?_
          refine V_iload_n dM_act_31 rfl ?_
          refine V_callV (as := [.int e, .int x]) (rest := []) (bs' := 0) rfl dM_act_32 cmM_sealsAct cvM_sealsAct mlM_362 (Or.inl ⟨_, _, _, _, _, rfl, k76, by decide, rfl⟩) rfl rfl (m_sealsAct_6_0 hM h8 (rng_N hb7 (sm9 hI0)).1 hkv rfl rfl x) (by decide) (Nat.le_refl _) (by decide) (Nat.le_of_ble_eq_true rfl) ?_
          rintro _ _ s2 ⟨rfl, rfl, hM, hS1⟩ -
          refine V_one ?_
          have hS := hS.trans hS1
          refine V_goto (tgt := 58) dM_act_35 rfl ?_
          refine V_iret dM_act_58 rfl rfl ?_
          have e1 : q_act M e 0 x = (actV 6 0 x (nI (cN e)) (gi M 79 (cN e)), actM 6 0 (si M 76 57 0)) := by
            unfold q_act
            rw [if_pos ⟨hb7, hb17⟩, hkv]
            rfl
          rw [e1, ← (rng_N hb7 (sm9 hI0)).1]
          exact ⟨rfl, rfl, hM, hS⟩
      · match k, hk7, hkk, hkv with
        | 0, _, hkk, hkv =>
          refine V_iload_n dM_act_25 rfl ?_
          refine V_if_ne (tgt := 38) dM_act_26 rfl (fun _ => ?_) (fun h => absurd h (by decide))
          refine V_iload_n dM_act_38 rfl ?_
          refine V_iconst (v := 1) dM_act_39 (by decide) ?_
          refine V_icmp_ne (tgt := 52) dM_act_40 rfl (fun h => absurd h (by decide)) (fun _ => ?_)
          refine V_aload_n dM_act_43 rfl ?_
          refine V_iload_n dM_act_44 rfl ?_
          refine V_iload_n dM_act_45 rfl ?_
          refine V_callV (as := [.int e, .int x]) (rest := []) (bs' := 0) rfl dM_act_46 cmM_paysAct cvM_paysAct mlM_371 (Or.inl ⟨_, _, _, _, _, rfl, k76, by decide, rfl⟩) rfl rfl (m_paysAct_0_0 hM h8 (rng_N hb7 (sm9 hI0)).1 hkv rfl rfl x) (by decide) (Nat.le_refl _) (by decide) (Nat.le_of_ble_eq_true rfl) ?_
          rintro _ _ s2 ⟨rfl, rfl, hM, hS1⟩ -
          refine V_one ?_
          have hS := hS.trans hS1
          refine V_goto (tgt := 58) dM_act_49 rfl ?_
          refine V_iret dM_act_58 rfl rfl ?_
          have e1 : q_act M e 1 x = (actV 0 1 x (nI (cN e)) (gi M 79 (cN e)), actM 0 1 (si M 76 57 0)) := by
            unfold q_act
            rw [if_pos ⟨hb7, hb17⟩, hkv]
            rfl
          rw [e1, ← (rng_N hb7 (sm9 hI0)).1]
          exact ⟨rfl, rfl, hM, hS⟩
        | 1, _, hkk, hkv =>
          refine V_iload_n dM_act_25 rfl ?_
          refine V_if_ne (tgt := 38) dM_act_26 rfl (fun _ => ?_) (fun h => absurd h (by decide))
          refine V_iload_n dM_act_38 rfl ?_
          refine V_iconst (v := 1) dM_act_39 (by decide) ?_
          refine V_icmp_ne (tgt := 52) dM_act_40 rfl (fun h => absurd h (by decide)) (fun _ => ?_)
          refine V_aload_n dM_act_43 rfl ?_
          refine V_iload_n dM_act_44 rfl ?_
          refine V_iload_n dM_act_45 rfl ?_
          refine V_callV (as := [.int e, .int x]) (rest := []) (bs' := 0) rfl dM_act_46 cmM_paysAct cvM_paysAct mlM_371 (Or.inl ⟨_, _, _, _, _, rfl, k76, by decide, rfl⟩) rfl rfl (m_paysAct_1_0 hM h8 (rng_N hb7 (sm9 hI0)).1 hkv rfl rfl x) (by decide) (Nat.le_refl _) (by decide) (Nat.le_of_ble_eq_true rfl) ?_
          rintro _ _ s2 ⟨rfl, rfl, hM, hS1⟩ -
          refine V_one ?_
          have hS := hS.trans hS1
          refine V_goto (tgt := 58) dM_act_49 rfl ?_
          refine V_iret dM_act_58 rfl rfl ?_
          have e1 : q_act M e 1 x = (actV 1 1 x (nI (cN e)) (gi M 79 (cN e)), actM 1 1 (si M 76 57 0)) := by
            unfold q_act
            rw [if_pos ⟨hb7, hb17⟩, hkv]
            rfl
          rw [e1, ← (rng_N hb7 (sm9 hI0)).1]
          exact ⟨rfl, rfl, hM, hS⟩
        | 2, _, hkk, hkv =>
          refine V_iload_n dM_act_25 rfl ?_
          refine V_if_ne (tgt := 38) dM_act_26 rfl (fun _ => ?_) (fun h => absurd h (by decide))
          refine V_iload_n dM_act_38 rfl ?_
          refine V_iconst (v := 1) dM_act_39 (by decide) ?_
          refine V_icmp_ne (tgt := 52) dM_act_40 rfl (fun h => absurd h (by decide)) (fun _ => ?_)
          refine V_aload_n dM_act_43 rfl ?_
          refine V_iload_n dM_act_44 rfl ?_
          refine V_iload_n dM_act_45 rfl ?_
          refine V_callV (as := [.int e, .int x]) (rest := []) (bs' := 0) rfl dM_act_46 cmM_paysAct cvM_paysAct mlM_371 (Or.inl ⟨_, _, _, _, _, rfl, k76, by decide, rfl⟩) rfl rfl (m_paysAct_2_0 hM h8 (rng_N hb7 (sm9 hI0)).1 hkv rfl rfl x) (by decide) (Nat.le_refl _) (by decide) (Nat.le_of_ble_eq_true rfl) ?_
          rintro _ _ s2 ⟨rfl, rfl, hM, hS1⟩ -
          refine V_one ?_
          have hS := hS.trans hS1
          refine V_goto (tgt := 58) dM_act_49 rfl ?_
          refine V_iret dM_act_58 rfl rfl ?_
          have e1 : q_act M e 1 x = (actV 2 1 x (nI (cN e)) (gi M 79 (cN e)), actM 2 1 (si M 76 57 0)) := by
            unfold q_act
            rw [if_pos ⟨hb7, hb17⟩, hkv]
            rfl
          rw [e1, ← (rng_N hb7 (sm9 hI0)).1]
          exact ⟨rfl, rfl, hM, hS⟩
        | 3, _, hkk, hkv =>
          refine V_iload_n dM_act_25 rfl ?_
          refine V_if_ne (tgt := 38) dM_act_26 rfl (fun _ => ?_) (fun h => absurd h (by decide))
          refine V_iload_n dM_act_38 rfl ?_
          refine V_iconst (v := 1) dM_act_39 (by decide) ?_
          refine V_icmp_ne (tgt := 52) dM_act_40 rfl (fun h => absurd h (by decide)) (fun _ => ?_)
          refine V_aload_n dM_act_43 rfl ?_
          refine V_iload_n dM_act_44 rfl ?_
          refine V_iload_n dM_act_45 rfl ?_
          refine V_callV (as := [.int e, .int x]) (rest := []) (bs' := 0) rfl dM_act_46 cmM_paysAct cvM_paysAct mlM_371 (Or.inl ⟨_, _, _, _, _, rfl, k76, by decide, rfl⟩) rfl rfl (m_paysAct_3_0 hM h8 (rng_N hb7 (sm9 hI0)).1 hkv rfl rfl x) (by decide) (Nat.le_refl _) (by decide) (Nat.le_of_ble_eq_true rfl) ?_
          rintro _ _ s2 ⟨rfl, rfl, hM, hS1⟩ -
          refine V_one ?_
          have hS := hS.trans hS1
          refine V_goto (tgt := 58) dM_act_49 rfl ?_
          refine V_iret dM_act_58 rfl rfl ?_
          have e1 : q_act M e 1 x = (actV 3 1 x (nI (cN e)) (gi M 79 (cN e)), actM 3 1 (si M 76 57 0)) := by
            unfold q_act
            rw [if_pos ⟨hb7, hb17⟩, hkv]
            rfl
          rw [e1, ← (rng_N hb7 (sm9 hI0)).1]
          exact ⟨rfl, rfl, hM, hS⟩
        | 4, _, hkk, hkv =>
          refine V_iload_n dM_act_25 rfl ?_
          refine V_if_ne (tgt := 38) dM_act_26 rfl (fun _ => ?_) (fun h => absurd h (by decide))
          refine V_iload_n dM_act_38 rfl ?_
          refine V_iconst (v := 1) dM_act_39 (by decide) ?_
          refine V_icmp_ne (tgt := 52) dM_act_40 rfl (fun h => absurd h (by decide)) (fun _ => ?_)
          refine V_aload_n dM_act_43 rfl ?_
          refine V_iload_n dM_act_44 rfl ?_
          refine V_iload_n dM_act_45 rfl ?_
          refine V_callV (as := [.int e, .int x]) (rest := []) (bs' := 0) rfl dM_act_46 cmM_paysAct cvM_paysAct mlM_371 (Or.inl ⟨_, _, _, _, _, rfl, k76, by decide, rfl⟩) rfl rfl (m_paysAct_4_0 hM h8 (rng_N hb7 (sm9 hI0)).1 hkv rfl rfl x) (by decide) (Nat.le_refl _) (by decide) (Nat.le_of_ble_eq_true rfl) ?_
          rintro _ _ s2 ⟨rfl, rfl, hM, hS1⟩ -
          refine V_one ?_
          have hS := hS.trans hS1
          refine V_goto (tgt := 58) dM_act_49 rfl ?_
          refine V_iret dM_act_58 rfl rfl ?_
          have e1 : q_act M e 1 x = (actV 4 1 x (nI (cN e)) (gi M 79 (cN e)), actM 4 1 (si M 76 57 0)) := by
            unfold q_act
            rw [if_pos ⟨hb7, hb17⟩, hkv]
            rfl
          rw [e1, ← (rng_N hb7 (sm9 hI0)).1]
          exact ⟨rfl, rfl, hM, hS⟩
        | 5, _, hkk, hkv =>
          refine V_iload_n dM_act_25 rfl ?_
          refine V_if_ne (tgt := 38) dM_act_26 rfl (fun _ => ?_) (fun h => absurd h (by decide))
          refine V_iload_n dM_act_38 rfl ?_
          refine V_iconst (v := 1) dM_act_39 (by decide) ?_
          refine V_icmp_ne (tgt := 52) dM_act_40 rfl (fun h => absurd h (by decide)) (fun _ => ?_)
          refine V_aload_n dM_act_43 rfl ?_
          refine V_iload_n dM_act_44 rfl ?_
          refine V_iload_n dM_act_45 rfl ?_
          refine V_callV (as := [.int e, .int x]) (rest := []) (bs' := 0) rfl dM_act_46 cmM_paysAct cvM_paysAct mlM_371 (Or.inl ⟨_, _, _, _, _, rfl, k76, by decide, rfl⟩) rfl rfl (m_paysAct_5_0 hM h8 (rng_N hb7 (sm9 hI0)).1 hkv rfl rfl x) (by decide) (Nat.le_refl _) (by decide) (Nat.le_of_ble_eq_true rfl) ?_
          rintro _ _ s2 ⟨rfl, rfl, hM, hS1⟩ -
          refine V_one ?_
          have hS := hS.trans hS1
          refine V_goto (tgt := 58) dM_act_49 rfl ?_
          refine V_iret dM_act_58 rfl rfl ?_
          have e1 : q_act M e 1 x = (actV 5 1 x (nI (cN e)) (gi M 79 (cN e)), actM 5 1 (si M 76 57 0)) := by
            unfold q_act
            rw [if_pos ⟨hb7, hb17⟩, hkv]
            rfl
          rw [e1, ← (rng_N hb7 (sm9 hI0)).1]
          exact ⟨rfl, rfl, hM, hS⟩
        | 6, _, hkk, hkv =>
          refine V_iload_n dM_act_25 rfl ?_
          refine V_if_ne (tgt := 38) dM_act_26 rfl (fun _ => ?_) (fun h => absurd h (by decide))
          refine V_iload_n dM_act_38 rfl ?_
          refine V_iconst (v := 1) dM_act_39 (by decide) ?_
          refine V_icmp_ne (tgt := 52) dM_act_40 rfl (fun h => absurd h (by decide)) (fun _ => ?_)
          refine V_aload_n dM_act_43 rfl ?_
          refine V_iload_n dM_act_44 rfl ?_
          refine V_iload_n dM_act_45 rfl ?_
          refine V_callV (as := [.int e, .int x]) (rest := []) (bs' := 0) rfl dM_act_46 cmM_paysAct cvM_paysAct mlM_371 (Or.inl ⟨_, _, _, _, _, rfl, k76, by decide, rfl⟩) rfl rfl (m_paysAct_6_0 hM h8 (rng_N hb7 (sm9 hI0)).1 hkv rfl rfl x) (by decide) (Nat.le_refl _) (by decide) (Nat.le_of_ble_eq_true rfl) ?_
          rintro _ _ s2 ⟨rfl, rfl, hM, hS1⟩ -
          refine V_one ?_
          have hS := hS.trans hS1
          refine V_goto (tgt := 58) dM_act_49 rfl ?_
          refine V_iret dM_act_58 rfl rfl ?_
          have e1 : q_act M e 1 x = (actV 6 1 x (nI (cN e)) (gi M 79 (cN e)), actM 6 1 (si M 76 57 0)) := by
            unfold q_act
            rw [if_pos ⟨hb7, hb17⟩, hkv]
            rfl
          rw [e1, ← (rng_N hb7 (sm9 hI0)).1]
          exact ⟨rfl, rfl, hM, hS⟩
      · match k, hk7, hkk, hkv with
        | 0, _, hkk, hkv =>
          refine V_iload_n dM_act_25 rfl ?_
          refine V_if_ne (tgt := 38) dM_act_26 rfl (fun _ => ?_) (fun h => absurd h (by decide))
          refine V_iload_n dM_act_38 rfl ?_
          refine V_iconst (v := 1) dM_act_39 (by decide) ?_
          refine V_icmp_ne (tgt := 52) dM_act_40 rfl (fun _ => ?_) (fun h => absurd h (by decide))
          refine V_aload_n dM_act_52 rfl ?_
          refine V_iload_n dM_act_53 rfl ?_
          refine V_iload_n dM_act_54 rfl ?_
          refine V_callV (as := [.int e, .int x]) (rest := []) (bs' := 0) rfl dM_act_55 cmM_tellsAct cvM_tellsAct mlM_377 (Or.inl ⟨_, _, _, _, _, rfl, k76, by decide, rfl⟩) rfl rfl (m_tellsAct_0_0 hM h8 (rng_N hb7 (sm9 hI0)).1 hkv rfl rfl x) (by decide) (Nat.le_refl _) (by decide) (Nat.le_of_ble_eq_true rfl) ?_
          rintro _ _ s2 ⟨rfl, rfl, hM, hS1⟩ -
          refine V_one ?_
          have hS := hS.trans hS1
          refine V_iret dM_act_58 rfl rfl ?_
          have e1 : q_act M e 2 x = (actV 0 2 x (nI (cN e)) (gi M 79 (cN e)), actM 0 2 (si M 76 57 0)) := by
            unfold q_act
            rw [if_pos ⟨hb7, hb17⟩, hkv]
            rfl
          rw [e1, ← (rng_N hb7 (sm9 hI0)).1]
          exact ⟨rfl, rfl, hM, hS⟩
        | 1, _, hkk, hkv =>
          refine V_iload_n dM_act_25 rfl ?_
          refine V_if_ne (tgt := 38) dM_act_26 rfl (fun _ => ?_) (fun h => absurd h (by decide))
          refine V_iload_n dM_act_38 rfl ?_
          refine V_iconst (v := 1) dM_act_39 (by decide) ?_
          refine V_icmp_ne (tgt := 52) dM_act_40 rfl (fun _ => ?_) (fun h => absurd h (by decide))
          refine V_aload_n dM_act_52 rfl ?_
          refine V_iload_n dM_act_53 rfl ?_
          refine V_iload_n dM_act_54 rfl ?_
          refine V_callV (as := [.int e, .int x]) (rest := []) (bs' := 0) rfl dM_act_55 cmM_tellsAct cvM_tellsAct mlM_377 (Or.inl ⟨_, _, _, _, _, rfl, k76, by decide, rfl⟩) rfl rfl (m_tellsAct_1_0 hM h8 (rng_N hb7 (sm9 hI0)).1 hkv rfl rfl x) (by decide) (Nat.le_refl _) (by decide) (Nat.le_of_ble_eq_true rfl) ?_
          rintro _ _ s2 ⟨rfl, rfl, hM, hS1⟩ -
          refine V_one ?_
          have hS := hS.trans hS1
          refine V_iret dM_act_58 rfl rfl ?_
          have e1 : q_act M e 2 x = (actV 1 2 x (nI (cN e)) (gi M 79 (cN e)), actM 1 2 (si M 76 57 0)) := by
            unfold q_act
            rw [if_pos ⟨hb7, hb17⟩, hkv]
            rfl
          rw [e1, ← (rng_N hb7 (sm9 hI0)).1]
          exact ⟨rfl, rfl, hM, hS⟩
        | 2, _, hkk, hkv =>
          refine V_iload_n dM_act_25 rfl ?_
          refine V_if_ne (tgt := 38) dM_act_26 rfl (fun _ => ?_) (fun h => absurd h (by decide))
          refine V_iload_n dM_act_38 rfl ?_
          refine V_iconst (v := 1) dM_act_39 (by decide) ?_
          refine V_icmp_ne (tgt := 52) dM_act_40 rfl (fun _ => ?_) (fun h => absurd h (by decide))
          refine V_aload_n dM_act_52 rfl ?_
          refine V_iload_n dM_act_53 rfl ?_
          refine V_iload_n dM_act_54 rfl ?_
          refine V_callV (as := [.int e, .int x]) (rest := []) (bs' := 0) rfl dM_act_55 cmM_tellsAct cvM_tellsAct mlM_377 (Or.inl ⟨_, _, _, _, _, rfl, k76, by decide, rfl⟩) rfl rfl (m_tellsAct_2_0 hM h8 (rng_N hb7 (sm9 hI0)).1 hkv rfl rfl x) (by decide) (Nat.le_refl _) (by decide) (Nat.le_of_ble_eq_true rfl) ?_
          rintro _ _ s2 ⟨rfl, rfl, hM, hS1⟩ -
          refine V_one ?_
          have hS := hS.trans hS1
          refine V_iret dM_act_58 rfl rfl ?_
          have e1 : q_act M e 2 x = (actV 2 2 x (nI (cN e)) (gi M 79 (cN e)), actM 2 2 (si M 76 57 0)) := by
            unfold q_act
            rw [if_pos ⟨hb7, hb17⟩, hkv]
            rfl
          rw [e1, ← (rng_N hb7 (sm9 hI0)).1]
          exact ⟨rfl, rfl, hM, hS⟩
        | 3, _, hkk, hkv =>
          refine V_iload_n dM_act_25 rfl ?_
          refine V_if_ne (tgt := 38) dM_act_26 rfl (fun _ => ?_) (fun h => absurd h (by decide))
          refine V_iload_n dM_act_38 rfl ?_
          refine V_iconst (v := 1) dM_act_39 (by decide) ?_
          refine V_icmp_ne (tgt := 52) dM_act_40 rfl (fun _ => ?_) (fun h => absurd h (by decide))
          refine V_aload_n dM_act_52 rfl ?_
          refine V_iload_n dM_act_53 rfl ?_
          refine V_iload_n dM_act_54 rfl ?_
          refine V_callV (as := [.int e, .int x]) (rest := []) (bs' := 0) rfl dM_act_55 cmM_tellsAct cvM_tellsAct mlM_377 (Or.inl ⟨_, _, _, _, _, rfl, k76, by decide, rfl⟩) rfl rfl (m_tellsAct_3_0 hM h8 (rng_N hb7 (sm9 hI0)).1 hkv rfl rfl x) (by decide) (Nat.le_refl _) (by decide) (Nat.le_of_ble_eq_true rfl) ?_
          rintro _ _ s2 ⟨rfl, rfl, hM, hS1⟩ -
          refine V_one ?_
          have hS := hS.trans hS1
          refine V_iret dM_act_58 rfl rfl ?_
          have e1 : q_act M e 2 x = (actV 3 2 x (nI (cN e)) (gi M 79 (cN e)), actM 3 2 (si M 76 57 0)) := by
            unfold q_act
            rw [if_pos ⟨hb7, hb17⟩, hkv]
            rfl
          rw [e1, ← (rng_N hb7 (sm9 hI0)).1]
          exact ⟨rfl, rfl, hM, hS⟩
        | 4, _, hkk, hkv =>
          refine V_iload_n dM_act_25 rfl ?_
          refine V_if_ne (tgt := 38) dM_act_26 rfl (fun _ => ?_) (fun h => absurd h (by decide))
          refine V_iload_n dM_act_38 rfl ?_
          refine V_iconst (v := 1) dM_act_39 (by decide) ?_
          refine V_icmp_ne (tgt := 52) dM_act_40 rfl (fun _ => ?_) (fun h => absurd h (by decide))
          refine V_aload_n dM_act_52 rfl ?_
          refine V_iload_n dM_act_53 rfl ?_
          refine V_iload_n dM_act_54 rfl ?_
          refine V_callV (as := [.int e, .int x]) (rest := []) (bs' := 0) rfl dM_act_55 cmM_tellsAct cvM_tellsAct mlM_377 (Or.inl ⟨_, _, _, _, _, rfl, k76, by decide, rfl⟩) rfl rfl (m_tellsAct_4_0 hM h8 (rng_N hb7 (sm9 hI0)).1 hkv rfl rfl x) (by decide) (Nat.le_refl _) (by decide) (Nat.le_of_ble_eq_true rfl) ?_
          rintro _ _ s2 ⟨rfl, rfl, hM, hS1⟩ -
          refine V_one ?_
          have hS := hS.trans hS1
          refine V_iret dM_act_58 rfl rfl ?_
          have e1 : q_act M e 2 x = (actV 4 2 x (nI (cN e)) (gi M 79 (cN e)), actM 4 2 (si M 76 57 0)) := by
            unfold q_act
            rw [if_pos ⟨hb7, hb17⟩, hkv]
            rfl
          rw [e1, ← (rng_N hb7 (sm9 hI0)).1]
          exact ⟨rfl, rfl, hM, hS⟩
        | 5, _, hkk, hkv =>
          refine V_iload_n dM_act_25 rfl ?_
          refine V_if_ne (tgt := 38) dM_act_26 rfl (fun _ => ?_) (fun h => absurd h (by decide))
          refine V_iload_n dM_act_38 rfl ?_
          refine V_iconst (v := 1) dM_act_39 (by decide) ?_
          refine V_icmp_ne (tgt := 52) dM_act_40 rfl (fun _ => ?_) (fun h => absurd h (by decide))
          refine V_aload_n dM_act_52 rfl ?_
          refine V_iload_n dM_act_53 rfl ?_
          refine V_iload_n dM_act_54 rfl ?_
          refine V_callV (as := [.int e, .int x]) (rest := []) (bs' := 0) rfl dM_act_55 cmM_tellsAct cvM_tellsAct mlM_377 (Or.inl ⟨_, _, _, _, _, rfl, k76, by decide, rfl⟩) rfl rfl (m_tellsAct_5_0 hM h8 (rng_N hb7 (sm9 hI0)).1 hkv rfl rfl x) (by decide) (Nat.le_refl _) (by decide) (Nat.le_of_ble_eq_true rfl) ?_
          rintro _ _ s2 ⟨rfl, rfl, hM, hS1⟩ -
          refine V_one ?_
          have hS := hS.trans hS1
          refine V_iret dM_act_58 rfl rfl ?_
          have e1 : q_act M e 2 x = (actV 5 2 x (nI (cN e)) (gi M 79 (cN e)), actM 5 2 (si M 76 57 0)) := by
            unfold q_act
            rw [if_pos ⟨hb7, hb17⟩, hkv]
            rfl
          rw [e1, ← (rng_N hb7 (sm9 hI0)).1]
          exact ⟨rfl, rfl, hM, hS⟩
        | 6, _, hkk, hkv =>
          refine V_iload_n dM_act_25 rfl ?_
          refine V_if_ne (tgt := 38) dM_act_26 rfl (fun _ => ?_) (fun h => absurd h (by decide))
          refine V_iload_n dM_act_38 rfl ?_
          refine V_iconst (v := 1) dM_act_39 (by decide) ?_
          refine V_icmp_ne (tgt := 52) dM_act_40 rfl (fun _ => ?_) (fun h => absurd h (by decide))
          refine V_aload_n dM_act_52 rfl ?_
          refine V_iload_n dM_act_53 rfl ?_
          refine V_iload_n dM_act_54 rfl ?_
          refine V_callV (as := [.int e, .int x]) (rest := []) (bs' := 0) rfl dM_act_55 cmM_tellsAct cvM_tellsAct mlM_377 (Or.inl ⟨_, _, _, _, _, rfl, k76, by decide, rfl⟩) rfl rfl (m_tellsAct_6_0 hM h8 (rng_N hb7 (sm9 hI0)).1 hkv rfl rfl x) (by decide) (Nat.le_refl _) (by decide) (Nat.le_of_ble_eq_true rfl) ?_
          rintro _ _ s2 ⟨rfl, rfl, hM, hS1⟩ -
          refine V_one ?_
          have hS := hS.trans hS1
          refine V_iret dM_act_58 rfl rfl ?_
          have e1 : q_act M e 2 x = (actV 6 2 x (nI (cN e)) (gi M 79 (cN e)), actM 6 2 (si M 76 57 0)) := by
            unfold q_act
            rw [if_pos ⟨hb7, hb17⟩, hkv]
            rfl
          rw [e1, ← (rng_N hb7 (sm9 hI0)).1]
          exact ⟨rfl, rfl, hM, hS⟩
    · refine V_one ?_
      refine V_if_ne (tgt := 25) dM_act_20 rfl (fun h => absurd h (by decide)) (fun _ => ?_)
      refine V_iconst (v := 0) dM_act_23 (by decide) ?_
      refine V_iret dM_act_24 rfl rfl ?_
      rw [show q_act M e a x = (0, si M 76 57 0) from if_neg (fun q => hb17 q.2)]
      exact ⟨rfl, rfl, hM, hS⟩
  · refine V_one ?_
    refine V_if_eq (tgt := 23) dM_act_10 rfl (fun _ => ?_) (fun h => absurd h (by decide))
    refine V_iconst (v := 0) dM_act_23 (by decide) ?_
    refine V_iret dM_act_24 rfl rfl ?_
    rw [show q_act M e a x = (0, si M 76 57 0) from if_neg (fun q => hb7 q.1)]
    exact ⟨rfl, rfl, hM, hS⟩
