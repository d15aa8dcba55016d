/-! the reader of the second object: words, clauses-/
def ltL : List Nat := [109, 111, 114, 101, 116, 97, 120, 98, 97, 115, 101]
def LT (s : Hp) : Prop := ∀ j : Nat, j < 11 → gi s 92 j = nI (ltL.getD j 0)
theorem LT.s1 {s : Hp} {a b : Nat} {x : Int32} (h : LT s) (ha : a ≠ 92) : LT (si s a b x) := fun j hj => (gi_ne (Ne.symm ha)).trans (h j hj)
theorem LT.fq {P : Nat → Nat → Prop} {s t : Hp} (h : LT s) (hF : Fq P s t) (hP : ∀ j, ¬ P 92 j) : LT t := fun j hj => (hF.1 92 j (hP j)).trans (h j hj)
theorem TY.fq {P : Nat → Nat → Prop} {s t : Hp} {n : Nat} {ch : Nat → Nat} (h : TY s n ch) (hF : Fq P s t) (h1 : ¬ P 76 13) (h2 : ∀ j, ¬ P 84 j) : TY t n ch := ⟨h.1, (hF.1 _ _ h1).trans h.2.1, fun q hq => ⟨(hF.1 _ _ (h2 q)).trans (h.2.2.1 q hq).1, (h.2.2.1 q hq).2⟩, h.2.2.2⟩
theorem S0.fq {P : Nat → Nat → Prop} {s t : Hp} {f n p q : Nat} {ch : Nat → Nat} {E : List Nat} (h : S0 s f n ch p E) (hF : Fq P s t) (h1 : ¬ P 76 13) (h2 : ∀ j, ¬ P 84 j) (h3 : ¬ P 76 24) (h4 : ∀ j, ¬ P 90 j) (h14 : gi t 76 14 = nI q) (hq : q ≤ n) : S0 t f n ch q E := ⟨h.1.fq hF h1 h2, hq, h14, (hF.1 _ _ h3).trans h.2.2.2.1, fun j op hj => (hF.1 _ _ (h4 _)).trans (h.2.2.2.2 j op hj)⟩
/-- a clause's head -/
def NH (c k j : Nat) : Prop := N15 k j ∨ ((k = 86 ∨ k = 87) ∧ j = c)
def FC (f c k j : Nat) : Prop := FQ f c k j ∨ ((k = 86 ∨ k = 87) ∧ j = c)
theorem NH.q {f c : Nat} : ∀ k j, NH c k j → FC f c k j := fun k j h => by
  unfold NH N15 at h
  unfold FC FQ
  omega
theorem FQ.q {f c : Nat} : ∀ k j, FQ f c k j → FC f c k j := fun _ _ h => Or.inl h
theorem N15.nh {c : Nat} : ∀ k j, N15 k j → NH c k j := fun _ _ h => Or.inl h
theorem run_any {ch : Nat → Nat} {n q : Nat} {E : List Nat} (hch : ∀ q, n ≤ q → ch q = 255) (h100 : n ≤ 100) (h1 : 1 ≤ q) (hq : q ≤ n) : ((anK ch 4 q).1 = true → rnE ch 101 true q [] E = (true, (anK ch 4 q).2.1, E ++ (anK ch 4 q).2.2.2)) ∧ ((anK ch 4 q).1 = false → (rnE ch 101 true q [] E).1 = false ∧ (rnE ch 101 true q [] E).2.1 = (anK ch 4 q).2.1) := by
  have h := any_run hch h100 5 4 (by decide) q 101 [] E trivial rfl h1 hq (by omega)
  have e : anyP ch 5 4 q = anK ch 4 q := rfl
  rw [e] at h
  constructor
  · intro ha
    rw [if_pos ha] at h
    obtain ⟨m', k1, k2⟩ := h
    exact k2
  · intro ha
    rw [if_neg (by rw [ha]; decide)] at h
    exact h
theorem m_word0 {l : Launch} {G : GT} {ch : Nat → Nat} {s : Hp} {n p : Nat} (hR : RF s) (hT : TY s n ch) (hp : gi s 76 14 = nI p) (hle : p ≤ n) (hL : LT s) : MM l G mM_takesWord 2 0 0 [.ref 76, .int 7, .int 4] KA s (fun r k t => ((wdP ch (wdL.getD 0 []) p).1 = true ∧ r = some (.int 1) ∧ KA = k ∧ Fq N15 s t ∧ gi t 76 14 = nI (wdP ch (wdL.getD 0 []) p).2) ∨ ((wdP ch (wdL.getD 0 []) p).1 = false ∧ r = some (.int 0) ∧ KA = k ∧ Fq N15 s t ∧ gi t 76 14 = nI (wdP ch (wdL.getD 0 []) p).2)) := by
  refine MM.of (loc := [(0, .ref 76), (1, .int 7), (2, .int 4)]) (by decide +kernel) rfl (Nat.le_of_ble_eq_true rfl) ?_
  have hR0 := hR
  have hF : Fq N15 s s := Fq.rfl
  refine V_iconst (v := 0) dM_takesWord_0 (by decide) ?_
  refine V_istore_n (loc' := [(3, .int 0), (0, .ref 76), (1, .int 7), (2, .int 4)]) dM_takesWord_1 (by decide) rfl ?_
  refine V_iload_n dM_takesWord_2 rfl ?_
  refine V_iload_n dM_takesWord_3 rfl ?_
  refine V_icmp_ge (tgt := 30) dM_takesWord_4 rfl (fun h => absurd h (by decide)) (fun _ => ?_)
  refine V_aload_n dM_takesWord_7 rfl ?_
  refine V_aload_n dM_takesWord_8 rfl ?_
  refine V_getR (a := 92) dM_takesWord_9 flM_92 k76 rfl (r76_27 hR) ?_
  refine V_iload_n dM_takesWord_12 rfl ?_
  refine V_iload_n dM_takesWord_13 rfl ?_
  refine V_iadd dM_takesWord_14 ?_
  refine V_topI (x' := 7) (by decide) ?_
  refine V_ialdN (j := 7) dM_takesWord_15 k92 rfl (by decide) (by decide) ?_
  refine V_topI (x' := nI 98) (hL 7 (by decide)) ?_
  refine V_callV (as := [.int (nI 98)]) (rest := []) (bs' := 0) rfl dM_takesWord_16 cmM_takes cvM_takes mlM_228 (Or.inl ⟨_, _, _, _, _, rfl, k76, by decide, rfl⟩) rfl rfl (m_takes (s := s) hR hT hp hle (c := 98) (by decide)) (by decide) (Nat.le_refl _) (by decide) (Nat.le_of_ble_eq_true rfl) ?_
  rintro _ _ _ (⟨hw0, rfl, rfl, rfl⟩ | ⟨hw0, rfl, rfl, rfl⟩) -
  · refine V_one ?_
    have hlt : p < n := hT.lt (by omega)
    have hT : TY (si s 76 14 (nI (p + 1))) n ch := hT.s1 (by decide) (by decide)
    have hp : gi (si s 76 14 (nI (p + 1))) 76 14 = nI (p + 1) := gi_eq
    have hle : p + 1 ≤ n := hlt
    have hF : Fq N15 s (si s 76 14 (nI (p + 1))) := hF.set (by unfold N15; omega)
    have hF : Fq N15 s (si s 76 14 (nI (p + 1))) := hF
    have hR : RF (si s 76 14 (nI (p + 1))) := hF.rf hR0
    have hL : LT (si s 76 14 (nI (p + 1))) := hL.s1 (by decide)
    refine V_if_ne (tgt := 24) dM_takesWord_19 rfl (fun _ => ?_) (fun h => absurd h (by decide))
    refine V_iinc (v := 1) (loc' := [(3, .int 1), (0, .ref 76), (1, .int 7), (2, .int 4)]) dM_takesWord_24 rfl (by decide) (by decide) rfl ?_
    refine V_goto (tgt := 2) dM_takesWord_27 rfl ?_
    refine V_iload_n dM_takesWord_2 rfl ?_
    refine V_iload_n dM_takesWord_3 rfl ?_
    refine V_icmp_ge (tgt := 30) dM_takesWord_4 rfl (fun h => absurd h (by decide)) (fun _ => ?_)
    refine V_aload_n dM_takesWord_7 rfl ?_
    refine V_aload_n dM_takesWord_8 rfl ?_
    refine V_getR (a := 92) dM_takesWord_9 flM_92 k76 rfl (r76_27 hR) ?_
    refine V_iload_n dM_takesWord_12 rfl ?_
    refine V_iload_n dM_takesWord_13 rfl ?_
    refine V_iadd dM_takesWord_14 ?_
    refine V_topI (x' := 8) (by decide) ?_
    refine V_ialdN (j := 8) dM_takesWord_15 k92 rfl (by decide) (by decide) ?_
    refine V_topI (x' := nI 97) (hL 8 (by decide)) ?_
    refine V_callV (as := [.int (nI 97)]) (rest := []) (bs' := 0) rfl dM_takesWord_16 cmM_takes cvM_takes mlM_228 (Or.inl ⟨_, _, _, _, _, rfl, k76, by decide, rfl⟩) rfl rfl (m_takes (s := si s 76 14 (nI (p + 1))) hR hT hp hle (c := 97) (by decide)) (by decide) (Nat.le_refl _) (by decide) (Nat.le_of_ble_eq_true rfl) ?_
    rintro _ _ _ (⟨hw1, rfl, rfl, rfl⟩ | ⟨hw1, rfl, rfl, rfl⟩) -
    · refine V_one ?_
      have hlt : p + 1 < n := hT.lt (by omega)
      have hT : TY (si (si s 76 14 (nI (p + 1))) 76 14 (nI (p + 1 + 1))) n ch := hT.s1 (by decide) (by decide)
      have hp : gi (si (si s 76 14 (nI (p + 1))) 76 14 (nI (p + 1 + 1))) 76 14 = nI (p + 1 + 1) := gi_eq
      have hle : p + 1 + 1 ≤ n := hlt
      have hF : Fq N15 s (si (si s 76 14 (nI (p + 1))) 76 14 (nI (p + 1 + 1))) := hF.set (by unfold N15; omega)
      have hF : Fq N15 s (si (si s 76 14 (nI (p + 1))) 76 14 (nI (p + 1 + 1))) := hF
      have hR : RF (si (si s 76 14 (nI (p + 1))) 76 14 (nI (p + 1 + 1))) := hF.rf hR0
      have hL : LT (si (si s 76 14 (nI (p + 1))) 76 14 (nI (p + 1 + 1))) := hL.s1 (by decide)
      refine V_if_ne (tgt := 24) dM_takesWord_19 rfl (fun _ => ?_) (fun h => absurd h (by decide))
      refine V_iinc (v := 2) (loc' := [(3, .int 2), (0, .ref 76), (1, .int 7), (2, .int 4)]) dM_takesWord_24 rfl (by decide) (by decide) rfl ?_
      refine V_goto (tgt := 2) dM_takesWord_27 rfl ?_
      refine V_iload_n dM_takesWord_2 rfl ?_
      refine V_iload_n dM_takesWord_3 rfl ?_
      refine V_icmp_ge (tgt := 30) dM_takesWord_4 rfl (fun h => absurd h (by decide)) (fun _ => ?_)
      refine V_aload_n dM_takesWord_7 rfl ?_
      refine V_aload_n dM_takesWord_8 rfl ?_
      refine V_getR (a := 92) dM_takesWord_9 flM_92 k76 rfl (r76_27 hR) ?_
      refine V_iload_n dM_takesWord_12 rfl ?_
      refine V_iload_n dM_takesWord_13 rfl ?_
      refine V_iadd dM_takesWord_14 ?_
      refine V_topI (x' := 9) (by decide) ?_
      refine V_ialdN (j := 9) dM_takesWord_15 k92 rfl (by decide) (by decide) ?_
      refine V_topI (x' := nI 115) (hL 9 (by decide)) ?_
      refine V_callV (as := [.int (nI 115)]) (rest := []) (bs' := 0) rfl dM_takesWord_16 cmM_takes cvM_takes mlM_228 (Or.inl ⟨_, _, _, _, _, rfl, k76, by decide, rfl⟩) rfl rfl (m_takes (s := si (si s 76 14 (nI (p + 1))) 76 14 (nI (p + 1 + 1))) hR hT hp hle (c := 115) (by decide)) (by decide) (Nat.le_refl _) (by decide) (Nat.le_of_ble_eq_true rfl) ?_
      rintro _ _ _ (⟨hw2, rfl, rfl, rfl⟩ | ⟨hw2, rfl, rfl, rfl⟩) -
      · refine V_one ?_
        have hlt : p + 1 + 1 < n := hT.lt (by omega)
        have hT : TY (si (si (si s 76 14 (nI (p + 1))) 76 14 (nI (p + 1 + 1))) 76 14 (nI (p + 1 + 1 + 1))) n ch := hT.s1 (by decide) (by decide)
        have hp : gi (si (si (si s 76 14 (nI (p + 1))) 76 14 (nI (p + 1 + 1))) 76 14 (nI (p + 1 + 1 + 1))) 76 14 = nI (p + 1 + 1 + 1) := gi_eq
        have hle : p + 1 + 1 + 1 ≤ n := hlt
        have hF : Fq N15 s (si (si (si s 76 14 (nI (p + 1))) 76 14 (nI (p + 1 + 1))) 76 14 (nI (p + 1 + 1 + 1))) := hF.set (by unfold N15; omega)
        have hF : Fq N15 s (si (si (si s 76 14 (nI (p + 1))) 76 14 (nI (p + 1 + 1))) 76 14 (nI (p + 1 + 1 + 1))) := hF
        have hR : RF (si (si (si s 76 14 (nI (p + 1))) 76 14 (nI (p + 1 + 1))) 76 14 (nI (p + 1 + 1 + 1))) := hF.rf hR0
        have hL : LT (si (si (si s 76 14 (nI (p + 1))) 76 14 (nI (p + 1 + 1))) 76 14 (nI (p + 1 + 1 + 1))) := hL.s1 (by decide)
        refine V_if_ne (tgt := 24) dM_takesWord_19 rfl (fun _ => ?_) (fun h => absurd h (by decide))
        refine V_iinc (v := 3) (loc' := [(3, .int 3), (0, .ref 76), (1, .int 7), (2, .int 4)]) dM_takesWord_24 rfl (by decide) (by decide) rfl ?_
        refine V_goto (tgt := 2) dM_takesWord_27 rfl ?_
        refine V_iload_n dM_takesWord_2 rfl ?_
        refine V_iload_n dM_takesWord_3 rfl ?_
        refine V_icmp_ge (tgt := 30) dM_takesWord_4 rfl (fun h => absurd h (by decide)) (fun _ => ?_)
        refine V_aload_n dM_takesWord_7 rfl ?_
        refine V_aload_n dM_takesWord_8 rfl ?_
        refine V_getR (a := 92) dM_takesWord_9 flM_92 k76 rfl (r76_27 hR) ?_
        refine V_iload_n dM_takesWord_12 rfl ?_
        refine V_iload_n dM_takesWord_13 rfl ?_
        refine V_iadd dM_takesWord_14 ?_
        refine V_topI (x' := 10) (by decide) ?_
        refine V_ialdN (j := 10) dM_takesWord_15 k92 rfl (by decide) (by decide) ?_
        refine V_topI (x' := nI 101) (hL 10 (by decide)) ?_
        refine V_callV (as := [.int (nI 101)]) (rest := []) (bs' := 0) rfl dM_takesWord_16 cmM_takes cvM_takes mlM_228 (Or.inl ⟨_, _, _, _, _, rfl, k76, by decide, rfl⟩) rfl rfl (m_takes (s := si (si (si s 76 14 (nI (p + 1))) 76 14 (nI (p + 1 + 1))) 76 14 (nI (p + 1 + 1 + 1))) hR hT hp hle (c := 101) (by decide)) (by decide) (Nat.le_refl _) (by decide) (Nat.le_of_ble_eq_true rfl) ?_
        rintro _ _ _ (⟨hw3, rfl, rfl, rfl⟩ | ⟨hw3, rfl, rfl, rfl⟩) -
        · refine V_one ?_
          have hlt : p + 1 + 1 + 1 < n := hT.lt (by omega)
          have hT : TY (si (si (si (si s 76 14 (nI (p + 1))) 76 14 (nI (p + 1 + 1))) 76 14 (nI (p + 1 + 1 + 1))) 76 14 (nI (p + 1 + 1 + 1 + 1))) n ch := hT.s1 (by decide) (by decide)
          have hp : gi (si (si (si (si s 76 14 (nI (p + 1))) 76 14 (nI (p + 1 + 1))) 76 14 (nI (p + 1 + 1 + 1))) 76 14 (nI (p + 1 + 1 + 1 + 1))) 76 14 = nI (p + 1 + 1 + 1 + 1) := gi_eq
          have hle : p + 1 + 1 + 1 + 1 ≤ n := hlt
          have hF : Fq N15 s (si (si (si (si s 76 14 (nI (p + 1))) 76 14 (nI (p + 1 + 1))) 76 14 (nI (p + 1 + 1 + 1))) 76 14 (nI (p + 1 + 1 + 1 + 1))) := hF.set (by unfold N15; omega)
          have hF : Fq N15 s (si (si (si (si s 76 14 (nI (p + 1))) 76 14 (nI (p + 1 + 1))) 76 14 (nI (p + 1 + 1 + 1))) 76 14 (nI (p + 1 + 1 + 1 + 1))) := hF
          have hR : RF (si (si (si (si s 76 14 (nI (p + 1))) 76 14 (nI (p + 1 + 1))) 76 14 (nI (p + 1 + 1 + 1))) 76 14 (nI (p + 1 + 1 + 1 + 1))) := hF.rf hR0
          have hL : LT (si (si (si (si s 76 14 (nI (p + 1))) 76 14 (nI (p + 1 + 1))) 76 14 (nI (p + 1 + 1 + 1))) 76 14 (nI (p + 1 + 1 + 1 + 1))) := hL.s1 (by decide)
          refine V_if_ne (tgt := 24) dM_takesWord_19 rfl (fun _ => ?_) (fun h => absurd h (by decide))
          refine V_iinc (v := 4) (loc' := [(3, .int 4), (0, .ref 76), (1, .int 7), (2, .int 4)]) dM_takesWord_24 rfl (by decide) (by decide) rfl ?_
          refine V_goto (tgt := 2) dM_takesWord_27 rfl ?_
          refine V_iload_n dM_takesWord_2 rfl ?_
          refine V_iload_n dM_takesWord_3 rfl ?_
          refine V_icmp_ge (tgt := 30) dM_takesWord_4 rfl (fun _ => ?_) (fun h => absurd h (by decide))
          refine V_aload_n dM_takesWord_30 rfl ?_
          refine V_bipush (v := 32) dM_takesWord_31 (by decide) ?_
          refine V_callV (as := [.int 32]) (rest := []) (bs' := 0) rfl dM_takesWord_33 cmM_takes cvM_takes mlM_228 (Or.inl ⟨_, _, _, _, _, rfl, k76, by decide, rfl⟩) rfl rfl (m_takes (s := si (si (si (si s 76 14 (nI (p + 1))) 76 14 (nI (p + 1 + 1))) 76 14 (nI (p + 1 + 1 + 1))) 76 14 (nI (p + 1 + 1 + 1 + 1))) hR hT hp hle (c := 32) (by decide)) (by decide) (Nat.le_refl _) (by decide) (Nat.le_of_ble_eq_true rfl) ?_
          rintro _ _ _ (⟨hw4, rfl, rfl, rfl⟩ | ⟨hw4, rfl, rfl, rfl⟩) -
          · refine V_one ?_
            have hlt : p + 1 + 1 + 1 + 1 < n := hT.lt (by omega)
            have hT : TY (si (si (si (si (si s 76 14 (nI (p + 1))) 76 14 (nI (p + 1 + 1))) 76 14 (nI (p + 1 + 1 + 1))) 76 14 (nI (p + 1 + 1 + 1 + 1))) 76 14 (nI (p + 1 + 1 + 1 + 1 + 1))) n ch := hT.s1 (by decide) (by decide)
            have hp : gi (si (si (si (si (si s 76 14 (nI (p + 1))) 76 14 (nI (p + 1 + 1))) 76 14 (nI (p + 1 + 1 + 1))) 76 14 (nI (p + 1 + 1 + 1 + 1))) 76 14 (nI (p + 1 + 1 + 1 + 1 + 1))) 76 14 = nI (p + 1 + 1 + 1 + 1 + 1) := gi_eq
            have hle : p + 1 + 1 + 1 + 1 + 1 ≤ n := hlt
            have hF : Fq N15 s (si (si (si (si (si s 76 14 (nI (p + 1))) 76 14 (nI (p + 1 + 1))) 76 14 (nI (p + 1 + 1 + 1))) 76 14 (nI (p + 1 + 1 + 1 + 1))) 76 14 (nI (p + 1 + 1 + 1 + 1 + 1))) := hF.set (by unfold N15; omega)
            have hF : Fq N15 s (si (si (si (si (si s 76 14 (nI (p + 1))) 76 14 (nI (p + 1 + 1))) 76 14 (nI (p + 1 + 1 + 1))) 76 14 (nI (p + 1 + 1 + 1 + 1))) 76 14 (nI (p + 1 + 1 + 1 + 1 + 1))) := hF
            have hR : RF (si (si (si (si (si s 76 14 (nI (p + 1))) 76 14 (nI (p + 1 + 1))) 76 14 (nI (p + 1 + 1 + 1))) 76 14 (nI (p + 1 + 1 + 1 + 1))) 76 14 (nI (p + 1 + 1 + 1 + 1 + 1))) := hF.rf hR0
            have hL : LT (si (si (si (si (si s 76 14 (nI (p + 1))) 76 14 (nI (p + 1 + 1))) 76 14 (nI (p + 1 + 1 + 1))) 76 14 (nI (p + 1 + 1 + 1 + 1))) 76 14 (nI (p + 1 + 1 + 1 + 1 + 1))) := hL.s1 (by decide)
            refine V_zret dM_takesWord_36 rfl rfl rfl ?_
            have hz : wdP ch (wdL.getD 0 []) p = (true, p + 1 + 1 + 1 + 1 + 1) := by
              show wdP ch [98, 97, 115, 101, 32] p = _
              rw [wdP, if_pos hw0, wdP, if_pos hw1, wdP, if_pos hw2, wdP, if_pos hw3, wdP, if_pos hw4, wdP]
            rw [hz]
            exact Or.inl ⟨rfl, rfl, rfl, hF, hp⟩
          · refine V_one ?_
            have hz : wdP ch (wdL.getD 0 []) p = (false, p + 1 + 1 + 1 + 1) := by
              show wdP ch [98, 97, 115, 101, 32] p = _
              rw [wdP, if_pos hw0, wdP, if_pos hw1, wdP, if_pos hw2, wdP, if_pos hw3, wdP, if_neg hw4]
            exact V_zret dM_takesWord_36 rfl rfl rfl (Or.inr ⟨by rw [hz], rfl, rfl, hF, by rw [hz]; exact hp⟩)
        · refine V_one ?_
          have hz : wdP ch (wdL.getD 0 []) p = (false, p + 1 + 1 + 1) := by
            show wdP ch [98, 97, 115, 101, 32] p = _
            rw [wdP, if_pos hw0, wdP, if_pos hw1, wdP, if_pos hw2, wdP, if_neg hw3]
          refine V_if_ne (tgt := 24) dM_takesWord_19 rfl (fun h => absurd h (by decide)) (fun _ => ?_)
          refine V_iconst (v := 0) dM_takesWord_22 (by decide) ?_
          exact V_zret dM_takesWord_23 rfl rfl rfl (Or.inr ⟨by rw [hz], rfl, rfl, hF, by rw [hz]; exact hp⟩)
      · refine V_one ?_
        have hz : wdP ch (wdL.getD 0 []) p = (false, p + 1 + 1) := by
          show wdP ch [98, 97, 115, 101, 32] p = _
          rw [wdP, if_pos hw0, wdP, if_pos hw1, wdP, if_neg hw2]
        refine V_if_ne (tgt := 24) dM_takesWord_19 rfl (fun h => absurd h (by decide)) (fun _ => ?_)
        refine V_iconst (v := 0) dM_takesWord_22 (by decide) ?_
        exact V_zret dM_takesWord_23 rfl rfl rfl (Or.inr ⟨by rw [hz], rfl, rfl, hF, by rw [hz]; exact hp⟩)
    · refine V_one ?_
      have hz : wdP ch (wdL.getD 0 []) p = (false, p + 1) := by
        show wdP ch [98, 97, 115, 101, 32] p = _
        rw [wdP, if_pos hw0, wdP, if_neg hw1]
      refine V_if_ne (tgt := 24) dM_takesWord_19 rfl (fun h => absurd h (by decide)) (fun _ => ?_)
      refine V_iconst (v := 0) dM_takesWord_22 (by decide) ?_
      exact V_zret dM_takesWord_23 rfl rfl rfl (Or.inr ⟨by rw [hz], rfl, rfl, hF, by rw [hz]; exact hp⟩)
  · refine V_one ?_
    have hz : wdP ch (wdL.getD 0 []) p = (false, p) := by
      show wdP ch [98, 97, 115, 101, 32] p = _
      rw [wdP, if_neg hw0]
    refine V_if_ne (tgt := 24) dM_takesWord_19 rfl (fun h => absurd h (by decide)) (fun _ => ?_)
    refine V_iconst (v := 0) dM_takesWord_22 (by decide) ?_
    exact V_zret dM_takesWord_23 rfl rfl rfl (Or.inr ⟨by rw [hz], rfl, rfl, hF, by rw [hz]; exact hp⟩)
theorem m_word1 {l : Launch} {G : GT} {ch : Nat → Nat} {s : Hp} {n p : Nat} (hR : RF s) (hT : TY s n ch) (hp : gi s 76 14 = nI p) (hle : p ≤ n) (hL : LT s) : MM l G mM_takesWord 2 0 0 [.ref 76, .int 0, .int 4] KA s (fun r k t => ((wdP ch (wdL.getD 1 []) p).1 = true ∧ r = some (.int 1) ∧ KA = k ∧ Fq N15 s t ∧ gi t 76 14 = nI (wdP ch (wdL.getD 1 []) p).2) ∨ ((wdP ch (wdL.getD 1 []) p).1 = false ∧ r = some (.int 0) ∧ KA = k ∧ Fq N15 s t ∧ gi t 76 14 = nI (wdP ch (wdL.getD 1 []) p).2)) := by
  refine MM.of (loc := [(0, .ref 76), (1, .int 0), (2, .int 4)]) (by decide +kernel) rfl (Nat.le_of_ble_eq_true rfl) ?_
  have hR0 := hR
  have hF : Fq N15 s s := Fq.rfl
  refine V_iconst (v := 0) dM_takesWord_0 (by decide) ?_
  refine V_istore_n (loc' := [(3, .int 0), (0, .ref 76), (1, .int 0), (2, .int 4)]) dM_takesWord_1 (by decide) rfl ?_
  refine V_iload_n dM_takesWord_2 rfl ?_
  refine V_iload_n dM_takesWord_3 rfl ?_
  refine V_icmp_ge (tgt := 30) dM_takesWord_4 rfl (fun h => absurd h (by decide)) (fun _ => ?_)
  refine V_aload_n dM_takesWord_7 rfl ?_
  refine V_aload_n dM_takesWord_8 rfl ?_
  refine V_getR (a := 92) dM_takesWord_9 flM_92 k76 rfl (r76_27 hR) ?_
  refine V_iload_n dM_takesWord_12 rfl ?_
  refine V_iload_n dM_takesWord_13 rfl ?_
  refine V_iadd dM_takesWord_14 ?_
  refine V_topI (x' := 0) (by decide) ?_
  refine V_ialdN (j := 0) dM_takesWord_15 k92 rfl (by decide) (by decide) ?_
  refine V_topI (x' := nI 109) (hL 0 (by decide)) ?_
  refine V_callV (as := [.int (nI 109)]) (rest := []) (bs' := 0) rfl dM_takesWord_16 cmM_takes cvM_takes mlM_228 (Or.inl ⟨_, _, _, _, _, rfl, k76, by decide, rfl⟩) rfl rfl (m_takes (s := s) hR hT hp hle (c := 109) (by decide)) (by decide) (Nat.le_refl _) (by decide) (Nat.le_of_ble_eq_true rfl) ?_
  rintro _ _ _ (⟨hw0, rfl, rfl, rfl⟩ | ⟨hw0, rfl, rfl, rfl⟩) -
  · refine V_one ?_
    have hlt : p < n := hT.lt (by omega)
    have hT : TY (si s 76 14 (nI (p + 1))) n ch := hT.s1 (by decide) (by decide)
    have hp : gi (si s 76 14 (nI (p + 1))) 76 14 = nI (p + 1) := gi_eq
    have hle : p + 1 ≤ n := hlt
    have hF : Fq N15 s (si s 76 14 (nI (p + 1))) := hF.set (by unfold N15; omega)
    have hF : Fq N15 s (si s 76 14 (nI (p + 1))) := hF
    have hR : RF (si s 76 14 (nI (p + 1))) := hF.rf hR0
    have hL : LT (si s 76 14 (nI (p + 1))) := hL.s1 (by decide)
    refine V_if_ne (tgt := 24) dM_takesWord_19 rfl (fun _ => ?_) (fun h => absurd h (by decide))
    refine V_iinc (v := 1) (loc' := [(3, .int 1), (0, .ref 76), (1, .int 0), (2, .int 4)]) dM_takesWord_24 rfl (by decide) (by decide) rfl ?_
    refine V_goto (tgt := 2) dM_takesWord_27 rfl ?_
    refine V_iload_n dM_takesWord_2 rfl ?_
    refine V_iload_n dM_takesWord_3 rfl ?_
    refine V_icmp_ge (tgt := 30) dM_takesWord_4 rfl (fun h => absurd h (by decide)) (fun _ => ?_)
    refine V_aload_n dM_takesWord_7 rfl ?_
    refine V_aload_n dM_takesWord_8 rfl ?_
    refine V_getR (a := 92) dM_takesWord_9 flM_92 k76 rfl (r76_27 hR) ?_
    refine V_iload_n dM_takesWord_12 rfl ?_
    refine V_iload_n dM_takesWord_13 rfl ?_
    refine V_iadd dM_takesWord_14 ?_
    refine V_topI (x' := 1) (by decide) ?_
    refine V_ialdN (j := 1) dM_takesWord_15 k92 rfl (by decide) (by decide) ?_
    refine V_topI (x' := nI 111) (hL 1 (by decide)) ?_
    refine V_callV (as := [.int (nI 111)]) (rest := []) (bs' := 0) rfl dM_takesWord_16 cmM_takes cvM_takes mlM_228 (Or.inl ⟨_, _, _, _, _, rfl, k76, by decide, rfl⟩) rfl rfl (m_takes (s := si s 76 14 (nI (p + 1))) hR hT hp hle (c := 111) (by decide)) (by decide) (Nat.le_refl _) (by decide) (Nat.le_of_ble_eq_true rfl) ?_
    rintro _ _ _ (⟨hw1, rfl, rfl, rfl⟩ | ⟨hw1, rfl, rfl, rfl⟩) -
    · refine V_one ?_
      have hlt : p + 1 < n := hT.lt (by omega)
      have hT : TY (si (si s 76 14 (nI (p + 1))) 76 14 (nI (p + 1 + 1))) n ch := hT.s1 (by decide) (by decide)
      have hp : gi (si (si s 76 14 (nI (p + 1))) 76 14 (nI (p + 1 + 1))) 76 14 = nI (p + 1 + 1) := gi_eq
      have hle : p + 1 + 1 ≤ n := hlt
      have hF : Fq N15 s (si (si s 76 14 (nI (p + 1))) 76 14 (nI (p + 1 + 1))) := hF.set (by unfold N15; omega)
      have hF : Fq N15 s (si (si s 76 14 (nI (p + 1))) 76 14 (nI (p + 1 + 1))) := hF
      have hR : RF (si (si s 76 14 (nI (p + 1))) 76 14 (nI (p + 1 + 1))) := hF.rf hR0
      have hL : LT (si (si s 76 14 (nI (p + 1))) 76 14 (nI (p + 1 + 1))) := hL.s1 (by decide)
      refine V_if_ne (tgt := 24) dM_takesWord_19 rfl (fun _ => ?_) (fun h => absurd h (by decide))
      refine V_iinc (v := 2) (loc' := [(3, .int 2), (0, .ref 76), (1, .int 0), (2, .int 4)]) dM_takesWord_24 rfl (by decide) (by decide) rfl ?_
      refine V_goto (tgt := 2) dM_takesWord_27 rfl ?_
      refine V_iload_n dM_takesWord_2 rfl ?_
      refine V_iload_n dM_takesWord_3 rfl ?_
      refine V_icmp_ge (tgt := 30) dM_takesWord_4 rfl (fun h => absurd h (by decide)) (fun _ => ?_)
      refine V_aload_n dM_takesWord_7 rfl ?_
      refine V_aload_n dM_takesWord_8 rfl ?_
      refine V_getR (a := 92) dM_takesWord_9 flM_92 k76 rfl (r76_27 hR) ?_
      refine V_iload_n dM_takesWord_12 rfl ?_
      refine V_iload_n dM_takesWord_13 rfl ?_
      refine V_iadd dM_takesWord_14 ?_
      refine V_topI (x' := 2) (by decide) ?_
      refine V_ialdN (j := 2) dM_takesWord_15 k92 rfl (by decide) (by decide) ?_
      refine V_topI (x' := nI 114) (hL 2 (by decide)) ?_
      refine V_callV (as := [.int (nI 114)]) (rest := []) (bs' := 0) rfl dM_takesWord_16 cmM_takes cvM_takes mlM_228 (Or.inl ⟨_, _, _, _, _, rfl, k76, by decide, rfl⟩) rfl rfl (m_takes (s := si (si s 76 14 (nI (p + 1))) 76 14 (nI (p + 1 + 1))) hR hT hp hle (c := 114) (by decide)) (by decide) (Nat.le_refl _) (by decide) (Nat.le_of_ble_eq_true rfl) ?_
      rintro _ _ _ (⟨hw2, rfl, rfl, rfl⟩ | ⟨hw2, rfl, rfl, rfl⟩) -
      · refine V_one ?_
        have hlt : p + 1 + 1 < n := hT.lt (by omega)
        have hT : TY (si (si (si s 76 14 (nI (p + 1))) 76 14 (nI (p + 1 + 1))) 76 14 (nI (p + 1 + 1 + 1))) n ch := hT.s1 (by decide) (by decide)
        have hp : gi (si (si (si s 76 14 (nI (p + 1))) 76 14 (nI (p + 1 + 1))) 76 14 (nI (p + 1 + 1 + 1))) 76 14 = nI (p + 1 + 1 + 1) := gi_eq
        have hle : p + 1 + 1 + 1 ≤ n := hlt
        have hF : Fq N15 s (si (si (si s 76 14 (nI (p + 1))) 76 14 (nI (p + 1 + 1))) 76 14 (nI (p + 1 + 1 + 1))) := hF.set (by unfold N15; omega)
        have hF : Fq N15 s (si (si (si s 76 14 (nI (p + 1))) 76 14 (nI (p + 1 + 1))) 76 14 (nI (p + 1 + 1 + 1))) := hF
        have hR : RF (si (si (si s 76 14 (nI (p + 1))) 76 14 (nI (p + 1 + 1))) 76 14 (nI (p + 1 + 1 + 1))) := hF.rf hR0
        have hL : LT (si (si (si s 76 14 (nI (p + 1))) 76 14 (nI (p + 1 + 1))) 76 14 (nI (p + 1 + 1 + 1))) := hL.s1 (by decide)
        refine V_if_ne (tgt := 24) dM_takesWord_19 rfl (fun _ => ?_) (fun h => absurd h (by decide))
        refine V_iinc (v := 3) (loc' := [(3, .int 3), (0, .ref 76), (1, .int 0), (2, .int 4)]) dM_takesWord_24 rfl (by decide) (by decide) rfl ?_
        refine V_goto (tgt := 2) dM_takesWord_27 rfl ?_
        refine V_iload_n dM_takesWord_2 rfl ?_
        refine V_iload_n dM_takesWord_3 rfl ?_
        refine V_icmp_ge (tgt := 30) dM_takesWord_4 rfl (fun h => absurd h (by decide)) (fun _ => ?_)
        refine V_aload_n dM_takesWord_7 rfl ?_
        refine V_aload_n dM_takesWord_8 rfl ?_
        refine V_getR (a := 92) dM_takesWord_9 flM_92 k76 rfl (r76_27 hR) ?_
        refine V_iload_n dM_takesWord_12 rfl ?_
        refine V_iload_n dM_takesWord_13 rfl ?_
        refine V_iadd dM_takesWord_14 ?_
        refine V_topI (x' := 3) (by decide) ?_
        refine V_ialdN (j := 3) dM_takesWord_15 k92 rfl (by decide) (by decide) ?_
        refine V_topI (x' := nI 101) (hL 3 (by decide)) ?_
        refine V_callV (as := [.int (nI 101)]) (rest := []) (bs' := 0) rfl dM_takesWord_16 cmM_takes cvM_takes mlM_228 (Or.inl ⟨_, _, _, _, _, rfl, k76, by decide, rfl⟩) rfl rfl (m_takes (s := si (si (si s 76 14 (nI (p + 1))) 76 14 (nI (p + 1 + 1))) 76 14 (nI (p + 1 + 1 + 1))) hR hT hp hle (c := 101) (by decide)) (by decide) (Nat.le_refl _) (by decide) (Nat.le_of_ble_eq_true rfl) ?_
        rintro _ _ _ (⟨hw3, rfl, rfl, rfl⟩ | ⟨hw3, rfl, rfl, rfl⟩) -
        · refine V_one ?_
          have hlt : p + 1 + 1 + 1 < n := hT.lt (by omega)
          have hT : TY (si (si (si (si s 76 14 (nI (p + 1))) 76 14 (nI (p + 1 + 1))) 76 14 (nI (p + 1 + 1 + 1))) 76 14 (nI (p + 1 + 1 + 1 + 1))) n ch := hT.s1 (by decide) (by decide)
          have hp : gi (si (si (si (si s 76 14 (nI (p + 1))) 76 14 (nI (p + 1 + 1))) 76 14 (nI (p + 1 + 1 + 1))) 76 14 (nI (p + 1 + 1 + 1 + 1))) 76 14 = nI (p + 1 + 1 + 1 + 1) := gi_eq
          have hle : p + 1 + 1 + 1 + 1 ≤ n := hlt
          have hF : Fq N15 s (si (si (si (si s 76 14 (nI (p + 1))) 76 14 (nI (p + 1 + 1))) 76 14 (nI (p + 1 + 1 + 1))) 76 14 (nI (p + 1 + 1 + 1 + 1))) := hF.set (by unfold N15; omega)
          have hF : Fq N15 s (si (si (si (si s 76 14 (nI (p + 1))) 76 14 (nI (p + 1 + 1))) 76 14 (nI (p + 1 + 1 + 1))) 76 14 (nI (p + 1 + 1 + 1 + 1))) := hF
          have hR : RF (si (si (si (si s 76 14 (nI (p + 1))) 76 14 (nI (p + 1 + 1))) 76 14 (nI (p + 1 + 1 + 1))) 76 14 (nI (p + 1 + 1 + 1 + 1))) := hF.rf hR0
          have hL : LT (si (si (si (si s 76 14 (nI (p + 1))) 76 14 (nI (p + 1 + 1))) 76 14 (nI (p + 1 + 1 + 1))) 76 14 (nI (p + 1 + 1 + 1 + 1))) := hL.s1 (by decide)
          refine V_if_ne (tgt := 24) dM_takesWord_19 rfl (fun _ => ?_) (fun h => absurd h (by decide))
          refine V_iinc (v := 4) (loc' := [(3, .int 4), (0, .ref 76), (1, .int 0), (2, .int 4)]) dM_takesWord_24 rfl (by decide) (by decide) rfl ?_
          refine V_goto (tgt := 2) dM_takesWord_27 rfl ?_
          refine V_iload_n dM_takesWord_2 rfl ?_
          refine V_iload_n dM_takesWord_3 rfl ?_
          refine V_icmp_ge (tgt := 30) dM_takesWord_4 rfl (fun _ => ?_) (fun h => absurd h (by decide))
          refine V_aload_n dM_takesWord_30 rfl ?_
          refine V_bipush (v := 32) dM_takesWord_31 (by decide) ?_
          refine V_callV (as := [.int 32]) (rest := []) (bs' := 0) rfl dM_takesWord_33 cmM_takes cvM_takes mlM_228 (Or.inl ⟨_, _, _, _, _, rfl, k76, by decide, rfl⟩) rfl rfl (m_takes (s := si (si (si (si s 76 14 (nI (p + 1))) 76 14 (nI (p + 1 + 1))) 76 14 (nI (p + 1 + 1 + 1))) 76 14 (nI (p + 1 + 1 + 1 + 1))) hR hT hp hle (c := 32) (by decide)) (by decide) (Nat.le_refl _) (by decide) (Nat.le_of_ble_eq_true rfl) ?_
          rintro _ _ _ (⟨hw4, rfl, rfl, rfl⟩ | ⟨hw4, rfl, rfl, rfl⟩) -
          · refine V_one ?_
            have hlt : p + 1 + 1 + 1 + 1 < n := hT.lt (by omega)
            have hT : TY (si (si (si (si (si s 76 14 (nI (p + 1))) 76 14 (nI (p + 1 + 1))) 76 14 (nI (p + 1 + 1 + 1))) 76 14 (nI (p + 1 + 1 + 1 + 1))) 76 14 (nI (p + 1 + 1 + 1 + 1 + 1))) n ch := hT.s1 (by decide) (by decide)
            have hp : gi (si (si (si (si (si s 76 14 (nI (p + 1))) 76 14 (nI (p + 1 + 1))) 76 14 (nI (p + 1 + 1 + 1))) 76 14 (nI (p + 1 + 1 + 1 + 1))) 76 14 (nI (p + 1 + 1 + 1 + 1 + 1))) 76 14 = nI (p + 1 + 1 + 1 + 1 + 1) := gi_eq
            have hle : p + 1 + 1 + 1 + 1 + 1 ≤ n := hlt
            have hF : Fq N15 s (si (si (si (si (si s 76 14 (nI (p + 1))) 76 14 (nI (p + 1 + 1))) 76 14 (nI (p + 1 + 1 + 1))) 76 14 (nI (p + 1 + 1 + 1 + 1))) 76 14 (nI (p + 1 + 1 + 1 + 1 + 1))) := hF.set (by unfold N15; omega)
            have hF : Fq N15 s (si (si (si (si (si s 76 14 (nI (p + 1))) 76 14 (nI (p + 1 + 1))) 76 14 (nI (p + 1 + 1 + 1))) 76 14 (nI (p + 1 + 1 + 1 + 1))) 76 14 (nI (p + 1 + 1 + 1 + 1 + 1))) := hF
            have hR : RF (si (si (si (si (si s 76 14 (nI (p + 1))) 76 14 (nI (p + 1 + 1))) 76 14 (nI (p + 1 + 1 + 1))) 76 14 (nI (p + 1 + 1 + 1 + 1))) 76 14 (nI (p + 1 + 1 + 1 + 1 + 1))) := hF.rf hR0
            have hL : LT (si (si (si (si (si s 76 14 (nI (p + 1))) 76 14 (nI (p + 1 + 1))) 76 14 (nI (p + 1 + 1 + 1))) 76 14 (nI (p + 1 + 1 + 1 + 1))) 76 14 (nI (p + 1 + 1 + 1 + 1 + 1))) := hL.s1 (by decide)
            refine V_zret dM_takesWord_36 rfl rfl rfl ?_
            have hz : wdP ch (wdL.getD 1 []) p = (true, p + 1 + 1 + 1 + 1 + 1) := by
              show wdP ch [109, 111, 114, 101, 32] p = _
              rw [wdP, if_pos hw0, wdP, if_pos hw1, wdP, if_pos hw2, wdP, if_pos hw3, wdP, if_pos hw4, wdP]
            rw [hz]
            exact Or.inl ⟨rfl, rfl, rfl, hF, hp⟩
          · refine V_one ?_
            have hz : wdP ch (wdL.getD 1 []) p = (false, p + 1 + 1 + 1 + 1) := by
              show wdP ch [109, 111, 114, 101, 32] p = _
              rw [wdP, if_pos hw0, wdP, if_pos hw1, wdP, if_pos hw2, wdP, if_pos hw3, wdP, if_neg hw4]
            exact V_zret dM_takesWord_36 rfl rfl rfl (Or.inr ⟨by rw [hz], rfl, rfl, hF, by rw [hz]; exact hp⟩)
        · refine V_one ?_
          have hz : wdP ch (wdL.getD 1 []) p = (false, p + 1 + 1 + 1) := by
            show wdP ch [109, 111, 114, 101, 32] p = _
            rw [wdP, if_pos hw0, wdP, if_pos hw1, wdP, if_pos hw2, wdP, if_neg hw3]
          refine V_if_ne (tgt := 24) dM_takesWord_19 rfl (fun h => absurd h (by decide)) (fun _ => ?_)
          refine V_iconst (v := 0) dM_takesWord_22 (by decide) ?_
          exact V_zret dM_takesWord_23 rfl rfl rfl (Or.inr ⟨by rw [hz], rfl, rfl, hF, by rw [hz]; exact hp⟩)
      · refine V_one ?_
        have hz : wdP ch (wdL.getD 1 []) p = (false, p + 1 + 1) := by
          show wdP ch [109, 111, 114, 101, 32] p = _
          rw [wdP, if_pos hw0, wdP, if_pos hw1, wdP, if_neg hw2]
        refine V_if_ne (tgt := 24) dM_takesWord_19 rfl (fun h => absurd h (by decide)) (fun _ => ?_)
        refine V_iconst (v := 0) dM_takesWord_22 (by decide) ?_
        exact V_zret dM_takesWord_23 rfl rfl rfl (Or.inr ⟨by rw [hz], rfl, rfl, hF, by rw [hz]; exact hp⟩)
    · refine V_one ?_
      have hz : wdP ch (wdL.getD 1 []) p = (false, p + 1) := by
        show wdP ch [109, 111, 114, 101, 32] p = _
        rw [wdP, if_pos hw0, wdP, if_neg hw1]
      refine V_if_ne (tgt := 24) dM_takesWord_19 rfl (fun h => absurd h (by decide)) (fun _ => ?_)
      refine V_iconst (v := 0) dM_takesWord_22 (by decide) ?_
      exact V_zret dM_takesWord_23 rfl rfl rfl (Or.inr ⟨by rw [hz], rfl, rfl, hF, by rw [hz]; exact hp⟩)
  · refine V_one ?_
    have hz : wdP ch (wdL.getD 1 []) p = (false, p) := by
      show wdP ch [109, 111, 114, 101, 32] p = _
      rw [wdP, if_neg hw0]
    refine V_if_ne (tgt := 24) dM_takesWord_19 rfl (fun h => absurd h (by decide)) (fun _ => ?_)
    refine V_iconst (v := 0) dM_takesWord_22 (by decide) ?_
    exact V_zret dM_takesWord_23 rfl rfl rfl (Or.inr ⟨by rw [hz], rfl, rfl, hF, by rw [hz]; exact hp⟩)
theorem m_word2 {l : Launch} {G : GT} {ch : Nat → Nat} {s : Hp} {n p : Nat} (hR : RF s) (hT : TY s n ch) (hp : gi s 76 14 = nI p) (hle : p ≤ n) (hL : LT s) : MM l G mM_takesWord 2 0 0 [.ref 76, .int 4, .int 3] KA s (fun r k t => ((wdP ch (wdL.getD 2 []) p).1 = true ∧ r = some (.int 1) ∧ KA = k ∧ Fq N15 s t ∧ gi t 76 14 = nI (wdP ch (wdL.getD 2 []) p).2) ∨ ((wdP ch (wdL.getD 2 []) p).1 = false ∧ r = some (.int 0) ∧ KA = k ∧ Fq N15 s t ∧ gi t 76 14 = nI (wdP ch (wdL.getD 2 []) p).2)) := by
  refine MM.of (loc := [(0, .ref 76), (1, .int 4), (2, .int 3)]) (by decide +kernel) rfl (Nat.le_of_ble_eq_true rfl) ?_
  have hR0 := hR
  have hF : Fq N15 s s := Fq.rfl
  refine V_iconst (v := 0) dM_takesWord_0 (by decide) ?_
  refine V_istore_n (loc' := [(3, .int 0), (0, .ref 76), (1, .int 4), (2, .int 3)]) dM_takesWord_1 (by decide) rfl ?_
  refine V_iload_n dM_takesWord_2 rfl ?_
  refine V_iload_n dM_takesWord_3 rfl ?_
  refine V_icmp_ge (tgt := 30) dM_takesWord_4 rfl (fun h => absurd h (by decide)) (fun _ => ?_)
  refine V_aload_n dM_takesWord_7 rfl ?_
  refine V_aload_n dM_takesWord_8 rfl ?_
  refine V_getR (a := 92) dM_takesWord_9 flM_92 k76 rfl (r76_27 hR) ?_
  refine V_iload_n dM_takesWord_12 rfl ?_
  refine V_iload_n dM_takesWord_13 rfl ?_
  refine V_iadd dM_takesWord_14 ?_
  refine V_topI (x' := 4) (by decide) ?_
  refine V_ialdN (j := 4) dM_takesWord_15 k92 rfl (by decide) (by decide) ?_
  refine V_topI (x' := nI 116) (hL 4 (by decide)) ?_
  refine V_callV (as := [.int (nI 116)]) (rest := []) (bs' := 0) rfl dM_takesWord_16 cmM_takes cvM_takes mlM_228 (Or.inl ⟨_, _, _, _, _, rfl, k76, by decide, rfl⟩) rfl rfl (m_takes (s := s) hR hT hp hle (c := 116) (by decide)) (by decide) (Nat.le_refl _) (by decide) (Nat.le_of_ble_eq_true rfl) ?_
  rintro _ _ _ (⟨hw0, rfl, rfl, rfl⟩ | ⟨hw0, rfl, rfl, rfl⟩) -
  · refine V_one ?_
    have hlt : p < n := hT.lt (by omega)
    have hT : TY (si s 76 14 (nI (p + 1))) n ch := hT.s1 (by decide) (by decide)
    have hp : gi (si s 76 14 (nI (p + 1))) 76 14 = nI (p + 1) := gi_eq
    have hle : p + 1 ≤ n := hlt
    have hF : Fq N15 s (si s 76 14 (nI (p + 1))) := hF.set (by unfold N15; omega)
    have hF : Fq N15 s (si s 76 14 (nI (p + 1))) := hF
    have hR : RF (si s 76 14 (nI (p + 1))) := hF.rf hR0
    have hL : LT (si s 76 14 (nI (p + 1))) := hL.s1 (by decide)
    refine V_if_ne (tgt := 24) dM_takesWord_19 rfl (fun _ => ?_) (fun h => absurd h (by decide))
    refine V_iinc (v := 1) (loc' := [(3, .int 1), (0, .ref 76), (1, .int 4), (2, .int 3)]) dM_takesWord_24 rfl (by decide) (by decide) rfl ?_
    refine V_goto (tgt := 2) dM_takesWord_27 rfl ?_
    refine V_iload_n dM_takesWord_2 rfl ?_
    refine V_iload_n dM_takesWord_3 rfl ?_
    refine V_icmp_ge (tgt := 30) dM_takesWord_4 rfl (fun h => absurd h (by decide)) (fun _ => ?_)
    refine V_aload_n dM_takesWord_7 rfl ?_
    refine V_aload_n dM_takesWord_8 rfl ?_
    refine V_getR (a := 92) dM_takesWord_9 flM_92 k76 rfl (r76_27 hR) ?_
    refine V_iload_n dM_takesWord_12 rfl ?_
    refine V_iload_n dM_takesWord_13 rfl ?_
    refine V_iadd dM_takesWord_14 ?_
    refine V_topI (x' := 5) (by decide) ?_
    refine V_ialdN (j := 5) dM_takesWord_15 k92 rfl (by decide) (by decide) ?_
    refine V_topI (x' := nI 97) (hL 5 (by decide)) ?_
    refine V_callV (as := [.int (nI 97)]) (rest := []) (bs' := 0) rfl dM_takesWord_16 cmM_takes cvM_takes mlM_228 (Or.inl ⟨_, _, _, _, _, rfl, k76, by decide, rfl⟩) rfl rfl (m_takes (s := si s 76 14 (nI (p + 1))) hR hT hp hle (c := 97) (by decide)) (by decide) (Nat.le_refl _) (by decide) (Nat.le_of_ble_eq_true rfl) ?_
    rintro _ _ _ (⟨hw1, rfl, rfl, rfl⟩ | ⟨hw1, rfl, rfl, rfl⟩) -
    · refine V_one ?_
      have hlt : p + 1 < n := hT.lt (by omega)
      have hT : TY (si (si s 76 14 (nI (p + 1))) 76 14 (nI (p + 1 + 1))) n ch := hT.s1 (by decide) (by decide)
      have hp : gi (si (si s 76 14 (nI (p + 1))) 76 14 (nI (p + 1 + 1))) 76 14 = nI (p + 1 + 1) := gi_eq
      have hle : p + 1 + 1 ≤ n := hlt
      have hF : Fq N15 s (si (si s 76 14 (nI (p + 1))) 76 14 (nI (p + 1 + 1))) := hF.set (by unfold N15; omega)
      have hF : Fq N15 s (si (si s 76 14 (nI (p + 1))) 76 14 (nI (p + 1 + 1))) := hF
      have hR : RF (si (si s 76 14 (nI (p + 1))) 76 14 (nI (p + 1 + 1))) := hF.rf hR0
      have hL : LT (si (si s 76 14 (nI (p + 1))) 76 14 (nI (p + 1 + 1))) := hL.s1 (by decide)
      refine V_if_ne (tgt := 24) dM_takesWord_19 rfl (fun _ => ?_) (fun h => absurd h (by decide))
      refine V_iinc (v := 2) (loc' := [(3, .int 2), (0, .ref 76), (1, .int 4), (2, .int 3)]) dM_takesWord_24 rfl (by decide) (by decide) rfl ?_
      refine V_goto (tgt := 2) dM_takesWord_27 rfl ?_
      refine V_iload_n dM_takesWord_2 rfl ?_
      refine V_iload_n dM_takesWord_3 rfl ?_
      refine V_icmp_ge (tgt := 30) dM_takesWord_4 rfl (fun h => absurd h (by decide)) (fun _ => ?_)
      refine V_aload_n dM_takesWord_7 rfl ?_
      refine V_aload_n dM_takesWord_8 rfl ?_
      refine V_getR (a := 92) dM_takesWord_9 flM_92 k76 rfl (r76_27 hR) ?_
      refine V_iload_n dM_takesWord_12 rfl ?_
      refine V_iload_n dM_takesWord_13 rfl ?_
      refine V_iadd dM_takesWord_14 ?_
      refine V_topI (x' := 6) (by decide) ?_
      refine V_ialdN (j := 6) dM_takesWord_15 k92 rfl (by decide) (by decide) ?_
      refine V_topI (x' := nI 120) (hL 6 (by decide)) ?_
      refine V_callV (as := [.int (nI 120)]) (rest := []) (bs' := 0) rfl dM_takesWord_16 cmM_takes cvM_takes mlM_228 (Or.inl ⟨_, _, _, _, _, rfl, k76, by decide, rfl⟩) rfl rfl (m_takes (s := si (si s 76 14 (nI (p + 1))) 76 14 (nI (p + 1 + 1))) hR hT hp hle (c := 120) (by decide)) (by decide) (Nat.le_refl _) (by decide) (Nat.le_of_ble_eq_true rfl) ?_
      rintro _ _ _ (⟨hw2, rfl, rfl, rfl⟩ | ⟨hw2, rfl, rfl, rfl⟩) -
      · refine V_one ?_
        have hlt : p + 1 + 1 < n := hT.lt (by omega)
        have hT : TY (si (si (si s 76 14 (nI (p + 1))) 76 14 (nI (p + 1 + 1))) 76 14 (nI (p + 1 + 1 + 1))) n ch := hT.s1 (by decide) (by decide)
        have hp : gi (si (si (si s 76 14 (nI (p + 1))) 76 14 (nI (p + 1 + 1))) 76 14 (nI (p + 1 + 1 + 1))) 76 14 = nI (p + 1 + 1 + 1) := gi_eq
        have hle : p + 1 + 1 + 1 ≤ n := hlt
        have hF : Fq N15 s (si (si (si s 76 14 (nI (p + 1))) 76 14 (nI (p + 1 + 1))) 76 14 (nI (p + 1 + 1 + 1))) := hF.set (by unfold N15; omega)
        have hF : Fq N15 s (si (si (si s 76 14 (nI (p + 1))) 76 14 (nI (p + 1 + 1))) 76 14 (nI (p + 1 + 1 + 1))) := hF
        have hR : RF (si (si (si s 76 14 (nI (p + 1))) 76 14 (nI (p + 1 + 1))) 76 14 (nI (p + 1 + 1 + 1))) := hF.rf hR0
        have hL : LT (si (si (si s 76 14 (nI (p + 1))) 76 14 (nI (p + 1 + 1))) 76 14 (nI (p + 1 + 1 + 1))) := hL.s1 (by decide)
        refine V_if_ne (tgt := 24) dM_takesWord_19 rfl (fun _ => ?_) (fun h => absurd h (by decide))
        refine V_iinc (v := 3) (loc' := [(3, .int 3), (0, .ref 76), (1, .int 4), (2, .int 3)]) dM_takesWord_24 rfl (by decide) (by decide) rfl ?_
        refine V_goto (tgt := 2) dM_takesWord_27 rfl ?_
        refine V_iload_n dM_takesWord_2 rfl ?_
        refine V_iload_n dM_takesWord_3 rfl ?_
        refine V_icmp_ge (tgt := 30) dM_takesWord_4 rfl (fun _ => ?_) (fun h => absurd h (by decide))
        refine V_aload_n dM_takesWord_30 rfl ?_
        refine V_bipush (v := 32) dM_takesWord_31 (by decide) ?_
        refine V_callV (as := [.int 32]) (rest := []) (bs' := 0) rfl dM_takesWord_33 cmM_takes cvM_takes mlM_228 (Or.inl ⟨_, _, _, _, _, rfl, k76, by decide, rfl⟩) rfl rfl (m_takes (s := si (si (si s 76 14 (nI (p + 1))) 76 14 (nI (p + 1 + 1))) 76 14 (nI (p + 1 + 1 + 1))) hR hT hp hle (c := 32) (by decide)) (by decide) (Nat.le_refl _) (by decide) (Nat.le_of_ble_eq_true rfl) ?_
        rintro _ _ _ (⟨hw3, rfl, rfl, rfl⟩ | ⟨hw3, rfl, rfl, rfl⟩) -
        · refine V_one ?_
          have hlt : p + 1 + 1 + 1 < n := hT.lt (by omega)
          have hT : TY (si (si (si (si s 76 14 (nI (p + 1))) 76 14 (nI (p + 1 + 1))) 76 14 (nI (p + 1 + 1 + 1))) 76 14 (nI (p + 1 + 1 + 1 + 1))) n ch := hT.s1 (by decide) (by decide)
          have hp : gi (si (si (si (si s 76 14 (nI (p + 1))) 76 14 (nI (p + 1 + 1))) 76 14 (nI (p + 1 + 1 + 1))) 76 14 (nI (p + 1 + 1 + 1 + 1))) 76 14 = nI (p + 1 + 1 + 1 + 1) := gi_eq
          have hle : p + 1 + 1 + 1 + 1 ≤ n := hlt
          have hF : Fq N15 s (si (si (si (si s 76 14 (nI (p + 1))) 76 14 (nI (p + 1 + 1))) 76 14 (nI (p + 1 + 1 + 1))) 76 14 (nI (p + 1 + 1 + 1 + 1))) := hF.set (by unfold N15; omega)
          have hF : Fq N15 s (si (si (si (si s 76 14 (nI (p + 1))) 76 14 (nI (p + 1 + 1))) 76 14 (nI (p + 1 + 1 + 1))) 76 14 (nI (p + 1 + 1 + 1 + 1))) := hF
          have hR : RF (si (si (si (si s 76 14 (nI (p + 1))) 76 14 (nI (p + 1 + 1))) 76 14 (nI (p + 1 + 1 + 1))) 76 14 (nI (p + 1 + 1 + 1 + 1))) := hF.rf hR0
          have hL : LT (si (si (si (si s 76 14 (nI (p + 1))) 76 14 (nI (p + 1 + 1))) 76 14 (nI (p + 1 + 1 + 1))) 76 14 (nI (p + 1 + 1 + 1 + 1))) := hL.s1 (by decide)
          refine V_zret dM_takesWord_36 rfl rfl rfl ?_
          have hz : wdP ch (wdL.getD 2 []) p = (true, p + 1 + 1 + 1 + 1) := by
            show wdP ch [116, 97, 120, 32] p = _
            rw [wdP, if_pos hw0, wdP, if_pos hw1, wdP, if_pos hw2, wdP, if_pos hw3, wdP]
          rw [hz]
          exact Or.inl ⟨rfl, rfl, rfl, hF, hp⟩
        · refine V_one ?_
          have hz : wdP ch (wdL.getD 2 []) p = (false, p + 1 + 1 + 1) := by
            show wdP ch [116, 97, 120, 32] p = _
            rw [wdP, if_pos hw0, wdP, if_pos hw1, wdP, if_pos hw2, wdP, if_neg hw3]
          exact V_zret dM_takesWord_36 rfl rfl rfl (Or.inr ⟨by rw [hz], rfl, rfl, hF, by rw [hz]; exact hp⟩)
      · refine V_one ?_
        have hz : wdP ch (wdL.getD 2 []) p = (false, p + 1 + 1) := by
          show wdP ch [116, 97, 120, 32] p = _
          rw [wdP, if_pos hw0, wdP, if_pos hw1, wdP, if_neg hw2]
        refine V_if_ne (tgt := 24) dM_takesWord_19 rfl (fun h => absurd h (by decide)) (fun _ => ?_)
        refine V_iconst (v := 0) dM_takesWord_22 (by decide) ?_
        exact V_zret dM_takesWord_23 rfl rfl rfl (Or.inr ⟨by rw [hz], rfl, rfl, hF, by rw [hz]; exact hp⟩)
    · refine V_one ?_
      have hz : wdP ch (wdL.getD 2 []) p = (false, p + 1) := by
        show wdP ch [116, 97, 120, 32] p = _
        rw [wdP, if_pos hw0, wdP, if_neg hw1]
      refine V_if_ne (tgt := 24) dM_takesWord_19 rfl (fun h => absurd h (by decide)) (fun _ => ?_)
      refine V_iconst (v := 0) dM_takesWord_22 (by decide) ?_
      exact V_zret dM_takesWord_23 rfl rfl rfl (Or.inr ⟨by rw [hz], rfl, rfl, hF, by rw [hz]; exact hp⟩)
  · refine V_one ?_
    have hz : wdP ch (wdL.getD 2 []) p = (false, p) := by
      show wdP ch [116, 97, 120, 32] p = _
      rw [wdP, if_neg hw0]
    refine V_if_ne (tgt := 24) dM_takesWord_19 rfl (fun h => absurd h (by decide)) (fun _ => ?_)
    refine V_iconst (v := 0) dM_takesWord_22 (by decide) ?_
    exact V_zret dM_takesWord_23 rfl rfl rfl (Or.inr ⟨by rw [hz], rfl, rfl, hF, by rw [hz]; exact hp⟩)
theorem m_head {l : Launch} {G : GT} {ch : Nat → Nat} {s : Hp} {n p : Nat} (hR : RF s) (hT : TY s n ch) (hp : gi s 76 14 = nI p) (hle : p ≤ n) (hL : LT s) {c : Nat} (hc60 : c < 60) : MM l G mM_takesHead 3 0 0 [.ref 76, .int (nI c)] KA s (fun r k t => ((wdP ch (wdL.getD (wdI ch p) []) p).1 = true ∧ r = some (.int 1) ∧ KA = k ∧ Fq (NH c) s t ∧ gi t 76 14 = nI (wdP ch (wdL.getD (wdI ch p) []) p).2 ∧ gi t 86 c = nI (knd (wdI ch p))) ∨ ((wdP ch (wdL.getD (wdI ch p) []) p).1 = false ∧ r = some (.int 0) ∧ KA = k ∧ Fq (NH c) s t ∧ gi t 76 14 = nI (wdP ch (wdL.getD (wdI ch p) []) p).2)) := by
  refine MM.of (loc := [(0, .ref 76), (1, .int (nI c))]) (by decide +kernel) rfl (Nat.le_of_ble_eq_true rfl) ?_
  refine V_aload_n dM_takesHead_0 rfl ?_
  refine V_callV (as := []) (rest := []) (bs' := 0) rfl dM_takesHead_1 cmM_next cvM_next mlM_224 (Or.inl ⟨_, _, _, _, _, rfl, k76, by decide, rfl⟩) rfl rfl (m_next hR hT hp hle) (by decide) (Nat.le_refl _) (by decide) (Nat.le_of_ble_eq_true rfl) ?_
  rintro _ _ _ ⟨rfl, rfl, rfl⟩ -
  refine V_one ?_
  by_cases s4_109 : (nx ch n p) = 109
  · have e109 : ch p = 109 := (nx_eq hT (c := 109) (by decide)).mp s4_109
    have hi : wdI ch p = 1 := if_pos e109
    refine V_lsw (tgt := 32) dM_takesHead_4 (by decide) (by rw [s4_109] <;> rfl) rfl ?_
    refine V_aload_n dM_takesHead_32 rfl ?_
    refine V_getR (a := 86) dM_takesHead_33 flM_65 k76 rfl (r76_18 hR) ?_
    refine V_iload_n dM_takesHead_36 rfl ?_
    refine V_iconst (v := 0) dM_takesHead_37 (by decide) ?_
    refine V_iastN (j := c) dM_takesHead_38 k86 rfl hc60 (by decide) ?_
    have hF : Fq (NH c) s (si s 86 c 0) := Fq.rfl.set (Or.inr ⟨Or.inl rfl, rfl⟩)
    refine V_aload_n dM_takesHead_39 rfl ?_
    refine V_iconst (v := 0) dM_takesHead_40 (by decide) ?_
    refine V_iconst (v := 4) dM_takesHead_41 (by decide) ?_
    refine V_callV (as := [.int 0, .int 4]) (rest := []) (bs' := 0) rfl dM_takesHead_42 cmM_takesWord cvM_takesWord mlM_254 (Or.inl ⟨_, _, _, _, _, rfl, k76, by decide, rfl⟩) rfl rfl (m_word1 (s := si s 86 c 0) (hF.rf hR) (hT.s1 (by omega) (by decide)) ((gi_ne (by decide)).trans hp) hle (hL.s1 (by decide))) (by decide) (Nat.le_refl _) (by decide) (Nat.le_of_ble_eq_true rfl) ?_
    rintro _ _ t1 (⟨hw, rfl, rfl, hF1, h14⟩ | ⟨hw, rfl, rfl, hF1, h14⟩) -
    · refine V_one ?_
      refine V_zret dM_takesHead_45 rfl rfl rfl ?_
      rw [hi]
      have hF2 : Fq (NH c) s t1 := hF.trans (hF1.mono N15.nh)
      exact Or.inl ⟨hw, rfl, rfl, hF2, h14, (hF1.1 86 c (by unfold N15; omega)).trans gi_eq⟩
    · refine V_one ?_
      refine V_zret dM_takesHead_45 rfl rfl rfl ?_
      rw [hi]
      have hF2 : Fq (NH c) s t1 := hF.trans (hF1.mono N15.nh)
      exact Or.inr ⟨hw, rfl, rfl, hF2, h14⟩
  by_cases s4_116 : (nx ch n p) = 116
  · have e116 : ch p = 116 := (nx_eq hT (c := 116) (by decide)).mp s4_116
    have hi : wdI ch p = 2 := (if_neg (by omega)).trans (if_pos e116)
    refine V_lsw (tgt := 46) dM_takesHead_4 (by decide) (by rw [s4_116] <;> rfl) rfl ?_
    refine V_aload_n dM_takesHead_46 rfl ?_
    refine V_getR (a := 86) dM_takesHead_47 flM_65 k76 rfl (r76_18 hR) ?_
    refine V_iload_n dM_takesHead_50 rfl ?_
    refine V_iconst (v := 1) dM_takesHead_51 (by decide) ?_
    refine V_iastN (j := c) dM_takesHead_52 k86 rfl hc60 (by decide) ?_
    have hF : Fq (NH c) s (si s 86 c 1) := Fq.rfl.set (Or.inr ⟨Or.inl rfl, rfl⟩)
    refine V_aload_n dM_takesHead_53 rfl ?_
    refine V_iconst (v := 4) dM_takesHead_54 (by decide) ?_
    refine V_iconst (v := 3) dM_takesHead_55 (by decide) ?_
    refine V_callV (as := [.int 4, .int 3]) (rest := []) (bs' := 0) rfl dM_takesHead_56 cmM_takesWord cvM_takesWord mlM_254 (Or.inl ⟨_, _, _, _, _, rfl, k76, by decide, rfl⟩) rfl rfl (m_word2 (s := si s 86 c 1) (hF.rf hR) (hT.s1 (by omega) (by decide)) ((gi_ne (by decide)).trans hp) hle (hL.s1 (by decide))) (by decide) (Nat.le_refl _) (by decide) (Nat.le_of_ble_eq_true rfl) ?_
    rintro _ _ t1 (⟨hw, rfl, rfl, hF1, h14⟩ | ⟨hw, rfl, rfl, hF1, h14⟩) -
    · refine V_one ?_
      refine V_zret dM_takesHead_59 rfl rfl rfl ?_
      rw [hi]
      have hF2 : Fq (NH c) s t1 := hF.trans (hF1.mono N15.nh)
      exact Or.inl ⟨hw, rfl, rfl, hF2, h14, (hF1.1 86 c (by unfold N15; omega)).trans gi_eq⟩
    · refine V_one ?_
      refine V_zret dM_takesHead_59 rfl rfl rfl ?_
      rw [hi]
      have hF2 : Fq (NH c) s t1 := hF.trans (hF1.mono N15.nh)
      exact Or.inr ⟨hw, rfl, rfl, hF2, h14⟩
  have hi : wdI ch p = 0 := (if_neg (fun e => s4_109 ((nx_eq hT (c := 109) (by decide)).mpr e))).trans (if_neg (fun e => s4_116 ((nx_eq hT (c := 116) (by decide)).mpr e)))
  refine V_lsw (tgt := 60) dM_takesHead_4 (by decide) ((lv_osw s4_109 (by decide)).trans ((lv_osw s4_116 (by decide)).trans rfl)) rfl ?_
  refine V_aload_n dM_takesHead_60 rfl ?_
  refine V_getR (a := 86) dM_takesHead_61 flM_65 k76 rfl (r76_18 hR) ?_
  refine V_iload_n dM_takesHead_64 rfl ?_
  refine V_iconst (v := 2) dM_takesHead_65 (by decide) ?_
  refine V_iastN (j := c) dM_takesHead_66 k86 rfl hc60 (by decide) ?_
  have hF : Fq (NH c) s (si s 86 c 2) := Fq.rfl.set (Or.inr ⟨Or.inl rfl, rfl⟩)
  refine V_aload_n dM_takesHead_67 rfl ?_
  refine V_bipush (v := 7) dM_takesHead_68 (by decide) ?_
  refine V_iconst (v := 4) dM_takesHead_70 (by decide) ?_
  refine V_callV (as := [.int 7, .int 4]) (rest := []) (bs' := 0) rfl dM_takesHead_71 cmM_takesWord cvM_takesWord mlM_254 (Or.inl ⟨_, _, _, _, _, rfl, k76, by decide, rfl⟩) rfl rfl (m_word0 (s := si s 86 c 2) (hF.rf hR) (hT.s1 (by omega) (by decide)) ((gi_ne (by decide)).trans hp) hle (hL.s1 (by decide))) (by decide) (Nat.le_refl _) (by decide) (Nat.le_of_ble_eq_true rfl) ?_
  rintro _ _ t1 (⟨hw, rfl, rfl, hF1, h14⟩ | ⟨hw, rfl, rfl, hF1, h14⟩) -
  · refine V_one ?_
    refine V_zret dM_takesHead_74 rfl rfl rfl ?_
    rw [hi]
    have hF2 : Fq (NH c) s t1 := hF.trans (hF1.mono N15.nh)
    exact Or.inl ⟨hw, rfl, rfl, hF2, h14, (hF1.1 86 c (by unfold N15; omega)).trans gi_eq⟩
  · refine V_one ?_
    refine V_zret dM_takesHead_74 rfl rfl rfl ?_
    rw [hi]
    have hF2 : Fq (NH c) s t1 := hF.trans (hF1.mono N15.nh)
    exact Or.inr ⟨hw, rfl, rfl, hF2, h14⟩
def CMo (σ0 : Hp) (f c n : Nat) (ch : Nat → Nat) (E : List Nat) (q : Rc) : Option Value → List Kd → Hp → Prop := fun r k t => (q.1 = true ∧ r = some (.int 1) ∧ KA = k ∧ Fq (FC f c) σ0 t ∧ S0 t f n ch q.2.1 (E ++ q.2.2.2.2.2) ∧ gi t 86 c = nI q.2.2.1 ∧ gi t 87 c = nI q.2.2.2.1 ∧ (q.2.2.1 = 2 ∨ (gi t 88 c = nI (100 * f + E.length) ∧ gi t 89 c = nI (100 * f + E.length + q.2.2.2.2.2.length)))) ∨ (q.1 = false ∧ r = some (.int 0) ∧ KA = k ∧ Fq (FC f c) σ0 t ∧ gi t 76 14 = nI q.2.1)
theorem m_clause {l : Launch} {G : GT} {ch : Nat → Nat} {s : Hp} {f n p c : Nat} {E : List Nat} (hR : RF s) (hf : f < 6) (hc60 : c < 60) (hL : LT s) (hS : S0 s f n ch p E) (hl : E.length ≤ p) : MM l G mM_takesClause 5 0 0 [.ref 76, .int (nI c)] KA s (CMo s f c n ch E (clP ch p)) := by
  refine MM.of (loc := [(0, .ref 76), (1, .int (nI c))]) (by decide +kernel) rfl (Nat.le_of_ble_eq_true rfl) ?_
  have hR0 := hR
  have h100 := hS.1.1
  generalize hi : wdI ch p = i
  have hi3 : i < 3 := hi ▸ wdI_lt p
  have hwd := wd_gd hS.1.2.2.2 (wdL.getD i []) p (wdL_ne i hi3).1 hS.le
  by_cases hi0 : i = 0
  · skip
    refine V_aload_n dM_takesClause_0 rfl ?_
    refine V_iload_n dM_takesClause_1 rfl ?_
    refine V_callV (as := [.int (nI c)]) (rest := []) (bs' := 0) rfl dM_takesClause_2 cmM_takesHead cvM_takesHead mlM_258 (Or.inl ⟨_, _, _, _, _, rfl, k76, by decide, rfl⟩) rfl rfl (m_head hR hS.1 hS.g14 hS.le hL hc60) (by decide) (Nat.le_refl _) (by decide) (Nat.le_of_ble_eq_true rfl) ?_
    rintro _ _ t1 (⟨hw, rfl, rfl, hF1, h14, h86⟩ | ⟨hw, rfl, rfl, hF1, h14⟩) -
    · refine V_one ?_
      rw [hi] at hw h14 h86
      have hS : S0 t1 f n ch (wdP ch (wdL.getD i []) p).2 E := hS.fq hF1 (by unfold NH N15; omega) (by unfold NH N15; omega) (by unfold NH N15; omega) (by unfold NH N15; omega) h14 hwd.2.1
      have hF : Fq (FC f c) s t1 := hF1.mono NH.q
      have hR := hF.rf hR0
      refine V_if_eq (tgt := 15) dM_takesClause_5 rfl (fun h => absurd h (by decide)) (fun _ => ?_)
      refine V_aload_n dM_takesClause_8 rfl ?_
      refine V_callV (as := []) (rest := []) (bs' := 0) rfl dM_takesClause_9 cmM_takesNumber cvM_takesNumber mlM_242 (Or.inl ⟨_, _, _, _, _, rfl, k76, by decide, rfl⟩) rfl rfl (m_number hR hS.1 hS.g14 hS.le) (by decide) (Nat.le_refl _) (by decide) (Nat.le_of_ble_eq_true rfl) ?_
      rintro _ _ t2 (⟨hn, rfl, rfl, hF2, h14b, h15⟩ | ⟨hn, rfl, rfl, rfl⟩) -
      · refine V_one ?_
        have hnl := nuL_le hS.1.2.2.2 hS.le
        have hS : S0 t2 f n ch ((wdP ch (wdL.getD i []) p).2 + nuL ch (wdP ch (wdL.getD i []) p).2) E := hS.fq hF2 (by unfold N15; omega) (by unfold N15; omega) (by unfold N15; omega) (by unfold N15; omega) h14b hnl
        have h86 : gi t2 86 c = nI (knd i) := (hF2.1 86 c (by unfold N15; omega)).trans h86
        have hF : Fq (FC f c) s t2 := hF.trans ((hF2.mono N15.nh).mono NH.q)
        have hR := hF.rf hR0
        refine V_if_ne (tgt := 17) dM_takesClause_12 rfl (fun _ => ?_) (fun h => absurd h (by decide))
        refine V_aload_n dM_takesClause_17 rfl ?_
        refine V_getR (a := 87) dM_takesClause_18 flM_68 k76 rfl (r76_19 hR) ?_
        refine V_iload_n dM_takesClause_21 rfl ?_
        refine V_aload_n dM_takesClause_22 rfl ?_
        refine V_getE (x := nI (nuV ch (wdP ch (wdL.getD i []) p).2)) dM_takesClause_23 flM_56 k76 rfl h15 ?_
        refine V_iastN (j := c) dM_takesClause_26 k87 rfl hc60 (by decide) ?_
        have hS : S0 (si t2 87 c (nI (nuV ch (wdP ch (wdL.getD i []) p).2))) f n ch ((wdP ch (wdL.getD i []) p).2 + nuL ch (wdP ch (wdL.getD i []) p).2) E := hS.ar (Or.inr (by decide))
        have h86 : gi (si t2 87 c (nI (nuV ch (wdP ch (wdL.getD i []) p).2))) 86 c = nI (knd i) := (gi_ne (by decide)).trans h86
        have h87 : gi (si t2 87 c (nI (nuV ch (wdP ch (wdL.getD i []) p).2))) 87 c = nI (nuV ch (wdP ch (wdL.getD i []) p).2) := gi_eq
        have hF : Fq (FC f c) s (si t2 87 c (nI (nuV ch (wdP ch (wdL.getD i []) p).2))) := hF.set (Or.inr ⟨Or.inr rfl, rfl⟩)
        have hR := hF.rf hR0
        refine V_aload_n dM_takesClause_27 rfl ?_
        refine V_getR (a := 86) dM_takesClause_28 flM_65 k76 rfl (r76_18 hR) ?_
        refine V_iload_n dM_takesClause_31 rfl ?_
        refine V_ialdN (j := c) dM_takesClause_32 k86 rfl hc60 (by decide) ?_
        refine V_topI (x' := nI (knd i)) h86 ?_
        refine V_iconst (v := 2) dM_takesClause_33 (by decide) ?_
        refine V_icmp_eq (tgt := 54) dM_takesClause_34 rfl (fun _ => ?_) (fun h => absurd h (not_not_intro (by rw [hi0]; rfl)))
        refine V_iconst (v := 1) dM_takesClause_54 (by decide) ?_
        refine V_goto (tgt := 59) dM_takesClause_55 rfl ?_
        refine V_zret dM_takesClause_59 rfl rfl rfl ?_
        subst hi0
        rw [cl_b hi hw hn]
        exact Or.inl ⟨rfl, rfl, rfl, hF, by rw [List.append_nil]; exact hS, h86, h87, Or.inl rfl⟩
      · refine V_one ?_
        refine V_if_ne (tgt := 17) dM_takesClause_12 rfl (fun h => absurd h (by decide)) (fun _ => ?_)
        refine V_iconst (v := 0) dM_takesClause_15 (by decide) ?_
        refine V_zret dM_takesClause_16 rfl rfl rfl ?_
        rw [cl_n hi hw hn]
        exact Or.inr ⟨rfl, rfl, rfl, hF, hS.g14⟩
    · refine V_one ?_
      rw [hi] at hw h14
      refine V_if_eq (tgt := 15) dM_takesClause_5 rfl (fun _ => ?_) (fun h => absurd h (by decide))
      refine V_iconst (v := 0) dM_takesClause_15 (by decide) ?_
      refine V_zret dM_takesClause_16 rfl rfl rfl ?_
      rw [cl_w hi hw]
      exact Or.inr ⟨rfl, rfl, rfl, hF1.mono NH.q, h14⟩
  · skip
    refine V_aload_n dM_takesClause_0 rfl ?_
    refine V_iload_n dM_takesClause_1 rfl ?_
    refine V_callV (as := [.int (nI c)]) (rest := []) (bs' := 0) rfl dM_takesClause_2 cmM_takesHead cvM_takesHead mlM_258 (Or.inl ⟨_, _, _, _, _, rfl, k76, by decide, rfl⟩) rfl rfl (m_head hR hS.1 hS.g14 hS.le hL hc60) (by decide) (Nat.le_refl _) (by decide) (Nat.le_of_ble_eq_true rfl) ?_
    rintro _ _ t1 (⟨hw, rfl, rfl, hF1, h14, h86⟩ | ⟨hw, rfl, rfl, hF1, h14⟩) -
    · refine V_one ?_
      rw [hi] at hw h14 h86
      have hS : S0 t1 f n ch (wdP ch (wdL.getD i []) p).2 E := hS.fq hF1 (by unfold NH N15; omega) (by unfold NH N15; omega) (by unfold NH N15; omega) (by unfold NH N15; omega) h14 hwd.2.1
      have hF : Fq (FC f c) s t1 := hF1.mono NH.q
      have hR := hF.rf hR0
      refine V_if_eq (tgt := 15) dM_takesClause_5 rfl (fun h => absurd h (by decide)) (fun _ => ?_)
      refine V_aload_n dM_takesClause_8 rfl ?_
      refine V_callV (as := []) (rest := []) (bs' := 0) rfl dM_takesClause_9 cmM_takesNumber cvM_takesNumber mlM_242 (Or.inl ⟨_, _, _, _, _, rfl, k76, by decide, rfl⟩) rfl rfl (m_number hR hS.1 hS.g14 hS.le) (by decide) (Nat.le_refl _) (by decide) (Nat.le_of_ble_eq_true rfl) ?_
      rintro _ _ t2 (⟨hn, rfl, rfl, hF2, h14b, h15⟩ | ⟨hn, rfl, rfl, rfl⟩) -
      · refine V_one ?_
        have hnl := nuL_le hS.1.2.2.2 hS.le
        have hS : S0 t2 f n ch ((wdP ch (wdL.getD i []) p).2 + nuL ch (wdP ch (wdL.getD i []) p).2) E := hS.fq hF2 (by unfold N15; omega) (by unfold N15; omega) (by unfold N15; omega) (by unfold N15; omega) h14b hnl
        have h86 : gi t2 86 c = nI (knd i) := (hF2.1 86 c (by unfold N15; omega)).trans h86
        have hF : Fq (FC f c) s t2 := hF.trans ((hF2.mono N15.nh).mono NH.q)
        have hR := hF.rf hR0
        refine V_if_ne (tgt := 17) dM_takesClause_12 rfl (fun _ => ?_) (fun h => absurd h (by decide))
        refine V_aload_n dM_takesClause_17 rfl ?_
        refine V_getR (a := 87) dM_takesClause_18 flM_68 k76 rfl (r76_19 hR) ?_
        refine V_iload_n dM_takesClause_21 rfl ?_
        refine V_aload_n dM_takesClause_22 rfl ?_
        refine V_getE (x := nI (nuV ch (wdP ch (wdL.getD i []) p).2)) dM_takesClause_23 flM_56 k76 rfl h15 ?_
        refine V_iastN (j := c) dM_takesClause_26 k87 rfl hc60 (by decide) ?_
        have hS : S0 (si t2 87 c (nI (nuV ch (wdP ch (wdL.getD i []) p).2))) f n ch ((wdP ch (wdL.getD i []) p).2 + nuL ch (wdP ch (wdL.getD i []) p).2) E := hS.ar (Or.inr (by decide))
        have h86 : gi (si t2 87 c (nI (nuV ch (wdP ch (wdL.getD i []) p).2))) 86 c = nI (knd i) := (gi_ne (by decide)).trans h86
        have h87 : gi (si t2 87 c (nI (nuV ch (wdP ch (wdL.getD i []) p).2))) 87 c = nI (nuV ch (wdP ch (wdL.getD i []) p).2) := gi_eq
        have hF : Fq (FC f c) s (si t2 87 c (nI (nuV ch (wdP ch (wdL.getD i []) p).2))) := hF.set (Or.inr ⟨Or.inr rfl, rfl⟩)
        have hR := hF.rf hR0
        refine V_aload_n dM_takesClause_27 rfl ?_
        refine V_getR (a := 86) dM_takesClause_28 flM_65 k76 rfl (r76_18 hR) ?_
        refine V_iload_n dM_takesClause_31 rfl ?_
        refine V_ialdN (j := c) dM_takesClause_32 k86 rfl hc60 (by decide) ?_
        refine V_topI (x' := nI (knd i)) h86 ?_
        refine V_iconst (v := 2) dM_takesClause_33 (by decide) ?_
        refine V_icmp_eq (tgt := 54) dM_takesClause_34 rfl (fun h => absurd h (fun e => absurd ((nI_eq (a := knd i) (b := 2) (by unfold knd; split <;> omega) (by decide)).mp e) (by unfold knd; rw [if_neg hi0]; omega))) (fun _ => ?_)
        refine V_aload_n dM_takesClause_37 rfl ?_
        refine V_bipush (v := 32) dM_takesClause_38 (by decide) ?_
        refine V_callV (as := [.int 32]) (rest := []) (bs' := 0) rfl dM_takesClause_40 cmM_takes cvM_takes mlM_228 (Or.inl ⟨_, _, _, _, _, rfl, k76, by decide, rfl⟩) rfl rfl (m_takes (s := si t2 87 c (nI (nuV ch (wdP ch (wdL.getD i []) p).2))) hR hS.1 hS.g14 hS.le (c := 32) (by decide)) (by decide) (Nat.le_refl _) (by decide) (Nat.le_of_ble_eq_true rfl) ?_
        rintro _ _ _ (⟨hs, rfl, rfl, rfl⟩ | ⟨hs, rfl, rfl, rfl⟩) -
        · refine V_one ?_
          have hsl : (wdP ch (wdL.getD i []) p).2 + nuL ch (wdP ch (wdL.getD i []) p).2 < n := hS.1.lt (by omega)
          have hS : S0 (si (si t2 87 c (nI (nuV ch (wdP ch (wdL.getD i []) p).2))) 76 14 (nI ((wdP ch (wdL.getD i []) p).2 + nuL ch (wdP ch (wdL.getD i []) p).2 + 1))) f n ch ((wdP ch (wdL.getD i []) p).2 + nuL ch (wdP ch (wdL.getD i []) p).2 + 1) E := hS.at hsl
          have h86 : gi (si (si t2 87 c (nI (nuV ch (wdP ch (wdL.getD i []) p).2))) 76 14 (nI ((wdP ch (wdL.getD i []) p).2 + nuL ch (wdP ch (wdL.getD i []) p).2 + 1))) 86 c = nI (knd i) := (gi_ne (by decide)).trans h86
          have h87 : gi (si (si t2 87 c (nI (nuV ch (wdP ch (wdL.getD i []) p).2))) 76 14 (nI ((wdP ch (wdL.getD i []) p).2 + nuL ch (wdP ch (wdL.getD i []) p).2 + 1))) 87 c = nI (nuV ch (wdP ch (wdL.getD i []) p).2) := (gi_ne (by decide)).trans h87
          have hF : Fq (FC f c) s (si (si t2 87 c (nI (nuV ch (wdP ch (wdL.getD i []) p).2))) 76 14 (nI ((wdP ch (wdL.getD i []) p).2 + nuL ch (wdP ch (wdL.getD i []) p).2 + 1))) := hF.set (Or.inl FQ14)
          have hR := hF.rf hR0
          refine V_if_eq (tgt := 58) dM_takesClause_43 rfl (fun h => absurd h (by decide)) (fun _ => ?_)
          refine V_aload_n dM_takesClause_46 rfl ?_
          refine V_iload_n dM_takesClause_47 rfl ?_
          refine V_callV (as := [.int (nI c)]) (rest := []) (bs' := 0) rfl dM_takesClause_48 cmM_takesE cvM_takesE mlM_261 (Or.inl ⟨_, _, _, _, _, rfl, k76, by decide, rfl⟩) rfl rfl (m_takesE (σ0 := si (si t2 87 c (nI (nuV ch (wdP ch (wdL.getD i []) p).2))) 76 14 (nI ((wdP ch (wdL.getD i []) p).2 + nuL ch (wdP ch (wdL.getD i []) p).2 + 1))) hR hf hc60 hS (by omega)) (by decide) (Nat.le_refl _) (by decide) (Nat.le_of_ble_eq_true rfl) ?_
          rintro _ _ t3 (⟨he, rfl, rfl, hF3, hS3, h88, h89⟩ | ⟨he, rfl, rfl, hF3, h14c⟩) -
          · refine V_one ?_
            have hra := run_any (E := E) hS.1.2.2.2 h100 (q := ((wdP ch (wdL.getD i []) p).2 + nuL ch (wdP ch (wdL.getD i []) p).2 + 1)) (by omega) hS.le
            have hak : (anK ch 4 ((wdP ch (wdL.getD i []) p).2 + nuL ch (wdP ch (wdL.getD i []) p).2 + 1)).1 = true := by
              cases hx : (anK ch 4 ((wdP ch (wdL.getD i []) p).2 + nuL ch (wdP ch (wdL.getD i []) p).2 + 1)).1 with
              | true => rfl
              | false => exact absurd he (by rw [(hra.2 hx).1]; decide)
            rw [hra.1 hak] at hS3 h89
            have hF4 : Fq (FC f c) s t3 := hF.trans (hF3.mono FQ.q)
            refine V_if_eq (tgt := 58) dM_takesClause_51 rfl (fun h => absurd h (by decide)) (fun _ => ?_)
            refine V_iconst (v := 1) dM_takesClause_54 (by decide) ?_
            refine V_goto (tgt := 59) dM_takesClause_55 rfl ?_
            refine V_zret dM_takesClause_59 rfl rfl rfl ?_
            rw [cl_e hi hw hn hi0 hs]
            exact Or.inl ⟨hak, rfl, rfl, hF4, hS3, (hF3.1 86 c (by unfold FQ; omega)).trans h86, (hF3.1 87 c (by unfold FQ; omega)).trans h87, Or.inr ⟨h88, by
              show gi t3 89 c = nI (100 * f + E.length + (anK ch 4 ((wdP ch (wdL.getD i []) p).2 + nuL ch (wdP ch (wdL.getD i []) p).2 + 1)).2.2.2.length)
              rw [h89, List.length_append, Nat.add_assoc (100 * f)]⟩⟩
          · refine V_one ?_
            have hra := run_any (E := E) hS.1.2.2.2 h100 (q := ((wdP ch (wdL.getD i []) p).2 + nuL ch (wdP ch (wdL.getD i []) p).2 + 1)) (by omega) hS.le
            have hak : (anK ch 4 ((wdP ch (wdL.getD i []) p).2 + nuL ch (wdP ch (wdL.getD i []) p).2 + 1)).1 = false := by
              cases hx : (anK ch 4 ((wdP ch (wdL.getD i []) p).2 + nuL ch (wdP ch (wdL.getD i []) p).2 + 1)).1 with
              | false => rfl
              | true => exact absurd he (by rw [hra.1 hx]; exact fun h => by cases h)
            rw [(hra.2 hak).2] at h14c
            have hF4 : Fq (FC f c) s t3 := hF.trans (hF3.mono FQ.q)
            refine V_if_eq (tgt := 58) dM_takesClause_51 rfl (fun _ => ?_) (fun h => absurd h (by decide))
            refine V_iconst (v := 0) dM_takesClause_58 (by decide) ?_
            refine V_zret dM_takesClause_59 rfl rfl rfl ?_
            rw [cl_e hi hw hn hi0 hs]
            exact Or.inr ⟨hak, rfl, rfl, hF4, h14c⟩
        · refine V_one ?_
          refine V_if_eq (tgt := 58) dM_takesClause_43 rfl (fun _ => ?_) (fun h => absurd h (by decide))
          refine V_iconst (v := 0) dM_takesClause_58 (by decide) ?_
          refine V_zret dM_takesClause_59 rfl rfl rfl ?_
          rw [cl_s hi hw hn hi0 hs]
          exact Or.inr ⟨rfl, rfl, rfl, hF, hS.g14⟩
      · refine V_one ?_
        refine V_if_ne (tgt := 17) dM_takesClause_12 rfl (fun h => absurd h (by decide)) (fun _ => ?_)
        refine V_iconst (v := 0) dM_takesClause_15 (by decide) ?_
        refine V_zret dM_takesClause_16 rfl rfl rfl ?_
        rw [cl_n hi hw hn]
        exact Or.inr ⟨rfl, rfl, rfl, hF, hS.g14⟩
    · refine V_one ?_
      rw [hi] at hw h14
      refine V_if_eq (tgt := 15) dM_takesClause_5 rfl (fun _ => ?_) (fun h => absurd h (by decide))
      refine V_iconst (v := 0) dM_takesClause_15 (by decide) ?_
      refine V_zret dM_takesClause_16 rfl rfl rfl ?_
      rw [cl_w hi hw]
      exact Or.inr ⟨rfl, rfl, rfl, hF1.mono NH.q, h14⟩
