/-! law: the second object walked-/
/-- what changes while law f is read -/
def Fgg (f k j : Nat) : Prop := (k = 76 ∧ (j = 14 ∨ j = 15 ∨ j = 24 ∨ j = 25 ∨ j = 26)) ∨ k = 91 ∨ (k = 90 ∧ 100 * f ≤ j ∧ j < 100 * f + 100) ∨ ((86 ≤ k ∧ k ≤ 89) ∧ 10 * f ≤ j ∧ j < 10 * f + 10) ∨ (k = 85 ∧ j = f)
theorem FC.g {f i : Nat} (hi : i < 10) : ∀ k j, FC f (10 * f + i) k j → Fgg f k j := fun k j h => by
  unfold FC FQ at h
  unfold Fgg
  omega
/-- the clauses read so far -/
def TB (s : Hp) (f : Nat) (E : List Nat) (cs : List Rc) : Prop := ∀ i c, cs[i]? = some c → gi s 86 (10 * f + i) = nI c.2.2.1 ∧ gi s 87 (10 * f + i) = nI c.2.2.2.1 ∧ (c.2.2.1 = 2 ∨ ∃ A B : List Nat, E = A ++ c.2.2.2.2.2 ++ B ∧ gi s 88 (10 * f + i) = nI (100 * f + A.length) ∧ gi s 89 (10 * f + i) = nI (100 * f + A.length + c.2.2.2.2.2.length))
theorem TB.add {s t : Hp} {f n : Nat} {E : List Nat} {cs : List Rc} {c : Rc} (h : TB s f E cs) (hF : Fq (FC f (10 * f + cs.length)) s t) (h6 : gi t 86 (10 * f + cs.length) = nI c.2.2.1) (h7 : gi t 87 (10 * f + cs.length) = nI c.2.2.2.1) (h8 : c.2.2.1 = 2 ∨ (gi t 88 (10 * f + cs.length) = nI (100 * f + E.length) ∧ gi t 89 (10 * f + cs.length) = nI (100 * f + E.length + c.2.2.2.2.2.length))) : TB t f (E ++ c.2.2.2.2.2) (cs ++ [c]) := by
  intro i d hd
  by_cases hi : i < cs.length
  · rw [List.getElem?_append_left hi] at hd
    obtain ⟨g1, g2, g3⟩ := h i d hd
    have e : ∀ k, 86 ≤ k ∧ k ≤ 89 → gi t k (10 * f + i) = gi s k (10 * f + i) := fun k hk => hF.1 _ _ (by unfold FC FQ; omega)
    rw [e 86 (by omega), e 87 (by omega), e 88 (by omega), e 89 (by omega)]
    refine ⟨g1, g2, g3.imp id ?_⟩
    rintro ⟨A, B, q1, q2, q3⟩
    exact ⟨A, B ++ c.2.2.2.2.2, by rw [q1]; simp only [List.append_assoc], q2, q3⟩
  · rw [List.getElem?_append_right (by omega)] at hd
    have e0 : i - cs.length < 1 := (List.getElem?_eq_some_iff.mp hd).1
    have e1 : i = cs.length := by omega
    subst e1
    rw [Nat.sub_self] at hd
    cases hd
    exact ⟨h6, h7, h8.imp id (fun q => ⟨E, [], by rw [List.append_nil], q.1, q.2⟩)⟩
theorem TB.s1 {s : Hp} {f a b : Nat} {x : Int32} {E : List Nat} {cs : List Rc} (h : TB s f E cs) (ha : a < 86 ∨ 89 < a) : TB (si s a b x) f E cs := fun i c hc => by
  rw [gi_ne (by omega), gi_ne (by omega), gi_ne (by omega), gi_ne (by omega)]
  exact h i c hc
def GPo (σ0 : Hp) (f n : Nat) (ch : Nat → Nat) (w : Rw) : Option Value → List Kd → Hp → Prop := fun r k t => (w.1 = true ∧ r = some (.int 1) ∧ KA = k ∧ Fq (Fgg f) σ0 t ∧ gi t 76 14 = nI w.2.1 ∧ gi t 85 f = nI w.2.2.2.2.length ∧ ∃ E : List Nat, E.length ≤ 100 ∧ S0 t f n ch w.2.1 E ∧ TB t f E w.2.2.2.2) ∨ (w.1 = false ∧ r = some (.int 0) ∧ KA = k ∧ Fq (Fgg f) σ0 t ∧ gi t 76 14 = nI w.2.1)
theorem m_goesText {l : Launch} {G : GT} {ch : Nat → Nat} {σ0 : Hp} {f n : Nat} (hR0 : RF σ0) (hf : f < 6) (hL : LT σ0) (hT : TY σ0 n ch) : MM l G mM_goesText 6 0 0 [.ref 76, .int (nI f)] KA σ0 (GPo σ0 f n ch (lwP ch n 10 0 0 10 [] [])) := by
  refine MM.of (loc := [(0, .ref 76), (1, .int (nI f))]) (by decide +kernel) rfl (Nat.le_of_ble_eq_true rfl) ?_
  have hR := hR0
  have lp : ∀ (F i : Nat), F + i + 1 = 10 → ∀ (q b : Nat) (ops E : List Nat) (cs : List Rc) (s : Hp), RF s → LT s → S0 s f n ch q E → E.length ≤ q → cs.length = i → TB s f E cs → Fq (Fgg f) σ0 s → V l G mM_goesText (rmd 6 0 0) (KA.length + 0) 0 15 [(2, .int (nI i)), (0, .ref 76), (1, .int (nI f))] [] KA s (GPo σ0 f n ch (lw1 n (lwP ch n F (i + 1)) b ops cs (clP ch q))) := by
    intro F
    induction F with
    | zero =>
      intro i hi q b ops E cs s hR hL hS hl hcs hTB hF
      have hle := hS.le
      have h100 := hS.1.1
      have hg := cl_gd hS.1.2.2.2 hle
      refine V_aload_n dM_goesText_15 rfl ?_
      refine V_bipush (v := 10) dM_goesText_16 (by decide) ?_
      refine V_iload_n dM_goesText_18 rfl ?_
      refine V_imul dM_goesText_19 ?_
      refine V_iload_n dM_goesText_20 rfl ?_
      refine V_iadd dM_goesText_21 ?_
      refine V_topI (x' := nI (10 * f + i)) (by rw [show (10 : Int32) = nI 10 from rfl, pk_mul, nI_add]) ?_
      refine V_callV (as := [.int (nI (10 * f + i))]) (rest := []) (bs' := 0) rfl dM_goesText_22 cmM_takesClause cvM_takesClause mlM_264 (Or.inl ⟨_, _, _, _, _, rfl, k76, by decide, rfl⟩) rfl rfl (m_clause (c := 10 * f + i) hR hf (by omega) hL hS hl) (by decide) (Nat.le_refl _) (by decide) (Nat.le_of_ble_eq_true rfl) ?_
      rintro _ _ t1 (⟨hk, rfl, rfl, hF1, hS1, h86, h87, h89⟩ | ⟨hk, rfl, rfl, hF1, h14⟩) -
      · refine V_one ?_
        obtain ⟨g1, g2, g3⟩ := hg
        obtain ⟨g4, g5, g6, g7⟩ := g3 hk
        have hF2 : Fq (Fgg f) σ0 t1 := hF.trans (hF1.mono (FC.g (by omega)))
        have hL1 : LT t1 := hL.fq hF1 (by unfold FC FQ; omega)
        have hTB1 : TB t1 f (E ++ (clP ch q).2.2.2.2.2) (cs ++ [clP ch q]) := TB.add (n := n) hTB (by rw [hcs]; exact hF1) (by rw [hcs]; exact h86) (by rw [hcs]; exact h87) (by rw [hcs]; exact h89)
        have hcl : (cs ++ [clP ch q]).length = i + 1 := by rw [List.length_append, hcs]; rfl
        have hR := hF1.rf hR
        have hE2 : (E ++ (clP ch q).2.2.2.2.2).length ≤ (clP ch q).2.1 := by rw [List.length_append]; omega
        refine V_if_ne (tgt := 30) dM_goesText_25 rfl (fun _ => ?_) (fun h => absurd h (by decide))
        refine V_iinc (v := nI (i + 1)) (loc' := [(2, .int (nI (i + 1))), (0, .ref 76), (1, .int (nI f))]) dM_goesText_30 rfl (nI_inc i) (by decide) rfl ?_
        refine V_aload_n dM_goesText_33 rfl ?_
        refine V_getR (a := 85) dM_goesText_34 flM_62 k76 rfl (r76_17 hR) ?_
        refine V_iload_n dM_goesText_37 rfl ?_
        refine V_iload_n dM_goesText_38 rfl ?_
        refine V_iastN (j := f) dM_goesText_39 k85 rfl hf (by decide) ?_
        have hS2 : S0 (si t1 85 f (nI (i + 1))) f n ch (clP ch q).2.1 (E ++ (clP ch q).2.2.2.2.2) := hS1.ar (Or.inr (by decide))
        have hF3 : Fq (Fgg f) σ0 (si t1 85 f (nI (i + 1))) := hF2.set (by unfold Fgg; omega)
        have h85 : gi (si t1 85 f (nI (i + 1))) 85 f = nI (i + 1) := gi_eq
        have hL2 : LT (si t1 85 f (nI (i + 1))) := hL1.s1 (by decide)
        have hTB2 : TB (si t1 85 f (nI (i + 1))) f (E ++ (clP ch q).2.2.2.2.2) (cs ++ [clP ch q]) := hTB1.s1 (by decide)
        have hR := hF3.rf hR0
        refine V_aload_n dM_goesText_40 rfl ?_
        refine V_getE (x := nI (clP ch q).2.1) dM_goesText_41 flM_53 k76 rfl hS2.g14 ?_
        refine V_aload_n dM_goesText_44 rfl ?_
        refine V_getE (x := nI n) dM_goesText_45 flM_50 k76 rfl hS2.1.2.1 ?_
        refine V_icmp_ne (tgt := 53) dM_goesText_48 rfl (fun c48 => ?_) (fun c48 => ?_)
        · have hne : ¬ (clP ch q).2.1 = n := fun e => c48 (by rw [e])
          refine V_iload_n dM_goesText_53 rfl ?_
          refine V_bipush (v := 10) dM_goesText_54 (by decide) ?_
          refine V_icmp_eq (tgt := 68) dM_goesText_56 rfl (fun _ => ?_) (fun h => absurd h (not_not_intro (by rw [show i + 1 = 10 by omega]; rfl)))
          refine V_iconst (v := 0) dM_goesText_68 (by decide) ?_
          refine V_zret dM_goesText_69 rfl rfl rfl ?_
          have el : lw1 n (lwP ch n 0 (i + 1)) b ops cs (clP ch q) = lwP ch n 0 (i + 1) (clP ch q).2.1 (bsC b (clP ch q)) (opC ops (clP ch q)) (cs ++ [clP ch q]) := (if_pos hk).trans (if_neg (by omega))
          rw [el]
          exact Or.inr ⟨rfl, rfl, rfl, hF3, hS2.g14⟩
        · have hne : (clP ch q).2.1 = n := (nI_eq (by omega) (by omega)).mp c48
          refine V_iconst (v := 1) dM_goesText_51 (by decide) ?_
          refine V_zret dM_goesText_52 rfl rfl rfl ?_
          have el : lw1 n (lwP ch n 0 (i + 1)) b ops cs (clP ch q) = (true, (clP ch q).2.1, bsC b (clP ch q), opC ops (clP ch q), cs ++ [clP ch q]) := (if_pos hk).trans (if_pos (by omega))
          rw [el]
          exact Or.inl ⟨rfl, rfl, rfl, hF3, hS2.g14, by rw [h85, hcl], _, by omega, hS2, hTB2⟩
      · refine V_one ?_
        refine V_if_ne (tgt := 30) dM_goesText_25 rfl (fun h => absurd h (by decide)) (fun _ => ?_)
        refine V_iconst (v := 0) dM_goesText_28 (by decide) ?_
        refine V_zret dM_goesText_29 rfl rfl rfl ?_
        have el : lw1 n (lwP ch n 0 (i + 1)) b ops cs (clP ch q) = (false, (clP ch q).2.1, 0, [], cs) := if_neg (by rw [hk]; decide)
        rw [el]
        exact Or.inr ⟨rfl, rfl, rfl, hF.trans (hF1.mono (FC.g (by omega))), h14⟩
    | succ F ih =>
      intro i hi q b ops E cs s hR hL hS hl hcs hTB hF
      have hle := hS.le
      have h100 := hS.1.1
      have hg := cl_gd hS.1.2.2.2 hle
      refine V_aload_n dM_goesText_15 rfl ?_
      refine V_bipush (v := 10) dM_goesText_16 (by decide) ?_
      refine V_iload_n dM_goesText_18 rfl ?_
      refine V_imul dM_goesText_19 ?_
      refine V_iload_n dM_goesText_20 rfl ?_
      refine V_iadd dM_goesText_21 ?_
      refine V_topI (x' := nI (10 * f + i)) (by rw [show (10 : Int32) = nI 10 from rfl, pk_mul, nI_add]) ?_
      refine V_callV (as := [.int (nI (10 * f + i))]) (rest := []) (bs' := 0) rfl dM_goesText_22 cmM_takesClause cvM_takesClause mlM_264 (Or.inl ⟨_, _, _, _, _, rfl, k76, by decide, rfl⟩) rfl rfl (m_clause (c := 10 * f + i) hR hf (by omega) hL hS hl) (by decide) (Nat.le_refl _) (by decide) (Nat.le_of_ble_eq_true rfl) ?_
      rintro _ _ t1 (⟨hk, rfl, rfl, hF1, hS1, h86, h87, h89⟩ | ⟨hk, rfl, rfl, hF1, h14⟩) -
      · refine V_one ?_
        obtain ⟨g1, g2, g3⟩ := hg
        obtain ⟨g4, g5, g6, g7⟩ := g3 hk
        have hF2 : Fq (Fgg f) σ0 t1 := hF.trans (hF1.mono (FC.g (by omega)))
        have hL1 : LT t1 := hL.fq hF1 (by unfold FC FQ; omega)
        have hTB1 : TB t1 f (E ++ (clP ch q).2.2.2.2.2) (cs ++ [clP ch q]) := TB.add (n := n) hTB (by rw [hcs]; exact hF1) (by rw [hcs]; exact h86) (by rw [hcs]; exact h87) (by rw [hcs]; exact h89)
        have hcl : (cs ++ [clP ch q]).length = i + 1 := by rw [List.length_append, hcs]; rfl
        have hR := hF1.rf hR
        have hE2 : (E ++ (clP ch q).2.2.2.2.2).length ≤ (clP ch q).2.1 := by rw [List.length_append]; omega
        refine V_if_ne (tgt := 30) dM_goesText_25 rfl (fun _ => ?_) (fun h => absurd h (by decide))
        refine V_iinc (v := nI (i + 1)) (loc' := [(2, .int (nI (i + 1))), (0, .ref 76), (1, .int (nI f))]) dM_goesText_30 rfl (nI_inc i) (by decide) rfl ?_
        refine V_aload_n dM_goesText_33 rfl ?_
        refine V_getR (a := 85) dM_goesText_34 flM_62 k76 rfl (r76_17 hR) ?_
        refine V_iload_n dM_goesText_37 rfl ?_
        refine V_iload_n dM_goesText_38 rfl ?_
        refine V_iastN (j := f) dM_goesText_39 k85 rfl hf (by decide) ?_
        have hS2 : S0 (si t1 85 f (nI (i + 1))) f n ch (clP ch q).2.1 (E ++ (clP ch q).2.2.2.2.2) := hS1.ar (Or.inr (by decide))
        have hF3 : Fq (Fgg f) σ0 (si t1 85 f (nI (i + 1))) := hF2.set (by unfold Fgg; omega)
        have h85 : gi (si t1 85 f (nI (i + 1))) 85 f = nI (i + 1) := gi_eq
        have hL2 : LT (si t1 85 f (nI (i + 1))) := hL1.s1 (by decide)
        have hTB2 : TB (si t1 85 f (nI (i + 1))) f (E ++ (clP ch q).2.2.2.2.2) (cs ++ [clP ch q]) := hTB1.s1 (by decide)
        have hR := hF3.rf hR0
        refine V_aload_n dM_goesText_40 rfl ?_
        refine V_getE (x := nI (clP ch q).2.1) dM_goesText_41 flM_53 k76 rfl hS2.g14 ?_
        refine V_aload_n dM_goesText_44 rfl ?_
        refine V_getE (x := nI n) dM_goesText_45 flM_50 k76 rfl hS2.1.2.1 ?_
        refine V_icmp_ne (tgt := 53) dM_goesText_48 rfl (fun c48 => ?_) (fun c48 => ?_)
        · have hne : ¬ (clP ch q).2.1 = n := fun e => c48 (by rw [e])
          refine V_iload_n dM_goesText_53 rfl ?_
          refine V_bipush (v := 10) dM_goesText_54 (by decide) ?_
          refine V_icmp_eq (tgt := 68) dM_goesText_56 rfl (fun h => absurd h (fun e => absurd ((nI_eq (a := i + 1) (b := 10) (by omega) (by decide)).mp e) (by omega))) (fun _ => ?_)
          refine V_aload_n dM_goesText_59 rfl ?_
          refine V_bipush (v := 59) dM_goesText_60 (by decide) ?_
          refine V_callV (as := [.int 59]) (rest := []) (bs' := 0) rfl dM_goesText_62 cmM_takes cvM_takes mlM_228 (Or.inl ⟨_, _, _, _, _, rfl, k76, by decide, rfl⟩) rfl rfl (m_takes (s := si t1 85 f (nI (i + 1))) hR hS2.1 hS2.g14 hS2.le (c := 59) (by decide)) (by decide) (Nat.le_refl _) (by decide) (Nat.le_of_ble_eq_true rfl) ?_
          rintro _ _ _ (⟨hs, rfl, rfl, rfl⟩ | ⟨hs, rfl, rfl, rfl⟩) -
          · refine V_one ?_
            have hsl : (clP ch q).2.1 < n := hS2.1.lt (by omega)
            refine V_if_ne (tgt := 15) dM_goesText_65 rfl (fun _ => ?_) (fun h => absurd h (by decide))
            have el : lw1 n (lwP ch n (F + 1) (i + 1)) b ops cs (clP ch q) = lwP ch n (F + 1) (i + 1) (clP ch q).2.1 (bsC b (clP ch q)) (opC ops (clP ch q)) (cs ++ [clP ch q]) := (if_pos hk).trans (if_neg (by omega))
            rw [el]
            rw [show lwP ch n (F + 1) (i + 1) (clP ch q).2.1 (bsC b (clP ch q)) (opC ops (clP ch q)) (cs ++ [clP ch q]) = lw1 n (lwP ch n F (i + 1 + 1)) (bsC b (clP ch q)) (opC ops (clP ch q)) (cs ++ [clP ch q]) (clP ch ((clP ch q).2.1 + 1)) from (if_neg (Nat.succ_ne_zero i)).trans (if_pos hs)]
            refine V.locs (loc' := [(2, .int (nI (i + 1))), (0, .ref 76), (1, .int (nI f))]) [0, 1, 2] rfl ?_
            exact (ih (i + 1) (by omega) ((clP ch q).2.1 + 1) _ _ _ _ (si (si t1 85 f (nI (i + 1))) 76 14 (nI ((clP ch q).2.1 + 1))) (hF3.set (by unfold Fgg; omega) |>.rf hR0) (hL2.s1 (by decide)) (hS2.at hsl) (by omega) hcl (hTB2.s1 (by decide)) (hF3.set (by unfold Fgg; omega)))
          · refine V_one ?_
            refine V_if_ne (tgt := 15) dM_goesText_65 rfl (fun h => absurd h (by decide)) (fun _ => ?_)
            refine V_iconst (v := 0) dM_goesText_68 (by decide) ?_
            refine V_zret dM_goesText_69 rfl rfl rfl ?_
            have el : lw1 n (lwP ch n (F + 1) (i + 1)) b ops cs (clP ch q) = lwP ch n (F + 1) (i + 1) (clP ch q).2.1 (bsC b (clP ch q)) (opC ops (clP ch q)) (cs ++ [clP ch q]) := (if_pos hk).trans (if_neg (by omega))
            rw [el]
            rw [show lwP ch n (F + 1) (i + 1) (clP ch q).2.1 (bsC b (clP ch q)) (opC ops (clP ch q)) (cs ++ [clP ch q]) = (false, (clP ch q).2.1, 0, [], cs ++ [clP ch q]) from (if_neg (Nat.succ_ne_zero i)).trans (if_neg hs)]
            exact Or.inr ⟨rfl, rfl, rfl, hF3, hS2.g14⟩
        · have hne : (clP ch q).2.1 = n := (nI_eq (by omega) (by omega)).mp c48
          refine V_iconst (v := 1) dM_goesText_51 (by decide) ?_
          refine V_zret dM_goesText_52 rfl rfl rfl ?_
          have el : lw1 n (lwP ch n (F + 1) (i + 1)) b ops cs (clP ch q) = (true, (clP ch q).2.1, bsC b (clP ch q), opC ops (clP ch q), cs ++ [clP ch q]) := (if_pos hk).trans (if_pos (by omega))
          rw [el]
          exact Or.inl ⟨rfl, rfl, rfl, hF3, hS2.g14, by rw [h85, hcl], _, by omega, hS2, hTB2⟩
      · refine V_one ?_
        refine V_if_ne (tgt := 30) dM_goesText_25 rfl (fun h => absurd h (by decide)) (fun _ => ?_)
        refine V_iconst (v := 0) dM_goesText_28 (by decide) ?_
        refine V_zret dM_goesText_29 rfl rfl rfl ?_
        have el : lw1 n (lwP ch n (F + 1) (i + 1)) b ops cs (clP ch q) = (false, (clP ch q).2.1, 0, [], cs) := if_neg (by rw [hk]; decide)
        rw [el]
        exact Or.inr ⟨rfl, rfl, rfl, hF.trans (hF1.mono (FC.g (by omega))), h14⟩
  show V _ _ _ _ _ _ _ _ _ _ _ (GPo σ0 f n ch (lw1 n (lwP ch n 9 (0 + 1)) 10 [] [] (clP ch 0)))
  refine V_aload_n dM_goesText_0 rfl ?_
  refine V_iconst (v := 0) dM_goesText_1 (by decide) ?_
  refine V_putI dM_goesText_2 flM_53 (fpM_14 _) (Or.inl rfl) k76 rfl ?_
  refine V_aload_n dM_goesText_5 rfl ?_
  refine V_bipush (v := 100) dM_goesText_6 (by decide) ?_
  refine V_iload_n dM_goesText_8 rfl ?_
  refine V_imul dM_goesText_9 ?_
  refine V_topI (x' := nI (100 * f)) (by rw [show (100 : Int32) = nI 100 from rfl, pk_mul]) ?_
  refine V_putI dM_goesText_10 flM_83 (fpM_24 _) (Or.inl rfl) k76 rfl ?_
  refine V_iconst (v := 0) dM_goesText_13 (by decide) ?_
  refine V_istore_n (loc' := [(2, .int 0), (0, .ref 76), (1, .int (nI f))]) dM_goesText_14 (by decide) rfl ?_
  have hS : S0 (si (si σ0 76 14 0) 76 24 (nI (100 * f))) f n ch 0 [] := ⟨(hT.s1 (by decide) (by decide)).s1 (by decide) (by decide), Nat.zero_le _, (gi_nj (by decide)).trans gi_eq, gi_eq, fun j op h => (by cases h)⟩
  have hF : Fq (Fgg f) σ0 (si (si σ0 76 14 0) 76 24 (nI (100 * f))) := (Fq.rfl.set (by unfold Fgg; omega)).set (by unfold Fgg; omega)
  refine V.locs (loc' := [(2, .int 0), (0, .ref 76), (1, .int (nI f))]) [0, 1, 2] rfl ?_
  refine V_eqL (loc' := [(2, .int (nI 0)), (0, .ref 76), (1, .int (nI f))]) ?_ ?_
  · rfl
  exact (lp 9 0 rfl 0 10 [] [] [] _ (hF.rf hR0) ((hL.s1 (by decide)).s1 (by decide)) hS (Nat.le_refl _) rfl (fun i c h => (by cases h)) hF)
theorem LT_M {L : Nat → List Cl} {M σ : Hp} (hM : RM M σ) (hI : Inv L M) : LT σ := by
  obtain ⟨h0, h1, h2, h3, h4, h5, h6, h7, h8, h9, h10⟩ := hI.2.2.2.2.2.2.2.2.2
  intro j hj
  rw [mR hM (show cnt 92 j = true from by revert hj; revert j; decide)]
  match j, hj with
  | 0, _ => exact h0
  | 1, _ => exact h1
  | 2, _ => exact h2
  | 3, _ => exact h3
  | 4, _ => exact h4
  | 5, _ => exact h5
  | 6, _ => exact h6
  | 7, _ => exact h7
  | 8, _ => exact h8
  | 9, _ => exact h9
  | 10, _ => exact h10
theorem cnt84 (q : Nat) : cnt 84 q = true := rfl
theorem TY_M {L : Nat → List Cl} {M σ : Hp} (hM : RM M σ) (hI : Inv L M) : TY σ (mF M) (chM M) := ⟨by have := (iF hI).2; omega, (mR hM rfl).trans (iF hI).1, fun q hq => ⟨(mR hM (cnt84 q)).trans (chM_lt hI hq).1, (chM_lt hI hq).2⟩, fun q hq => chM_255 hq⟩
theorem InvF_law {g g' : Nat → Nat → Int32} {laws laws' : Int32} (h : InvF g laws) (hg : ∀ f j, f ≠ 11 → g' f j = g f j) (h11 : g' 11 0 = -1 ∨ (isN (g' 11 0) 6 ∧ cN (g' 11 0) < cN laws')) : InvF g' laws' := by
  obtain ⟨a0, a2, a9, a10, a11, a12, a15, aw, ae, ao, ab⟩ := h
  have e := fun f j (h : f ≠ 11) => hg f j h
  unfold InvF
  rw [e 0 0 (by decide), e 2 0 (by decide), e 9 0 (by decide), e 10 0 (by decide), e 12 0 (by decide), e 15 0 (by decide)]
  refine ⟨a0, a2, a9, a10, h11, a12, a15, fun j hj => ?_, fun n hn => ?_, fun k hk => ?_, fun k hk => ?_⟩
  · rw [e 1 j (by decide)]; exact aw j hj
  · obtain ⟨c1, c2, c3, c4, c5, c6, c7⟩ := ae n hn
    rw [e 3 n (by decide), e 4 n (by decide), e 5 n (by decide), e 6 n (by decide), e 7 n (by decide)]
    exact ⟨c1, c2, c3, c4, c5, c6, fun i hi => by rw [e 8 _ (by decide)]; exact c7 i hi⟩
  · rw [e 13 k (by decide), e 14 k (by decide)]; exact ao k hk
  · rw [e 16 k (by decide), e 17 k (by decide), e 18 k (by decide)]; exact ab k hk
theorem i_the {g : Nat → Nat → Int32} {laws : Int32} (h : InvF g laws) : g 11 0 = -1 ∨ (isN (g 11 0) 6 ∧ cN (g 11 0) < cN laws) := h.2.2.2.2.1
/-- what of the second object may change in law -/
def Fll (f k j : Nat) : Prop := Fgg f k j ∨ (k = 76 ∧ (j = 11 ∨ j = 12 ∨ j = 13))
/-- the state law leaves is as it should be -/
theorem LSt_of {L : Nat → List Cl} {M σ t : Hp} (hM : RM M σ) (hI : Inv L M) (hB : Bo M) (hfe : fe M < 6) (hF : Fq (Fll (fe M)) σ t) (h13 : gi t 76 13 = 0)
    (h : if (lwM M).1 = true then gi t 76 11 = nI (fe M + 1) ∧ gi t 76 12 = nI (fe M) ∧ gi t 85 (fe M) = nI (lwM M).2.2.2.2.length ∧ ∃ E : List Nat, E.length ≤ 100 ∧ EM t (fe M) E ∧ TB t (fe M) E (lwM M).2.2.2.2 else gi t 76 11 = gi σ 76 11 ∧ gi t 76 12 = gi σ 76 12) : ∃ L', LSt L M L' t := by
  have hO := lwM_gd hI
  have g : ∀ k j, cnt k j = true → ¬ Fll (fe M) k j → gi t k j = gi M k j := fun k j hc hf => (hF.1 k j hf).trans (mR hM hc)
  have gN : ∀ k j, cnt k j = true → ¬ (85 ≤ k ∧ k ≤ 90) → ¬ (k = 76 ∧ (j = 11 ∨ j = 12 ∨ j = 13)) → gi t k j = gi M k j := fun k j hc h1 h2 => g k j hc (by
    unfold Fll Fgg
    intro q
    have hc91 : k ≠ 91 := by rintro rfl; cases hc
    have hc76 : ¬ (k = 76 ∧ (j = 14 ∨ j = 15 ∨ j = 24 ∨ j = 25 ∨ j = 26)) := by
      rintro ⟨rfl, h | h | h | h | h⟩ <;> subst h <;> cases hc
    omega)
  have eN : ∀ f j, f ≠ 11 → fdN t f j = fdN M f j := by
    intro f j hne
    unfold fdN
    split <;> first | exact gN _ _ rfl (by decide) (by omega) | exact absurd rfl hne
  have eI : ∀ f j, fdI t f j = fdI M f j := by
    intro f j
    unfold fdI
    split <;> exact gN _ _ rfl (by decide) (by omega)
  obtain ⟨a1, a2, a3, a4, a5, a6, a7, a8, a9, a10⟩ := hI
  have hlaws := a1.1
  have hfeN : cN (gi M 76 11) = fe M := rfl
  -- the laws from before
  have hold : ∀ f, f < 6 → f < fe M → gi t 85 f = nI (L f).length ∧ (L f).length ≤ 10 ∧ ∀ (i : Nat) (c : Cl), (L f)[i]? = some c → clOk t f i c := by
    intro f hf hlt
    obtain ⟨h1, h2, h3⟩ := a4 f hf (by rw [hlaws, nI_clamp (by omega), hfeN]; exact hlt)
    refine ⟨(g 85 f rfl (by unfold Fll Fgg; omega)).trans h1, h2, fun i c hc => ?_⟩
    have hi : i < 10 := by have := (List.getElem?_eq_some_iff.mp hc).1; omega
    obtain ⟨g1, g2, g3, g4, g5⟩ := h3 i c hc
    refine ⟨(g 86 _ rfl (by unfold Fll Fgg; omega)).trans g1, g2, (g 87 _ rfl (by unfold Fll Fgg; omega)).trans g3, g4, g5.imp id ?_⟩
    rintro ⟨ops, a, q1, q2, q3, q4, q5, q6⟩
    refine ⟨ops, a, q1, q2, (g 88 _ rfl (by unfold Fll Fgg; omega)).trans q3, (g 89 _ rfl (by unfold Fll Fgg; omega)).trans q4, fun j op hj => ?_, q6⟩
    have hj2 := (List.getElem?_eq_some_iff.mp hj).1
    exact ⟨(g 90 _ rfl (by unfold Fll Fgg; omega)).trans (q5 j op hj).1, (q5 j op hj).2⟩
  have hrest : ∀ L' : Nat → List Cl, isN (gi t 76 11) 7 → (gi t 76 12 = -1 ∨ (isN (gi t 76 12) 6 ∧ cN (gi t 76 12) < cN (gi t 76 11))) → cN (gi M 76 11) ≤ cN (gi t 76 11) → RMl L' t → Inv L' t ∧ Bo t := by
    intro L' k1 k2 k3 k4
    refine ⟨⟨k1, InvF_law a2 eN k2, InvF_law a3 (fun f j _ => eI f j) ?_, k4, ?_, ?_, ?_, ?_, ?_, ?_⟩, fun j hj => ?_⟩
    · rw [eI 11 0]
      rcases i_the a3 with q | ⟨q1, q2⟩
      · exact Or.inl q
      · exact Or.inr ⟨q1, by omega⟩
    · rw [h13]
      exact isN_of (j := 0) rfl (by decide) (by decide)
    · intro j hj
      rw [gN 84 j rfl (by decide) (by omega)]
      exact a6 j hj
    · rw [gN 76 37 rfl (by decide) (by decide)]; exact a7
    · rw [gN 76 57 rfl (by decide) (by decide)]; exact a8
    · intro q hq
      rw [gN 114 q rfl (by decide) (by omega), gN 113 q rfl (by decide) (by omega)]
      exact a9 q hq
    · have e92 : ∀ j, gi t 92 j = gi M 92 j := fun j => gN 92 j rfl (by decide) (by omega)
      simp only [e92]
      exact a10
    · rw [gN 96 j rfl (by decide) (by omega), gN 111 j rfl (by decide) (by omega)]
      exact hB j hj
  have hne6 : ¬ fe M = 6 := by omega
  have hgl : ∀ k j, cnt k j = true → gl t k j = gl M k j := fun k j hc => (hF.2.1 k j).trans (mRl hM hc)
  by_cases ho : (lwM M).1 = true
  · rw [if_pos ho] at h
    obtain ⟨h11, h12, h85, E, hE, ⟨e24, eE⟩, hTB⟩ := h
    have hc11 : cN (gi t 76 11) = fe M + 1 := by rw [h11]; exact nI_clamp (by omega)
    have hL : RMl (fun f => if f = fe M then (lwM M).2.2.2.2.map clL else L f) t := by
      intro f hf hf'
      have hf2 : f < fe M + 1 := by rw [← hc11]; exact hf'
      show gi t 85 f = nI (List.length (if f = fe M then (lwM M).2.2.2.2.map clL else L f)) ∧ (if f = fe M then (lwM M).2.2.2.2.map clL else L f).length ≤ 10 ∧ ∀ (i : Nat) (c : Cl), (if f = fe M then (lwM M).2.2.2.2.map clL else L f)[i]? = some c → clOk t f i c
      by_cases hfe2 : f = fe M
      · rw [if_pos hfe2, hfe2]
        obtain ⟨o1, o2, o3⟩ := hO
        obtain ⟨w1, w2, w3, w4, w5, w6⟩ := o3 ho
        refine ⟨by rw [h85, List.length_map], by rw [List.length_map]; exact o2, fun i c hc => ?_⟩
        rw [List.getElem?_map] at hc
        obtain ⟨d, hd, rfl⟩ := Option.map_eq_some_iff.mp hc
        obtain ⟨b1, b2, b3⟩ := hTB i d hd
        obtain ⟨k1, k2⟩ := w6 d (List.mem_of_getElem? hd)
        refine ⟨b1, by show d.2.2.1 < 3; omega, b2, k1, ?_⟩
        by_cases hk : d.2.2.1 = 2
        · exact Or.inl hk
        · obtain ⟨A, B, q1, q2, q3⟩ := b3.resolve_left hk
          obtain ⟨k3, p1, p2, v, p3, p4, p5, p6⟩ := k2.resolve_left hk
          have hlen : E.length = A.length + d.2.2.2.2.2.length + B.length := by rw [q1, List.length_append, List.length_append]
          refine Or.inr ⟨d.2.2.2.2.2, 100 * fe M + A.length, by omega, by omega, q2, q3, fun j op hj => ⟨?_, p2 op (List.mem_of_getElem? hj)⟩, ?_, fun F => ?_⟩
          · have hj2 := (List.getElem?_eq_some_iff.mp hj).1
            have := eE (A.length + j) op (by
              rw [q1, List.append_assoc, List.getElem?_append_right (by omega), List.getElem?_append_left (by omega), Nat.add_sub_cancel_left]
              exact hj)
            rw [Nat.add_assoc]
            exact this
          · have := p6 100 0 [] (by decide)
            rw [List.append_nil] at this
            rw [this]
            rfl
          · have := p4 F [] []
            rw [List.append_nil] at this
            show runB F d.2.2.2.2.2 [] = [(runB F d.2.2.2.2.2 []).headD false]
            rw [this]
            rfl
      · rw [if_neg hfe2]
        exact hold f hf (by omega)
    have hr := hrest _ (by rw [h11]; exact isN_of (j := fe M + 1) rfl (by omega) (by decide)) (Or.inr ⟨by rw [h12]; exact isN_of (j := fe M) rfl hfe (by decide), by rw [hc11, h12]; show (nI (fe M)).toNatClampNeg < _; rw [nI_clamp (by omega)]; omega⟩) (by rw [hc11, hfeN]; omega) hL
    refine ⟨_, hr.1, hr.2, ?_⟩
    rw [if_neg hne6]
    refine ⟨gN, hgl, h13, ?_⟩
    rw [if_pos ho]
    exact ⟨h11, h12, rfl⟩
  · rw [if_neg ho] at h
    obtain ⟨h11, h12⟩ := h
    have e11 : gi t 76 11 = gi M 76 11 := h11.trans (mR hM rfl)
    have e12 : gi t 76 12 = gi M 76 12 := h12.trans (mR hM rfl)
    have hL : RMl L t := by
      intro f hf hf'
      rw [e11, hlaws, nI_clamp (by omega), hfeN] at hf'
      exact hold f hf hf'
    have hr := hrest L (by rw [e11]; exact a1) (by rw [e11, e12]; exact i_the a2) (by rw [e11]; exact Nat.le_refl _) hL
    refine ⟨L, hr.1, hr.2, ?_⟩
    rw [if_neg hne6]
    refine ⟨gN, hgl, h13, ?_⟩
    rw [if_neg ho]
    exact ⟨e11, e12, rfl⟩
theorem Fgg.l {f : Nat} : ∀ k j, Fgg f k j → Fll f k j := fun _ _ h => Or.inl h
theorem Fq.sc {P : Nat → Nat → Prop} {s t : Hp} (h : Fq P s t) (hP : ∀ k j, P k j → 76 ≤ k) : Sc s t := fun k j hk => ⟨h.1 k j (fun q => absurd (hP k j q) (by omega)), h.2.1 k j⟩
theorem Fll.ge {f : Nat} : ∀ k j, Fll f k j → 76 ≤ k := fun k j h => by
  unfold Fll Fgg at h
  omega
theorem RM.own {t : Hp} (h : RF t) : RM t t := ⟨h, fun _ _ _ => ⟨rfl, rfl⟩⟩
theorem m_law {l : Launch} {G : GT} {L : Nat → List Cl} {M σ : Hp} (hM : RM M σ) (hI : Inv L M) (hB : Bo M) : MM l G mM_law 7 0 0 [.ref 76] KA σ (PMw L M σ) := by
  refine MM.of (loc := [(0, .ref 76)]) (by decide +kernel) rfl (Nat.le_of_ble_eq_true rfl) ?_
  have hR := hM.1
  by_cases h6 : fe M = 6
  · skip
    refine V_aload_n dM_law_0 rfl ?_
    refine V_getE (x := nI (fe M)) dM_law_1 flM_44 k76 rfl ((mR hM rfl).trans (iL hI).1) ?_
    refine V_bipush (v := 6) dM_law_4 (by decide) ?_
    refine V_icmp_ne (tgt := 12) dM_law_6 rfl (fun h => absurd h (not_not_intro (by rw [h6]; rfl))) (fun _ => ?_)
    refine V_bipush (v := -4) dM_law_9 (by decide) ?_
    refine V_iret dM_law_11 rfl rfl ?_
    rw [show (-4 : Int32) = aL M from (if_pos h6).symm]
    refine ⟨rfl, rfl, Sc.rfl, L, M, ⟨hI, hB, ?_⟩, hM⟩
    rw [if_pos h6]
    exact ⟨rfl, rfl⟩
  · have hfe : fe M < 6 := by have := (iL hI).2; omega
    refine V_aload_n dM_law_0 rfl ?_
    refine V_getE (x := nI (fe M)) dM_law_1 flM_44 k76 rfl ((mR hM rfl).trans (iL hI).1) ?_
    refine V_bipush (v := 6) dM_law_4 (by decide) ?_
    refine V_icmp_ne (tgt := 12) dM_law_6 rfl (fun _ => ?_) (fun h => absurd h (fun e => h6 ((nI_eq (a := fe M) (b := 6) (by omega) (by decide)).mp e)))
    refine V_aload_n dM_law_12 rfl ?_
    refine V_aload_n dM_law_13 rfl ?_
    refine V_getE (x := nI (fe M)) dM_law_14 flM_44 k76 rfl ((mR hM rfl).trans (iL hI).1) ?_
    refine V_callV (as := [.int (nI (fe M))]) (rest := []) (bs' := 0) rfl dM_law_17 cmM_goesText cvM_goesText mlM_267 (Or.inl ⟨_, _, _, _, _, rfl, k76, by decide, rfl⟩) rfl rfl (m_goesText hR hfe (LT_M hM hI) (TY_M hM hI)) (by decide) (Nat.le_refl _) (by decide) (Nat.le_of_ble_eq_true rfl) ?_
    rintro _ _ t1 (⟨hk, rfl, rfl, hF1, h14, h85, E, hE, hS, hTB⟩ | ⟨hk, rfl, rfl, hF1, h14⟩) -
    · refine V_one ?_
      have hR := hF1.rf hR
      have hk2 : (lwM M).1 = true := hk
      have h14 : gi t1 76 14 = nI (lwM M).2.1 := h14
      have h11 : gi t1 76 11 = nI (fe M) := (hF1.1 76 11 (by unfold Fgg; omega)).trans ((mR hM rfl).trans (iL hI).1)
      refine V_istore_n (loc' := [(1, .int 1), (0, .ref 76)]) dM_law_20 (by decide) rfl ?_
      refine V_aload_n dM_law_21 rfl ?_
      refine V_iconst (v := 0) dM_law_22 (by decide) ?_
      refine V_putI dM_law_23 flM_50 (fpM_13 _) (Or.inl rfl) k76 rfl ?_
      refine V_iload_n dM_law_26 rfl ?_
      refine V_if_ne (tgt := 38) dM_law_27 rfl (fun _ => ?_) (fun h => absurd h (by decide))
      refine V_aload_n dM_law_38 rfl ?_
      refine V_aload_n dM_law_39 rfl ?_
      refine V_getE (x := nI (fe M)) dM_law_40 flM_44 k76 rfl ((gi_nj (by decide)).trans h11) ?_
      refine V_putI dM_law_43 flM_47 (fpM_12 _) (Or.inl rfl) k76 rfl ?_
      refine V_aload_n dM_law_46 rfl ?_
      refine V_dup dM_law_47 rfl ?_
      refine V_getE (x := nI (fe M)) dM_law_48 flM_44 k76 rfl ((gi_nj (by decide)).trans ((gi_nj (by decide)).trans h11)) ?_
      refine V_iconst (v := 1) dM_law_51 (by decide) ?_
      refine V_iadd dM_law_52 ?_
      refine V_topI (x' := nI (fe M + 1)) (nI_1 _) ?_
      refine V_putI dM_law_53 flM_44 (fpM_11 _) (Or.inl rfl) k76 rfl ?_
      refine V_aload_n dM_law_56 rfl ?_
      refine V_getE (x := nI (fe M)) dM_law_57 flM_47 k76 rfl ((gi_nj (by decide)).trans gi_eq) ?_
      refine V_iret dM_law_60 rfl rfl ?_
      have e : aL M = nI (fe M) := (if_neg h6).trans (if_pos hk2)
      have hF : Fq (Fll (fe M)) σ (si (si (si t1 76 13 0) 76 12 (nI (fe M))) 76 11 (nI (fe M + 1))) := (((hF1.mono Fgg.l).set (Or.inr ⟨rfl, by decide⟩)).set (Or.inr ⟨rfl, by decide⟩)).set (Or.inr ⟨rfl, by decide⟩)
      obtain ⟨L2, hL2⟩ := LSt_of hM hI hB hfe hF ((gi_nj (by decide)).trans ((gi_nj (by decide)).trans gi_eq)) (by
        rw [if_pos hk2]
        exact ⟨gi_eq, (gi_nj (by decide)).trans gi_eq, (gi_ne (by decide)).trans ((gi_ne (by decide)).trans ((gi_ne (by decide)).trans h85)), E, hE, ⟨(gi_nj (by decide)).trans ((gi_nj (by decide)).trans ((gi_nj (by decide)).trans hS.2.2.2.1)), fun j op hj => (gi_ne (by decide)).trans ((gi_ne (by decide)).trans ((gi_ne (by decide)).trans (hS.2.2.2.2 j op hj)))⟩, ((hTB.s1 (by decide)).s1 (by decide)).s1 (by decide)⟩)
      exact ⟨by rw [e], rfl, hF.sc Fll.ge, L2, _, hL2, RM.own (hF.rf hM.1)⟩
    · refine V_one ?_
      have hR := hF1.rf hR
      have hk2 : (lwM M).1 = false := hk
      have h14 : gi t1 76 14 = nI (lwM M).2.1 := h14
      refine V_istore_n (loc' := [(1, .int 0), (0, .ref 76)]) dM_law_20 (by decide) rfl ?_
      refine V_aload_n dM_law_21 rfl ?_
      refine V_iconst (v := 0) dM_law_22 (by decide) ?_
      refine V_putI dM_law_23 flM_50 (fpM_13 _) (Or.inl rfl) k76 rfl ?_
      refine V_iload_n dM_law_26 rfl ?_
      refine V_if_ne (tgt := 38) dM_law_27 rfl (fun h => absurd h (by decide)) (fun _ => ?_)
      refine V_bipush (v := -10) dM_law_30 (by decide) ?_
      refine V_aload_n dM_law_32 rfl ?_
      refine V_getE (x := nI (lwM M).2.1) dM_law_33 flM_53 k76 rfl ((gi_nj (by decide)).trans h14) ?_
      refine V_isub dM_law_36 ?_
      refine V_iret dM_law_37 rfl rfl ?_
      have e : aL M = -10 - nI (lwM M).2.1 := (if_neg h6).trans (if_neg (by rw [hk2]; decide))
      rw [← e]
      have hF : Fq (Fll (fe M)) σ (si t1 76 13 0) := (hF1.mono Fgg.l).set (Or.inr ⟨rfl, by decide⟩)
      obtain ⟨L2, hL2⟩ := LSt_of hM hI hB hfe hF gi_eq (by
        rw [if_neg (by rw [hk2]; decide)]
        exact ⟨(gi_nj (by decide)).trans (hF1.1 76 11 (by unfold Fgg; omega)), (gi_nj (by decide)).trans (hF1.1 76 12 (by unfold Fgg; omega))⟩)
      exact ⟨rfl, rfl, hF.sc Fll.ge, L2, _, hL2, RM.own (hF.rf hM.1)⟩
