/-! the reader of the second object: an E-/
theorem brk_le : ∀ W : List Nat, brk W ≤ W.length
  | [] => Nat.le_refl _
  | x :: W => by
    show brk W + (if x = 33 ∨ x = 40 then 1 else 0) ≤ W.length + 1
    have := brk_le W
    split <;> omega
def okW (W : List Nat) : Prop := ∀ x ∈ W, x = 33 ∨ x = 40 ∨ x = 38 ∨ x = 124
theorem okW.lt {W : List Nat} (h : okW W) : ∀ x ∈ W, x < 2 ^ 31 := fun x hx => by
  have := h x hx
  omega
theorem okW.tl {x : Nat} {W : List Nat} (h : okW (x :: W)) : okW W := fun y hy => h y (List.mem_cons_of_mem _ hy)
theorem okW.cons {x : Nat} {W : List Nat} (h : okW W) (hx : x = 33 ∨ x = 40 ∨ x = 38 ∨ x = 124) : okW (x :: W) := fun y hy => (List.mem_cons.mp hy).elim (fun e => by rw [e]; exact hx) (h y)
theorem okW.wh : ∀ {W : List Nat} (E : List Nat), okW W → okW (whP W E).1
  | [], _, h => h
  | x :: W, E, h => by
    by_cases hx : x = 33
    · subst hx
      rw [whP_33]
      exact okW.wh _ h.tl
    · rw [whP_ne hx]
      exact h
theorem okW.st (c : Nat) : ∀ {W : List Nat} (E : List Nat), okW W → okW (stP c W E).1
  | [], _, h => h
  | x :: W, E, h => by
    by_cases hx : x = 38
    · subst hx
      rw [stP_38]
      exact okW.st c _ h.tl
    · by_cases h2 : x = 124 ∧ c ≠ 38
      · obtain ⟨rfl, h3⟩ := h2
        rw [stP_124 h3]
        exact okW.st c _ h.tl
      · rw [stP_ne hx h2]
        exact h
theorem st_head : ∀ {W : List Nat} (E : List Nat) {x : Nat} {W' : List Nat}, okW W → (stP 124 W E).1 = x :: W' → x = 33 ∨ x = 40
  | [], E, x, W', h, e => by cases e
  | y :: W, E, x, W', h, e => by
    by_cases hx : y = 38
    · subst hx
      rw [stP_38] at e
      exact st_head _ h.tl e
    · by_cases h2 : y = 124
      · subst h2
        rw [stP_124 (by decide)] at e
        exact st_head _ h.tl e
      · rw [stP_ne hx (fun q => h2 q.1)] at e
        have h9 := h y List.mem_cons_self
        cases e
        omega
/-- what comes out of an E -/
def EPo (σ0 : Hp) (f c n : Nat) (ch : Nat → Nat) (a0 : Int32) (q : Bool × Nat × List Nat) : Option Value → List Kd → Hp → Prop := fun r k t => (q.1 = true ∧ r = some (.int 1) ∧ KA = k ∧ Fq (FQ f c) σ0 t ∧ S0 t f n ch q.2.1 q.2.2 ∧ gi t 88 c = a0 ∧ gi t 89 c = nI (100 * f + q.2.2.length)) ∨ (q.1 = false ∧ r = some (.int 0) ∧ KA = k ∧ Fq (FQ f c) σ0 t ∧ gi t 76 14 = nI q.2.1)
theorem S0.any {s : Hp} {f n p : Nat} {ch : Nat → Nat} {E : List Nat} (h : S0 s f n ch p E) : S0 s f n ch p E := h
theorem fq88 {f c : Nat} {s t : Hp} {P : Nat → Nat → Prop} (h : Fq P s t) (hP : ¬ P 88 c) : gi t 88 c = gi s 88 c := h.1 _ _ hP
theorem m_takesE {l : Launch} {G : GT} {ch : Nat → Nat} {σ0 : Hp} {f n p c : Nat} {E : List Nat} (hR0 : RF σ0) (hf : f < 6) (hc60 : c < 60) (hS : S0 σ0 f n ch p E) (hl : E.length ≤ p) : MM l G mM_takesE 4 0 0 [.ref 76, .int (nI c)] KA σ0 (EPo σ0 f c n ch (nI (100 * f + E.length)) (rnE ch 101 true p [] E)) := by
  refine MM.of (loc := [(0, .ref 76), (1, .int (nI c))]) (by decide +kernel) rfl (Nat.le_of_ble_eq_true rfl) ?_
  have h100 := hS.1.1
  have hle := hS.le
  have hR := hR0
  generalize ha0 : nI (100 * f + E.length) = a0
  have lp : ∀ m : Nat, (∀ (p : Nat) (W E : List Nat) (s : Hp), RF s → okW W → ST s f n ch p E W → E.length + W.length ≤ p → n < p + m → Fq (FQ f c) σ0 s → gi s 88 c = a0 → V l G mM_takesE (rmd 4 0 0) (KA.length + 0) 0 22 [(2, .int 1), (0, .ref 76), (1, .int (nI c))] [] KA s (EPo σ0 f c n ch a0 (rnE ch m true p W E))) ∧ (∀ (p : Nat) (W E : List Nat) (s : Hp), RF s → okW W → ST s f n ch p E W → E.length + W.length ≤ p → n < p + m → Fq (FQ f c) σ0 s → gi s 88 c = a0 → V l G mM_takesE (rmd 4 0 0) (KA.length + 0) 0 22 [(2, .int 0), (0, .ref 76), (1, .int (nI c))] [] KA s (EPo σ0 f c n ch a0 (rnE ch m false p W E))) := by
    intro m
    induction m with
    | zero =>
      constructor
      · intro p W E s hR hX hS hl hm hF h88
        have := hS.1.le
        omega
      · intro p W E s hR hX hS hl hm hF h88
        have := hS.1.le
        omega
    | succ m ih =>
      obtain ⟨ihT, ihF⟩ := ih
      constructor
      · intro p W E s hR hX hS hl hm hF h88
        have hle := hS.1.le
        have hTT := hS.1.1
        have hbl := brk_le W
        have nq : ∀ c : Nat, c < 128 → (nx ch n p = nI c ↔ ch p = c) := fun c hc => nx_eq hTT hc
        by_cases h33 : ch p = 33
        · have hc0 := h33
          have hp0 : p < n := hTT.lt (by omega)
          by_cases hb4 : brk W = 4
          · skip
            refine V_aload_n dM_takesE_22 rfl ?_
            refine V_callV (as := []) (rest := []) (bs' := 0) rfl dM_takesE_23 cmM_next cvM_next mlM_224 (Or.inl ⟨_, _, _, _, _, rfl, k76, by decide, rfl⟩) rfl rfl (m_next hR hS.1.1 hS.1.g14 hS.1.le) (by decide) (Nat.le_refl _) (by decide) (Nat.le_of_ble_eq_true rfl) ?_
            rintro _ _ _ ⟨rfl, rfl, rfl⟩ -
            refine V_one ?_
            refine V_istore_n (loc' := [(3, .int (nx ch n p)), (2, .int 1), (0, .ref 76), (1, .int (nI c))]) dM_takesE_26 (by decide) rfl ?_
            refine V_iload_n dM_takesE_27 rfl ?_
            refine V_if_eq (tgt := 110) dM_takesE_28 rfl (fun h => absurd h (by decide)) (fun _ => ?_)
            refine V_iload_n dM_takesE_31 rfl ?_
            refine V_bipush (v := 33) dM_takesE_32 (by decide) ?_
            refine V_icmp_eq (tgt := 43) dM_takesE_34 rfl (fun _ => ?_) (fun h => absurd h (not_not_intro ((nq 33 (by decide)).mpr h33)))
            refine V_aload_n dM_takesE_43 rfl ?_
            refine V_getE (x := nI (brk W)) dM_takesE_44 flM_89 k76 rfl hS.g26 ?_
            refine V_iconst (v := 4) dM_takesE_47 (by decide) ?_
            refine V_icmp_ne (tgt := 53) dM_takesE_48 rfl (fun h => absurd h (not_not_intro (by rw [hb4]; rfl))) (fun _ => ?_)
            refine V_iconst (v := 0) dM_takesE_51 (by decide) ?_
            refine V_zret dM_takesE_52 rfl rfl rfl ?_
            have e : rnE ch (m + 1) true p W E = (false, p, E) := by
              show (if ch p = 33 ∨ ch p = 40 then (if brk W = 4 then (false, p, E) else _) else _) = _
              rw [if_pos (by omega), if_pos hb4]
            rw [e]
            exact Or.inr ⟨rfl, rfl, rfl, hF, hS.1.g14⟩
          · skip
            refine V_aload_n dM_takesE_22 rfl ?_
            refine V_callV (as := []) (rest := []) (bs' := 0) rfl dM_takesE_23 cmM_next cvM_next mlM_224 (Or.inl ⟨_, _, _, _, _, rfl, k76, by decide, rfl⟩) rfl rfl (m_next hR hS.1.1 hS.1.g14 hS.1.le) (by decide) (Nat.le_refl _) (by decide) (Nat.le_of_ble_eq_true rfl) ?_
            rintro _ _ _ ⟨rfl, rfl, rfl⟩ -
            refine V_one ?_
            refine V_istore_n (loc' := [(3, .int (nx ch n p)), (2, .int 1), (0, .ref 76), (1, .int (nI c))]) dM_takesE_26 (by decide) rfl ?_
            refine V_iload_n dM_takesE_27 rfl ?_
            refine V_if_eq (tgt := 110) dM_takesE_28 rfl (fun h => absurd h (by decide)) (fun _ => ?_)
            refine V_iload_n dM_takesE_31 rfl ?_
            refine V_bipush (v := 33) dM_takesE_32 (by decide) ?_
            refine V_icmp_eq (tgt := 43) dM_takesE_34 rfl (fun _ => ?_) (fun h => absurd h (not_not_intro ((nq 33 (by decide)).mpr h33)))
            refine V_aload_n dM_takesE_43 rfl ?_
            refine V_getE (x := nI (brk W)) dM_takesE_44 flM_89 k76 rfl hS.g26 ?_
            refine V_iconst (v := 4) dM_takesE_47 (by decide) ?_
            refine V_icmp_ne (tgt := 53) dM_takesE_48 rfl (fun _ => ?_) (fun h => absurd h (fun e => hb4 ((nI_eq (a := brk W) (b := 4) (by omega) (by decide)).mp e)))
            refine V_aload_n dM_takesE_53 rfl ?_
            refine V_dup dM_takesE_54 rfl ?_
            refine V_getE (x := nI (brk W)) dM_takesE_55 flM_89 k76 rfl hS.g26 ?_
            refine V_iconst (v := 1) dM_takesE_58 (by decide) ?_
            refine V_iadd dM_takesE_59 ?_
            refine V_topI (x' := nI (brk W + 1)) (nI_1 _) ?_
            refine V_putI dM_takesE_60 flM_89 (fpM_26 _) (Or.inl rfl) k76 rfl ?_
            refine V_aload_n dM_takesE_63 rfl ?_
            refine V_getR (a := 91) dM_takesE_64 flM_80 k76 rfl (r76_23 hR) ?_
            refine V_aload_n dM_takesE_67 rfl ?_
            refine V_getE (x := nI W.length) dM_takesE_68 flM_86 k76 rfl ((gi_nj (by decide)).trans hS.g25) ?_
            refine V_iload_n dM_takesE_71 rfl ?_
            refine V_topI (x' := nI 33) ((nq 33 (by decide)).mpr hc0) ?_
            refine V_iastN (j := W.length) dM_takesE_72 k91 rfl (by omega) (by decide) ?_
            refine V_aload_n dM_takesE_73 rfl ?_
            refine V_dup dM_takesE_74 rfl ?_
            refine V_getE (x := nI W.length) dM_takesE_75 flM_86 k76 rfl ((gi_ne (by decide)).trans ((gi_nj (by decide)).trans hS.g25)) ?_
            refine V_iconst (v := 1) dM_takesE_78 (by decide) ?_
            refine V_iadd dM_takesE_79 ?_
            refine V_topI (x' := nI (W.length + 1)) (nI_1 _) ?_
            refine V_putI dM_takesE_80 flM_86 (fpM_25 _) (Or.inl rfl) k76 rfl ?_
            refine V_aload_n dM_takesE_83 rfl ?_
            refine V_dup dM_takesE_84 rfl ?_
            refine V_getE (x := nI p) dM_takesE_85 flM_53 k76 rfl ((gi_nj (by decide)).trans ((gi_ne (by decide)).trans ((gi_nj (by decide)).trans hS.1.g14))) ?_
            refine V_iconst (v := 1) dM_takesE_88 (by decide) ?_
            refine V_iadd dM_takesE_89 ?_
            refine V_topI (x' := nI (p + 1)) (nI_1 _) ?_
            refine V_putI dM_takesE_90 flM_53 (fpM_14 _) (Or.inl rfl) k76 rfl ?_
            refine V_goto (tgt := 22) dM_takesE_93 rfl ?_
            have hS2 : ST (si (si (si (si s 76 26 (nI (brk W + 1))) 91 W.length (nI 33)) 76 25 (nI (W.length + 1))) 76 14 (nI (p + 1))) f n ch (p + 1) E (33 :: W) := hS.push (by decide) hp0
            have hF2 : Fq (FQ f c) σ0 (si (si (si (si s 76 26 (nI (brk W + 1))) 91 W.length (nI 33)) 76 25 (nI (W.length + 1))) 76 14 (nI (p + 1))) := (((hF.set FQ26).set FQ91).set FQ25).set FQ14
            have e : rnE ch (m + 1) true p W E = rnE ch m true (p + 1) (33 :: W) E := by
              show (if ch p = 33 ∨ ch p = 40 then (if brk W = 4 then (false, p, E) else rnE ch m true (p + 1) (ch p :: W) E) else _) = _
              rw [if_pos (by omega), if_neg hb4, hc0]
            rw [e]
            refine V.locs (loc' := [(2, .int 1), (0, .ref 76), (1, .int (nI c))]) [1, 2, 3] rfl ?_
            exact (ihT (p + 1) (33 :: W) E _ (hF2.rf hR0) (hX.cons (by decide)) hS2 (by show E.length + (W.length + 1) ≤ p + 1; omega) (by omega) hF2 ((gi_ne (by decide)).trans ((gi_ne (by decide)).trans ((gi_ne (by decide)).trans ((gi_ne (by decide)).trans h88)))))
        by_cases h40 : ch p = 40
        · have hc0 := h40
          have hp0 : p < n := hTT.lt (by omega)
          by_cases hb4 : brk W = 4
          · skip
            refine V_aload_n dM_takesE_22 rfl ?_
            refine V_callV (as := []) (rest := []) (bs' := 0) rfl dM_takesE_23 cmM_next cvM_next mlM_224 (Or.inl ⟨_, _, _, _, _, rfl, k76, by decide, rfl⟩) rfl rfl (m_next hR hS.1.1 hS.1.g14 hS.1.le) (by decide) (Nat.le_refl _) (by decide) (Nat.le_of_ble_eq_true rfl) ?_
            rintro _ _ _ ⟨rfl, rfl, rfl⟩ -
            refine V_one ?_
            refine V_istore_n (loc' := [(3, .int (nx ch n p)), (2, .int 1), (0, .ref 76), (1, .int (nI c))]) dM_takesE_26 (by decide) rfl ?_
            refine V_iload_n dM_takesE_27 rfl ?_
            refine V_if_eq (tgt := 110) dM_takesE_28 rfl (fun h => absurd h (by decide)) (fun _ => ?_)
            refine V_iload_n dM_takesE_31 rfl ?_
            refine V_bipush (v := 33) dM_takesE_32 (by decide) ?_
            refine V_icmp_eq (tgt := 43) dM_takesE_34 rfl (fun h => absurd h (fun e => h33 ((nq 33 (by decide)).mp e))) (fun _ => ?_)
            refine V_iload_n dM_takesE_37 rfl ?_
            refine V_bipush (v := 40) dM_takesE_38 (by decide) ?_
            refine V_icmp_ne (tgt := 96) dM_takesE_40 rfl (fun h => absurd h (not_not_intro ((nq 40 (by decide)).mpr h40))) (fun _ => ?_)
            refine V_aload_n dM_takesE_43 rfl ?_
            refine V_getE (x := nI (brk W)) dM_takesE_44 flM_89 k76 rfl hS.g26 ?_
            refine V_iconst (v := 4) dM_takesE_47 (by decide) ?_
            refine V_icmp_ne (tgt := 53) dM_takesE_48 rfl (fun h => absurd h (not_not_intro (by rw [hb4]; rfl))) (fun _ => ?_)
            refine V_iconst (v := 0) dM_takesE_51 (by decide) ?_
            refine V_zret dM_takesE_52 rfl rfl rfl ?_
            have e : rnE ch (m + 1) true p W E = (false, p, E) := by
              show (if ch p = 33 ∨ ch p = 40 then (if brk W = 4 then (false, p, E) else _) else _) = _
              rw [if_pos (by omega), if_pos hb4]
            rw [e]
            exact Or.inr ⟨rfl, rfl, rfl, hF, hS.1.g14⟩
          · skip
            refine V_aload_n dM_takesE_22 rfl ?_
            refine V_callV (as := []) (rest := []) (bs' := 0) rfl dM_takesE_23 cmM_next cvM_next mlM_224 (Or.inl ⟨_, _, _, _, _, rfl, k76, by decide, rfl⟩) rfl rfl (m_next hR hS.1.1 hS.1.g14 hS.1.le) (by decide) (Nat.le_refl _) (by decide) (Nat.le_of_ble_eq_true rfl) ?_
            rintro _ _ _ ⟨rfl, rfl, rfl⟩ -
            refine V_one ?_
            refine V_istore_n (loc' := [(3, .int (nx ch n p)), (2, .int 1), (0, .ref 76), (1, .int (nI c))]) dM_takesE_26 (by decide) rfl ?_
            refine V_iload_n dM_takesE_27 rfl ?_
            refine V_if_eq (tgt := 110) dM_takesE_28 rfl (fun h => absurd h (by decide)) (fun _ => ?_)
            refine V_iload_n dM_takesE_31 rfl ?_
            refine V_bipush (v := 33) dM_takesE_32 (by decide) ?_
            refine V_icmp_eq (tgt := 43) dM_takesE_34 rfl (fun h => absurd h (fun e => h33 ((nq 33 (by decide)).mp e))) (fun _ => ?_)
            refine V_iload_n dM_takesE_37 rfl ?_
            refine V_bipush (v := 40) dM_takesE_38 (by decide) ?_
            refine V_icmp_ne (tgt := 96) dM_takesE_40 rfl (fun h => absurd h (not_not_intro ((nq 40 (by decide)).mpr h40))) (fun _ => ?_)
            refine V_aload_n dM_takesE_43 rfl ?_
            refine V_getE (x := nI (brk W)) dM_takesE_44 flM_89 k76 rfl hS.g26 ?_
            refine V_iconst (v := 4) dM_takesE_47 (by decide) ?_
            refine V_icmp_ne (tgt := 53) dM_takesE_48 rfl (fun _ => ?_) (fun h => absurd h (fun e => hb4 ((nI_eq (a := brk W) (b := 4) (by omega) (by decide)).mp e)))
            refine V_aload_n dM_takesE_53 rfl ?_
            refine V_dup dM_takesE_54 rfl ?_
            refine V_getE (x := nI (brk W)) dM_takesE_55 flM_89 k76 rfl hS.g26 ?_
            refine V_iconst (v := 1) dM_takesE_58 (by decide) ?_
            refine V_iadd dM_takesE_59 ?_
            refine V_topI (x' := nI (brk W + 1)) (nI_1 _) ?_
            refine V_putI dM_takesE_60 flM_89 (fpM_26 _) (Or.inl rfl) k76 rfl ?_
            refine V_aload_n dM_takesE_63 rfl ?_
            refine V_getR (a := 91) dM_takesE_64 flM_80 k76 rfl (r76_23 hR) ?_
            refine V_aload_n dM_takesE_67 rfl ?_
            refine V_getE (x := nI W.length) dM_takesE_68 flM_86 k76 rfl ((gi_nj (by decide)).trans hS.g25) ?_
            refine V_iload_n dM_takesE_71 rfl ?_
            refine V_topI (x' := nI 40) ((nq 40 (by decide)).mpr hc0) ?_
            refine V_iastN (j := W.length) dM_takesE_72 k91 rfl (by omega) (by decide) ?_
            refine V_aload_n dM_takesE_73 rfl ?_
            refine V_dup dM_takesE_74 rfl ?_
            refine V_getE (x := nI W.length) dM_takesE_75 flM_86 k76 rfl ((gi_ne (by decide)).trans ((gi_nj (by decide)).trans hS.g25)) ?_
            refine V_iconst (v := 1) dM_takesE_78 (by decide) ?_
            refine V_iadd dM_takesE_79 ?_
            refine V_topI (x' := nI (W.length + 1)) (nI_1 _) ?_
            refine V_putI dM_takesE_80 flM_86 (fpM_25 _) (Or.inl rfl) k76 rfl ?_
            refine V_aload_n dM_takesE_83 rfl ?_
            refine V_dup dM_takesE_84 rfl ?_
            refine V_getE (x := nI p) dM_takesE_85 flM_53 k76 rfl ((gi_nj (by decide)).trans ((gi_ne (by decide)).trans ((gi_nj (by decide)).trans hS.1.g14))) ?_
            refine V_iconst (v := 1) dM_takesE_88 (by decide) ?_
            refine V_iadd dM_takesE_89 ?_
            refine V_topI (x' := nI (p + 1)) (nI_1 _) ?_
            refine V_putI dM_takesE_90 flM_53 (fpM_14 _) (Or.inl rfl) k76 rfl ?_
            refine V_goto (tgt := 22) dM_takesE_93 rfl ?_
            have hS2 : ST (si (si (si (si s 76 26 (nI (brk W + 1))) 91 W.length (nI 40)) 76 25 (nI (W.length + 1))) 76 14 (nI (p + 1))) f n ch (p + 1) E (40 :: W) := hS.push (by decide) hp0
            have hF2 : Fq (FQ f c) σ0 (si (si (si (si s 76 26 (nI (brk W + 1))) 91 W.length (nI 40)) 76 25 (nI (W.length + 1))) 76 14 (nI (p + 1))) := (((hF.set FQ26).set FQ91).set FQ25).set FQ14
            have e : rnE ch (m + 1) true p W E = rnE ch m true (p + 1) (40 :: W) E := by
              show (if ch p = 33 ∨ ch p = 40 then (if brk W = 4 then (false, p, E) else rnE ch m true (p + 1) (ch p :: W) E) else _) = _
              rw [if_pos (by omega), if_neg hb4, hc0]
            rw [e]
            refine V.locs (loc' := [(2, .int 1), (0, .ref 76), (1, .int (nI c))]) [1, 2, 3] rfl ?_
            exact (ihT (p + 1) (40 :: W) E _ (hF2.rf hR0) (hX.cons (by decide)) hS2 (by show E.length + (W.length + 1) ≤ p + 1; omega) (by omega) hF2 ((gi_ne (by decide)).trans ((gi_ne (by decide)).trans ((gi_ne (by decide)).trans ((gi_ne (by decide)).trans h88)))))
        refine V_aload_n dM_takesE_22 rfl ?_
        refine V_callV (as := []) (rest := []) (bs' := 0) rfl dM_takesE_23 cmM_next cvM_next mlM_224 (Or.inl ⟨_, _, _, _, _, rfl, k76, by decide, rfl⟩) rfl rfl (m_next hR hS.1.1 hS.1.g14 hS.1.le) (by decide) (Nat.le_refl _) (by decide) (Nat.le_of_ble_eq_true rfl) ?_
        rintro _ _ _ ⟨rfl, rfl, rfl⟩ -
        refine V_one ?_
        refine V_istore_n (loc' := [(3, .int (nx ch n p)), (2, .int 1), (0, .ref 76), (1, .int (nI c))]) dM_takesE_26 (by decide) rfl ?_
        refine V_iload_n dM_takesE_27 rfl ?_
        refine V_if_eq (tgt := 110) dM_takesE_28 rfl (fun h => absurd h (by decide)) (fun _ => ?_)
        refine V_iload_n dM_takesE_31 rfl ?_
        refine V_bipush (v := 33) dM_takesE_32 (by decide) ?_
        refine V_icmp_eq (tgt := 43) dM_takesE_34 rfl (fun h => absurd h (fun e => h33 ((nq 33 (by decide)).mp e))) (fun _ => ?_)
        refine V_iload_n dM_takesE_37 rfl ?_
        refine V_bipush (v := 40) dM_takesE_38 (by decide) ?_
        refine V_icmp_ne (tgt := 96) dM_takesE_40 rfl (fun _ => ?_) (fun h => absurd h (fun e => h40 ((nq 40 (by decide)).mp e)))
        refine V_aload_n dM_takesE_96 rfl ?_
        refine V_callV (as := []) (rest := []) (bs' := 0) rfl dM_takesE_97 cmM_takesTest cvM_takesTest mlM_248 (Or.inl ⟨_, _, _, _, _, rfl, k76, by decide, rfl⟩) rfl rfl (m_test hR hf hX.lt hS hl) (by decide) (Nat.le_refl _) (by decide) (Nat.le_of_ble_eq_true rfl) ?_
        rintro _ _ t1 (⟨ht, rfl, rfl, hF1, hS⟩ | ⟨ht, rfl, rfl, hF1, h14⟩) -
        · refine V_one ?_
          refine V_if_eq (tgt := 108) dM_takesE_100 rfl (fun h => absurd h (by decide)) (fun _ => ?_)
          refine V_iconst (v := 0) dM_takesE_103 (by decide) ?_
          refine V_istore_n (loc' := [(2, .int 0), (3, .int (nx ch n p)), (0, .ref 76), (1, .int (nI c))]) dM_takesE_104 (by decide) rfl ?_
          refine V_goto (tgt := 22) dM_takesE_105 rfl ?_
          have e : rnE ch (m + 1) true p W E = rnE ch m false (tsP ch p).2.1 (whP W (E ++ (tsP ch p).2.2.2)).1 (whP W (E ++ (tsP ch p).2.2.2)).2 := (if_neg (by omega)).trans (if_pos ht)
          rw [e]
          have hg := ts_gd hTT.2.2.2 (p := p) hle
          have hg3 := hg.2.2 ht
          have hwl := whP_len W (E ++ (tsP ch p).2.2.2)
          rw [List.length_append] at hwl
          have hF2 : Fq (FQ f c) σ0 t1 := hF.trans (hF1.mono Fsc.q)
          refine V.locs (loc' := [(2, .int 0), (0, .ref 76), (1, .int (nI c))]) [0, 2, 3] rfl ?_
          exact (ihF _ _ _ _ (hF2.rf hR0) (hX.wh _) hS (by omega) (by omega) hF2 ((hF1.1 88 c (by unfold Fsc; omega)).trans h88))
        · refine V_one ?_
          refine V_if_eq (tgt := 108) dM_takesE_100 rfl (fun _ => ?_) (fun h => absurd h (by decide))
          refine V_iconst (v := 0) dM_takesE_108 (by decide) ?_
          refine V_zret dM_takesE_109 rfl rfl rfl ?_
          have e : rnE ch (m + 1) true p W E = (false, (tsP ch p).2.1, E) := (if_neg (by omega)).trans (if_neg (by rw [ht]; decide))
          rw [e]
          exact Or.inr ⟨rfl, rfl, rfl, hF.trans (hF1.mono Fsc.q), h14⟩
      · intro p W E s hR hX hS hl hm hF h88
        have hle := hS.1.le
        have hTT := hS.1.1
        have hbl := brk_le W
        have nq : ∀ c : Nat, c < 128 → (nx ch n p = nI c ↔ ch p = c) := fun c hc => nx_eq hTT hc
        by_cases h38 : ch p = 38
        · have hc0 := h38
          have hp0 : p < n := hTT.lt (by omega)
          refine V_aload_n dM_takesE_22 rfl ?_
          refine V_callV (as := []) (rest := []) (bs' := 0) rfl dM_takesE_23 cmM_next cvM_next mlM_224 (Or.inl ⟨_, _, _, _, _, rfl, k76, by decide, rfl⟩) rfl rfl (m_next hR hS.1.1 hS.1.g14 hS.1.le) (by decide) (Nat.le_refl _) (by decide) (Nat.le_of_ble_eq_true rfl) ?_
          rintro _ _ _ ⟨rfl, rfl, rfl⟩ -
          refine V_one ?_
          refine V_istore_n (loc' := [(3, .int (nx ch n p)), (2, .int 0), (0, .ref 76), (1, .int (nI c))]) dM_takesE_26 (by decide) rfl ?_
          refine V_iload_n dM_takesE_27 rfl ?_
          refine V_if_eq (tgt := 110) dM_takesE_28 rfl (fun _ => ?_) (fun h => absurd h (by decide))
          refine V_iload_n dM_takesE_110 rfl ?_
          refine V_bipush (v := 38) dM_takesE_111 (by decide) ?_
          refine V_icmp_eq (tgt := 122) dM_takesE_113 rfl (fun _ => ?_) (fun h => absurd h (not_not_intro ((nq 38 (by decide)).mpr hc0)))
          refine V_aload_n dM_takesE_122 rfl ?_
          refine V_iload_n dM_takesE_123 rfl ?_
          refine V_topI (x' := nI 38) ((nq 38 (by decide)).mpr hc0) ?_
          refine V_callV (as := [.int (nI 38)]) (rest := []) (bs' := 0) rfl dM_takesE_124 cmM_settle cvM_settle mlM_251 (Or.inl ⟨_, _, _, _, _, rfl, k76, by decide, rfl⟩) rfl rfl (m_settle (b := 38) hR hf (by decide) hX.lt hS (by omega)) (by decide) (Nat.le_refl _) (by decide) (Nat.le_of_ble_eq_true rfl) ?_
          rintro _ _ t1 ⟨rfl, rfl, hF1, hS⟩ -
          refine V_non ?_
          have hX1 := hX.st 38 E
          have hwl := stP_len 38 W E
          generalize hq : stP 38 W E = q at hS hX1 hwl
          have hF := hF.trans (hF1.mono Fsc.q)
          have hR := hF.rf hR0
          refine V_aload_n dM_takesE_127 rfl ?_
          refine V_getR (a := 91) dM_takesE_128 flM_80 k76 rfl (r76_23 hR) ?_
          refine V_aload_n dM_takesE_131 rfl ?_
          refine V_getE (x := nI (q.1).length) dM_takesE_132 flM_86 k76 rfl hS.g25 ?_
          refine V_iload_n dM_takesE_135 rfl ?_
          refine V_topI (x' := nI 38) ((nq 38 (by decide)).mpr hc0) ?_
          refine V_iastN (j := q.1.length) dM_takesE_136 k91 rfl (by omega) (by decide) ?_
          refine V_aload_n dM_takesE_137 rfl ?_
          refine V_dup dM_takesE_138 rfl ?_
          refine V_getE (x := nI q.1.length) dM_takesE_139 flM_86 k76 rfl ((gi_ne (by decide)).trans hS.g25) ?_
          refine V_iconst (v := 1) dM_takesE_142 (by decide) ?_
          refine V_iadd dM_takesE_143 ?_
          refine V_topI (x' := nI (q.1.length + 1)) (nI_1 _) ?_
          refine V_putI dM_takesE_144 flM_86 (fpM_25 _) (Or.inl rfl) k76 rfl ?_
          refine V_iconst (v := 1) dM_takesE_147 (by decide) ?_
          refine V_istore_n (loc' := [(2, .int 1), (3, .int (nx ch n p)), (0, .ref 76), (1, .int (nI c))]) dM_takesE_148 (by decide) rfl ?_
          refine V_aload_n dM_takesE_149 rfl ?_
          refine V_dup dM_takesE_150 rfl ?_
          refine V_getE (x := nI p) dM_takesE_151 flM_53 k76 rfl ((gi_nj (by decide)).trans ((gi_ne (by decide)).trans hS.1.g14)) ?_
          refine V_iconst (v := 1) dM_takesE_154 (by decide) ?_
          refine V_iadd dM_takesE_155 ?_
          refine V_topI (x' := nI (p + 1)) (nI_1 _) ?_
          refine V_putI dM_takesE_156 flM_53 (fpM_14 _) (Or.inl rfl) k76 rfl ?_
          refine V_goto (tgt := 22) dM_takesE_159 rfl ?_
          have hS2 : ST (si (si (si t1 91 q.1.length (nI 38)) 76 25 (nI (q.1.length + 1))) 76 14 (nI (p + 1))) f n ch (p + 1) q.2 (38 :: q.1) := hS.push2 (by decide) hp0
          have hF2 : Fq (FQ f c) σ0 (si (si (si t1 91 q.1.length (nI 38)) 76 25 (nI (q.1.length + 1))) 76 14 (nI (p + 1))) := ((hF.set FQ91).set FQ25).set FQ14
          have e : rnE ch (m + 1) false p W E = rnE ch m true (p + 1) (38 :: q.1) q.2 := by
            show (if ch p = 38 ∨ ch p = 124 then rnE ch m true (p + 1) (ch p :: (stP (ch p) W E).1) (stP (ch p) W E).2 else _) = _
            rw [if_pos (by omega), hc0, hq]
          rw [e]
          refine V.locs (loc' := [(2, .int 1), (0, .ref 76), (1, .int (nI c))]) [0, 2, 3] rfl ?_
          exact (ihT (p + 1) (38 :: q.1) q.2 _ (hF2.rf hR0) (hX1.cons (by decide)) hS2 (by show q.2.length + (q.1.length + 1) ≤ p + 1; omega) (by omega) hF2 ((gi_ne (by decide)).trans ((gi_ne (by decide)).trans ((gi_ne (by decide)).trans ((hF1.1 88 c (by unfold Fsc; omega)).trans h88)))))
        by_cases h124 : ch p = 124
        · have hc0 := h124
          have hp0 : p < n := hTT.lt (by omega)
          refine V_aload_n dM_takesE_22 rfl ?_
          refine V_callV (as := []) (rest := []) (bs' := 0) rfl dM_takesE_23 cmM_next cvM_next mlM_224 (Or.inl ⟨_, _, _, _, _, rfl, k76, by decide, rfl⟩) rfl rfl (m_next hR hS.1.1 hS.1.g14 hS.1.le) (by decide) (Nat.le_refl _) (by decide) (Nat.le_of_ble_eq_true rfl) ?_
          rintro _ _ _ ⟨rfl, rfl, rfl⟩ -
          refine V_one ?_
          refine V_istore_n (loc' := [(3, .int (nx ch n p)), (2, .int 0), (0, .ref 76), (1, .int (nI c))]) dM_takesE_26 (by decide) rfl ?_
          refine V_iload_n dM_takesE_27 rfl ?_
          refine V_if_eq (tgt := 110) dM_takesE_28 rfl (fun _ => ?_) (fun h => absurd h (by decide))
          refine V_iload_n dM_takesE_110 rfl ?_
          refine V_bipush (v := 38) dM_takesE_111 (by decide) ?_
          refine V_icmp_eq (tgt := 122) dM_takesE_113 rfl (fun h => absurd h (fun e => h38 ((nq 38 (by decide)).mp e))) (fun _ => ?_)
          refine V_iload_n dM_takesE_116 rfl ?_
          refine V_bipush (v := 124) dM_takesE_117 (by decide) ?_
          refine V_icmp_ne (tgt := 162) dM_takesE_119 rfl (fun h => absurd h (not_not_intro ((nq 124 (by decide)).mpr hc0))) (fun _ => ?_)
          refine V_aload_n dM_takesE_122 rfl ?_
          refine V_iload_n dM_takesE_123 rfl ?_
          refine V_topI (x' := nI 124) ((nq 124 (by decide)).mpr hc0) ?_
          refine V_callV (as := [.int (nI 124)]) (rest := []) (bs' := 0) rfl dM_takesE_124 cmM_settle cvM_settle mlM_251 (Or.inl ⟨_, _, _, _, _, rfl, k76, by decide, rfl⟩) rfl rfl (m_settle (b := 124) hR hf (by decide) hX.lt hS (by omega)) (by decide) (Nat.le_refl _) (by decide) (Nat.le_of_ble_eq_true rfl) ?_
          rintro _ _ t1 ⟨rfl, rfl, hF1, hS⟩ -
          refine V_non ?_
          have hX1 := hX.st 124 E
          have hwl := stP_len 124 W E
          generalize hq : stP 124 W E = q at hS hX1 hwl
          have hF := hF.trans (hF1.mono Fsc.q)
          have hR := hF.rf hR0
          refine V_aload_n dM_takesE_127 rfl ?_
          refine V_getR (a := 91) dM_takesE_128 flM_80 k76 rfl (r76_23 hR) ?_
          refine V_aload_n dM_takesE_131 rfl ?_
          refine V_getE (x := nI (q.1).length) dM_takesE_132 flM_86 k76 rfl hS.g25 ?_
          refine V_iload_n dM_takesE_135 rfl ?_
          refine V_topI (x' := nI 124) ((nq 124 (by decide)).mpr hc0) ?_
          refine V_iastN (j := q.1.length) dM_takesE_136 k91 rfl (by omega) (by decide) ?_
          refine V_aload_n dM_takesE_137 rfl ?_
          refine V_dup dM_takesE_138 rfl ?_
          refine V_getE (x := nI q.1.length) dM_takesE_139 flM_86 k76 rfl ((gi_ne (by decide)).trans hS.g25) ?_
          refine V_iconst (v := 1) dM_takesE_142 (by decide) ?_
          refine V_iadd dM_takesE_143 ?_
          refine V_topI (x' := nI (q.1.length + 1)) (nI_1 _) ?_
          refine V_putI dM_takesE_144 flM_86 (fpM_25 _) (Or.inl rfl) k76 rfl ?_
          refine V_iconst (v := 1) dM_takesE_147 (by decide) ?_
          refine V_istore_n (loc' := [(2, .int 1), (3, .int (nx ch n p)), (0, .ref 76), (1, .int (nI c))]) dM_takesE_148 (by decide) rfl ?_
          refine V_aload_n dM_takesE_149 rfl ?_
          refine V_dup dM_takesE_150 rfl ?_
          refine V_getE (x := nI p) dM_takesE_151 flM_53 k76 rfl ((gi_nj (by decide)).trans ((gi_ne (by decide)).trans hS.1.g14)) ?_
          refine V_iconst (v := 1) dM_takesE_154 (by decide) ?_
          refine V_iadd dM_takesE_155 ?_
          refine V_topI (x' := nI (p + 1)) (nI_1 _) ?_
          refine V_putI dM_takesE_156 flM_53 (fpM_14 _) (Or.inl rfl) k76 rfl ?_
          refine V_goto (tgt := 22) dM_takesE_159 rfl ?_
          have hS2 : ST (si (si (si t1 91 q.1.length (nI 124)) 76 25 (nI (q.1.length + 1))) 76 14 (nI (p + 1))) f n ch (p + 1) q.2 (124 :: q.1) := hS.push2 (by decide) hp0
          have hF2 : Fq (FQ f c) σ0 (si (si (si t1 91 q.1.length (nI 124)) 76 25 (nI (q.1.length + 1))) 76 14 (nI (p + 1))) := ((hF.set FQ91).set FQ25).set FQ14
          have e : rnE ch (m + 1) false p W E = rnE ch m true (p + 1) (124 :: q.1) q.2 := by
            show (if ch p = 38 ∨ ch p = 124 then rnE ch m true (p + 1) (ch p :: (stP (ch p) W E).1) (stP (ch p) W E).2 else _) = _
            rw [if_pos (by omega), hc0, hq]
          rw [e]
          refine V.locs (loc' := [(2, .int 1), (0, .ref 76), (1, .int (nI c))]) [0, 2, 3] rfl ?_
          exact (ihT (p + 1) (124 :: q.1) q.2 _ (hF2.rf hR0) (hX1.cons (by decide)) hS2 (by show q.2.length + (q.1.length + 1) ≤ p + 1; omega) (by omega) hF2 ((gi_ne (by decide)).trans ((gi_ne (by decide)).trans ((gi_ne (by decide)).trans ((hF1.1 88 c (by unfold Fsc; omega)).trans h88)))))
        refine V_aload_n dM_takesE_22 rfl ?_
        refine V_callV (as := []) (rest := []) (bs' := 0) rfl dM_takesE_23 cmM_next cvM_next mlM_224 (Or.inl ⟨_, _, _, _, _, rfl, k76, by decide, rfl⟩) rfl rfl (m_next hR hS.1.1 hS.1.g14 hS.1.le) (by decide) (Nat.le_refl _) (by decide) (Nat.le_of_ble_eq_true rfl) ?_
        rintro _ _ _ ⟨rfl, rfl, rfl⟩ -
        refine V_one ?_
        refine V_istore_n (loc' := [(3, .int (nx ch n p)), (2, .int 0), (0, .ref 76), (1, .int (nI c))]) dM_takesE_26 (by decide) rfl ?_
        refine V_iload_n dM_takesE_27 rfl ?_
        refine V_if_eq (tgt := 110) dM_takesE_28 rfl (fun _ => ?_) (fun h => absurd h (by decide))
        refine V_iload_n dM_takesE_110 rfl ?_
        refine V_bipush (v := 38) dM_takesE_111 (by decide) ?_
        refine V_icmp_eq (tgt := 122) dM_takesE_113 rfl (fun h => absurd h (fun e => h38 ((nq 38 (by decide)).mp e))) (fun _ => ?_)
        refine V_iload_n dM_takesE_116 rfl ?_
        refine V_bipush (v := 124) dM_takesE_117 (by decide) ?_
        refine V_icmp_ne (tgt := 162) dM_takesE_119 rfl (fun _ => ?_) (fun h => absurd h (fun e => h124 ((nq 124 (by decide)).mp e)))
        refine V_aload_n dM_takesE_162 rfl ?_
        refine V_bipush (v := 124) dM_takesE_163 (by decide) ?_
        refine V_callV (as := [.int 124]) (rest := []) (bs' := 0) rfl dM_takesE_165 cmM_settle cvM_settle mlM_251 (Or.inl ⟨_, _, _, _, _, rfl, k76, by decide, rfl⟩) rfl rfl (m_settle (b := 124) hR hf (by decide) hX.lt hS (by omega)) (by decide) (Nat.le_refl _) (by decide) (Nat.le_of_ble_eq_true rfl) ?_
        rintro _ _ t1 ⟨rfl, rfl, hF1, hS⟩ -
        refine V_non ?_
        have hX1 := hX.st 124 E
        have hwl := stP_len 124 W E
        generalize hq : stP 124 W E = q at hS hX1 hwl
        have hF := hF.trans (hF1.mono Fsc.q)
        have hR := hF.rf hR0
        have hhd := fun x W9 (e9 : q.1 = x :: W9) => st_head (x := x) (W' := W9) E hX (by rw [hq]; exact e9)
        refine V_aload_n dM_takesE_168 rfl ?_
        refine V_getR (a := 89) dM_takesE_169 flM_74 k76 rfl (r76_21 hR) ?_
        refine V_iload_n dM_takesE_172 rfl ?_
        refine V_aload_n dM_takesE_173 rfl ?_
        refine V_getE (x := nI (100 * f + (q.2).length)) dM_takesE_174 flM_83 k76 rfl hS.1.g24 ?_
        refine V_iastN (j := c) dM_takesE_177 k89 rfl hc60 (by decide) ?_
        have hS : ST (si t1 89 c (nI (100 * f + (q.2).length))) f n ch p q.2 q.1 := hS.ar (by decide)
        have hF : Fq (FQ f c) σ0 (si t1 89 c (nI (100 * f + (q.2).length))) := hF.set (FQc (Or.inr rfl))
        have h88 : gi (si t1 89 c (nI (100 * f + (q.2).length))) 88 c = a0 := (gi_ne (by decide)).trans ((hF1.1 88 c (by unfold Fsc; omega)).trans h88)
        have h89 : gi (si t1 89 c (nI (100 * f + (q.2).length))) 89 c = nI (100 * f + q.2.length) := gi_eq
        have hR := hF.rf hR0
        generalize si t1 89 c (nI (100 * f + (q.2).length)) = t9 at hS hF h88 h89 hR ⊢
        have e : rnE ch (m + 1) false p W E = match q.1 with
          | [] => (true, p, q.2)
          | _ :: W' => if ch p = 41 then rnE ch m false (p + 1) (whP W' q.2).1 (whP W' q.2).2 else (false, p, q.2) := by
          rw [← hq]
          exact if_neg (by omega)
        rw [e]
        obtain ⟨W2, E2⟩ := q
        cases W2 with
        | nil =>
          refine V_aload_n dM_takesE_178 rfl ?_
          refine V_getE (x := 0) dM_takesE_179 flM_86 k76 rfl hS.g25 ?_
          refine V_if_ne (tgt := 187) dM_takesE_182 rfl (fun h => absurd h (by decide)) (fun _ => ?_)
          refine V_iconst (v := 1) dM_takesE_185 (by decide) ?_
          exact V_zret dM_takesE_186 rfl rfl rfl (Or.inl ⟨rfl, rfl, rfl, hF, hS.1, h88, h89⟩)
        | cons x W3 =>
          have hx := hhd x W3 rfl
          show V _ _ _ _ _ _ _ _ _ _ _ (EPo σ0 f c n ch a0 (if ch p = 41 then rnE ch m false (p + 1) (whP W3 E2).1 (whP W3 E2).2 else (false, p, E2)))
          have hwl2 : W3.length + 1 + E2.length = W.length + E.length := hwl
          by_cases h41 : ch p = 41
          · rw [if_pos h41]
            have hp0 : p < n := hTT.lt (by omega)
            refine V_aload_n dM_takesE_178 rfl ?_
            refine V_getE (x := nI (W3.length + 1)) dM_takesE_179 flM_86 k76 rfl hS.g25 ?_
            refine V_if_ne (tgt := 187) dM_takesE_182 rfl (fun _ => ?_) (fun h => absurd h (nI_ne0 (Nat.succ_pos _) (by omega)))
            refine V_iload_n dM_takesE_187 rfl ?_
            refine V_bipush (v := 41) dM_takesE_188 (by decide) ?_
            refine V_icmp_eq (tgt := 195) dM_takesE_190 rfl (fun _ => ?_) (fun h => absurd h (not_not_intro ((nq 41 (by decide)).mpr h41)))
            refine V_aload_n dM_takesE_195 rfl ?_
            refine V_dup dM_takesE_196 rfl ?_
            refine V_getE (x := nI (W3.length + 1)) dM_takesE_197 flM_86 k76 rfl hS.g25 ?_
            refine V_iconst (v := 1) dM_takesE_200 (by decide) ?_
            refine V_isub dM_takesE_201 ?_
            refine V_topI (x' := nI W3.length) (nI_pred _) ?_
            refine V_putI dM_takesE_202 flM_86 (fpM_25 _) (Or.inl rfl) k76 rfl ?_
            refine V_aload_n dM_takesE_205 rfl ?_
            refine V_dup dM_takesE_206 rfl ?_
            refine V_getE (x := nI (brk W3 + 1)) dM_takesE_207 flM_89 k76 rfl ((gi_nj (by decide)).trans (hS.g26.trans (by show nI (brk W3 + (if x = 33 ∨ x = 40 then 1 else 0)) = _; rw [if_pos hx]))) ?_
            refine V_iconst (v := 1) dM_takesE_210 (by decide) ?_
            refine V_isub dM_takesE_211 ?_
            refine V_topI (x' := nI (brk W3)) (nI_pred _) ?_
            refine V_putI dM_takesE_212 flM_89 (fpM_26 _) (Or.inl rfl) k76 rfl ?_
            refine V_aload_n dM_takesE_215 rfl ?_
            refine V_dup dM_takesE_216 rfl ?_
            refine V_getE (x := nI p) dM_takesE_217 flM_53 k76 rfl ((gi_nj (by decide)).trans ((gi_nj (by decide)).trans hS.1.g14)) ?_
            refine V_iconst (v := 1) dM_takesE_220 (by decide) ?_
            refine V_iadd dM_takesE_221 ?_
            refine V_topI (x' := nI (p + 1)) (nI_1 _) ?_
            refine V_putI dM_takesE_222 flM_53 (fpM_14 _) (Or.inl rfl) k76 rfl ?_
            have hS : ST (si (si (si t9 76 25 (nI W3.length)) 76 26 (nI (brk W3))) 76 14 (nI (p + 1))) f n ch (p + 1) E2 W3 := (hS.popB hx).at (by omega)
            have hF : Fq (FQ f c) σ0 (si (si (si t9 76 25 (nI W3.length)) 76 26 (nI (brk W3))) 76 14 (nI (p + 1))) := ((hF.set FQ25).set FQ26).set FQ14
            have h88 : gi (si (si (si t9 76 25 (nI W3.length)) 76 26 (nI (brk W3))) 76 14 (nI (p + 1))) 88 c = a0 := (gi_ne (by decide)).trans ((gi_ne (by decide)).trans ((gi_ne (by decide)).trans h88))
            have hR := hF.rf hR0
            refine V_aload_n dM_takesE_225 rfl ?_
            refine V_callV (as := []) (rest := []) (bs' := 0) rfl dM_takesE_226 cmM_whole cvM_whole mlM_245 (Or.inl ⟨_, _, _, _, _, rfl, k76, by decide, rfl⟩) rfl rfl (m_whole hR hf (okW.tl hX1).lt hS (by omega)) (by decide) (Nat.le_refl _) (by decide) (Nat.le_of_ble_eq_true rfl) ?_
            rintro _ _ t2 ⟨rfl, rfl, hF2, hS⟩ -
            refine V_non ?_
            refine V_goto (tgt := 22) dM_takesE_229 rfl ?_
            have hF3 : Fq (FQ f c) σ0 t2 := hF.trans (hF2.mono Fsc.q)
            have hwl3 := whP_len W3 E2
            refine V.locs (loc' := [(2, .int 0), (0, .ref 76), (1, .int (nI c))]) [1, 2, 3] rfl ?_
            exact (ihF _ _ _ _ (hF3.rf hR0) (okW.wh _ (okW.tl hX1)) hS (by omega) (by omega) hF3 ((hF2.1 88 c (by unfold Fsc; omega)).trans h88))
          · rw [if_neg h41]
            refine V_aload_n dM_takesE_178 rfl ?_
            refine V_getE (x := nI (W3.length + 1)) dM_takesE_179 flM_86 k76 rfl hS.g25 ?_
            refine V_if_ne (tgt := 187) dM_takesE_182 rfl (fun _ => ?_) (fun h => absurd h (nI_ne0 (Nat.succ_pos _) (by omega)))
            refine V_iload_n dM_takesE_187 rfl ?_
            refine V_bipush (v := 41) dM_takesE_188 (by decide) ?_
            refine V_icmp_eq (tgt := 195) dM_takesE_190 rfl (fun h => absurd h (fun e => h41 ((nq 41 (by decide)).mp e))) (fun _ => ?_)
            refine V_iconst (v := 0) dM_takesE_193 (by decide) ?_
            exact V_zret dM_takesE_194 rfl rfl rfl (Or.inr ⟨rfl, rfl, rfl, hF, hS.1.g14⟩)
  subst ha0
  refine V_aload_n dM_takesE_0 rfl ?_
  refine V_iconst (v := 0) dM_takesE_1 (by decide) ?_
  refine V_putI dM_takesE_2 flM_86 (fpM_25 _) (Or.inl rfl) k76 rfl ?_
  refine V_aload_n dM_takesE_5 rfl ?_
  refine V_iconst (v := 0) dM_takesE_6 (by decide) ?_
  refine V_putI dM_takesE_7 flM_89 (fpM_26 _) (Or.inl rfl) k76 rfl ?_
  refine V_aload_n dM_takesE_10 rfl ?_
  refine V_getR (a := 88) dM_takesE_11 flM_71 k76 rfl (r76_20 hR) ?_
  refine V_iload_n dM_takesE_14 rfl ?_
  refine V_aload_n dM_takesE_15 rfl ?_
  refine V_getE (x := nI (100 * f + E.length)) dM_takesE_16 flM_83 k76 rfl ((gi_nj (by decide)).trans ((gi_nj (by decide)).trans hS.g24)) ?_
  refine V_iastN (j := c) dM_takesE_19 k88 rfl hc60 (by decide) ?_
  refine V_iconst (v := 1) dM_takesE_20 (by decide) ?_
  refine V_istore_n (loc' := [(2, .int 1), (0, .ref 76), (1, .int (nI c))]) dM_takesE_21 (by decide) rfl ?_
  have hS2 : ST (si (si (si σ0 76 25 0) 76 26 0) 88 c (nI (100 * f + E.length))) f n ch p E [] := ⟨((hS.ot (Or.inr (Or.inl rfl))).ot (Or.inr (Or.inr rfl))).ar (Or.inr (by decide)), (gi_ne (by decide)).trans ((gi_nj (by decide)).trans gi_eq), (gi_ne (by decide)).trans gi_eq, trivial⟩
  have hF2 : Fq (FQ f c) σ0 (si (si (si σ0 76 25 0) 76 26 0) 88 c (nI (100 * f + E.length))) := ((Fq.rfl.set FQ25).set FQ26).set (FQc (Or.inl rfl))
  refine V.locs (loc' := [(2, .int 1), (0, .ref 76), (1, .int (nI c))]) [0, 1, 2] rfl ?_
  exact ((lp 101).1 p [] E _ (hF2.rf hR0) (fun _ h => by cases h) hS2 hl (by omega) hF2 gi_eq)
