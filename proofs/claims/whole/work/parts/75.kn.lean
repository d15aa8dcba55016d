/-! what is known at the start -/
theorem st_cls {s : State} {b : Nat} (hg : ∀ w ∈ lw_g, w.before #[Value.ref b] s = true) (c : Nat) : ∃ (cC : ClassId) (iS : Nat → Nat), ∀ q, cls[c]? = some q → u_Kn s q.1 q.2.1 q.2.2 cC iS := by
  match c with
  | 0 =>
    obtain ⟨cC, iS, hk⟩ := u_known hg uwA (hg _ insA)
    exact ⟨cC, iS, fun q hq => by cases hq; exact hk⟩
  | 1 =>
    obtain ⟨cC, iS, hk⟩ := u_known hg uwE (hg _ insE)
    exact ⟨cC, iS, fun q hq => by cases hq; exact hk⟩
  | 2 =>
    obtain ⟨cC, iS, hk⟩ := u_known hg uwF (hg _ insF)
    exact ⟨cC, iS, fun q hq => by cases hq; exact hk⟩
  | 3 =>
    obtain ⟨cC, iS, hk⟩ := u_known hg uwR (hg _ insR)
    exact ⟨cC, iS, fun q hq => by cases hq; exact hk⟩
  | 4 =>
    obtain ⟨cC, iS, hk⟩ := u_known hg uwL (hg _ insL)
    exact ⟨cC, iS, fun q hq => by cases hq; exact hk⟩
  | 5 =>
    obtain ⟨cC, iS, hk⟩ := u_known hg uwP (hg _ insP)
    exact ⟨cC, iS, fun q hq => by cases hq; exact hk⟩
  | 6 =>
    obtain ⟨cC, iS, hk⟩ := u_known hg uwW (hg _ insW)
    exact ⟨cC, iS, fun q hq => by cases hq; exact hk⟩
  | 7 =>
    obtain ⟨cC, iS, hk⟩ := u_known hg uwS (hg _ insS)
    exact ⟨cC, iS, fun q hq => by cases hq; exact hk⟩
  | 8 =>
    obtain ⟨cC, iS, hk⟩ := u_known hg uwT (hg _ insT)
    exact ⟨cC, iS, fun q hq => by cases hq; exact hk⟩
  | 9 =>
    obtain ⟨cC, iS, hk⟩ := u_known hg uwG (hg _ insG)
    exact ⟨cC, iS, fun q hq => by cases hq; exact hk⟩
  | 10 =>
    obtain ⟨cC, iS, hk⟩ := u_known hg uwM (hg _ insM)
    exact ⟨cC, iS, fun q hq => by cases hq; exact hk⟩
  | n + 11 =>
    obtain ⟨cC, iS, hk⟩ := u_known hg uwA (hg _ insA)
    refine ⟨cC, iS, fun q hq => ?_⟩
    have h : cls[n + 11]? = none := List.getElem?_eq_none (by show 11 ≤ n + 11; omega)
    rw [h] at hq
    cases hq
theorem st_arr {s : State} {b : Nat} {ty : FieldType} (h : (Cond.arrayClass ty).before #[Value.ref b] s = true) : ∃ cA : ClassId, ArrOfT s cA ty ∧ s.vm.findClass ("[" ++ ty.toString) = some cA := by
  obtain ⟨cA, kA, comp, h1, h2, h3⟩ := Cond.arrayClass_spec h
  exact ⟨cA, fun N z => ⟨(fun k h => by cases h), kA, h2, comp, h3⟩, h1⟩
theorem st_arrE {s : State} {b : Nat} {C : String} (h : (Cond.arrayOver (.object C)).before #[Value.ref b] s = true) : ∃ cA : ClassId, ArrOfT s cA (.object C) ∧ va_RA s cA (.object C) := by
  obtain ⟨comp, cA, kA, h1, h2, h3, h4, h5⟩ := Cond.arrayOver_spec h
  exact ⟨cA, fun N z => ⟨(fun k h => by cases h), kA, h3, comp, h4⟩, kA, comp, h3, h4, h1, h5⟩
theorem st_arrA {s : State} {b : Nat} {t : FieldType} (h : (Cond.arrayOver (.array t)).before #[Value.ref b] s = true) : ∃ cA : ClassId, ArrOfT s cA (.array t) ∧ s.vm.findClass ("[" ++ (FieldType.array t).toString) = some cA := by
  obtain ⟨comp, cA, kA, h1, h2, h3, h4⟩ := Cond.arrayOver_specA h
  exact ⟨cA, fun N z => ⟨(fun k h => by cases h), kA, h2, comp, h3⟩, h4⟩
theorem st_abv {s : State} {b : Nat} (fl : ∀ c ∈ flatC (Jvm.Cond.and given_1 narrow_1), c.before #[Value.ref b] s = true) : ∀ j : Nat, j < 7 → (Term.elem (.static "GuessFair" "ABOVE" "[I") (.int (Int32.ofNat j))).eval #[Value.ref b] s none [] s = some (.int (abvT.getD j 0)) := by
  intro j hj
  have h : j = 0 ∨ j = 1 ∨ j = 2 ∨ j = 3 ∨ j = 4 ∨ j = 5 ∨ j = 6 := by omega
  rcases h with rfl | rfl | rfl | rfl | rfl | rfl | rfl
  · exact va_eqt (z := (-1)) (fl (.eq (.elem (.static "GuessFair" "ABOVE" "[I") (.int 0)) (.int (-1))) (by decide +kernel))
  · exact va_eqt (z := 0) (fl (.eq (.elem (.static "GuessFair" "ABOVE" "[I") (.int 1)) (.int 0)) (by decide +kernel))
  · exact va_eqt (z := 0) (fl (.eq (.elem (.static "GuessFair" "ABOVE" "[I") (.int 2)) (.int 0)) (by decide +kernel))
  · exact va_eqt (z := 0) (fl (.eq (.elem (.static "GuessFair" "ABOVE" "[I") (.int 3)) (.int 0)) (by decide +kernel))
  · exact va_eqt (z := 1) (fl (.eq (.elem (.static "GuessFair" "ABOVE" "[I") (.int 4)) (.int 1)) (by decide +kernel))
  · exact va_eqt (z := 2) (fl (.eq (.elem (.static "GuessFair" "ABOVE" "[I") (.int 5)) (.int 2)) (by decide +kernel))
  · exact va_eqt (z := 3) (fl (.eq (.elem (.static "GuessFair" "ABOVE" "[I") (.int 6)) (.int 3)) (by decide +kernel))
theorem st_bds {s : State} {b : Nat} (fl : ∀ c ∈ flatC (Jvm.Cond.and given_1 narrow_1), c.before #[Value.ref b] s = true) : ∀ j : Nat, j < 21 → (Term.elem (.static "GuessFair$Acts" "BODIES" "[I") (.int (Int32.ofNat j))).eval #[Value.ref b] s none [] s = some (.int (bdsT.getD j 0)) := by
  intro j hj
  have h : j = 0 ∨ j = 1 ∨ j = 2 ∨ j = 3 ∨ j = 4 ∨ j = 5 ∨ j = 6 ∨ j = 7 ∨ j = 8 ∨ j = 9 ∨ j = 10 ∨ j = 11 ∨ j = 12 ∨ j = 13 ∨ j = 14 ∨ j = 15 ∨ j = 16 ∨ j = 17 ∨ j = 18 ∨ j = 19 ∨ j = 20 := by omega
  rcases h with rfl | rfl | rfl | rfl | rfl | rfl | rfl | rfl | rfl | rfl | rfl | rfl | rfl | rfl | rfl | rfl | rfl | rfl | rfl | rfl | rfl
  · exact va_eqt (z := 10) (fl (.eq (.elem (.static "GuessFair$Acts" "BODIES" "[I") (.int 0)) (.int 10)) (by decide +kernel))
  · exact va_eqt (z := 11) (fl (.eq (.elem (.static "GuessFair$Acts" "BODIES" "[I") (.int 1)) (.int 11)) (by decide +kernel))
  · exact va_eqt (z := 12) (fl (.eq (.elem (.static "GuessFair$Acts" "BODIES" "[I") (.int 2)) (.int 12)) (by decide +kernel))
  · exact va_eqt (z := 0) (fl (.eq (.elem (.static "GuessFair$Acts" "BODIES" "[I") (.int 3)) (.int 0)) (by decide +kernel))
  · exact va_eqt (z := 20) (fl (.eq (.elem (.static "GuessFair$Acts" "BODIES" "[I") (.int 4)) (.int 20)) (by decide +kernel))
  · exact va_eqt (z := 0) (fl (.eq (.elem (.static "GuessFair$Acts" "BODIES" "[I") (.int 5)) (.int 0)) (by decide +kernel))
  · exact va_eqt (z := 30) (fl (.eq (.elem (.static "GuessFair$Acts" "BODIES" "[I") (.int 6)) (.int 30)) (by decide +kernel))
  · exact va_eqt (z := 0) (fl (.eq (.elem (.static "GuessFair$Acts" "BODIES" "[I") (.int 7)) (.int 0)) (by decide +kernel))
  · exact va_eqt (z := 0) (fl (.eq (.elem (.static "GuessFair$Acts" "BODIES" "[I") (.int 8)) (.int 0)) (by decide +kernel))
  · exact va_eqt (z := 0) (fl (.eq (.elem (.static "GuessFair$Acts" "BODIES" "[I") (.int 9)) (.int 0)) (by decide +kernel))
  · exact va_eqt (z := 0) (fl (.eq (.elem (.static "GuessFair$Acts" "BODIES" "[I") (.int 10)) (.int 0)) (by decide +kernel))
  · exact va_eqt (z := 40) (fl (.eq (.elem (.static "GuessFair$Acts" "BODIES" "[I") (.int 11)) (.int 40)) (by decide +kernel))
  · exact va_eqt (z := 50) (fl (.eq (.elem (.static "GuessFair$Acts" "BODIES" "[I") (.int 12)) (.int 50)) (by decide +kernel))
  · exact va_eqt (z := 51) (fl (.eq (.elem (.static "GuessFair$Acts" "BODIES" "[I") (.int 13)) (.int 51)) (by decide +kernel))
  · exact va_eqt (z := 0) (fl (.eq (.elem (.static "GuessFair$Acts" "BODIES" "[I") (.int 14)) (.int 0)) (by decide +kernel))
  · exact va_eqt (z := 0) (fl (.eq (.elem (.static "GuessFair$Acts" "BODIES" "[I") (.int 15)) (.int 0)) (by decide +kernel))
  · exact va_eqt (z := 0) (fl (.eq (.elem (.static "GuessFair$Acts" "BODIES" "[I") (.int 16)) (.int 0)) (by decide +kernel))
  · exact va_eqt (z := 60) (fl (.eq (.elem (.static "GuessFair$Acts" "BODIES" "[I") (.int 17)) (.int 60)) (by decide +kernel))
  · exact va_eqt (z := 71) (fl (.eq (.elem (.static "GuessFair$Acts" "BODIES" "[I") (.int 18)) (.int 71)) (by decide +kernel))
  · exact va_eqt (z := 70) (fl (.eq (.elem (.static "GuessFair$Acts" "BODIES" "[I") (.int 19)) (.int 70)) (by decide +kernel))
  · exact va_eqt (z := 0) (fl (.eq (.elem (.static "GuessFair$Acts" "BODIES" "[I") (.int 20)) (.int 0)) (by decide +kernel))
theorem st_str {s : State} {b : Nat} (fl : ∀ c ∈ flatC (Jvm.Cond.and given_1 narrow_1), c.before #[Value.ref b] s = true) {A : Nat → Prop} (hA : ∀ a : Nat, a < s.heap.size → ¬ A a) : ∃ adK adV : Nat → Nat, vk_S 5 strL strB adK adV A s s.heap ∧ ∀ i : Nat, i < 5 → (Term.string "GuessFair$LawReader" (strX.getD i (0, "")).1).eval #[Value.ref b] s none [] s = some (.ref (adK i)) := by
  refine vk_Sof (tm := fun i => .string "GuessFair$LawReader" (strX.getD i (0, "")).1) (by decide) ?_ ?_ ?_ ?_ ?_ ?_ hA
  · intro i hi
    match i, hi with
    | 0, _ => exact fl (.exactly (.string "GuessFair$LawReader" 43) "java/lang/String") (by decide +kernel)
    | 1, _ => exact fl (.exactly (.string "GuessFair$LawReader" 54) "java/lang/String") (by decide +kernel)
    | 2, _ => exact fl (.exactly (.string "GuessFair$LawReader" 56) "java/lang/String") (by decide +kernel)
    | 3, _ => exact fl (.exactly (.string "GuessFair$LawReader" 77) "java/lang/String") (by decide +kernel)
    | 4, _ => exact fl (.exactly (.string "GuessFair$LawReader" 85) "java/lang/String") (by decide +kernel)
  · intro i hi
    match i, hi with
    | 0, _ => exact fl (.eq (.field (.string "GuessFair$LawReader" 43) "java/lang/String" "coder" "B") (.int 0)) (by decide +kernel)
    | 1, _ => exact fl (.eq (.field (.string "GuessFair$LawReader" 54) "java/lang/String" "coder" "B") (.int 0)) (by decide +kernel)
    | 2, _ => exact fl (.eq (.field (.string "GuessFair$LawReader" 56) "java/lang/String" "coder" "B") (.int 0)) (by decide +kernel)
    | 3, _ => exact fl (.eq (.field (.string "GuessFair$LawReader" 77) "java/lang/String" "coder" "B") (.int 0)) (by decide +kernel)
    | 4, _ => exact fl (.eq (.field (.string "GuessFair$LawReader" 85) "java/lang/String" "coder" "B") (.int 0)) (by decide +kernel)
  · intro i hi
    match i, hi with
    | 0, _ => exact fl (.arrayOf (.field (.string "GuessFair$LawReader" 43) "java/lang/String" "value" "[B") .byte) (by decide +kernel)
    | 1, _ => exact fl (.arrayOf (.field (.string "GuessFair$LawReader" 54) "java/lang/String" "value" "[B") .byte) (by decide +kernel)
    | 2, _ => exact fl (.arrayOf (.field (.string "GuessFair$LawReader" 56) "java/lang/String" "value" "[B") .byte) (by decide +kernel)
    | 3, _ => exact fl (.arrayOf (.field (.string "GuessFair$LawReader" 77) "java/lang/String" "value" "[B") .byte) (by decide +kernel)
    | 4, _ => exact fl (.arrayOf (.field (.string "GuessFair$LawReader" 85) "java/lang/String" "value" "[B") .byte) (by decide +kernel)
  · intro i hi
    match i, hi with
    | 0, _ => exact fl (.eq (.length (.field (.string "GuessFair$LawReader" 43) "java/lang/String" "value" "[B")) (.int 5)) (by decide +kernel)
    | 1, _ => exact fl (.eq (.length (.field (.string "GuessFair$LawReader" 54) "java/lang/String" "value" "[B")) (.int 5)) (by decide +kernel)
    | 2, _ => exact fl (.eq (.length (.field (.string "GuessFair$LawReader" 56) "java/lang/String" "value" "[B")) (.int 4)) (by decide +kernel)
    | 3, _ => exact fl (.eq (.length (.field (.string "GuessFair$LawReader" 77) "java/lang/String" "value" "[B")) (.int 6)) (by decide +kernel)
    | 4, _ => exact fl (.eq (.length (.field (.string "GuessFair$LawReader" 85) "java/lang/String" "value" "[B")) (.int 3)) (by decide +kernel)
  · intro i hi
    match i, hi with
    | 0, _ =>
      intro j hj
      match j, hj with
      | 0, _ => exact fl (.eq (.elem (.field (.string "GuessFair$LawReader" 43) "java/lang/String" "value" "[B") (.int 0)) (.int 98)) (by decide +kernel)
      | 1, _ => exact fl (.eq (.elem (.field (.string "GuessFair$LawReader" 43) "java/lang/String" "value" "[B") (.int 1)) (.int 97)) (by decide +kernel)
      | 2, _ => exact fl (.eq (.elem (.field (.string "GuessFair$LawReader" 43) "java/lang/String" "value" "[B") (.int 2)) (.int 115)) (by decide +kernel)
      | 3, _ => exact fl (.eq (.elem (.field (.string "GuessFair$LawReader" 43) "java/lang/String" "value" "[B") (.int 3)) (.int 101)) (by decide +kernel)
      | 4, _ => exact fl (.eq (.elem (.field (.string "GuessFair$LawReader" 43) "java/lang/String" "value" "[B") (.int 4)) (.int 32)) (by decide +kernel)
    | 1, _ =>
      intro j hj
      match j, hj with
      | 0, _ => exact fl (.eq (.elem (.field (.string "GuessFair$LawReader" 54) "java/lang/String" "value" "[B") (.int 0)) (.int 109)) (by decide +kernel)
      | 1, _ => exact fl (.eq (.elem (.field (.string "GuessFair$LawReader" 54) "java/lang/String" "value" "[B") (.int 1)) (.int 111)) (by decide +kernel)
      | 2, _ => exact fl (.eq (.elem (.field (.string "GuessFair$LawReader" 54) "java/lang/String" "value" "[B") (.int 2)) (.int 114)) (by decide +kernel)
      | 3, _ => exact fl (.eq (.elem (.field (.string "GuessFair$LawReader" 54) "java/lang/String" "value" "[B") (.int 3)) (.int 101)) (by decide +kernel)
      | 4, _ => exact fl (.eq (.elem (.field (.string "GuessFair$LawReader" 54) "java/lang/String" "value" "[B") (.int 4)) (.int 32)) (by decide +kernel)
    | 2, _ =>
      intro j hj
      match j, hj with
      | 0, _ => exact fl (.eq (.elem (.field (.string "GuessFair$LawReader" 56) "java/lang/String" "value" "[B") (.int 0)) (.int 116)) (by decide +kernel)
      | 1, _ => exact fl (.eq (.elem (.field (.string "GuessFair$LawReader" 56) "java/lang/String" "value" "[B") (.int 1)) (.int 97)) (by decide +kernel)
      | 2, _ => exact fl (.eq (.elem (.field (.string "GuessFair$LawReader" 56) "java/lang/String" "value" "[B") (.int 2)) (.int 120)) (by decide +kernel)
      | 3, _ => exact fl (.eq (.elem (.field (.string "GuessFair$LawReader" 56) "java/lang/String" "value" "[B") (.int 3)) (.int 32)) (by decide +kernel)
    | 3, _ =>
      intro j hj
      match j, hj with
      | 0, _ => exact fl (.eq (.elem (.field (.string "GuessFair$LawReader" 77) "java/lang/String" "value" "[B") (.int 0)) (.int 101)) (by decide +kernel)
      | 1, _ => exact fl (.eq (.elem (.field (.string "GuessFair$LawReader" 77) "java/lang/String" "value" "[B") (.int 1)) (.int 107)) (by decide +kernel)
      | 2, _ => exact fl (.eq (.elem (.field (.string "GuessFair$LawReader" 77) "java/lang/String" "value" "[B") (.int 2)) (.int 115)) (by decide +kernel)
      | 3, _ => exact fl (.eq (.elem (.field (.string "GuessFair$LawReader" 77) "java/lang/String" "value" "[B") (.int 3)) (.int 119)) (by decide +kernel)
      | 4, _ => exact fl (.eq (.elem (.field (.string "GuessFair$LawReader" 77) "java/lang/String" "value" "[B") (.int 4)) (.int 99)) (by decide +kernel)
      | 5, _ => exact fl (.eq (.elem (.field (.string "GuessFair$LawReader" 77) "java/lang/String" "value" "[B") (.int 5)) (.int 100)) (by decide +kernel)
    | 4, _ =>
      intro j hj
      match j, hj with
      | 0, _ => exact fl (.eq (.elem (.field (.string "GuessFair$LawReader" 85) "java/lang/String" "value" "[B") (.int 0)) (.int 60)) (by decide +kernel)
      | 1, _ => exact fl (.eq (.elem (.field (.string "GuessFair$LawReader" 85) "java/lang/String" "value" "[B") (.int 1)) (.int 61)) (by decide +kernel)
      | 2, _ => exact fl (.eq (.elem (.field (.string "GuessFair$LawReader" 85) "java/lang/String" "value" "[B") (.int 2)) (.int 62)) (by decide +kernel)
  · intro i j hi hj hij
    match i, j, hi, hj with
    | 0, 0, _, _ => exact absurd rfl hij
    | 0, 1, _, _ => first | exact Or.inl (fl (.not (.eq (.string "GuessFair$LawReader" 43) (.string "GuessFair$LawReader" 54))) (by decide +kernel)) | exact Or.inr (fl (.not (.eq (.string "GuessFair$LawReader" 54) (.string "GuessFair$LawReader" 43))) (by decide +kernel))
    | 0, 2, _, _ => first | exact Or.inl (fl (.not (.eq (.string "GuessFair$LawReader" 43) (.string "GuessFair$LawReader" 56))) (by decide +kernel)) | exact Or.inr (fl (.not (.eq (.string "GuessFair$LawReader" 56) (.string "GuessFair$LawReader" 43))) (by decide +kernel))
    | 0, 3, _, _ => first | exact Or.inl (fl (.not (.eq (.string "GuessFair$LawReader" 43) (.string "GuessFair$LawReader" 77))) (by decide +kernel)) | exact Or.inr (fl (.not (.eq (.string "GuessFair$LawReader" 77) (.string "GuessFair$LawReader" 43))) (by decide +kernel))
    | 0, 4, _, _ => first | exact Or.inl (fl (.not (.eq (.string "GuessFair$LawReader" 43) (.string "GuessFair$LawReader" 85))) (by decide +kernel)) | exact Or.inr (fl (.not (.eq (.string "GuessFair$LawReader" 85) (.string "GuessFair$LawReader" 43))) (by decide +kernel))
    | 1, 0, _, _ => first | exact Or.inr (fl (.not (.eq (.string "GuessFair$LawReader" 43) (.string "GuessFair$LawReader" 54))) (by decide +kernel)) | exact Or.inl (fl (.not (.eq (.string "GuessFair$LawReader" 54) (.string "GuessFair$LawReader" 43))) (by decide +kernel))
    | 1, 1, _, _ => exact absurd rfl hij
    | 1, 2, _, _ => first | exact Or.inl (fl (.not (.eq (.string "GuessFair$LawReader" 54) (.string "GuessFair$LawReader" 56))) (by decide +kernel)) | exact Or.inr (fl (.not (.eq (.string "GuessFair$LawReader" 56) (.string "GuessFair$LawReader" 54))) (by decide +kernel))
    | 1, 3, _, _ => first | exact Or.inl (fl (.not (.eq (.string "GuessFair$LawReader" 54) (.string "GuessFair$LawReader" 77))) (by decide +kernel)) | exact Or.inr (fl (.not (.eq (.string "GuessFair$LawReader" 77) (.string "GuessFair$LawReader" 54))) (by decide +kernel))
    | 1, 4, _, _ => first | exact Or.inl (fl (.not (.eq (.string "GuessFair$LawReader" 54) (.string "GuessFair$LawReader" 85))) (by decide +kernel)) | exact Or.inr (fl (.not (.eq (.string "GuessFair$LawReader" 85) (.string "GuessFair$LawReader" 54))) (by decide +kernel))
    | 2, 0, _, _ => first | exact Or.inr (fl (.not (.eq (.string "GuessFair$LawReader" 43) (.string "GuessFair$LawReader" 56))) (by decide +kernel)) | exact Or.inl (fl (.not (.eq (.string "GuessFair$LawReader" 56) (.string "GuessFair$LawReader" 43))) (by decide +kernel))
    | 2, 1, _, _ => first | exact Or.inr (fl (.not (.eq (.string "GuessFair$LawReader" 54) (.string "GuessFair$LawReader" 56))) (by decide +kernel)) | exact Or.inl (fl (.not (.eq (.string "GuessFair$LawReader" 56) (.string "GuessFair$LawReader" 54))) (by decide +kernel))
    | 2, 2, _, _ => exact absurd rfl hij
    | 2, 3, _, _ => first | exact Or.inl (fl (.not (.eq (.string "GuessFair$LawReader" 56) (.string "GuessFair$LawReader" 77))) (by decide +kernel)) | exact Or.inr (fl (.not (.eq (.string "GuessFair$LawReader" 77) (.string "GuessFair$LawReader" 56))) (by decide +kernel))
    | 2, 4, _, _ => first | exact Or.inl (fl (.not (.eq (.string "GuessFair$LawReader" 56) (.string "GuessFair$LawReader" 85))) (by decide +kernel)) | exact Or.inr (fl (.not (.eq (.string "GuessFair$LawReader" 85) (.string "GuessFair$LawReader" 56))) (by decide +kernel))
    | 3, 0, _, _ => first | exact Or.inr (fl (.not (.eq (.string "GuessFair$LawReader" 43) (.string "GuessFair$LawReader" 77))) (by decide +kernel)) | exact Or.inl (fl (.not (.eq (.string "GuessFair$LawReader" 77) (.string "GuessFair$LawReader" 43))) (by decide +kernel))
    | 3, 1, _, _ => first | exact Or.inr (fl (.not (.eq (.string "GuessFair$LawReader" 54) (.string "GuessFair$LawReader" 77))) (by decide +kernel)) | exact Or.inl (fl (.not (.eq (.string "GuessFair$LawReader" 77) (.string "GuessFair$LawReader" 54))) (by decide +kernel))
    | 3, 2, _, _ => first | exact Or.inr (fl (.not (.eq (.string "GuessFair$LawReader" 56) (.string "GuessFair$LawReader" 77))) (by decide +kernel)) | exact Or.inl (fl (.not (.eq (.string "GuessFair$LawReader" 77) (.string "GuessFair$LawReader" 56))) (by decide +kernel))
    | 3, 3, _, _ => exact absurd rfl hij
    | 3, 4, _, _ => first | exact Or.inl (fl (.not (.eq (.string "GuessFair$LawReader" 77) (.string "GuessFair$LawReader" 85))) (by decide +kernel)) | exact Or.inr (fl (.not (.eq (.string "GuessFair$LawReader" 85) (.string "GuessFair$LawReader" 77))) (by decide +kernel))
    | 4, 0, _, _ => first | exact Or.inr (fl (.not (.eq (.string "GuessFair$LawReader" 43) (.string "GuessFair$LawReader" 85))) (by decide +kernel)) | exact Or.inl (fl (.not (.eq (.string "GuessFair$LawReader" 85) (.string "GuessFair$LawReader" 43))) (by decide +kernel))
    | 4, 1, _, _ => first | exact Or.inr (fl (.not (.eq (.string "GuessFair$LawReader" 54) (.string "GuessFair$LawReader" 85))) (by decide +kernel)) | exact Or.inl (fl (.not (.eq (.string "GuessFair$LawReader" 85) (.string "GuessFair$LawReader" 54))) (by decide +kernel))
    | 4, 2, _, _ => first | exact Or.inr (fl (.not (.eq (.string "GuessFair$LawReader" 56) (.string "GuessFair$LawReader" 85))) (by decide +kernel)) | exact Or.inl (fl (.not (.eq (.string "GuessFair$LawReader" 85) (.string "GuessFair$LawReader" 56))) (by decide +kernel))
    | 4, 3, _, _ => first | exact Or.inr (fl (.not (.eq (.string "GuessFair$LawReader" 77) (.string "GuessFair$LawReader" 85))) (by decide +kernel)) | exact Or.inl (fl (.not (.eq (.string "GuessFair$LawReader" 85) (.string "GuessFair$LawReader" 77))) (by decide +kernel))
    | 4, 4, _, _ => exact absurd rfl hij
theorem vk_S.cg {N : Nat} {len : List Nat} {byt : List (List Int32)} {adK adV adK' adV' : Nat → Nat} {A : Nat → Prop} {U : State} {H : Heap} (h : vk_S N len byt adK adV A U H) (h1 : ∀ i, i < N → adK' i = adK i) (h2 : ∀ i, i < N → adV' i = adV i) : vk_S N len byt adK' adV' A U H := by
  refine ⟨fun i hi => ?_, fun i j hi hj e => h.2 i j hi hj ?_⟩
  · rw [h1 i hi, h2 i hi]
    exact h.1 i hi
  · rw [← h1 i hi, ← h1 j hj]
    exact e
def gOf (b tA tB tF : Nat) (adK adV : Nat → Nat) (n : Nat) : Nat := if n = 0 then b else if n = 1 then tA else if n = 2 then tB else if n = 30 then tF else if n < 20 then adK (n - 10) else adV (n - 20)
def gCf (c20 c21 c22 c23 c24 c25 : ClassId) (n : Nat) : ClassId := if n = 20 then c20 else if n = 21 then c21 else if n = 22 then c22 else if n = 23 then c23 else if n = 24 then c24 else c25
theorem gOf_K {b tA tB tF : Nat} {adK adV : Nat → Nat} {i : Nat} (hi : i < 5) : gOf b tA tB tF adK adV (10 + i) = adK i := by
  unfold gOf
  rw [if_neg (by omega), if_neg (by omega), if_neg (by omega), if_neg (by omega), if_pos (by omega), Nat.add_sub_cancel_left]
theorem gOf_V {b tA tB tF : Nat} {adK adV : Nat → Nat} {i : Nat} (hi : i < 5) : gOf b tA tB tF adK adV (20 + i) = adV i := by
  unfold gOf
  rw [if_neg (by omega), if_neg (by omega), if_neg (by omega), if_neg (by omega), if_neg (by omega), Nat.add_sub_cancel_left]
theorem nest_in : ∀ w ∈ nestW, w ∈ lw_tbl ∧ w.onTables = true := by
  intro w hw
  simp only [nestW, List.mem_cons, List.not_mem_nil, or_false] at hw
  rcases hw with rfl | rfl | rfl | rfl | rfl | rfl | rfl | rfl
  all_goals exact ⟨by decide +kernel, rfl⟩
theorem Kn_start {s : State} {b L : Nat} {xs : Nat → Int32} (hts : ∀ w ∈ lw_tbl, w.before #[Value.ref b] s = true) (hX : va_X b L xs s s.heap) (hb : b < s.heap.size) (hgv : (Jvm.Cond.and given_1 narrow_1).before #[Value.ref b] s = true) : ∃ G : GT, gB G = s.heap.size ∧ gL G = L ∧ gX G = xs ∧ gO G 0 = b ∧ Kn G s := by
  have fl := flat_of_before _ hgv
  have hg : ∀ w ∈ lw_g, w.before #[Value.ref b] s = true := fun w hw => hts w (List.mem_filter.mp hw).1
  obtain ⟨dC, hdC⟩ := Classical.skolem.mp (st_cls hg)
  obtain ⟨dI, hdI⟩ := Classical.skolem.mp hdC
  obtain ⟨c20, a20, f20⟩ := st_arr (hg _ ac_int)
  obtain ⟨c21, a21, f21⟩ := st_arr (hg _ ac_boolean)
  obtain ⟨c22, a22, f22⟩ := st_arr (hg _ ac_long)
  have oE := hts (.arrayOver (.object "GuessFair$Envelope")) (by decide +kernel)
  have oI := hts (.arrayOver (.array .int)) (by decide +kernel)
  have oJ := hts (.arrayOver (.array .long)) (by decide +kernel)
  obtain ⟨c23, a23, f23⟩ := st_arrE oE
  obtain ⟨c24, a24, f24⟩ := st_arrA oI
  obtain ⟨c25, a25, f25⟩ := st_arrA oJ
  have hA : ∀ a : Nat, a < s.heap.size → ¬ (fun q => s.heap.size ≤ q) a := fun a h1 h2 => Nat.not_le.mpr h1 h2
  obtain ⟨tA, eA, vA⟩ := va_Tof (tm := .static "GuessFair" "ABOVE" "[I") (ty := .int) (N := 7) (f := fun j => .int (abvT.getD j 0)) (A := fun q => s.heap.size ≤ q) (by decide) (fl (.arrayOf (.static "GuessFair" "ABOVE" "[I") .int) (by decide +kernel)) (va_eqt (fl (.eq (.length (.static "GuessFair" "ABOVE" "[I")) (.int 7)) (by decide +kernel))) (st_abv fl) hA
  obtain ⟨tB, eB, vB⟩ := va_Tof (tm := .static "GuessFair$Acts" "BODIES" "[I") (ty := .int) (N := 21) (f := fun j => .int (bdsT.getD j 0)) (A := fun q => s.heap.size ≤ q) (by decide) (fl (.arrayOf (.static "GuessFair$Acts" "BODIES" "[I") .int) (by decide +kernel)) (va_eqt (fl (.eq (.length (.static "GuessFair$Acts" "BODIES" "[I")) (.int 21)) (by decide +kernel))) (st_bds fl) hA
  obtain ⟨adK, adV, hS, eS⟩ := st_str fl (A := fun q => s.heap.size ≤ q) hA
  have zA := va_Zof (A := fun q => s.heap.size ≤ q) (hts (.laysStatic "GuessFair" "ABOVE" "[I") (by decide +kernel)) (hg _ iniG) eA hA
  have zB := va_Zof (A := fun q => s.heap.size ≤ q) (hts (.laysStatic "GuessFair$Acts" "BODIES" "[I") (by decide +kernel)) (hg _ iniA) eB hA
  have zC := va_Zof (A := fun q => s.heap.size ≤ q) (hts (.laysStatic "java/lang/String" "COMPACT_STRINGS" "Z") (by decide +kernel)) (hg _ iniJS) (va_eqi (z := 1) (fl (.eq (.static "java/lang/String" "COMPACT_STRINGS" "Z") (.int 1)) (by decide +kernel))) hA
  have zF := va_Zqof (A := fun q => s.heap.size ≤ q) (hts (.laysStatic "jdk/internal/util/Preconditions" "SIOOBE_FORMATTER" "Ljava/util/function/BiFunction;") (by decide +kernel)) (hg _ iniJP) (fl (.isRef (.static "jdk/internal/util/Preconditions" "SIOOBE_FORMATTER" "Ljava/util/function/BiFunction;")) (by decide +kernel)) hA
  have hF : ∃ tF : Nat, va_Z "jdk/internal/util/Preconditions" "SIOOBE_FORMATTER" "Ljava/util/function/BiFunction;" .null (fun q => s.heap.size ≤ q) s s.heap ∨ va_Z "jdk/internal/util/Preconditions" "SIOOBE_FORMATTER" "Ljava/util/function/BiFunction;" (.ref tF) (fun q => s.heap.size ≤ q) s s.heap := by
    rcases zF with h | ⟨t, h⟩
    · exact ⟨0, Or.inl h⟩
    · exact ⟨t, Or.inr h⟩
  obtain ⟨tF, zF⟩ := hF
  refine ⟨(s.heap.size, (dC, dI), gCf c20 c21 c22 c23 c24 c25, gOf b tA tB tF adK adV, L, xs), rfl, rfl, rfl, rfl, ⟨⟨fun c q hq => hdI c q hq, fun k q hk => ?_⟩, fun i hi => ?_, fun w hw => ?_, va_AO.of oE, oI, oJ⟩, ⟨⟨hX, hb⟩, ⟨zA, vA⟩, ⟨zB, vB⟩, hS.cg (fun i hi => gOf_K hi) (fun i hi => gOf_V hi), zC, zF⟩⟩
  · match k with
    | 0 => cases hk; exact ⟨a20, f20⟩
    | 1 => cases hk; exact ⟨a21, f21⟩
    | 2 => cases hk; exact ⟨a22, f22⟩
    | 3 => cases hk; exact ⟨a23, f23⟩
    | 4 => cases hk; exact ⟨a24, f24⟩
    | 5 => cases hk; exact ⟨a25, f25⟩
    | n + 6 =>
      have h : (tysG (s.heap.size, (dC, dI), gCf c20 c21 c22 c23 c24 c25, gOf b tA tB tF adK adV, L, xs))[n + 6]? = none := List.getElem?_eq_none (by show 6 ≤ n + 6; omega)
      rw [h] at hk
      cases hk
  · have e : gOf b tA tB tF adK adV (10 + i) = adK i := gOf_K hi
    show vk_R "GuessFair$LawReader" (strX.getD i (0, "")).1 (strX.getD i (0, "")).2 (gOf b tA tB tF adK adV (10 + i)) s
    rw [e]
    refine vk_R.of (A := #[Value.ref b]) ?_ (eS i hi)
    match i, hi with
    | 0, _ => exact hts (.stringRef "GuessFair$LawReader" 43 "base ") (by decide +kernel)
    | 1, _ => exact hts (.stringRef "GuessFair$LawReader" 54 "more ") (by decide +kernel)
    | 2, _ => exact hts (.stringRef "GuessFair$LawReader" 56 "tax ") (by decide +kernel)
    | 3, _ => exact hts (.stringRef "GuessFair$LawReader" 77 "ekswcd") (by decide +kernel)
    | 4, _ => exact hts (.stringRef "GuessFair$LawReader" 85 "<=>") (by decide +kernel)
  · obtain ⟨h1, h2⟩ := nest_in w hw
    exact va_Nw.of h2 (hts w h1)
