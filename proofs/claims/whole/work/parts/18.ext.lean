/-! the first object's laws: more and base -/
def exS (L : Nat → List Cl) (M : Hp) (F : Nat → Int32) (x : Int32) : Int32 := if rng x (cN (gi M 76 11)) then extL F (L (cN x)) else 0
def bsS (L : Nat → List Cl) (M : Hp) (x : Int32) : Int32 := if rng x (cN (gi M 76 11)) then nI (baseL (L (cN x)) 10) else 10
theorem cLw {L : Nat → List Cl} {M σ : Hp} (hC : RC L M σ) (hI : Inv L M) : gi σ 47 2 = nI (cN (gi M 76 11)) := (hC.2.1 47 2 76 11 rfl).trans hI.1.1
theorem encC_p {op : Nat} (h : op < 30000) : encC op = nI op := by
  unfold encC
  rw [if_neg (by omega), if_neg (by omega), if_neg (by omega)]
def stepC (F : Nat → Int32) (op : Nat) (q : Int32 × List Bool) : Int32 × List Bool := (if op < 1800 then (q.1, tst F op :: q.2) else if 10000 ≤ op ∧ op < 30000 then (q.1 + (if q.2.headD false = true then (if op < 20000 then nI (op - 10000) else -(nI (op - 20000))) else 0), []) else (q.1, match op, q.2 with
    | 30001, a :: st => (!a) :: st
    | 30002, a :: b :: st => (b && a) :: st
    | 30003, a :: b :: st => (b || a) :: st
    | _, st => st))
theorem runC_c {F : Nat → Int32} {op : Nat} {l : List Nat} {q : Int32 × List Bool} : runC F (op :: l) q = runC F l (stepC F op q) := rfl
theorem stepC_t {F : Nat → Int32} {op : Nat} {e : Int32} {st : List Bool} (h : op < 1800) : stepC F op (e, st) = (e, tst F op :: st) := if_pos h
theorem stepC_m {F : Nat → Int32} {op : Nat} {e : Int32} {a : Bool} {st : List Bool} (h : 10000 ≤ op ∧ op < 30000) : stepC F op (e, a :: st) = (e + (if a = true then (if op < 20000 then nI (op - 10000) else -(nI (op - 20000))) else 0), []) := (if_neg (by omega)).trans (if_pos h)
theorem depC_t {op d : Nat} {l : List Nat} (ho : op < 1800) (h : depC (op :: l) d = true) : d < 30 ∧ depC l (d + 1) = true := by
  unfold depC at h
  rw [if_pos ho, Bool.and_eq_true] at h
  exact ⟨of_decide_eq_true h.1, h.2⟩
theorem depC_m {op d : Nat} {l : List Nat} (ho : 10000 ≤ op ∧ op < 30000) (h : depC (op :: l) d = true) : 1 ≤ d ∧ depC l 0 = true := by
  unfold depC at h
  rw [if_neg (by omega), if_pos ho, Bool.and_eq_true] at h
  exact ⟨of_decide_eq_true h.1, h.2⟩
theorem depC_n {d : Nat} {l : List Nat} (h : depC (30001 :: l) d = true) : 1 ≤ d ∧ depC l d = true := by
  unfold depC at h
  rw [if_neg (by decide), if_neg (by decide), if_pos rfl, Bool.and_eq_true] at h
  exact ⟨of_decide_eq_true h.1, h.2⟩
theorem depC_j {op d : Nat} {l : List Nat} (ho : op = 30002 ∨ op = 30003) (h : depC (op :: l) d = true) : 2 ≤ d ∧ depC l (d - 1) = true := by
  unfold depC at h
  rw [if_neg (by omega), if_neg (by omega), if_neg (by omega), Bool.and_eq_true, Bool.and_eq_true] at h
  exact ⟨of_decide_eq_true h.1.2, h.2⟩
theorem tst_congr {F F' : Nat → Int32} {op : Nat} (ho : op < 1800) (h : ∀ j, j < 6 → F j = F' j) : tst F op = tst F' op := by
  unfold tst
  rw [h (op / 300) (by omega)]
theorem c_isMetF {l : Launch} {G : GT} {σ : Hp} {F : Nat → Int32} {op : Nat} (ho : op < 1800) (hF : ∀ j, j < 6 → gi σ 61 j = F j) : MM l G mQ_isMet 0 0 0 [.int (nI op), .ref 61] KA σ (PZ (tst F op = true) KA σ) := by
  rw [← tst_congr (F := fun j => gi σ 61 j) ho hF]
  exact c_isMet ho
theorem nI_cN {j : Nat} (h : j < 2 ^ 31) : cN (nI j) = j := nI_clamp (by omega)
theorem c_baseOf {l : Launch} {G : GT} {L : Nat → List Cl} {M σ : Hp} (hC : RC L M σ) (hI : Inv L M) (x : Int32) : MM l G mL_baseOf 0 0 0 [.ref 47, .int x] KA σ (PE (some (.int (bsS L M x))) KA σ) := by
  have hR := hC.1
  have hlw := cLw hC hI
  have hl7 := hI.1.2
  have hsm : cN (gi M 76 11) < 2 ^ 31 := by omega
  refine MM.of (loc := [(0, .ref 47), (1, .int x)]) (by decide +kernel) rfl (Nat.le_of_ble_eq_true rfl) ?_
  rcases ix_c x _ hsm with ⟨f, hf, rfl⟩ | hx
  · skip
    refine V_iload_n dL_baseOf_0 rfl ?_
    refine V_if_lt (tgt := 21) dL_baseOf_1 rfl (fun h => absurd h (nI_pos (by omega))) (fun _ => ?_)
    refine V_iload_n dL_baseOf_4 rfl ?_
    refine V_aload_n dL_baseOf_5 rfl ?_
    refine V_getE (x := nI (cN (gi M 76 11))) dL_baseOf_6 flL_39 k47 rfl hlw ?_
    refine V_icmp_ge (tgt := 21) dL_baseOf_9 rfl (fun h => absurd h (nI_ge hf hsm)) (fun _ => ?_)
    refine V_aload_n dL_baseOf_12 rfl ?_
    refine V_getR (a := 57) dL_baseOf_13 flL_23 k47 rfl (r47_5 hR) ?_
    refine V_iload_n dL_baseOf_16 rfl ?_
    refine V_ialdN (j := f) dL_baseOf_17 k57 rfl (by omega) (by decide) ?_
    refine V_topI (x' := nI (baseL (L f) 10)) (hC.2.2.2.2 f (by omega) hf).1 ?_
    refine V_goto (tgt := 23) dL_baseOf_18 rfl ?_
    exact V_iret dL_baseOf_23 rfl rfl ⟨by rw [bsS, if_pos (rng_n hf hsm), nI_cN (by omega)], rfl, rfl⟩
  · skip
    refine V_iload_n dL_baseOf_0 rfl ?_
    refine V_if_lt (tgt := 21) dL_baseOf_1 rfl (fun c1 => ?_) (fun c1 => ?_)
    · skip
      refine V_bipush (v := 10) dL_baseOf_21 (by decide) ?_
      exact V_iret dL_baseOf_23 rfl rfl ⟨by rw [bsS, if_neg hx], rfl, rfl⟩
    · skip
      refine V_iload_n dL_baseOf_4 rfl ?_
      refine V_aload_n dL_baseOf_5 rfl ?_
      refine V_getE (x := nI (cN (gi M 76 11))) dL_baseOf_6 flL_39 k47 rfl hlw ?_
      refine V_icmp_ge (tgt := 21) dL_baseOf_9 rfl (fun c9 => ?_) (fun c9 => ?_)
      · skip
        refine V_bipush (v := 10) dL_baseOf_21 (by decide) ?_
        exact V_iret dL_baseOf_23 rfl rfl ⟨by rw [bsS, if_neg hx], rfl, rfl⟩
      · exact absurd ⟨Int32.not_lt.mp c1, Int32.not_le.mp c9⟩ hx --done
theorem c_extraOf {l : Launch} {G : GT} {L : Nat → List Cl} {M σ : Hp} (hC : RC L M σ) (hI : Inv L M) (x : Int32) (F : Nat → Int32) (hF : ∀ j, j < 6 → gi σ 61 j = F j) : MM l G mL_extraOf 1 0 0 [.ref 47, .int x, .ref 61] KA σ (PE (some (.int (exS L M F x))) KA σ) := by
  have hR := hC.1
  have hlw := cLw hC hI
  have hl7 := hI.1.2
  have hsm : cN (gi M 76 11) < 2 ^ 31 := by omega
  refine MM.of (loc := [(0, .ref 47), (1, .int x), (2, .ref 61)]) (by decide +kernel) rfl (Nat.le_of_ble_eq_true rfl) ?_
  rcases ix_c x _ hsm with ⟨f, hf, rfl⟩ | hx
  · have hf6 : f < 6 := by omega
    obtain ⟨_, ops, hl100, hlen, hops, hdep, hext⟩ := hC.2.2.2.2 f hf6 hf
    have hext := hext F
    have hkf : KA[50 + f]? = some (20, 100) := by have := kSt f hf6; rwa [Nat.one_mul] at this
    have hrf : gr σ 49 f = some (50 + f) := rSt hR hf6
    have lp : ∀ (rest : List Nat) (i : Nat) (s e : Int32) (st : List Bool), (∀ j op, rest[j]? = some op → gi σ (50 + f) (i + j) = encC op ∧ opOk op) → i + rest.length = ops.length → depC rest st.length = true → st.length ≤ 30 → Rb s st → ∀ r : Int32, (runC F rest (e, st)).1 = r → V l G mL_extraOf (rmd 1 0 0) (KA.length + 0) 0 30 [(6, .int (nI i)), (5, .int s), (4, .int e), (3, .ref (50 + f)), (0, .ref 47), (1, .int (nI f)), (2, .ref 61)] [] KA σ (PE (some (.int r)) KA σ) := by
      intro rest
      induction rest with
      | nil =>
        intro i s e st _ hil _ _ _ r hr
        refine V_iload dL_extraOf_30 rfl ?_
        refine V_aload_n dL_extraOf_32 rfl ?_
        refine V_getR (a := 56) dL_extraOf_33 flL_20 k47 rfl (r47_4 hR) ?_
        refine V_iload_n dL_extraOf_36 rfl ?_
        refine V_ialdN (j := f) dL_extraOf_37 k56 rfl (by omega) (by decide) ?_
        refine V_topI (x' := nI ops.length) hlen ?_
        refine V_icmp_ge (tgt := 135) dL_extraOf_38 rfl (fun _ => ?_) (fun h => absurd h (not_not_intro (nI_le (by simp at hil; omega) (by omega))))
        refine V_iload dL_extraOf_135 rfl ?_
        exact V_iret dL_extraOf_137 rfl rfl ⟨congrArg (fun z => some (Value.int z)) hr, rfl, rfl⟩
      | cons op rest ih =>
        intro i s e st hops hil hdep hst hRb r hr
        have h0 := hops 0 op rfl
        rw [Nat.add_zero] at h0
        have hops' : ∀ j op', rest[j]? = some op' → gi σ (50 + f) (i + 1 + j) = encC op' ∧ opOk op' := fun j op' h => by
          have := hops (j + 1) op' (by rw [List.getElem?_cons_succ]; exact h)
          rwa [show i + (j + 1) = i + 1 + j by omega] at this
        have hil' : i + 1 + rest.length = ops.length := by simp at hil; omega
        have hin : i < ops.length := by omega
        rcases h0.2 with ho | ho | ho | ho | ho | ho
        · skip
          refine V_iload dL_extraOf_30 rfl ?_
          refine V_aload_n dL_extraOf_32 rfl ?_
          refine V_getR (a := 56) dL_extraOf_33 flL_20 k47 rfl (r47_4 hR) ?_
          refine V_iload_n dL_extraOf_36 rfl ?_
          refine V_ialdN (j := f) dL_extraOf_37 k56 rfl (by omega) (by decide) ?_
          refine V_topI (x' := nI ops.length) hlen ?_
          refine V_icmp_ge (tgt := 135) dL_extraOf_38 rfl (fun h => absurd h (nI_ge hin (by omega))) (fun _ => ?_)
          refine V_iload dL_extraOf_41 rfl ?_
          refine V_aload_n dL_extraOf_43 rfl ?_
          refine V_alen (t0 := 0) (v := 100) dL_extraOf_44 hkf (by decide) rfl (by decide) ?_
          refine V_icmp_ge (tgt := 135) dL_extraOf_45 rfl (fun h => absurd h (nI_ge (a := i) (b := 100) (by omega) (by decide))) (fun _ => ?_)
          refine V_aload_n dL_extraOf_48 rfl ?_
          refine V_iload dL_extraOf_49 rfl ?_
          refine V_ialdN (j := i) dL_extraOf_51 hkf rfl (by omega) (by decide) ?_
          refine V_topI (x' := nI op) (h0.1.trans (encC_p (by omega))) ?_
          refine V_istore (loc' := [(7, .int (nI op)), (6, .int (nI i)), (5, .int s), (4, .int e), (3, .ref (50 + f)), (0, .ref 47), (1, .int (nI f)), (2, .ref 61)]) dL_extraOf_52 (by decide) rfl ?_
          refine V_iload dL_extraOf_54 rfl ?_
          refine V_sipush (v := 10000) dL_extraOf_56 (by decide) ?_
          refine V_icmp_lt (tgt := 91) dL_extraOf_59 rfl (fun _ => ?_) (fun h => absurd h (not_not_intro (nI_lt (a := op) (b := 10000) (by omega) (by decide))))
          refine V_iload dL_extraOf_91 rfl ?_
          refine V_if_lt (tgt := 120) dL_extraOf_93 rfl (fun h => absurd h (nI_pos (by omega))) (fun _ => ?_)
          refine V_iload dL_extraOf_96 rfl ?_
          refine V_iconst (v := 1) dL_extraOf_98 (by decide) ?_
          refine V_ishl dL_extraOf_99 ?_
          refine V_iload dL_extraOf_100 rfl ?_
          refine V_aload_n dL_extraOf_102 rfl ?_
          refine V_callS (as := [.int (nI op), .ref 61]) (rest := [.int (s <<< (1 &&& 31))]) (bs' := 0) rfl dL_extraOf_103 cmQ_isMet stQ_isMet mlL_65 rfl rfl (c_isMetF ho hF) (by decide) (by decide) (by decide) (Nat.le_of_ble_eq_true rfl) ?_
          rintro _ _ _ (⟨hb, rfl, rfl, rfl⟩ | ⟨hb, rfl, rfl, rfl⟩) -
          · refine V_one ?_
            refine V_if_eq (tgt := 113) dL_extraOf_106 rfl (fun h => absurd h (by decide)) (fun _ => ?_)
            refine V_iconst (v := 1) dL_extraOf_109 (by decide) ?_
            refine V_goto (tgt := 114) dL_extraOf_110 rfl ?_
            refine V_ior dL_extraOf_114 ?_
            refine V_istore (loc' := [(5, .int ((s <<< (1 &&& 31)) ||| 1)), (7, .int (nI op)), (6, .int (nI i)), (4, .int e), (3, .ref (50 + f)), (0, .ref 47), (1, .int (nI f)), (2, .ref 61)]) dL_extraOf_115 (by decide) rfl ?_
            refine V_goto (tgt := 129) dL_extraOf_117 rfl ?_
            refine V_iinc (v := nI (i + 1)) (loc' := [(6, .int (nI (i + 1))), (5, .int ((s <<< (1 &&& 31)) ||| 1)), (7, .int (nI op)), (4, .int e), (3, .ref (50 + f)), (0, .ref 47), (1, .int (nI f)), (2, .ref 61)]) dL_extraOf_129 rfl (nI_inc i) (by decide) rfl ?_
            refine V_goto (tgt := 30) dL_extraOf_132 rfl ?_
            refine V.locs (loc' := [(6, .int (nI (i + 1))), (5, .int ((s <<< (1 &&& 31)) ||| 1)), (4, .int e), (3, .ref (50 + f)), (0, .ref 47), (1, .int (nI f)), (2, .ref 61)]) [0, 1, 3, 4, 5, 6, 7] rfl ?_
            exact ih (i + 1) _ _ (true :: st) hops' hil' (depC_t ho hdep).2 (depC_t ho hdep).1 (Rb_push1 hRb (by omega)) r (by rw [← hr, runC_c, stepC_t ho]; simp [hb])
          · refine V_one ?_
            refine V_if_eq (tgt := 113) dL_extraOf_106 rfl (fun _ => ?_) (fun h => absurd h (by decide))
            refine V_iconst (v := 0) dL_extraOf_113 (by decide) ?_
            refine V_ior dL_extraOf_114 ?_
            refine V_istore (loc' := [(5, .int ((s <<< (1 &&& 31)) ||| 0)), (7, .int (nI op)), (6, .int (nI i)), (4, .int e), (3, .ref (50 + f)), (0, .ref 47), (1, .int (nI f)), (2, .ref 61)]) dL_extraOf_115 (by decide) rfl ?_
            refine V_goto (tgt := 129) dL_extraOf_117 rfl ?_
            refine V_iinc (v := nI (i + 1)) (loc' := [(6, .int (nI (i + 1))), (5, .int ((s <<< (1 &&& 31)) ||| 0)), (7, .int (nI op)), (4, .int e), (3, .ref (50 + f)), (0, .ref 47), (1, .int (nI f)), (2, .ref 61)]) dL_extraOf_129 rfl (nI_inc i) (by decide) rfl ?_
            refine V_goto (tgt := 30) dL_extraOf_132 rfl ?_
            refine V.locs (loc' := [(6, .int (nI (i + 1))), (5, .int ((s <<< (1 &&& 31)) ||| 0)), (4, .int e), (3, .ref (50 + f)), (0, .ref 47), (1, .int (nI f)), (2, .ref 61)]) [0, 1, 3, 4, 5, 6, 7] rfl ?_
            exact ih (i + 1) _ _ (false :: st) hops' hil' (depC_t ho hdep).2 (depC_t ho hdep).1 (Rb_push0 hRb (by omega)) r (by rw [← hr, runC_c, stepC_t ho]; simp [hb])
        · have hab : (10000 ≤ op ∧ op < 10100) ∨ (20000 ≤ op ∧ op < 20100) := Or.inl ho
          have hop : 10000 ≤ op ∧ op < 30000 := by omega
          obtain ⟨b0, st0, rfl⟩ : ∃ b0 st0, st = b0 :: st0 := by
            cases st with
            | nil => exact absurd (depC_m hop hdep).1 (by decide)
            | cons b0 st0 => exact ⟨_, _, rfl⟩
          have hh := Rb_head hRb
          refine V_iload dL_extraOf_30 rfl ?_
          refine V_aload_n dL_extraOf_32 rfl ?_
          refine V_getR (a := 56) dL_extraOf_33 flL_20 k47 rfl (r47_4 hR) ?_
          refine V_iload_n dL_extraOf_36 rfl ?_
          refine V_ialdN (j := f) dL_extraOf_37 k56 rfl (by omega) (by decide) ?_
          refine V_topI (x' := nI ops.length) hlen ?_
          refine V_icmp_ge (tgt := 135) dL_extraOf_38 rfl (fun h => absurd h (nI_ge hin (by omega))) (fun _ => ?_)
          refine V_iload dL_extraOf_41 rfl ?_
          refine V_aload_n dL_extraOf_43 rfl ?_
          refine V_alen (t0 := 0) (v := 100) dL_extraOf_44 hkf (by decide) rfl (by decide) ?_
          refine V_icmp_ge (tgt := 135) dL_extraOf_45 rfl (fun h => absurd h (nI_ge (a := i) (b := 100) (by omega) (by decide))) (fun _ => ?_)
          refine V_aload_n dL_extraOf_48 rfl ?_
          refine V_iload dL_extraOf_49 rfl ?_
          refine V_ialdN (j := i) dL_extraOf_51 hkf rfl (by omega) (by decide) ?_
          refine V_topI (x' := nI op) (h0.1.trans (encC_p (by omega))) ?_
          refine V_istore (loc' := [(7, .int (nI op)), (6, .int (nI i)), (5, .int s), (4, .int e), (3, .ref (50 + f)), (0, .ref 47), (1, .int (nI f)), (2, .ref 61)]) dL_extraOf_52 (by decide) rfl ?_
          refine V_iload dL_extraOf_54 rfl ?_
          refine V_sipush (v := 10000) dL_extraOf_56 (by decide) ?_
          refine V_icmp_lt (tgt := 91) dL_extraOf_59 rfl (fun h => absurd h (fun q => absurd ((nI_ltI (b := 10000) (by omega) (by decide)).mp q) (by omega))) (fun _ => ?_)
          refine V_iload dL_extraOf_62 rfl ?_
          refine V_iload dL_extraOf_64 rfl ?_
          refine V_iconst (v := 0) dL_extraOf_66 (by decide) ?_
          refine V_callSN (host := "GuessFair") (as := [.int s, .int 0]) (rest := [.int e]) (bs' := 0) rfl dL_extraOf_67 cmG_hasBit stG_hasBit (by decide) rfl rfl (c_hasBit s 0) (by decide) (by decide) (by decide) (Nat.le_of_ble_eq_true rfl) ?_
          rintro _ _ _ (⟨hb, rfl, rfl, rfl⟩ | ⟨hb, rfl, rfl, rfl⟩) -
          · refine V_one ?_
            refine V_if_eq (tgt := 81) dL_extraOf_70 rfl (fun h => absurd h (by decide)) (fun _ => ?_)
            refine V_iload dL_extraOf_73 rfl ?_
            refine V_callS (as := [.int (nI op)]) (rest := [.int e]) (bs' := 0) rfl dL_extraOf_75 cmL_amount stL_amount mlL_61 rfl rfl (c_amount hab) (by decide) (by decide) (by decide) (Nat.le_of_ble_eq_true rfl) ?_
            rintro _ _ _ ⟨rfl, rfl, rfl⟩ -
            refine V_one ?_
            refine V_goto (tgt := 82) dL_extraOf_78 rfl ?_
            refine V_iadd dL_extraOf_82 ?_
            refine V_istore (loc' := [(4, .int (e + (if op < 20000 then nI (op - 10000) else -(nI (op - 20000))))), (7, .int (nI op)), (6, .int (nI i)), (5, .int s), (3, .ref (50 + f)), (0, .ref 47), (1, .int (nI f)), (2, .ref 61)]) dL_extraOf_83 (by decide) rfl ?_
            refine V_iconst (v := 0) dL_extraOf_85 (by decide) ?_
            refine V_istore (loc' := [(5, .int 0), (4, .int (e + (if op < 20000 then nI (op - 10000) else -(nI (op - 20000))))), (7, .int (nI op)), (6, .int (nI i)), (3, .ref (50 + f)), (0, .ref 47), (1, .int (nI f)), (2, .ref 61)]) dL_extraOf_86 (by decide) rfl ?_
            refine V_goto (tgt := 129) dL_extraOf_88 rfl ?_
            refine V_iinc (v := nI (i + 1)) (loc' := [(6, .int (nI (i + 1))), (5, .int 0), (4, .int (e + (if op < 20000 then nI (op - 10000) else -(nI (op - 20000))))), (7, .int (nI op)), (3, .ref (50 + f)), (0, .ref 47), (1, .int (nI f)), (2, .ref 61)]) dL_extraOf_129 rfl (nI_inc i) (by decide) rfl ?_
            refine V_goto (tgt := 30) dL_extraOf_132 rfl ?_
            refine V.locs (loc' := [(6, .int (nI (i + 1))), (5, .int 0), (4, .int (e + (if op < 20000 then nI (op - 10000) else -(nI (op - 20000))))), (3, .ref (50 + f)), (0, .ref 47), (1, .int (nI f)), (2, .ref 61)]) [0, 1, 2, 4, 5, 6, 7] rfl ?_
            exact ih (i + 1) _ _ [] hops' hil' (depC_m hop hdep).2 (Nat.zero_le _) (Rb_nil 0) r (by rw [← hr, runC_c, stepC_m hop]; simp only [hh] at hb; simp [hb])
          · refine V_one ?_
            refine V_if_eq (tgt := 81) dL_extraOf_70 rfl (fun _ => ?_) (fun h => absurd h (by decide))
            refine V_iconst (v := 0) dL_extraOf_81 (by decide) ?_
            refine V_iadd dL_extraOf_82 ?_
            refine V_istore (loc' := [(4, .int (e + 0)), (7, .int (nI op)), (6, .int (nI i)), (5, .int s), (3, .ref (50 + f)), (0, .ref 47), (1, .int (nI f)), (2, .ref 61)]) dL_extraOf_83 (by decide) rfl ?_
            refine V_iconst (v := 0) dL_extraOf_85 (by decide) ?_
            refine V_istore (loc' := [(5, .int 0), (4, .int (e + 0)), (7, .int (nI op)), (6, .int (nI i)), (3, .ref (50 + f)), (0, .ref 47), (1, .int (nI f)), (2, .ref 61)]) dL_extraOf_86 (by decide) rfl ?_
            refine V_goto (tgt := 129) dL_extraOf_88 rfl ?_
            refine V_iinc (v := nI (i + 1)) (loc' := [(6, .int (nI (i + 1))), (5, .int 0), (4, .int (e + 0)), (7, .int (nI op)), (3, .ref (50 + f)), (0, .ref 47), (1, .int (nI f)), (2, .ref 61)]) dL_extraOf_129 rfl (nI_inc i) (by decide) rfl ?_
            refine V_goto (tgt := 30) dL_extraOf_132 rfl ?_
            refine V.locs (loc' := [(6, .int (nI (i + 1))), (5, .int 0), (4, .int (e + 0)), (3, .ref (50 + f)), (0, .ref 47), (1, .int (nI f)), (2, .ref 61)]) [0, 1, 2, 4, 5, 6, 7] rfl ?_
            exact ih (i + 1) _ _ [] hops' hil' (depC_m hop hdep).2 (Nat.zero_le _) (Rb_nil 0) r (by rw [← hr, runC_c, stepC_m hop]; simp only [hh] at hb; simp [hb])
        · have hab : (10000 ≤ op ∧ op < 10100) ∨ (20000 ≤ op ∧ op < 20100) := Or.inr ho
          have hop : 10000 ≤ op ∧ op < 30000 := by omega
          obtain ⟨b0, st0, rfl⟩ : ∃ b0 st0, st = b0 :: st0 := by
            cases st with
            | nil => exact absurd (depC_m hop hdep).1 (by decide)
            | cons b0 st0 => exact ⟨_, _, rfl⟩
          have hh := Rb_head hRb
          refine V_iload dL_extraOf_30 rfl ?_
          refine V_aload_n dL_extraOf_32 rfl ?_
          refine V_getR (a := 56) dL_extraOf_33 flL_20 k47 rfl (r47_4 hR) ?_
          refine V_iload_n dL_extraOf_36 rfl ?_
          refine V_ialdN (j := f) dL_extraOf_37 k56 rfl (by omega) (by decide) ?_
          refine V_topI (x' := nI ops.length) hlen ?_
          refine V_icmp_ge (tgt := 135) dL_extraOf_38 rfl (fun h => absurd h (nI_ge hin (by omega))) (fun _ => ?_)
          refine V_iload dL_extraOf_41 rfl ?_
          refine V_aload_n dL_extraOf_43 rfl ?_
          refine V_alen (t0 := 0) (v := 100) dL_extraOf_44 hkf (by decide) rfl (by decide) ?_
          refine V_icmp_ge (tgt := 135) dL_extraOf_45 rfl (fun h => absurd h (nI_ge (a := i) (b := 100) (by omega) (by decide))) (fun _ => ?_)
          refine V_aload_n dL_extraOf_48 rfl ?_
          refine V_iload dL_extraOf_49 rfl ?_
          refine V_ialdN (j := i) dL_extraOf_51 hkf rfl (by omega) (by decide) ?_
          refine V_topI (x' := nI op) (h0.1.trans (encC_p (by omega))) ?_
          refine V_istore (loc' := [(7, .int (nI op)), (6, .int (nI i)), (5, .int s), (4, .int e), (3, .ref (50 + f)), (0, .ref 47), (1, .int (nI f)), (2, .ref 61)]) dL_extraOf_52 (by decide) rfl ?_
          refine V_iload dL_extraOf_54 rfl ?_
          refine V_sipush (v := 10000) dL_extraOf_56 (by decide) ?_
          refine V_icmp_lt (tgt := 91) dL_extraOf_59 rfl (fun h => absurd h (fun q => absurd ((nI_ltI (b := 10000) (by omega) (by decide)).mp q) (by omega))) (fun _ => ?_)
          refine V_iload dL_extraOf_62 rfl ?_
          refine V_iload dL_extraOf_64 rfl ?_
          refine V_iconst (v := 0) dL_extraOf_66 (by decide) ?_
          refine V_callSN (host := "GuessFair") (as := [.int s, .int 0]) (rest := [.int e]) (bs' := 0) rfl dL_extraOf_67 cmG_hasBit stG_hasBit (by decide) rfl rfl (c_hasBit s 0) (by decide) (by decide) (by decide) (Nat.le_of_ble_eq_true rfl) ?_
          rintro _ _ _ (⟨hb, rfl, rfl, rfl⟩ | ⟨hb, rfl, rfl, rfl⟩) -
          · refine V_one ?_
            refine V_if_eq (tgt := 81) dL_extraOf_70 rfl (fun h => absurd h (by decide)) (fun _ => ?_)
            refine V_iload dL_extraOf_73 rfl ?_
            refine V_callS (as := [.int (nI op)]) (rest := [.int e]) (bs' := 0) rfl dL_extraOf_75 cmL_amount stL_amount mlL_61 rfl rfl (c_amount hab) (by decide) (by decide) (by decide) (Nat.le_of_ble_eq_true rfl) ?_
            rintro _ _ _ ⟨rfl, rfl, rfl⟩ -
            refine V_one ?_
            refine V_goto (tgt := 82) dL_extraOf_78 rfl ?_
            refine V_iadd dL_extraOf_82 ?_
            refine V_istore (loc' := [(4, .int (e + (if op < 20000 then nI (op - 10000) else -(nI (op - 20000))))), (7, .int (nI op)), (6, .int (nI i)), (5, .int s), (3, .ref (50 + f)), (0, .ref 47), (1, .int (nI f)), (2, .ref 61)]) dL_extraOf_83 (by decide) rfl ?_
            refine V_iconst (v := 0) dL_extraOf_85 (by decide) ?_
            refine V_istore (loc' := [(5, .int 0), (4, .int (e + (if op < 20000 then nI (op - 10000) else -(nI (op - 20000))))), (7, .int (nI op)), (6, .int (nI i)), (3, .ref (50 + f)), (0, .ref 47), (1, .int (nI f)), (2, .ref 61)]) dL_extraOf_86 (by decide) rfl ?_
            refine V_goto (tgt := 129) dL_extraOf_88 rfl ?_
            refine V_iinc (v := nI (i + 1)) (loc' := [(6, .int (nI (i + 1))), (5, .int 0), (4, .int (e + (if op < 20000 then nI (op - 10000) else -(nI (op - 20000))))), (7, .int (nI op)), (3, .ref (50 + f)), (0, .ref 47), (1, .int (nI f)), (2, .ref 61)]) dL_extraOf_129 rfl (nI_inc i) (by decide) rfl ?_
            refine V_goto (tgt := 30) dL_extraOf_132 rfl ?_
            refine V.locs (loc' := [(6, .int (nI (i + 1))), (5, .int 0), (4, .int (e + (if op < 20000 then nI (op - 10000) else -(nI (op - 20000))))), (3, .ref (50 + f)), (0, .ref 47), (1, .int (nI f)), (2, .ref 61)]) [0, 1, 2, 4, 5, 6, 7] rfl ?_
            exact ih (i + 1) _ _ [] hops' hil' (depC_m hop hdep).2 (Nat.zero_le _) (Rb_nil 0) r (by rw [← hr, runC_c, stepC_m hop]; simp only [hh] at hb; simp [hb])
          · refine V_one ?_
            refine V_if_eq (tgt := 81) dL_extraOf_70 rfl (fun _ => ?_) (fun h => absurd h (by decide))
            refine V_iconst (v := 0) dL_extraOf_81 (by decide) ?_
            refine V_iadd dL_extraOf_82 ?_
            refine V_istore (loc' := [(4, .int (e + 0)), (7, .int (nI op)), (6, .int (nI i)), (5, .int s), (3, .ref (50 + f)), (0, .ref 47), (1, .int (nI f)), (2, .ref 61)]) dL_extraOf_83 (by decide) rfl ?_
            refine V_iconst (v := 0) dL_extraOf_85 (by decide) ?_
            refine V_istore (loc' := [(5, .int 0), (4, .int (e + 0)), (7, .int (nI op)), (6, .int (nI i)), (3, .ref (50 + f)), (0, .ref 47), (1, .int (nI f)), (2, .ref 61)]) dL_extraOf_86 (by decide) rfl ?_
            refine V_goto (tgt := 129) dL_extraOf_88 rfl ?_
            refine V_iinc (v := nI (i + 1)) (loc' := [(6, .int (nI (i + 1))), (5, .int 0), (4, .int (e + 0)), (7, .int (nI op)), (3, .ref (50 + f)), (0, .ref 47), (1, .int (nI f)), (2, .ref 61)]) dL_extraOf_129 rfl (nI_inc i) (by decide) rfl ?_
            refine V_goto (tgt := 30) dL_extraOf_132 rfl ?_
            refine V.locs (loc' := [(6, .int (nI (i + 1))), (5, .int 0), (4, .int (e + 0)), (3, .ref (50 + f)), (0, .ref 47), (1, .int (nI f)), (2, .ref 61)]) [0, 1, 2, 4, 5, 6, 7] rfl ?_
            exact ih (i + 1) _ _ [] hops' hil' (depC_m hop hdep).2 (Nat.zero_le _) (Rb_nil 0) r (by rw [← hr, runC_c, stepC_m hop]; simp only [hh] at hb; simp [hb])
        · subst ho
          obtain ⟨a, st0, rfl⟩ : ∃ a st0, st = a :: st0 := by
            cases st with
            | nil => exact absurd (depC_n hdep).1 (by decide)
            | cons a st0 => exact ⟨_, _, rfl⟩
          refine V_iload dL_extraOf_30 rfl ?_
          refine V_aload_n dL_extraOf_32 rfl ?_
          refine V_getR (a := 56) dL_extraOf_33 flL_20 k47 rfl (r47_4 hR) ?_
          refine V_iload_n dL_extraOf_36 rfl ?_
          refine V_ialdN (j := f) dL_extraOf_37 k56 rfl (by omega) (by decide) ?_
          refine V_topI (x' := nI ops.length) hlen ?_
          refine V_icmp_ge (tgt := 135) dL_extraOf_38 rfl (fun h => absurd h (nI_ge hin (by omega))) (fun _ => ?_)
          refine V_iload dL_extraOf_41 rfl ?_
          refine V_aload_n dL_extraOf_43 rfl ?_
          refine V_alen (t0 := 0) (v := 100) dL_extraOf_44 hkf (by decide) rfl (by decide) ?_
          refine V_icmp_ge (tgt := 135) dL_extraOf_45 rfl (fun h => absurd h (nI_ge (a := i) (b := 100) (by omega) (by decide))) (fun _ => ?_)
          refine V_aload_n dL_extraOf_48 rfl ?_
          refine V_iload dL_extraOf_49 rfl ?_
          refine V_ialdN (j := i) dL_extraOf_51 hkf rfl (by omega) (by decide) ?_
          refine V_topI (x' := (-1)) (h0.1.trans rfl) ?_
          refine V_istore (loc' := [(7, .int (-1)), (6, .int (nI i)), (5, .int s), (4, .int e), (3, .ref (50 + f)), (0, .ref 47), (1, .int (nI f)), (2, .ref 61)]) dL_extraOf_52 (by decide) rfl ?_
          refine V_iload dL_extraOf_54 rfl ?_
          refine V_sipush (v := 10000) dL_extraOf_56 (by decide) ?_
          refine V_icmp_lt (tgt := 91) dL_extraOf_59 rfl (fun _ => ?_) (fun h => absurd h (by decide))
          refine V_iload dL_extraOf_91 rfl ?_
          refine V_if_lt (tgt := 120) dL_extraOf_93 rfl (fun _ => ?_) (fun h => absurd h (by decide))
          refine V_iload dL_extraOf_120 rfl ?_
          refine V_iload dL_extraOf_122 rfl ?_
          refine V_callS (as := [.int (-1), .int s]) (rest := []) (bs' := 0) rfl dL_extraOf_124 cmQ_joined stQ_joined mlL_68 rfl rfl (c_joined_not s) (by decide) (by decide) (by decide) (Nat.le_of_ble_eq_true rfl) ?_
          rintro _ _ _ ⟨rfl, rfl, rfl⟩ -
          refine V_one ?_
          refine V_istore (loc' := [(5, .int (s ^^^ 1)), (7, .int (-1)), (6, .int (nI i)), (4, .int e), (3, .ref (50 + f)), (0, .ref 47), (1, .int (nI f)), (2, .ref 61)]) dL_extraOf_127 (by decide) rfl ?_
          refine V_iinc (v := nI (i + 1)) (loc' := [(6, .int (nI (i + 1))), (5, .int (s ^^^ 1)), (7, .int (-1)), (4, .int e), (3, .ref (50 + f)), (0, .ref 47), (1, .int (nI f)), (2, .ref 61)]) dL_extraOf_129 rfl (nI_inc i) (by decide) rfl ?_
          refine V_goto (tgt := 30) dL_extraOf_132 rfl ?_
          refine V.locs (loc' := [(6, .int (nI (i + 1))), (5, .int (s ^^^ 1)), (4, .int e), (3, .ref (50 + f)), (0, .ref 47), (1, .int (nI f)), (2, .ref 61)]) [0, 1, 3, 4, 5, 6, 7] rfl ?_
          exact ih (i + 1) _ _ ((!a) :: st0) hops' hil' (depC_n hdep).2 (by simp only [List.length_cons] at hst ⊢; omega) (Rb_not hRb) r hr
        · subst ho
          obtain ⟨a, b, st0, rfl⟩ : ∃ a b st0, st = a :: b :: st0 := by
            match st with
            | [] => exact absurd (depC_j (by decide) hdep).1 (by decide)
            | [a] => exact absurd (depC_j (by decide) hdep).1 (by simp)
            | a :: b :: st0 => exact ⟨_, _, _, rfl⟩
          refine V_iload dL_extraOf_30 rfl ?_
          refine V_aload_n dL_extraOf_32 rfl ?_
          refine V_getR (a := 56) dL_extraOf_33 flL_20 k47 rfl (r47_4 hR) ?_
          refine V_iload_n dL_extraOf_36 rfl ?_
          refine V_ialdN (j := f) dL_extraOf_37 k56 rfl (by omega) (by decide) ?_
          refine V_topI (x' := nI ops.length) hlen ?_
          refine V_icmp_ge (tgt := 135) dL_extraOf_38 rfl (fun h => absurd h (nI_ge hin (by omega))) (fun _ => ?_)
          refine V_iload dL_extraOf_41 rfl ?_
          refine V_aload_n dL_extraOf_43 rfl ?_
          refine V_alen (t0 := 0) (v := 100) dL_extraOf_44 hkf (by decide) rfl (by decide) ?_
          refine V_icmp_ge (tgt := 135) dL_extraOf_45 rfl (fun h => absurd h (nI_ge (a := i) (b := 100) (by omega) (by decide))) (fun _ => ?_)
          refine V_aload_n dL_extraOf_48 rfl ?_
          refine V_iload dL_extraOf_49 rfl ?_
          refine V_ialdN (j := i) dL_extraOf_51 hkf rfl (by omega) (by decide) ?_
          refine V_topI (x' := (-2)) (h0.1.trans rfl) ?_
          refine V_istore (loc' := [(7, .int (-2)), (6, .int (nI i)), (5, .int s), (4, .int e), (3, .ref (50 + f)), (0, .ref 47), (1, .int (nI f)), (2, .ref 61)]) dL_extraOf_52 (by decide) rfl ?_
          refine V_iload dL_extraOf_54 rfl ?_
          refine V_sipush (v := 10000) dL_extraOf_56 (by decide) ?_
          refine V_icmp_lt (tgt := 91) dL_extraOf_59 rfl (fun _ => ?_) (fun h => absurd h (by decide))
          refine V_iload dL_extraOf_91 rfl ?_
          refine V_if_lt (tgt := 120) dL_extraOf_93 rfl (fun _ => ?_) (fun h => absurd h (by decide))
          refine V_iload dL_extraOf_120 rfl ?_
          refine V_iload dL_extraOf_122 rfl ?_
          refine V_callS (as := [.int (-2), .int s]) (rest := []) (bs' := 0) rfl dL_extraOf_124 cmQ_joined stQ_joined mlL_68 rfl rfl (c_joined_and s) (by decide) (by decide) (by decide) (Nat.le_of_ble_eq_true rfl) ?_
          rintro _ _ _ ⟨rfl, rfl, rfl⟩ -
          refine V_one ?_
          refine V_istore (loc' := [(5, .int ((s >>> ((1 : Int32) &&& 31)) &&& (s ||| (-2)))), (7, .int (-2)), (6, .int (nI i)), (4, .int e), (3, .ref (50 + f)), (0, .ref 47), (1, .int (nI f)), (2, .ref 61)]) dL_extraOf_127 (by decide) rfl ?_
          refine V_iinc (v := nI (i + 1)) (loc' := [(6, .int (nI (i + 1))), (5, .int ((s >>> ((1 : Int32) &&& 31)) &&& (s ||| (-2)))), (7, .int (-2)), (4, .int e), (3, .ref (50 + f)), (0, .ref 47), (1, .int (nI f)), (2, .ref 61)]) dL_extraOf_129 rfl (nI_inc i) (by decide) rfl ?_
          refine V_goto (tgt := 30) dL_extraOf_132 rfl ?_
          refine V.locs (loc' := [(6, .int (nI (i + 1))), (5, .int ((s >>> ((1 : Int32) &&& 31)) &&& (s ||| (-2)))), (4, .int e), (3, .ref (50 + f)), (0, .ref 47), (1, .int (nI f)), (2, .ref 61)]) [0, 1, 3, 4, 5, 6, 7] rfl ?_
          exact ih (i + 1) _ _ ((b && a) :: st0) hops' hil' (depC_j (by decide) hdep).2 (by simp only [List.length_cons] at hst ⊢; omega) (Rb_and hRb (by simp only [List.length_cons] at hst; omega)) r hr
        · subst ho
          obtain ⟨a, b, st0, rfl⟩ : ∃ a b st0, st = a :: b :: st0 := by
            match st with
            | [] => exact absurd (depC_j (by decide) hdep).1 (by decide)
            | [a] => exact absurd (depC_j (by decide) hdep).1 (by simp)
            | a :: b :: st0 => exact ⟨_, _, _, rfl⟩
          refine V_iload dL_extraOf_30 rfl ?_
          refine V_aload_n dL_extraOf_32 rfl ?_
          refine V_getR (a := 56) dL_extraOf_33 flL_20 k47 rfl (r47_4 hR) ?_
          refine V_iload_n dL_extraOf_36 rfl ?_
          refine V_ialdN (j := f) dL_extraOf_37 k56 rfl (by omega) (by decide) ?_
          refine V_topI (x' := nI ops.length) hlen ?_
          refine V_icmp_ge (tgt := 135) dL_extraOf_38 rfl (fun h => absurd h (nI_ge hin (by omega))) (fun _ => ?_)
          refine V_iload dL_extraOf_41 rfl ?_
          refine V_aload_n dL_extraOf_43 rfl ?_
          refine V_alen (t0 := 0) (v := 100) dL_extraOf_44 hkf (by decide) rfl (by decide) ?_
          refine V_icmp_ge (tgt := 135) dL_extraOf_45 rfl (fun h => absurd h (nI_ge (a := i) (b := 100) (by omega) (by decide))) (fun _ => ?_)
          refine V_aload_n dL_extraOf_48 rfl ?_
          refine V_iload dL_extraOf_49 rfl ?_
          refine V_ialdN (j := i) dL_extraOf_51 hkf rfl (by omega) (by decide) ?_
          refine V_topI (x' := (-3)) (h0.1.trans rfl) ?_
          refine V_istore (loc' := [(7, .int (-3)), (6, .int (nI i)), (5, .int s), (4, .int e), (3, .ref (50 + f)), (0, .ref 47), (1, .int (nI f)), (2, .ref 61)]) dL_extraOf_52 (by decide) rfl ?_
          refine V_iload dL_extraOf_54 rfl ?_
          refine V_sipush (v := 10000) dL_extraOf_56 (by decide) ?_
          refine V_icmp_lt (tgt := 91) dL_extraOf_59 rfl (fun _ => ?_) (fun h => absurd h (by decide))
          refine V_iload dL_extraOf_91 rfl ?_
          refine V_if_lt (tgt := 120) dL_extraOf_93 rfl (fun _ => ?_) (fun h => absurd h (by decide))
          refine V_iload dL_extraOf_120 rfl ?_
          refine V_iload dL_extraOf_122 rfl ?_
          refine V_callS (as := [.int (-3), .int s]) (rest := []) (bs' := 0) rfl dL_extraOf_124 cmQ_joined stQ_joined mlL_68 rfl rfl (c_joined_or s) (by decide) (by decide) (by decide) (Nat.le_of_ble_eq_true rfl) ?_
          rintro _ _ _ ⟨rfl, rfl, rfl⟩ -
          refine V_one ?_
          refine V_istore (loc' := [(5, .int ((s >>> ((1 : Int32) &&& 31)) ||| (s &&& 1))), (7, .int (-3)), (6, .int (nI i)), (4, .int e), (3, .ref (50 + f)), (0, .ref 47), (1, .int (nI f)), (2, .ref 61)]) dL_extraOf_127 (by decide) rfl ?_
          refine V_iinc (v := nI (i + 1)) (loc' := [(6, .int (nI (i + 1))), (5, .int ((s >>> ((1 : Int32) &&& 31)) ||| (s &&& 1))), (7, .int (-3)), (4, .int e), (3, .ref (50 + f)), (0, .ref 47), (1, .int (nI f)), (2, .ref 61)]) dL_extraOf_129 rfl (nI_inc i) (by decide) rfl ?_
          refine V_goto (tgt := 30) dL_extraOf_132 rfl ?_
          refine V.locs (loc' := [(6, .int (nI (i + 1))), (5, .int ((s >>> ((1 : Int32) &&& 31)) ||| (s &&& 1))), (4, .int e), (3, .ref (50 + f)), (0, .ref 47), (1, .int (nI f)), (2, .ref 61)]) [0, 1, 3, 4, 5, 6, 7] rfl ?_
          exact ih (i + 1) _ _ ((b || a) :: st0) hops' hil' (depC_j (by decide) hdep).2 (by simp only [List.length_cons] at hst ⊢; omega) (Rb_or hRb (by simp only [List.length_cons] at hst; omega)) r hr
    refine V_iload_n dL_extraOf_0 rfl ?_
    refine V_if_lt (tgt := 12) dL_extraOf_1 rfl (fun h => absurd h (nI_pos (by omega))) (fun _ => ?_)
    refine V_iload_n dL_extraOf_4 rfl ?_
    refine V_aload_n dL_extraOf_5 rfl ?_
    refine V_getE (x := nI (cN (gi M 76 11))) dL_extraOf_6 flL_39 k47 rfl hlw ?_
    refine V_icmp_lt (tgt := 14) dL_extraOf_9 rfl (fun _ => ?_) (fun h => absurd h (not_not_intro (nI_lt hf hsm)))
    refine V_aload_n dL_extraOf_14 rfl ?_
    refine V_getR (a := 49) dL_extraOf_15 flL_17 k47 rfl (r47_3 hR) ?_
    refine V_iload_n dL_extraOf_18 rfl ?_
    refine V_aaldAN (j := f) (a := 50 + f) dL_extraOf_19 k49 (by decide) rfl (by omega) (by decide) hrf ?_
    refine V_astore_n (loc' := [(3, .ref (50 + f)), (0, .ref 47), (1, .int (nI f)), (2, .ref 61)]) dL_extraOf_20 (by decide) rfl ?_
    refine V_iconst (v := 0) dL_extraOf_21 (by decide) ?_
    refine V_istore (loc' := [(4, .int 0), (3, .ref (50 + f)), (0, .ref 47), (1, .int (nI f)), (2, .ref 61)]) dL_extraOf_22 (by decide) rfl ?_
    refine V_iconst (v := 0) dL_extraOf_24 (by decide) ?_
    refine V_istore (loc' := [(5, .int 0), (4, .int 0), (3, .ref (50 + f)), (0, .ref 47), (1, .int (nI f)), (2, .ref 61)]) dL_extraOf_25 (by decide) rfl ?_
    refine V_iconst (v := 0) dL_extraOf_27 (by decide) ?_
    refine V_istore (loc' := [(6, .int 0), (5, .int 0), (4, .int 0), (3, .ref (50 + f)), (0, .ref 47), (1, .int (nI f)), (2, .ref 61)]) dL_extraOf_28 (by decide) rfl ?_
    refine V.locs (loc' := [(6, .int 0), (5, .int 0), (4, .int 0), (3, .ref (50 + f)), (0, .ref 47), (1, .int (nI f)), (2, .ref 61)]) [0, 1, 2, 3, 4, 5, 6] rfl ?_
    refine V_eqL (loc' := [(6, .int (nI 0)), (5, .int 0), (4, .int 0), (3, .ref (50 + f)), (0, .ref 47), (1, .int (nI f)), (2, .ref 61)]) ?_ ?_
    · rfl
    exact lp ops 0 0 0 [] (fun j op h => by rw [Nat.zero_add]; exact hops j op h) (by omega) hdep (by decide) (Rb_nil 0) _ (by rw [hext, exS, if_pos (rng_n hf hsm), nI_cN (by omega)])
  · skip
    refine V_iload_n dL_extraOf_0 rfl ?_
    refine V_if_lt (tgt := 12) dL_extraOf_1 rfl (fun c1 => ?_) (fun c1 => ?_)
    · skip
      refine V_iconst (v := 0) dL_extraOf_12 (by decide) ?_
      exact V_iret dL_extraOf_13 rfl rfl ⟨by rw [exS, if_neg hx], rfl, rfl⟩
    · skip
      refine V_iload_n dL_extraOf_4 rfl ?_
      refine V_aload_n dL_extraOf_5 rfl ?_
      refine V_getE (x := nI (cN (gi M 76 11))) dL_extraOf_6 flL_39 k47 rfl hlw ?_
      refine V_icmp_lt (tgt := 14) dL_extraOf_9 rfl (fun c9 => ?_) (fun c9 => ?_)
      · exact absurd ⟨Int32.not_lt.mp c1, c9⟩ hx --done
      · skip
        refine V_iconst (v := 0) dL_extraOf_12 (by decide) ?_
        exact V_iret dL_extraOf_13 rfl rfl ⟨by rw [exS, if_neg hx], rfl, rfl⟩
