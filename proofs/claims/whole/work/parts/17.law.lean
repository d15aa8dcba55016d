/-! the first object's laws, as they are asked -/
/-! ===== Int32 by its bits: bt x i ===== -/
def bt (x : Int32) (i : Nat) : Bool := x.toBitVec.getLsbD i
theorem b_ext {x y : Int32} (h : ∀ i, i < 32 → bt x i = bt y i) : x = y := Int32.toBitVec_inj.mp (BitVec.eq_of_getLsbD_eq (fun i hi => h i hi))
theorem b_or (x y : Int32) (i : Nat) : bt (x ||| y) i = (bt x i || bt y i) := by unfold bt; rw [Int32.toBitVec_or, BitVec.getLsbD_or]
theorem b_and (x y : Int32) (i : Nat) : bt (x &&& y) i = (bt x i && bt y i) := by unfold bt; rw [Int32.toBitVec_and, BitVec.getLsbD_and]
theorem b_xor (x y : Int32) (i : Nat) : bt (x ^^^ y) i = (bt x i ^^ bt y i) := by unfold bt; rw [Int32.toBitVec_xor, BitVec.getLsbD_xor]
theorem b_big {x : Int32} {i : Nat} (h : 32 ≤ i) : bt x i = false := BitVec.getLsbD_of_ge _ _ h
theorem b_255 (i : Nat) : bt 255 i = decide (i < 8) := by
  rcases Nat.lt_or_ge i 32 with h | h
  · exact (by decide +kernel : ∀ i, i < 32 → bt 255 i = decide (i < 8)) i h
  · rw [b_big h, decide_eq_false (by omega)]
theorem b_65535 (i : Nat) : bt 65535 i = decide (i < 16) := by
  rcases Nat.lt_or_ge i 32 with h | h
  · exact (by decide +kernel : ∀ i, i < 32 → bt 65535 i = decide (i < 16)) i h
  · rw [b_big h, decide_eq_false (by omega)]
theorem b_m1 : ∀ i, i < 32 → bt (-1) i = true := by decide +kernel
theorem b_0 (i : Nat) : bt 0 i = false := BitVec.getLsbD_zero
theorem s_l : ∀ n, n < 32 → ((nI n &&& 31).toBitVec.smod 32).toNat = n := by decide +kernel
theorem s_u : ∀ n, n < 32 → (((nI n).toUInt32 &&& Int32.toUInt32 31).toBitVec % 32).toNat = n := by decide +kernel
theorem b_shl (n : Nat) (hn : n < 32) (x : Int32) {i : Nat} (hi : i < 32) : bt (x <<< (nI n &&& 31)) i = (decide (n ≤ i) && bt x (i - n)) := by
  unfold bt
  rw [Int32.toBitVec_shiftLeft]
  show (x.toBitVec <<< ((nI n &&& 31).toBitVec.smod 32).toNat).getLsbD i = _
  rw [s_l n hn, BitVec.getLsbD_shiftLeft]
  rcases Nat.lt_or_ge i n with h | h
  · simp [h, Nat.not_le.mpr h]
  · simp [hi, h, Nat.not_lt.mpr h]
theorem b_ushr (n : Nat) (hn : n < 32) (x : Int32) (i : Nat) : bt ((x.toUInt32 >>> ((nI n).toUInt32 &&& Int32.toUInt32 31)).toInt32) i = bt x (n + i) := by
  show (x.toUInt32 >>> ((nI n).toUInt32 &&& Int32.toUInt32 31)).toBitVec.getLsbD i = x.toUInt32.toBitVec.getLsbD (n + i)
  rw [UInt32.toBitVec_shiftRight]
  show (x.toUInt32.toBitVec >>> (((nI n).toUInt32 &&& Int32.toUInt32 31).toBitVec % 32).toNat).getLsbD i = _
  rw [s_u n hn, BitVec.getLsbD_ushiftRight]
theorem b_sshr (n : Nat) (hn : n < 32) (x : Int32) {i : Nat} (hi : i < 32) : bt (x >>> (nI n &&& 31)) i = if n + i < 32 then bt x (n + i) else bt x 31 := by
  unfold bt
  rw [Int32.toBitVec_shiftRight]
  show (x.toBitVec.sshiftRight ((nI n &&& 31).toBitVec.smod 32).toNat).getLsbD i = _
  rw [s_l n hn, BitVec.getLsbD_sshiftRight, BitVec.msb_eq_getLsbD_last]
  simp [hi]
theorem b_shl8 (x : Int32) {i : Nat} (hi : i < 32) : bt (x <<< ((8 : Int32) &&& 31)) i = (decide (8 ≤ i) && bt x (i - 8)) := b_shl 8 (by omega) x hi
theorem b_shl16 (x : Int32) {i : Nat} (hi : i < 32) : bt (x <<< ((16 : Int32) &&& 31)) i = (decide (16 ≤ i) && bt x (i - 16)) := b_shl 16 (by omega) x hi
theorem b_shl24 (x : Int32) {i : Nat} (hi : i < 32) : bt (x <<< ((24 : Int32) &&& 31)) i = (decide (24 ≤ i) && bt x (i - 24)) := b_shl 24 (by omega) x hi
theorem b_sshr8 (x : Int32) {i : Nat} (hi : i < 32) : bt (x >>> ((8 : Int32) &&& 31)) i = if 8 + i < 32 then bt x (8 + i) else bt x 31 := b_sshr 8 (by omega) x hi
/-- the lowest bits of x are st -/
def Rb (x : Int32) (st : List Bool) : Prop := ∀ (i : Nat) (b : Bool), st[i]? = some b → bt x i = b
theorem b_1 (i : Nat) : bt 1 i = decide (i = 0) := by
  rcases Nat.lt_or_ge i 32 with h | h
  · exact (by decide +kernel : ∀ i, i < 32 → bt 1 i = decide (i = 0)) i h
  · rw [b_big h, decide_eq_false (by omega)]
theorem b_m2 : ∀ i, i < 32 → bt (-2) i = decide (1 ≤ i) := by decide +kernel
theorem Rb_nil (x : Int32) : Rb x [] := fun i b h => by simp at h
theorem Rb_lt {st : List Bool} {i : Nat} {b : Bool} (h : st[i]? = some b) : i < st.length := (List.getElem?_eq_some_iff.mp h).1
theorem Rb_push {x y : Int32} {t : Bool} {st : List Bool} (h : Rb x st) (hl : st.length < 31) (hy : ∀ i, bt y i = (decide (i = 0) && t)) : Rb ((x <<< ((1 : Int32) &&& 31)) ||| y) (t :: st) := by
  intro i b hb
  have hi := Rb_lt hb
  simp only [List.length_cons] at hi
  rw [b_or, show (1 : Int32) = nI 1 from rfl, b_shl 1 (by omega) x (by omega), hy]
  cases i with
  | zero => simp at hb; simp [hb]
  | succ i =>
    rw [List.getElem?_cons_succ] at hb
    simp [h i b hb]
theorem Rb_push1 {x : Int32} {st : List Bool} (h : Rb x st) (hl : st.length < 31) : Rb ((x <<< ((1 : Int32) &&& 31)) ||| 1) (true :: st) := Rb_push h hl (fun i => by rw [b_1]; simp)
theorem Rb_push0 {x : Int32} {st : List Bool} (h : Rb x st) (hl : st.length < 31) : Rb ((x <<< ((1 : Int32) &&& 31)) ||| 0) (false :: st) := Rb_push h hl (fun i => by rw [b_0]; simp)
theorem Rb_not {x : Int32} {a : Bool} {st : List Bool} (h : Rb x (a :: st)) : Rb (x ^^^ 1) ((!a) :: st) := by
  intro i b hb
  rw [b_xor, b_1]
  cases i with
  | zero =>
    have h0 := h 0 a rfl
    obtain rfl : (!a) = b := Option.some.inj hb
    rw [h0]
    simp
  | succ i =>
    rw [List.getElem?_cons_succ] at hb
    have h0 := h (i + 1) b (by rw [List.getElem?_cons_succ]; exact hb)
    rw [h0]
    simp
theorem Rb_and {x : Int32} {a c : Bool} {st : List Bool} (h : Rb x (a :: c :: st)) (hl : st.length < 29) : Rb ((x >>> ((1 : Int32) &&& 31)) &&& (x ||| (-2))) ((c && a) :: st) := by
  intro i b hb
  have hi := Rb_lt hb
  simp only [List.length_cons] at hi
  rw [b_and, b_or, show (1 : Int32) = nI 1 from rfl, b_sshr 1 (by omega) x (by omega), if_pos (by omega), b_m2 i (by omega)]
  cases i with
  | zero =>
    have h0 := h 0 a rfl
    have h1 := h 1 c rfl
    simp at hb
    rw [h0, h1, ← hb]
    simp
  | succ i =>
    rw [List.getElem?_cons_succ] at hb
    have h0 := h (1 + (i + 1)) b (by rw [show 1 + (i + 1) = (i + 1) + 1 by omega, List.getElem?_cons_succ, List.getElem?_cons_succ]; exact hb)
    rw [h0]
    simp
theorem Rb_or {x : Int32} {a c : Bool} {st : List Bool} (h : Rb x (a :: c :: st)) (hl : st.length < 29) : Rb ((x >>> ((1 : Int32) &&& 31)) ||| (x &&& 1)) ((c || a) :: st) := by
  intro i b hb
  have hi := Rb_lt hb
  simp only [List.length_cons] at hi
  rw [b_or, b_and, show (x >>> ((1 : Int32) &&& 31)) = (x >>> (nI 1 &&& 31)) from rfl, b_sshr 1 (by omega) x (by omega), if_pos (by omega), b_1]
  cases i with
  | zero =>
    have h0 := h 0 a rfl
    have h1 := h 1 c rfl
    simp at hb
    rw [h0, h1, ← hb]
    simp
  | succ i =>
    rw [List.getElem?_cons_succ] at hb
    have h0 := h (1 + (i + 1)) b (by rw [show 1 + (i + 1) = (i + 1) + 1 by omega, List.getElem?_cons_succ, List.getElem?_cons_succ]; exact hb)
    rw [h0]
    simp
theorem bit_iff (x : Int32) {k : Nat} (hk : k < 32) : hasB x (nI k) ↔ bt x k = true := by
  have e : (x >>> (nI k &&& 31)) &&& 1 = 0 ↔ bt x k = false := by
    constructor
    · intro h
      have h1 : bt ((x >>> (nI k &&& 31)) &&& 1) 0 = bt 0 0 := by rw [h]
      rw [b_and, b_sshr k hk x (by omega), b_1, b_0, if_pos (by omega)] at h1
      simpa using h1
    · intro h
      apply b_ext
      intro i hi
      rw [b_and, b_1, b_0]
      by_cases h0 : i = 0
      · subst h0
        rw [b_sshr k hk x (by omega), if_pos (by omega)]
        simp [h]
      · simp [h0]
  show ¬ _ ↔ _
  rw [e]
  cases bt x k <;> simp
theorem Rb_head {x : Int32} {a : Bool} {st : List Bool} (h : Rb x (a :: st)) : hasB x 0 ↔ a = true := by
  rw [show (0 : Int32) = nI 0 from rfl, bit_iff x (by omega), h 0 a rfl]
theorem c_isMet {l : Launch} {G : GT} {σ : Hp} {op : Nat} (ho : op < 1800) : MM l G mQ_isMet 0 0 0 [.int (nI op), .ref 61] KA σ (PZ (tst (fun j => gi σ 61 j) op = true) KA σ) := by
  refine MM.of (loc := [(0, .int (nI op)), (1, .ref 61)]) (by decide +kernel) rfl (Nat.le_of_ble_eq_true rfl) ?_
  refine V_iload_n dQ_isMet_0 rfl ?_
  refine V_sipush (v := 300) dQ_isMet_1 (by decide) ?_
  refine V_idiv dQ_isMet_4 (by decide) ?_
  refine V_topI (x' := nI (op / 300)) (pk_div (a := op) (d := 300) (by omega) (by decide) (by decide)) ?_
  refine V_istore_n (loc' := [(2, .int (nI (op / 300))), (0, .int (nI op)), (1, .ref 61)]) dQ_isMet_5 (by decide) rfl ?_
  refine V_iload_n dQ_isMet_6 rfl ?_
  refine V_if_lt (tgt := 22) dQ_isMet_7 rfl (fun h => absurd h (nI_pos (by omega))) (fun _ => ?_)
  refine V_iload_n dQ_isMet_10 rfl ?_
  refine V_aload_n dQ_isMet_11 rfl ?_
  refine V_alen (t0 := 0) (v := 6) dQ_isMet_12 k61 (by decide) rfl (by decide) ?_
  refine V_icmp_ge (tgt := 22) dQ_isMet_13 rfl (fun h => absurd h (nI_ge (a := op / 300) (b := 6) (by omega) (by decide))) (fun _ => ?_)
  refine V_aload_n dQ_isMet_16 rfl ?_
  refine V_iload_n dQ_isMet_17 rfl ?_
  refine V_ialdN (j := op / 300) dQ_isMet_18 k61 rfl (by omega) (by decide) ?_
  refine V_goto (tgt := 23) dQ_isMet_19 rfl ?_
  refine V_istore_n (loc' := [(3, .int (gi σ 61 (op / 300))), (2, .int (nI (op / 300))), (0, .int (nI op)), (1, .ref 61)]) dQ_isMet_23 (by decide) rfl ?_
  refine V_iload_n dQ_isMet_24 rfl ?_
  refine V_bipush (v := 100) dQ_isMet_25 (by decide) ?_
  refine V_irem dQ_isMet_27 (by decide) ?_
  refine V_topI (x' := nI (op % 100)) (pk_rem (a := op) (d := 100) (by omega) (by decide) (by decide)) ?_
  refine V_istore (loc' := [(4, .int (nI (op % 100))), (3, .int (gi σ 61 (op / 300))), (2, .int (nI (op / 300))), (0, .int (nI op)), (1, .ref 61)]) dQ_isMet_28 (by decide) rfl ?_
  refine V_iload_n dQ_isMet_30 rfl ?_
  refine V_bipush (v := 100) dQ_isMet_31 (by decide) ?_
  refine V_idiv dQ_isMet_33 (by decide) ?_
  refine V_iconst (v := 3) dQ_isMet_34 (by decide) ?_
  refine V_irem dQ_isMet_35 (by decide) ?_
  refine V_topI (x' := nI (op / 100 % 3)) (by rw [show (100 : Int32) = nI 100 from rfl, show (3 : Int32) = nI 3 from rfl, pk_div (by omega) (by decide) (by decide), pk_rem (by omega) (by decide) (by decide)]) ?_
  by_cases s36_0 : (nI (op / 100 % 3)) = 0
  · have e0 := (nI_eq (by omega) (by decide)).mp s36_0
    refine V_lsw (tgt := 64) dQ_isMet_36 (by decide) (by rw [s36_0] <;> rfl) rfl ?_
    refine V_iload_n dQ_isMet_64 rfl ?_
    refine V_iload dQ_isMet_65 rfl ?_
    refine V_icmp_ge (tgt := 74) dQ_isMet_67 rfl (fun c67 => ?_) (fun c67 => ?_)
    · skip
      refine V_iconst (v := 0) dQ_isMet_74 (by decide) ?_
      refine V_zret dQ_isMet_75 rfl rfl rfl ?_
      simp only [PZ, tst]
      simp_all
    · skip
      refine V_iconst (v := 1) dQ_isMet_70 (by decide) ?_
      refine V_goto (tgt := 75) dQ_isMet_71 rfl ?_
      refine V_zret dQ_isMet_75 rfl rfl rfl ?_
      simp only [PZ, tst]
      simp_all
  by_cases s36_1 : (nI (op / 100 % 3)) = 1
  · have e1 := (nI_eq (by omega) (by decide)).mp s36_1
    refine V_lsw (tgt := 76) dQ_isMet_36 (by decide) (by rw [s36_1] <;> rfl) rfl ?_
    refine V_iload_n dQ_isMet_76 rfl ?_
    refine V_iload dQ_isMet_77 rfl ?_
    refine V_icmp_ne (tgt := 86) dQ_isMet_79 rfl (fun c79 => ?_) (fun c79 => ?_)
    · skip
      refine V_iconst (v := 0) dQ_isMet_86 (by decide) ?_
      refine V_zret dQ_isMet_87 rfl rfl rfl ?_
      simp only [PZ, tst]
      simp_all
    · skip
      refine V_iconst (v := 1) dQ_isMet_82 (by decide) ?_
      refine V_goto (tgt := 87) dQ_isMet_83 rfl ?_
      refine V_zret dQ_isMet_87 rfl rfl rfl ?_
      simp only [PZ, tst]
      simp_all
  have e2 : op / 100 % 3 ≠ 0 := fun q => s36_0 (by rw [q]; rfl)
  have e3 : op / 100 % 3 ≠ 1 := fun q => s36_1 (by rw [q]; rfl)
  refine V_lsw (tgt := 88) dQ_isMet_36 (by decide) ((lv_osw s36_0 (by decide)).trans ((lv_osw s36_1 (by decide)).trans rfl)) rfl ?_
  refine V_iload_n dQ_isMet_88 rfl ?_
  refine V_iload dQ_isMet_89 rfl ?_
  refine V_icmp_le (tgt := 98) dQ_isMet_91 rfl (fun c91 => ?_) (fun c91 => ?_)
  · skip
    refine V_iconst (v := 0) dQ_isMet_98 (by decide) ?_
    refine V_zret dQ_isMet_99 rfl rfl rfl ?_
    simp only [PZ, tst]
    simp_all
  · skip
    refine V_iconst (v := 1) dQ_isMet_94 (by decide) ?_
    refine V_goto (tgt := 99) dQ_isMet_95 rfl ?_
    refine V_zret dQ_isMet_99 rfl rfl rfl ?_
    simp only [PZ, tst]
    simp_all
theorem c_joined_not {l : Launch} {G : GT} {σ : Hp} (y : Int32) : MM l G mQ_joined 0 0 0 [.int (-1), .int y] KA σ (PE (some (.int (y ^^^ 1))) KA σ) := by
  refine MM.of (loc := [(0, .int (-1)), (1, .int y)]) (by decide +kernel) rfl (Nat.le_of_ble_eq_true rfl) ?_
  refine V_iload_n dQ_joined_0 rfl ?_
  refine V_lsw (tgt := 28) dQ_joined_1 (by decide) rfl rfl ?_
  refine V_iload_n dQ_joined_28 rfl ?_
  refine V_iconst (v := 1) dQ_joined_29 (by decide) ?_
  refine V_ixor dQ_joined_30 ?_
  exact V_iret dQ_joined_31 rfl rfl ⟨rfl, rfl, rfl⟩
theorem c_joined_and {l : Launch} {G : GT} {σ : Hp} (y : Int32) : MM l G mQ_joined 0 0 0 [.int (-2), .int y] KA σ (PE (some (.int ((y >>> ((1 : Int32) &&& 31)) &&& (y ||| (-2))))) KA σ) := by
  refine MM.of (loc := [(0, .int (-2)), (1, .int y)]) (by decide +kernel) rfl (Nat.le_of_ble_eq_true rfl) ?_
  refine V_iload_n dQ_joined_0 rfl ?_
  refine V_lsw (tgt := 32) dQ_joined_1 (by decide) rfl rfl ?_
  refine V_iload_n dQ_joined_32 rfl ?_
  refine V_iconst (v := 1) dQ_joined_33 (by decide) ?_
  refine V_ishr dQ_joined_34 ?_
  refine V_iload_n dQ_joined_35 rfl ?_
  refine V_bipush (v := -2) dQ_joined_36 (by decide) ?_
  refine V_ior dQ_joined_38 ?_
  refine V_iand dQ_joined_39 ?_
  exact V_iret dQ_joined_40 rfl rfl ⟨rfl, rfl, rfl⟩
theorem c_joined_or {l : Launch} {G : GT} {σ : Hp} (y : Int32) : MM l G mQ_joined 0 0 0 [.int (-3), .int y] KA σ (PE (some (.int ((y >>> ((1 : Int32) &&& 31)) ||| (y &&& 1)))) KA σ) := by
  refine MM.of (loc := [(0, .int (-3)), (1, .int y)]) (by decide +kernel) rfl (Nat.le_of_ble_eq_true rfl) ?_
  refine V_iload_n dQ_joined_0 rfl ?_
  refine V_lsw (tgt := 41) dQ_joined_1 (by decide) rfl rfl ?_
  refine V_iload_n dQ_joined_41 rfl ?_
  refine V_iconst (v := 1) dQ_joined_42 (by decide) ?_
  refine V_ishr dQ_joined_43 ?_
  refine V_iload_n dQ_joined_44 rfl ?_
  refine V_iconst (v := 1) dQ_joined_45 (by decide) ?_
  refine V_iand dQ_joined_46 ?_
  refine V_ior dQ_joined_47 ?_
  exact V_iret dQ_joined_48 rfl rfl ⟨rfl, rfl, rfl⟩
theorem amount_m {op : Nat} (ho : (10000 ≤ op ∧ op < 10100) ∨ (20000 ≤ op ∧ op < 20100)) (h : nI op < 20000) : nI op - 10000 = if op < 20000 then nI (op - 10000) else -(nI (op - 20000)) := by
  have h1 : op < 20000 := (nI_ltI (b := 20000) (by omega) (by decide)).mp h
  rw [if_pos h1, show (10000 : Int32) = nI 10000 from rfl, pk_sub (by omega)]
theorem amount_t {op : Nat} (ho : (10000 ≤ op ∧ op < 10100) ∨ (20000 ≤ op ∧ op < 20100)) (h : ¬ nI op < 20000) : 20000 - nI op = if op < 20000 then nI (op - 10000) else -(nI (op - 20000)) := by
  have h1 : ¬ op < 20000 := fun q => h ((nI_ltI (b := 20000) (by omega) (by decide)).mpr q)
  rw [if_neg h1, ← pk_sub (by omega : 20000 ≤ op)]
  show nI 20000 - nI op = -(nI op - nI 20000)
  rw [Int32.neg_sub]
theorem c_amount {l : Launch} {G : GT} {σ : Hp} {op : Nat} (ho : (10000 ≤ op ∧ op < 10100) ∨ (20000 ≤ op ∧ op < 20100)) : MM l G mL_amount 0 0 0 [.int (nI op)] KA σ (PE (some (.int (if op < 20000 then nI (op - 10000) else -(nI (op - 20000))))) KA σ) := by
  refine MM.of (loc := [(0, .int (nI op))]) (by decide +kernel) rfl (Nat.le_of_ble_eq_true rfl) ?_
  refine V_iload_n dL_amount_0 rfl ?_
  refine V_sipush (v := 20000) dL_amount_1 (by decide) ?_
  refine V_icmp_lt (tgt := 15) dL_amount_4 rfl (fun c4 => ?_) (fun c4 => ?_)
  · skip
    refine V_iload_n dL_amount_15 rfl ?_
    refine V_sipush (v := 10000) dL_amount_16 (by decide) ?_
    refine V_isub dL_amount_19 ?_
    exact V_iret dL_amount_20 rfl rfl ⟨congrArg (fun z => some (Value.int z)) (amount_m ho c4), rfl, rfl⟩
  · skip
    refine V_sipush (v := 20000) dL_amount_7 (by decide) ?_
    refine V_iload_n dL_amount_10 rfl ?_
    refine V_isub dL_amount_11 ?_
    refine V_goto (tgt := 20) dL_amount_12 rfl ?_
    exact V_iret dL_amount_20 rfl rfl ⟨congrArg (fun z => some (Value.int z)) (amount_t ho c4), rfl, rfl⟩
