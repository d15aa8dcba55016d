/-! texts: what the JDK answers of them -/
def ixF (v : Int32) : List Int32 → Nat → Int32
  | [], _ => -1
  | b :: l, k => if b = v then nI k else ixF v l (k + 1)
theorem str_len : ∀ i : Nat, i < 5 → strL.getD i 0 = (strB.getD i []).length ∧ 0 < strL.getD i 0 ∧ strL.getD i 0 < 7 := by decide
theorem ix_drop {l : List Int32} {n : Nat} (h : n < l.length) : l.drop n = l.getD n 0 :: l.drop (n + 1) := by
  rw [List.drop_eq_getElem_cons h, List.getD_eq_getElem?_getD, List.getElem?_eq_getElem h]
  rfl
theorem i2b_n : ∀ c : Nat, c < 128 → (nI c).toInt8.toInt32 = nI c := by decide +kernel
theorem i2c_n : ∀ c : Nat, c < 256 → ((nI c).toUInt32 % 65536).toInt32 = nI c := by decide +kernel
theorem nar_c : ∀ c : Nat, c < 256 → narrow .char (.int (nI c)) = .int (nI c) := by
  intro c hc
  show Value.int _ = _
  exact congrArg Value.int (i2c_n c hc)
theorem j_isLatin1 {l : Launch} {G : GT} {σ : Hp} {i : Nat} (hi : i < 5) : MM l G mJS_isLatin1_aae02 0 0 0 [.float (UInt32.ofNat (10 + i))] KA σ (PE (some (.int 1)) KA σ) := by
  refine MM.of (loc := [(0, .float (UInt32.ofNat (10 + i)))]) (by decide +kernel) rfl (Nat.le_of_ble_eq_true rfl) ?_
  refine V_gsC rfl dJS_isLatin1_aae02_0 fwJS_38 ?_
  refine V_if_eq (tgt := 17) dJS_isLatin1_aae02_3 rfl (fun h => absurd h (by decide)) (fun _ => ?_)
  refine V_aload_nO dJS_isLatin1_aae02_6 rfl ?_
  refine V_strC rfl hi dJS_isLatin1_aae02_7 fwJS_15 ?_
  refine V_if_ne (tgt := 17) dJS_isLatin1_aae02_10 rfl (fun h => absurd h (by decide)) (fun _ => ?_)
  refine V_iconst (v := 1) dJS_isLatin1_aae02_13 (by decide) ?_
  refine V_goto (tgt := 18) dJS_isLatin1_aae02_14 rfl ?_
  exact V_zret dJS_isLatin1_aae02_18 rfl rfl rfl ⟨rfl, rfl, rfl⟩
theorem j_coder {l : Launch} {G : GT} {σ : Hp} {i : Nat} (hi : i < 5) : MM l G mJS_coder_7d493 0 0 0 [.float (UInt32.ofNat (10 + i))] KA σ (PE (some (.int 0)) KA σ) := by
  refine MM.of (loc := [(0, .float (UInt32.ofNat (10 + i)))]) (by decide +kernel) rfl (Nat.le_of_ble_eq_true rfl) ?_
  refine V_gsC rfl dJS_coder_7d493_0 fwJS_38 ?_
  refine V_if_eq (tgt := 13) dJS_coder_7d493_3 rfl (fun h => absurd h (by decide)) (fun _ => ?_)
  refine V_aload_nO dJS_coder_7d493_6 rfl ?_
  refine V_strC rfl hi dJS_coder_7d493_7 fwJS_15 ?_
  refine V_goto (tgt := 14) dJS_coder_7d493_10 rfl ?_
  exact V_zret dJS_coder_7d493_14 rfl rfl rfl ⟨rfl, rfl, rfl⟩
theorem j_length {l : Launch} {G : GT} {σ : Hp} {i : Nat} (hi : i < 5) : MM l G mJS_length_8abf5 1 0 0 [.float (UInt32.ofNat (10 + i))] KA σ (PE (some (.int (nI (strL.getD i 0)))) KA σ) := by
  refine MM.of (loc := [(0, .float (UInt32.ofNat (10 + i)))]) (by decide +kernel) rfl (Nat.le_of_ble_eq_true rfl) ?_
  refine V_aload_nO dJS_length_8abf5_0 rfl ?_
  refine V_strV rfl hi dJS_length_8abf5_1 fwJS_9 ?_
  refine V_tbl hi dJS_length_8abf5_4 ?_
  refine V_topI (x' := nI (strL.getD i 0)) rfl ?_
  refine V_aload_nO dJS_length_8abf5_5 rfl ?_
  refine V_callV (as := []) (rest := [.int (nI (strL.getD i 0))]) (bs' := 0) rfl dJS_length_8abf5_6 cmJS_coder_7d493 cvJS_coder_7d493 mlJS_335 (Or.inr ⟨i, hi, rfl, rfl⟩) rfl rfl (j_coder hi) (by decide) (Nat.le_refl _) (by decide) (Nat.le_of_ble_eq_true rfl) ?_
  rintro _ _ _ ⟨rfl, rfl, rfl⟩ -
  refine V_one ?_
  refine V_ishr dJS_length_8abf5_9 ?_
  refine V_topI (x' := nI (strL.getD i 0)) (by have := (str_len i hi).2.2; rw [show (0 : Int32) &&& 31 = 0 from rfl, pk_shrN (by omega) 0 0 (by decide)]; simp) ?_
  exact V_iret dJS_length_8abf5_10 rfl rfl ⟨rfl, rfl, rfl⟩
theorem j_canEncode {l : Launch} {G : GT} {σ : Hp} {c : Nat} (hc : c < 256) : MM l G mJL_canEncode_9a6ad 0 0 0 [.int (nI c)] KA σ (PE (some (.int 1)) KA σ) := by
  refine MM.of (loc := [(0, .int (nI c))]) (by decide +kernel) rfl (Nat.le_of_ble_eq_true rfl) ?_
  refine V_iload_n dJL_canEncode_9a6ad_0 rfl ?_
  refine V_if_lt (tgt := 15) dJL_canEncode_9a6ad_1 rfl (fun h => absurd h (nI_pos (by omega))) (fun _ => ?_)
  refine V_iload_n dJL_canEncode_9a6ad_4 rfl ?_
  refine V_sipush (v := 255) dJL_canEncode_9a6ad_5 (by decide) ?_
  refine V_icmp_gt (tgt := 15) dJL_canEncode_9a6ad_8 rfl (fun h => absurd h (fun q => absurd q (nI_nlt (a := 255) (b := c) (by omega) (by decide)))) (fun _ => ?_)
  refine V_iconst (v := 1) dJL_canEncode_9a6ad_11 (by decide) ?_
  refine V_goto (tgt := 16) dJL_canEncode_9a6ad_12 rfl ?_
  exact V_zret dJL_canEncode_9a6ad_16 rfl rfl rfl ⟨rfl, rfl, rfl⟩
theorem j_indexOfChar {l : Launch} {G : GT} {σ : Hp} {i : Nat} (hi : i < 5) {c : Nat} : MM l G mJL_indexOfChar_4cfef 0 0 0 [.float (UInt32.ofNat (20 + i)), .int (nI c), .int 0, .int (nI (strL.getD i 0))] KA σ (PE (some (.int (ixF ((nI c).toInt8.toInt32) (strB.getD i []) 0))) KA σ) := by
  obtain ⟨hl1, hl2, hl3⟩ := str_len i hi
  refine MM.of (loc := [(0, .float (UInt32.ofNat (20 + i))), (1, .int (nI c)), (2, .int 0), (3, .int (nI (strL.getD i 0)))]) (by decide +kernel) rfl (Nat.le_of_ble_eq_true rfl) ?_
  refine V_iload_n dJL_indexOfChar_4cfef_0 rfl ?_
  refine V_i2b dJL_indexOfChar_4cfef_1 ?_
  refine V_istore (loc' := [(4, .int ((nI c).toInt8.toInt32)), (0, .float (UInt32.ofNat (20 + i))), (1, .int (nI c)), (2, .int 0), (3, .int (nI (strL.getD i 0)))]) dJL_indexOfChar_4cfef_2 (by decide) rfl ?_
  refine V_iload_n dJL_indexOfChar_4cfef_4 rfl ?_
  refine V_istore (loc' := [(5, .int 0), (4, .int ((nI c).toInt8.toInt32)), (0, .float (UInt32.ofNat (20 + i))), (1, .int (nI c)), (2, .int 0), (3, .int (nI (strL.getD i 0)))]) dJL_indexOfChar_4cfef_5 (by decide) rfl ?_
  have lp : ∀ n : Nat, n ≤ (strL.getD i 0) → V l G mJL_indexOfChar_4cfef (rmd 0 0 0) (KA.length + 0) 0 7 [(5, .int (nI n)), (4, .int ((nI c).toInt8.toInt32)), (0, .float (UInt32.ofNat (20 + i))), (1, .int (nI c)), (2, .int 0), (3, .int (nI (strL.getD i 0)))] [] KA σ (PE (some (.int (ixF ((nI c).toInt8.toInt32) (List.drop n (strB.getD i [])) n))) KA σ) := by
    refine lp_up (strL.getD i 0) ?_ (fun n hn ihn => ?_)
    · skip
      refine V_iload dJL_indexOfChar_4cfef_7 rfl ?_
      refine V_iload_n dJL_indexOfChar_4cfef_9 rfl ?_
      refine V_icmp_ge (tgt := 31) dJL_indexOfChar_4cfef_10 rfl (fun _ => ?_) (fun h => absurd h (not_not_intro (nI_le (Nat.le_refl _) (by omega))))
      refine V_iconst (v := -1) dJL_indexOfChar_4cfef_31 (by decide) ?_
      refine V_iret dJL_indexOfChar_4cfef_32 rfl rfl ?_
      rw [List.drop_of_length_le (by omega)]
      exact ⟨rfl, rfl, rfl⟩
    · skip
      refine V_iload dJL_indexOfChar_4cfef_7 rfl ?_
      refine V_iload_n dJL_indexOfChar_4cfef_9 rfl ?_
      refine V_icmp_ge (tgt := 31) dJL_indexOfChar_4cfef_10 rfl (fun h => absurd h (nI_ge hn (by omega))) (fun _ => ?_)
      refine V_aload_nO dJL_indexOfChar_4cfef_13 rfl ?_
      refine V_iload dJL_indexOfChar_4cfef_14 rfl ?_
      refine V_tb hi dJL_indexOfChar_4cfef_16 (vp_in_nI hn (by omega)) ?_
      refine V_topI (x' := (strB.getD i []).getD n 0) (by rw [nI_clamp (by omega)]) ?_
      refine V_iload dJL_indexOfChar_4cfef_17 rfl ?_
      refine V_icmp_ne (tgt := 25) dJL_indexOfChar_4cfef_19 rfl (fun c19 => ?_) (fun c19 => ?_)
      · skip
        refine V_iinc (v := nI (n + 1)) (loc' := [(5, .int (nI (n + 1))), (4, .int ((nI c).toInt8.toInt32)), (0, .float (UInt32.ofNat (20 + i))), (1, .int (nI c)), (2, .int 0), (3, .int (nI (strL.getD i 0)))]) dJL_indexOfChar_4cfef_25 rfl (nI_inc n) (by decide) rfl ?_
        refine V_goto (tgt := 7) dJL_indexOfChar_4cfef_28 rfl ?_
        rw [ix_drop (show n < (strB.getD i []).length by omega), ixF, if_neg c19]
        refine V.locs (loc' := [(5, .int (nI (n + 1))), (4, .int ((nI c).toInt8.toInt32)), (0, .float (UInt32.ofNat (20 + i))), (1, .int (nI c)), (2, .int 0), (3, .int (nI (strL.getD i 0)))]) [0, 1, 2, 3, 4, 5] rfl ?_
        exact ihn
      · skip
        refine V_iload dJL_indexOfChar_4cfef_22 rfl ?_
        refine V_iret dJL_indexOfChar_4cfef_24 rfl rfl ?_
        rw [ix_drop (by omega), ixF, if_pos c19]
        exact ⟨rfl, rfl, rfl⟩
  refine V.locs (loc' := [(5, .int 0), (4, .int ((nI c).toInt8.toInt32)), (0, .float (UInt32.ofNat (20 + i))), (1, .int (nI c)), (2, .int 0), (3, .int (nI (strL.getD i 0)))]) [0, 1, 2, 3, 4, 5] rfl ?_
  refine V_eqL (loc' := [(5, .int (nI 0)), (4, .int ((nI c).toInt8.toInt32)), (0, .float (UInt32.ofNat (20 + i))), (1, .int (nI c)), (2, .int 0), (3, .int (nI (strL.getD i 0)))]) ?_ ?_
  · rfl
  exact (lp 0 (Nat.zero_le _))
theorem j_indexOfL {l : Launch} {G : GT} {σ : Hp} {i : Nat} (hi : i < 5) {c : Nat} (hc : c < 256) : MM l G mJL_indexOf_4cfef 1 0 0 [.float (UInt32.ofNat (20 + i)), .int (nI c), .int 0, .int (nI (strL.getD i 0))] KA σ (PE (some (.int (ixF ((nI c).toInt8.toInt32) (strB.getD i []) 0))) KA σ) := by
  obtain ⟨hl1, hl2, hl3⟩ := str_len i hi
  refine MM.of (loc := [(0, .float (UInt32.ofNat (20 + i))), (1, .int (nI c)), (2, .int 0), (3, .int (nI (strL.getD i 0)))]) (by decide +kernel) rfl (Nat.le_of_ble_eq_true rfl) ?_
  refine V_iload_n dJL_indexOf_4cfef_0 rfl ?_
  refine V_callS (as := [.int (nI c)]) (rest := []) (bs' := 0) rfl dJL_indexOf_4cfef_1 cmJL_canEncode_9a6ad stJL_canEncode_9a6ad mlJL_88 rfl rfl (j_canEncode hc) (by decide) (Nat.le_refl _) (by decide) (Nat.le_of_ble_eq_true rfl) ?_
  rintro _ _ _ ⟨rfl, rfl, rfl⟩ -
  refine V_one ?_
  refine V_if_ne (tgt := 9) dJL_indexOf_4cfef_4 rfl (fun _ => ?_) (fun h => absurd h (by decide))
  refine V_iload_n dJL_indexOf_4cfef_9 rfl ?_
  refine V_iconst (v := 0) dJL_indexOf_4cfef_10 (by decide) ?_
  refine V_max rfl dJL_indexOf_4cfef_11 mlJL_92 (by decide) (Nat.le_of_ble_eq_true rfl) (by decide) ?_
  refine V_topI (x' := 0) (by decide) ?_
  refine V_istore_n (loc' := [(2, .int 0), (0, .float (UInt32.ofNat (20 + i))), (1, .int (nI c)), (3, .int (nI (strL.getD i 0)))]) dJL_indexOf_4cfef_14 (by decide) rfl ?_
  refine V_iload_n dJL_indexOf_4cfef_15 rfl ?_
  refine V_aload_nO dJL_indexOf_4cfef_16 rfl ?_
  refine V_tbl hi dJL_indexOf_4cfef_17 ?_
  refine V_topI (x' := nI (strL.getD i 0)) rfl ?_
  refine V_min rfl dJL_indexOf_4cfef_18 mlJL_38 (by decide) (Nat.le_of_ble_eq_true rfl) (by decide) ?_
  refine V_topI (x' := nI (strL.getD i 0)) (by rw [if_neg (nI_nlt (Nat.le_refl _) (by omega))]) ?_
  refine V_istore_n (loc' := [(3, .int (nI (strL.getD i 0))), (2, .int 0), (0, .float (UInt32.ofNat (20 + i))), (1, .int (nI c))]) dJL_indexOf_4cfef_21 (by decide) rfl ?_
  refine V_iload_n dJL_indexOf_4cfef_22 rfl ?_
  refine V_iload_n dJL_indexOf_4cfef_23 rfl ?_
  refine V_icmp_lt (tgt := 29) dJL_indexOf_4cfef_24 rfl (fun _ => ?_) (fun h => absurd h (not_not_intro (by rw [show (0 : Int32) = nI 0 from rfl]; exact nI_lt (by omega) (by omega))))
  refine V_aload_nO dJL_indexOf_4cfef_29 rfl ?_
  refine V_iload_n dJL_indexOf_4cfef_30 rfl ?_
  refine V_iload_n dJL_indexOf_4cfef_31 rfl ?_
  refine V_iload_n dJL_indexOf_4cfef_32 rfl ?_
  refine V_callS (as := [.float (UInt32.ofNat (20 + i)), .int (nI c), .int 0, .int (nI (strL.getD i 0))]) (rest := []) (bs' := 0) rfl dJL_indexOf_4cfef_33 cmJL_indexOfChar_4cfef stJL_indexOfChar_4cfef mlJL_95 rfl rfl (j_indexOfChar hi) (by decide) (Nat.le_refl _) (by decide) (Nat.le_of_ble_eq_true rfl) ?_
  rintro _ _ _ ⟨rfl, rfl, rfl⟩ -
  refine V_one ?_
  exact V_iret dJL_indexOf_4cfef_36 rfl rfl ⟨rfl, rfl, rfl⟩
theorem j_indexOf2 {l : Launch} {G : GT} {σ : Hp} {i : Nat} (hi : i < 5) {c : Nat} (hc : c < 256) : MM l G mJS_indexOf_7cf53 2 0 0 [.float (UInt32.ofNat (10 + i)), .int (nI c), .int 0] KA σ (PE (some (.int (ixF ((nI c).toInt8.toInt32) (strB.getD i []) 0))) KA σ) := by
  refine MM.of (loc := [(0, .float (UInt32.ofNat (10 + i))), (1, .int (nI c)), (2, .int 0)]) (by decide +kernel) rfl (Nat.le_of_ble_eq_true rfl) ?_
  refine V_aload_nO dJS_indexOf_7cf53_0 rfl ?_
  refine V_callV (as := []) (rest := []) (bs' := 0) rfl dJS_indexOf_7cf53_1 cmJS_isLatin1_aae02 cvJS_isLatin1_aae02 mlJS_492 (Or.inr ⟨i, hi, rfl, rfl⟩) rfl rfl (j_isLatin1 hi) (by decide) (Nat.le_refl _) (by decide) (Nat.le_of_ble_eq_true rfl) ?_
  rintro _ _ _ ⟨rfl, rfl, rfl⟩ -
  refine V_one ?_
  refine V_if_eq (tgt := 23) dJS_indexOf_7cf53_4 rfl (fun h => absurd h (by decide)) (fun _ => ?_)
  refine V_aload_nO dJS_indexOf_7cf53_7 rfl ?_
  refine V_strV rfl hi dJS_indexOf_7cf53_8 fwJS_9 ?_
  refine V_iload_n dJS_indexOf_7cf53_11 rfl ?_
  refine V_iload_n dJS_indexOf_7cf53_12 rfl ?_
  refine V_aload_nO dJS_indexOf_7cf53_13 rfl ?_
  refine V_callV (as := []) (rest := [.int 0, .int (nI c), .float (UInt32.ofNat (20 + i))]) (bs' := 0) rfl dJS_indexOf_7cf53_14 cmJS_length_8abf5 cvJS_length_8abf5 mlJS_505 (Or.inr ⟨i, hi, rfl, rfl⟩) rfl rfl (j_length hi) (by decide) (Nat.le_refl _) (by decide) (Nat.le_of_ble_eq_true rfl) ?_
  rintro _ _ _ ⟨rfl, rfl, rfl⟩ -
  refine V_one ?_
  refine V_callS (as := [.float (UInt32.ofNat (20 + i)), .int (nI c), .int 0, .int (nI (strL.getD i 0))]) (rest := []) (bs' := 0) rfl dJS_indexOf_7cf53_17 cmJL_indexOf_4cfef stJL_indexOf_4cfef mlJS_637 rfl rfl (j_indexOfL hi hc) (by decide) (Nat.le_refl _) (by decide) (Nat.le_of_ble_eq_true rfl) ?_
  rintro _ _ _ ⟨rfl, rfl, rfl⟩ -
  refine V_one ?_
  refine V_goto (tgt := 36) dJS_indexOf_7cf53_20 rfl ?_
  exact V_iret dJS_indexOf_7cf53_36 rfl rfl ⟨rfl, rfl, rfl⟩
theorem j_indexOf {l : Launch} {G : GT} {σ : Hp} {i : Nat} (hi : i < 5) {c : Nat} (hc : c < 256) : MM l G mJS_indexOf_0f7a4 3 0 0 [.float (UInt32.ofNat (10 + i)), .int (nI c)] KA σ (PE (some (.int (ixF ((nI c).toInt8.toInt32) (strB.getD i []) 0))) KA σ) := by
  refine MM.of (loc := [(0, .float (UInt32.ofNat (10 + i))), (1, .int (nI c))]) (by decide +kernel) rfl (Nat.le_of_ble_eq_true rfl) ?_
  refine V_aload_nO dJS_indexOf_0f7a4_0 rfl ?_
  refine V_iload_n dJS_indexOf_0f7a4_1 rfl ?_
  refine V_iconst (v := 0) dJS_indexOf_0f7a4_2 (by decide) ?_
  refine V_callV (as := [.int (nI c), .int 0]) (rest := []) (bs' := 0) rfl dJS_indexOf_0f7a4_3 cmJS_indexOf_7cf53 cvJS_indexOf_7cf53 mlJS_633 (Or.inr ⟨i, hi, rfl, rfl⟩) rfl rfl (j_indexOf2 hi hc) (by decide) (Nat.le_refl _) (by decide) (Nat.le_of_ble_eq_true rfl) ?_
  rintro _ _ _ ⟨rfl, rfl, rfl⟩ -
  refine V_one ?_
  exact V_iret dJS_indexOf_0f7a4_6 rfl rfl ⟨rfl, rfl, rfl⟩
theorem j_checkN {l : Launch} {G : GT} {σ : Hp} {j m : Nat} (hjm : j < m) (hm : m < 1000) : MM l G mJP_checkIndex_8e157 0 0 0 [.int (nI j), .int (nI m), .null] KA σ (PE (some (.int (nI j))) KA σ) := by
  refine MM.of (loc := [(0, .int (nI j)), (1, .int (nI m)), (2, .null)]) (by decide +kernel) rfl (Nat.le_of_ble_eq_true rfl) ?_
  refine V_iload_n dJP_checkIndex_8e157_0 rfl ?_
  refine V_if_lt (tgt := 9) dJP_checkIndex_8e157_1 rfl (fun h => absurd h (nI_pos (by omega))) (fun _ => ?_)
  refine V_iload_n dJP_checkIndex_8e157_4 rfl ?_
  refine V_iload_n dJP_checkIndex_8e157_5 rfl ?_
  refine V_icmp_lt (tgt := 16) dJP_checkIndex_8e157_6 rfl (fun _ => ?_) (fun h => absurd h (not_not_intro (nI_lt hjm (by omega))))
  refine V_iload_n dJP_checkIndex_8e157_16 rfl ?_
  exact V_iret dJP_checkIndex_8e157_17 rfl rfl ⟨rfl, rfl, rfl⟩
theorem j_checkO {l : Launch} {G : GT} {σ : Hp} {j m : Nat} (hjm : j < m) (hm : m < 1000) : MM l G mJP_checkIndex_8e157 0 0 0 [.int (nI j), .int (nI m), .float 30] KA σ (PE (some (.int (nI j))) KA σ) := by
  refine MM.of (loc := [(0, .int (nI j)), (1, .int (nI m)), (2, .float 30)]) (by decide +kernel) rfl (Nat.le_of_ble_eq_true rfl) ?_
  refine V_iload_n dJP_checkIndex_8e157_0 rfl ?_
  refine V_if_lt (tgt := 9) dJP_checkIndex_8e157_1 rfl (fun h => absurd h (nI_pos (by omega))) (fun _ => ?_)
  refine V_iload_n dJP_checkIndex_8e157_4 rfl ?_
  refine V_iload_n dJP_checkIndex_8e157_5 rfl ?_
  refine V_icmp_lt (tgt := 16) dJP_checkIndex_8e157_6 rfl (fun _ => ?_) (fun h => absurd h (not_not_intro (nI_lt hjm (by omega))))
  refine V_iload_n dJP_checkIndex_8e157_16 rfl ?_
  exact V_iret dJP_checkIndex_8e157_17 rfl rfl ⟨rfl, rfl, rfl⟩
theorem j_checkS {l : Launch} {G : GT} {σ : Hp} {j m : Nat} (hjm : j < m) (hm : m < 1000) : MM l G mJS_checkIndex_df160 1 0 0 [.int (nI j), .int (nI m)] KA σ (PE none KA σ) := by
  refine MM.of (loc := [(0, .int (nI j)), (1, .int (nI m))]) (by decide +kernel) rfl (Nat.le_of_ble_eq_true rfl) ?_
  refine V_iload_n dJS_checkIndex_df160_0 rfl ?_
  refine V_iload_n dJS_checkIndex_df160_1 rfl ?_
  refine V_gsF rfl dJS_checkIndex_df160_2 fwJS_1053 (fun v hv => ?_)
  rcases hv with rfl | rfl
  · skip
    refine V_callS (as := [.int (nI j), .int (nI m), .null]) (rest := []) (bs' := 0) rfl dJS_checkIndex_df160_5 cmJP_checkIndex_8e157 stJP_checkIndex_8e157 mlJS_1059 rfl rfl (j_checkN hjm hm) (by decide) (Nat.le_refl _) (by decide) (Nat.le_of_ble_eq_true rfl) ?_
    rintro _ _ _ ⟨rfl, rfl, rfl⟩ -
    refine V_one ?_
    refine V_pop dJS_checkIndex_df160_8 rfl ?_
    exact V_ret dJS_checkIndex_df160_9 rfl rfl ⟨rfl, rfl, rfl⟩
  · skip
    refine V_callS (as := [.int (nI j), .int (nI m), .float 30]) (rest := []) (bs' := 0) rfl dJS_checkIndex_df160_5 cmJP_checkIndex_8e157 stJP_checkIndex_8e157 mlJS_1059 rfl rfl (j_checkO hjm hm) (by decide) (Nat.le_refl _) (by decide) (Nat.le_of_ble_eq_true rfl) ?_
    rintro _ _ _ ⟨rfl, rfl, rfl⟩ -
    refine V_one ?_
    refine V_pop dJS_checkIndex_df160_8 rfl ?_
    exact V_ret dJS_checkIndex_df160_9 rfl rfl ⟨rfl, rfl, rfl⟩
theorem chS_all : ∀ i : Nat, i < 5 → ∀ j : Nat, j < strL.getD i 0 → ((((strB.getD i []).getD j 0 &&& 255).toUInt32 % 65536).toInt32 = nI ((strB.getD i []).getD j 0).toNatClampNeg) ∧ ((strB.getD i []).getD j 0).toNatClampNeg < 128 := by decide +kernel
theorem j_charAtL {l : Launch} {G : GT} {σ : Hp} {i : Nat} (hi : i < 5) {j : Nat} (hj : j < strL.getD i 0) : MM l G mJL_charAt_3b067 2 0 0 [.float (UInt32.ofNat (20 + i)), .int (nI j)] KA σ (PE (some (.int (nI (((strB.getD i []).getD j 0).toNatClampNeg)))) KA σ) := by
  obtain ⟨hl1, hl2, hl3⟩ := str_len i hi
  refine MM.of (loc := [(0, .float (UInt32.ofNat (20 + i))), (1, .int (nI j))]) (by decide +kernel) rfl (Nat.le_of_ble_eq_true rfl) ?_
  refine V_iload_n dJL_charAt_3b067_0 rfl ?_
  refine V_aload_nO dJL_charAt_3b067_1 rfl ?_
  refine V_tbl hi dJL_charAt_3b067_2 ?_
  refine V_topI (x' := nI (strL.getD i 0)) rfl ?_
  refine V_callS (as := [.int (nI j), .int (nI (strL.getD i 0))]) (rest := []) (bs' := 0) rfl dJL_charAt_3b067_3 cmJS_checkIndex_df160 stJS_checkIndex_df160 mlJL_9 rfl rfl (j_checkS hj (by omega)) (by decide) (Nat.le_refl _) (by decide) (Nat.le_of_ble_eq_true rfl) ?_
  rintro _ _ _ ⟨rfl, rfl, rfl⟩ -
  refine V_non ?_
  refine V_aload_nO dJL_charAt_3b067_6 rfl ?_
  refine V_iload_n dJL_charAt_3b067_7 rfl ?_
  refine V_tb hi dJL_charAt_3b067_8 (vp_in_nI hj (by omega)) ?_
  refine V_topI (x' := (strB.getD i []).getD j 0) (by rw [nI_clamp (by omega)]) ?_
  refine V_sipush (v := 255) dJL_charAt_3b067_9 (by decide) ?_
  refine V_iand dJL_charAt_3b067_12 ?_
  refine V_i2c dJL_charAt_3b067_13 ?_
  refine V_topI (x' := nI (((strB.getD i []).getD j 0).toNatClampNeg)) (chS_all i hi j hj).1 ?_
  exact V_zret dJL_charAt_3b067_14 rfl (nar_c _ (by have := (chS_all i hi j hj).2; omega)) rfl ⟨rfl, rfl, rfl⟩
theorem j_charAt {l : Launch} {G : GT} {σ : Hp} {i : Nat} (hi : i < 5) {j : Nat} (hj : j < strL.getD i 0) : MM l G mJS_charAt_5068e 3 0 0 [.float (UInt32.ofNat (10 + i)), .int (nI j)] KA σ (PE (some (.int (nI (((strB.getD i []).getD j 0).toNatClampNeg)))) KA σ) := by
  refine MM.of (loc := [(0, .float (UInt32.ofNat (10 + i))), (1, .int (nI j))]) (by decide +kernel) rfl (Nat.le_of_ble_eq_true rfl) ?_
  refine V_aload_nO dJS_charAt_5068e_0 rfl ?_
  refine V_callV (as := []) (rest := []) (bs' := 0) rfl dJS_charAt_5068e_1 cmJS_isLatin1_aae02 cvJS_isLatin1_aae02 mlJS_492 (Or.inr ⟨i, hi, rfl, rfl⟩) rfl rfl (j_isLatin1 hi) (by decide) (Nat.le_refl _) (by decide) (Nat.le_of_ble_eq_true rfl) ?_
  rintro _ _ _ ⟨rfl, rfl, rfl⟩ -
  refine V_one ?_
  refine V_if_eq (tgt := 16) dJS_charAt_5068e_4 rfl (fun h => absurd h (by decide)) (fun _ => ?_)
  refine V_aload_nO dJS_charAt_5068e_7 rfl ?_
  refine V_strV rfl hi dJS_charAt_5068e_8 fwJS_9 ?_
  refine V_iload_n dJS_charAt_5068e_11 rfl ?_
  refine V_callS (as := [.float (UInt32.ofNat (20 + i)), .int (nI j)]) (rest := []) (bs' := 0) rfl dJS_charAt_5068e_12 cmJL_charAt_3b067 stJL_charAt_3b067 mlJS_495 rfl rfl (j_charAtL hi hj) (by decide) (Nat.le_refl _) (by decide) (Nat.le_of_ble_eq_true rfl) ?_
  rintro _ _ _ ⟨rfl, rfl, rfl⟩ -
  refine V_one ?_
  exact V_zret dJS_charAt_5068e_15 rfl (nar_c _ (by have := (chS_all i hi j hj).2; omega)) rfl ⟨rfl, rfl, rfl⟩
