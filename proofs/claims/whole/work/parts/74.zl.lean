/-! the law: its loop, its start-/
theorem z_loop {l : Launch} {G : GT} (hN : gL G ≤ 3072) : ∀ (F i : Nat), gL G < i + 6 * F + 6 → i ≤ 4000 → ∀ s : Hp, OKs s → V l G mZ_law room_1 (KA.length + 0) 0 18 [(3, .int (nI i)), (2, .ref 76), (1, .ref 0), (0, .float 0)] [] KA s PT := by
  intro F
  induction F with
  | zero =>
    intro i hF hi s hs
    have hlt : gL G < i + 6 := by omega
    have hgt : nI (gL G) - 6 < nI i := by
      by_cases h6 : 6 ≤ gL G
      · rw [show (6 : Int32) = nI 6 from rfl, pk_sub h6]
        exact nI_lt (by omega) (by omega)
      · exact Int32.lt_of_lt_of_le (pk_sneg (b := 6) (by decide) (by omega)) (nI_pos' (by omega))
    refine V_iload_n dZ_law_18 rfl ?_
    refine V_aload_nO dZ_law_19 rfl ?_
    refine V_slen dZ_law_20 ?_
    refine V_topI (x' := nI (gL G)) rfl ?_
    refine V_bipush (v := 6) dZ_law_21 (by decide) ?_
    refine V_isub dZ_law_23 ?_
    refine V_icmp_gt (tgt := 1494) dZ_law_24 rfl (fun _ => ?_) (fun h => absurd h (not_not_intro hgt))
    refine V_iconst (v := 1) dZ_law_1494 (by decide) ?_
    exact V_zret dZ_law_1495 rfl rfl rfl (rfl)
  | succ F ih =>
    intro i hF hi s hs
    by_cases hi6 : i + 6 ≤ gL G
    · have hle : ¬ nI (gL G) - 6 < nI i := by
        rw [show (6 : Int32) = nI 6 from rfl, pk_sub (by omega)]
        exact nI_nlt (by omega) (by omega)
      have hk : ∀ s, OKs s → V l G mZ_law room_1 (KA.length + 0) 0 1488 [(3, .int (nI i)), (2, .ref 76), (1, .ref 0), (0, .float 0)] [] KA s PT := by
        intro s hs
        refine V_iinc (v := nI (i + 6)) (loc' := [(3, .int (nI (i + 6))), (2, .ref 76), (1, .ref 0), (0, .float 0)]) dZ_law_1488 rfl (nI_add i 6) (by decide) rfl ?_
        refine V_goto (tgt := 18) dZ_law_1491 rfl ?_
        refine V.locs (loc' := [(3, .int (nI (i + 6))), (2, .ref 76), (1, .ref 0), (0, .float 0)]) [0, 1, 2, 3] rfl ?_
        exact (ih (i + 6) (by omega) (by omega) s hs)
      refine V_iload_n dZ_law_18 rfl ?_
      refine V_aload_nO dZ_law_19 rfl ?_
      refine V_slen dZ_law_20 ?_
      refine V_topI (x' := nI (gL G)) rfl ?_
      refine V_bipush (v := 6) dZ_law_21 (by decide) ?_
      refine V_isub dZ_law_23 ?_
      refine V_icmp_gt (tgt := 1494) dZ_law_24 rfl (fun h => absurd h hle) (fun _ => ?_)
      refine V_aload_nO dZ_law_27 rfl ?_
      refine V_iload_n dZ_law_28 rfl ?_
      refine V_sald dZ_law_29 (scr_in0 hi6 hN) ?_
      refine V_topI (x' := gX G i) (scr_cl0 (gX G) hi6 hN) ?_
      refine V_bipush (v := 63) dZ_law_30 (by decide) ?_
      refine V_iand dZ_law_32 ?_
      obtain ⟨L, M, hC, hM, hI, hB⟩ := hs
      by_cases s0 : gX G i &&& 63 = 0
      · refine V_tsC (tgt := 220) 0 s0 dZ_law_33 (by decide) (by decide) rfl rfl ?_
        exact zc_0 hi6 hN hC hM hI hB hk
      by_cases s1 : gX G i &&& 63 = 1
      · refine V_tsC (tgt := 243) 1 s1 dZ_law_33 (by decide) (by decide) rfl rfl ?_
        exact zc_1 hi6 hN hC hM hI hB hk
      by_cases s2 : gX G i &&& 63 = 2
      · refine V_tsC (tgt := 276) 2 s2 dZ_law_33 (by decide) (by decide) rfl rfl ?_
        exact zc_2 hi6 hN hC hM hI hB hk
      by_cases s3 : gX G i &&& 63 = 3
      · refine V_tsC (tgt := 329) 3 s3 dZ_law_33 (by decide) (by decide) rfl rfl ?_
        exact zc_3 hi6 hN hC hM hI hB hk
      by_cases s4 : gX G i &&& 63 = 4
      · refine V_tsC (tgt := 362) 4 s4 dZ_law_33 (by decide) (by decide) rfl rfl ?_
        exact zc_4 hi6 hN hC hM hI hB hk
      by_cases s5 : gX G i &&& 63 = 5
      · refine V_tsC (tgt := 395) 5 s5 dZ_law_33 (by decide) (by decide) rfl rfl ?_
        exact zc_5 hi6 hN hC hM hI hB hk
      by_cases s6 : gX G i &&& 63 = 6
      · refine V_tsC (tgt := 428) 6 s6 dZ_law_33 (by decide) (by decide) rfl rfl ?_
        exact zc_6 hi6 hN hC hM hI hB hk
      by_cases s7 : gX G i &&& 63 = 7
      · refine V_tsC (tgt := 471) 7 s7 dZ_law_33 (by decide) (by decide) rfl rfl ?_
        exact zc_7 hi6 hN hC hM hI hB hk
      by_cases s8 : gX G i &&& 63 = 8
      · refine V_tsC (tgt := 494) 8 s8 dZ_law_33 (by decide) (by decide) rfl rfl ?_
        exact zc_8 hi6 hN hC hM hI hB hk
      by_cases s9 : gX G i &&& 63 = 9
      · refine V_tsC (tgt := 507) 9 s9 dZ_law_33 (by decide) (by decide) rfl rfl ?_
        exact zc_9 hi6 hN hC hM hI hB hk
      by_cases s10 : gX G i &&& 63 = 10
      · refine V_tsC (tgt := 530) 10 s10 dZ_law_33 (by decide) (by decide) rfl rfl ?_
        exact zc_10 hi6 hN hC hM hI hB hk
      by_cases s11 : gX G i &&& 63 = 11
      · refine V_tsC (tgt := 553) 11 s11 dZ_law_33 (by decide) (by decide) rfl rfl ?_
        exact zc_11 hi6 hN hC hM hI hB hk
      by_cases s12 : gX G i &&& 63 = 12
      · refine V_tsC (tgt := 576) 12 s12 dZ_law_33 (by decide) (by decide) rfl rfl ?_
        exact zc_12 hi6 hN hC hM hI hB hk
      by_cases s13 : gX G i &&& 63 = 13
      · refine V_tsC (tgt := 609) 13 s13 dZ_law_33 (by decide) (by decide) rfl rfl ?_
        exact zc_13 hi6 hN hC hM hI hB hk
      by_cases s14 : gX G i &&& 63 = 14
      · refine V_tsC (tgt := 643) 14 s14 dZ_law_33 (by decide) (by decide) rfl rfl ?_
        exact zc_14 hi6 hN hC hM hI hB hk
      by_cases s15 : gX G i &&& 63 = 15
      · refine V_tsC (tgt := 676) 15 s15 dZ_law_33 (by decide) (by decide) rfl rfl ?_
        exact zc_15 hi6 hN hC hM hI hB hk
      by_cases s16 : gX G i &&& 63 = 16
      · refine V_tsC (tgt := 699) 16 s16 dZ_law_33 (by decide) (by decide) rfl rfl ?_
        exact zc_16 hi6 hN hC hM hI hB hk
      by_cases s17 : gX G i &&& 63 = 17
      · refine V_tsC (tgt := 748) 17 s17 dZ_law_33 (by decide) (by decide) rfl rfl ?_
        exact zc_17 hi6 hN hC hM hI hB hk
      by_cases s18 : gX G i &&& 63 = 18
      · refine V_tsC (tgt := 761) 18 s18 dZ_law_33 (by decide) (by decide) rfl rfl ?_
        exact zc_18 hi6 hN hC hM hI hB hk
      by_cases s19 : gX G i &&& 63 = 19
      · refine V_tsC (tgt := 795) 19 s19 dZ_law_33 (by decide) (by decide) rfl rfl ?_
        exact zc_19 hi6 hN hC hM hI hB hk
      by_cases s20 : gX G i &&& 63 = 20
      · refine V_tsC (tgt := 808) 20 s20 dZ_law_33 (by decide) (by decide) rfl rfl ?_
        exact zc_20 hi6 hN hC hM hI hB hk
      by_cases s21 : gX G i &&& 63 = 21
      · refine V_tsC (tgt := 841) 21 s21 dZ_law_33 (by decide) (by decide) rfl rfl ?_
        exact zc_21 hi6 hN hC hM hI hB hk
      by_cases s22 : gX G i &&& 63 = 22
      · refine V_tsC (tgt := 864) 22 s22 dZ_law_33 (by decide) (by decide) rfl rfl ?_
        exact zc_22 hi6 hN hC hM hI hB hk
      by_cases s23 : gX G i &&& 63 = 23
      · refine V_tsC (tgt := 877) 23 s23 dZ_law_33 (by decide) (by decide) rfl rfl ?_
        exact zc_23 hi6 hN hC hM hI hB hk
      by_cases s24 : gX G i &&& 63 = 24
      · refine V_tsC (tgt := 890) 24 s24 dZ_law_33 (by decide) (by decide) rfl rfl ?_
        exact zc_24 hi6 hN hC hM hI hB hk
      by_cases s25 : gX G i &&& 63 = 25
      · refine V_tsC (tgt := 913) 25 s25 dZ_law_33 (by decide) (by decide) rfl rfl ?_
        exact zc_25 hi6 hN hC hM hI hB hk
      by_cases s26 : gX G i &&& 63 = 26
      · refine V_tsC (tgt := 956) 26 s26 dZ_law_33 (by decide) (by decide) rfl rfl ?_
        exact zc_26 hi6 hN hC hM hI hB hk
      by_cases s27 : gX G i &&& 63 = 27
      · refine V_tsC (tgt := 979) 27 s27 dZ_law_33 (by decide) (by decide) rfl rfl ?_
        exact zc_27 hi6 hN hC hM hI hB hk
      by_cases s28 : gX G i &&& 63 = 28
      · refine V_tsC (tgt := 992) 28 s28 dZ_law_33 (by decide) (by decide) rfl rfl ?_
        exact zc_28 hi6 hN hC hM hI hB hk
      by_cases s29 : gX G i &&& 63 = 29
      · refine V_tsC (tgt := 1015) 29 s29 dZ_law_33 (by decide) (by decide) rfl rfl ?_
        exact zc_29 hi6 hN hC hM hI hB hk
      by_cases s30 : gX G i &&& 63 = 30
      · refine V_tsC (tgt := 1038) 30 s30 dZ_law_33 (by decide) (by decide) rfl rfl ?_
        exact zc_30 hi6 hN hC hM hI hB hk
      by_cases s31 : gX G i &&& 63 = 31
      · refine V_tsC (tgt := 1081) 31 s31 dZ_law_33 (by decide) (by decide) rfl rfl ?_
        exact zc_31 hi6 hN hC hM hI hB hk
      by_cases s32 : gX G i &&& 63 = 32
      · refine V_tsC (tgt := 1094) 32 s32 dZ_law_33 (by decide) (by decide) rfl rfl ?_
        exact zc_32 hi6 hN hC hM hI hB hk
      by_cases s33 : gX G i &&& 63 = 33
      · refine V_tsC (tgt := 1127) 33 s33 dZ_law_33 (by decide) (by decide) rfl rfl ?_
        exact zc_33 hi6 hN hC hM hI hB hk
      by_cases s34 : gX G i &&& 63 = 34
      · refine V_tsC (tgt := 1140) 34 s34 dZ_law_33 (by decide) (by decide) rfl rfl ?_
        exact zc_34 hi6 hN hC hM hI hB hk
      by_cases s35 : gX G i &&& 63 = 35
      · refine V_tsC (tgt := 1153) 35 s35 dZ_law_33 (by decide) (by decide) rfl rfl ?_
        exact zc_35 hi6 hN hC hM hI hB hk
      by_cases s36 : gX G i &&& 63 = 36
      · refine V_tsC (tgt := 1196) 36 s36 dZ_law_33 (by decide) (by decide) rfl rfl ?_
        exact zc_36 hi6 hN hC hM hI hB hk
      by_cases s37 : gX G i &&& 63 = 37
      · refine V_tsC (tgt := 1219) 37 s37 dZ_law_33 (by decide) (by decide) rfl rfl ?_
        exact zc_37 hi6 hN hC hM hI hB hk
      by_cases s38 : gX G i &&& 63 = 38
      · refine V_tsC (tgt := 1252) 38 s38 dZ_law_33 (by decide) (by decide) rfl rfl ?_
        exact zc_38 hi6 hN hC hM hI hB hk
      by_cases s39 : gX G i &&& 63 = 39
      · refine V_tsC (tgt := 1275) 39 s39 dZ_law_33 (by decide) (by decide) rfl rfl ?_
        exact zc_39 hi6 hN hC hM hI hB hk
      by_cases s40 : gX G i &&& 63 = 40
      · refine V_tsC (tgt := 1318) 40 s40 dZ_law_33 (by decide) (by decide) rfl rfl ?_
        exact zc_40 hi6 hN hC hM hI hB hk
      by_cases s41 : gX G i &&& 63 = 41
      · refine V_tsC (tgt := 1391) 41 s41 dZ_law_33 (by decide) (by decide) rfl rfl ?_
        exact zc_41 hi6 hN hC hM hI hB hk
      by_cases s42 : gX G i &&& 63 = 42
      · refine V_tsC (tgt := 1425) 42 s42 dZ_law_33 (by decide) (by decide) rfl rfl ?_
        exact zc_42 hi6 hN hC hM hI hB hk
      have t0 := lv_neT (a := 0) s0 (by decide)
      have t1 := lv_neT (a := 1) s1 (by decide)
      have t2 := lv_neT (a := 2) s2 (by decide)
      have t3 := lv_neT (a := 3) s3 (by decide)
      have t4 := lv_neT (a := 4) s4 (by decide)
      have t5 := lv_neT (a := 5) s5 (by decide)
      have t6 := lv_neT (a := 6) s6 (by decide)
      have t7 := lv_neT (a := 7) s7 (by decide)
      have t8 := lv_neT (a := 8) s8 (by decide)
      have t9 := lv_neT (a := 9) s9 (by decide)
      have t10 := lv_neT (a := 10) s10 (by decide)
      have t11 := lv_neT (a := 11) s11 (by decide)
      have t12 := lv_neT (a := 12) s12 (by decide)
      have t13 := lv_neT (a := 13) s13 (by decide)
      have t14 := lv_neT (a := 14) s14 (by decide)
      have t15 := lv_neT (a := 15) s15 (by decide)
      have t16 := lv_neT (a := 16) s16 (by decide)
      have t17 := lv_neT (a := 17) s17 (by decide)
      have t18 := lv_neT (a := 18) s18 (by decide)
      have t19 := lv_neT (a := 19) s19 (by decide)
      have t20 := lv_neT (a := 20) s20 (by decide)
      have t21 := lv_neT (a := 21) s21 (by decide)
      have t22 := lv_neT (a := 22) s22 (by decide)
      have t23 := lv_neT (a := 23) s23 (by decide)
      have t24 := lv_neT (a := 24) s24 (by decide)
      have t25 := lv_neT (a := 25) s25 (by decide)
      have t26 := lv_neT (a := 26) s26 (by decide)
      have t27 := lv_neT (a := 27) s27 (by decide)
      have t28 := lv_neT (a := 28) s28 (by decide)
      have t29 := lv_neT (a := 29) s29 (by decide)
      have t30 := lv_neT (a := 30) s30 (by decide)
      have t31 := lv_neT (a := 31) s31 (by decide)
      have t32 := lv_neT (a := 32) s32 (by decide)
      have t33 := lv_neT (a := 33) s33 (by decide)
      have t34 := lv_neT (a := 34) s34 (by decide)
      have t35 := lv_neT (a := 35) s35 (by decide)
      have t36 := lv_neT (a := 36) s36 (by decide)
      have t37 := lv_neT (a := 37) s37 (by decide)
      have t38 := lv_neT (a := 38) s38 (by decide)
      have t39 := lv_neT (a := 39) s39 (by decide)
      have t40 := lv_neT (a := 40) s40 (by decide)
      have t41 := lv_neT (a := 41) s41 (by decide)
      have t42 := lv_neT (a := 42) s42 (by decide)
      refine V_tsD (tgt := 1488) dZ_law_33 (by omega) rfl ?_
      exact hk s ⟨L, M, hC, hM, hI, hB⟩
    · have hlt : gL G < i + 6 := by omega
      have hgt : nI (gL G) - 6 < nI i := by
        by_cases h6 : 6 ≤ gL G
        · rw [show (6 : Int32) = nI 6 from rfl, pk_sub h6]
          exact nI_lt (by omega) (by omega)
        · exact Int32.lt_of_lt_of_le (pk_sneg (b := 6) (by decide) (by omega)) (nI_pos' (by omega))
      refine V_iload_n dZ_law_18 rfl ?_
      refine V_aload_nO dZ_law_19 rfl ?_
      refine V_slen dZ_law_20 ?_
      refine V_topI (x' := nI (gL G)) rfl ?_
      refine V_bipush (v := 6) dZ_law_21 (by decide) ?_
      refine V_isub dZ_law_23 ?_
      refine V_icmp_gt (tgt := 1494) dZ_law_24 rfl (fun _ => ?_) (fun h => absurd h (not_not_intro hgt))
      refine V_iconst (v := 1) dZ_law_1494 (by decide) ?_
      exact V_zret dZ_law_1495 rfl rfl rfl (rfl)
theorem z_start {l : Launch} {G : GT} (hN : gL G ≤ 3072) : V l G mZ_law room_1 (KA.length + 0) 3489 0 [(0, .float 0)] [] [] hp0 PT := by
  refine V_eqS (σ' := mkS LI0 LR0) rfl ?_
  show V l G mZ_law room_1 (KA.length + 0) 3489 0 [(0, .float 0)] [] (KT 0) (mkS LI0 LR0) PT
  refine V_new (bs' := 3481) tyG rfl dZ_law_0 clZ_7 insG iniG rfl (by decide) uwG tyG_ok dvG (Zr_mk (by rw [kl0]; decide +kernel)) (by decide +kernel) (by decide) ?_
  rw [kl0, show KT 0 ++ [(9, 8)] = KT 1 by decide +kernel]
  refine V_dup dZ_law_3 rfl ?_
  refine V_callI (as := []) (rest := [.ref 0]) (bs' := 1957) rfl dZ_law_4 cmG_init inG_init mlZ_9 rfl rfl (nG_0 (l := l) (G := G)) (by decide) (by decide +kernel) (by decide) (Nat.le_of_ble_eq_true rfl) ?_
  rintro _ _ _ ⟨rfl, rfl, rfl⟩ -
  refine V_non ?_
  refine V_astore_n (loc' := [(1, .ref 0), (0, .float 0)]) dZ_law_7 (by decide) rfl ?_
  refine V_new (bs' := 1894) tyM rfl dZ_law_8 clZ_10 insM iniM rfl (by decide) uwM tyM_ok dvM (Zr_mk (by rw [kl76]; decide +kernel)) (by decide +kernel) (by decide) ?_
  rw [kl76, show KT 76 ++ [(10, 63)] = KT 77 by decide +kernel]
  refine V_dup dZ_law_11 rfl ?_
  refine V_callI (as := []) (rest := [.ref 76]) (bs' := 0) rfl dZ_law_12 cmM_init inM_init mlZ_12 rfl rfl (nM_76 (l := l) (G := G)) (by decide) (by decide +kernel) (by decide) (Nat.le_of_ble_eq_true rfl) ?_
  rintro _ _ _ ⟨rfl, rfl, rfl⟩ -
  refine V_non ?_
  rw [KT_KA]
  refine V_astore_n (loc' := [(2, .ref 76), (1, .ref 0), (0, .float 0)]) dZ_law_15 (by decide) rfl ?_
  refine V_iconst (v := 0) dZ_law_16 (by decide) ?_
  refine V_istore_n (loc' := [(3, .int 0), (2, .ref 76), (1, .ref 0), (0, .float 0)]) dZ_law_17 (by decide) rfl ?_
  exact z_loop hN 1000 0 (by omega) (by decide) hpI ⟨fun _ => [], hpI, hpI_rc _, hpI_rm, hpI_inv _, hpI_bo⟩
