/-! image: the second object walked -/
theorem m_image {l : Launch} {G : GT} {L : Nat → List Cl} {M σ : Hp} (hM : RM M σ) (hI : Inv L M) (hB : Bo M) : MM l G mM_image 1 0 0 [.ref 76] KA σ (PM σ (q_image M)) := by
  have hR := hM.1
  have hM0 := hM
  have hS : Sc σ σ := Sc.rfl
  refine MM.of (loc := [(0, .ref 76)]) (by decide +kernel) rfl (Nat.le_of_ble_eq_true rfl) ?_
  have li3 : ∀ n : Nat, n ≤ 32 → ∀ s : Hp, RM (cpM (i3 n) (si M 76 37 1)) s → Sc σ s → V l G mM_image (rmd 1 0 0) (KA.length + 0) 0 223 [(1, .int (nI n)), (0, .ref 76)] [] KA s (PM σ (q_image M)) := by
    refine lp_up 32 ?_ (fun n hn ihn => ?_)
    · skip
      intro s hM hS
      have hR := hM.1
      refine V_iload_n dM_image_223 rfl ?_
      refine V_bipush (v := 32) dM_image_224 (by decide) ?_
      refine V_icmp_ge (tgt := 247) dM_image_226 rfl (fun _ => ?_) (fun h => absurd h (not_not_intro (nI_le (a := 32) (b := 32) (by decide) (by decide))))
      refine V_aload_n dM_image_247 rfl ?_
      refine V_getE (x := nI (mE M)) dM_image_248 flM_13 k76 rfl ((mR hM rfl).trans (iE hI).1) ?_
      exact V_iret dM_image_251 rfl rfl ⟨rfl, rfl, by rw [q_image, imgM, ← i3_im]; exact hM, hS⟩
    · skip
      intro s hM hS
      have hR := hM.1
      refine V_iload_n dM_image_223 rfl ?_
      refine V_bipush (v := 32) dM_image_224 (by decide) ?_
      refine V_icmp_ge (tgt := 247) dM_image_226 rfl (fun h => absurd h (nI_ge (a := n) (b := 32) hn (by decide))) (fun _ => ?_)
      refine V_aload_n dM_image_229 rfl ?_
      refine V_getR (a := 106) dM_image_230 flM_166 k76 rfl (r76_51 hR) ?_
      refine V_iload_n dM_image_233 rfl ?_
      refine V_aload_n dM_image_234 rfl ?_
      refine V_getR (a := 83) dM_image_235 flM_41 k76 rfl (r76_10 hR) ?_
      refine V_iload_n dM_image_238 rfl ?_
      refine V_ialdN (j := n) dM_image_239 k83 rfl (by omega) (by decide) ?_
      refine V_topI (x' := gi M 83 n) (mR hM rfl) ?_
      refine V_iastN (j := n) dM_image_240 k106 rfl (by omega) (by decide) ?_
      have hM : RM (cpM (i3 (n + 1)) (si M 76 37 1)) (si s 106 n (gi M 83 n)) := by
        rw [← i3_s, ← cp_step]
        exact RM_set hM
      have hS := hS.set (k := 106) (j := n) (x := gi M 83 n) (by decide)
      have hR := hM.1
      refine V_iinc (v := nI (n + 1)) (loc' := [(1, .int (nI (n + 1))), (0, .ref 76)]) dM_image_241 rfl (nI_inc n) (by decide) rfl ?_
      refine V_goto (tgt := 223) dM_image_244 rfl ?_
      refine V.locs (loc' := [(1, .int (nI (n + 1))), (0, .ref 76)]) [0, 1] rfl ?_
      exact (ihn _ hM hS)
  have li2 : ∀ n : Nat, n ≤ 8 → ∀ s : Hp, RM (cpM (i2 n) (si M 76 37 1)) s → Sc σ s → V l G mM_image (rmd 1 0 0) (KA.length + 0) 0 89 [(1, .int (nI n)), (0, .ref 76)] [] KA s (PM σ (q_image M)) := by
    refine lp_up 8 ?_ (fun n hn ihn => ?_)
    · skip
      intro s hM hS
      have hR := hM.1
      refine V_iload_n dM_image_89 rfl ?_
      refine V_bipush (v := 8) dM_image_90 (by decide) ?_
      refine V_icmp_ge (tgt := 221) dM_image_92 rfl (fun _ => ?_) (fun h => absurd h (not_not_intro (nI_le (a := 8) (b := 8) (by decide) (by decide))))
      refine V_iconst (v := 0) dM_image_221 (by decide) ?_
      refine V_istore_n (loc' := [(1, .int 0), (0, .ref 76)]) dM_image_222 (by decide) rfl ?_
      refine V.locs (loc' := [(1, .int 0), (0, .ref 76)]) [0, 1] rfl ?_
      refine V_eqL (loc' := [(1, .int (nI 0)), (0, .ref 76)]) ?_ ?_
      · rfl
      exact (li3 0 (Nat.zero_le _) _ (by rw [i3_0]; exact hM) hS)
    · skip
      intro s hM hS
      have hR := hM.1
      refine V_iload_n dM_image_89 rfl ?_
      refine V_bipush (v := 8) dM_image_90 (by decide) ?_
      refine V_icmp_ge (tgt := 221) dM_image_92 rfl (fun h => absurd h (nI_ge (a := n) (b := 8) hn (by decide))) (fun _ => ?_)
      refine V_aload_n dM_image_95 rfl ?_
      refine V_getR (a := 101) dM_image_96 flM_151 k76 rfl (r76_46 hR) ?_
      refine V_iload_n dM_image_99 rfl ?_
      refine V_aload_n dM_image_100 rfl ?_
      refine V_getR (a := 78) dM_image_101 flM_26 k76 rfl (r76_5 hR) ?_
      refine V_iload_n dM_image_104 rfl ?_
      refine V_ialdN (j := n) dM_image_105 k78 rfl (by omega) (by decide) ?_
      refine V_topI (x' := gi M 78 n) (mR hM rfl) ?_
      refine V_iastN (j := n) dM_image_106 k101 rfl (by omega) (by decide) ?_
      have hM : RM (cpM (upM (i2 n) 101 n (78, n)) (si M 76 37 1)) (si s 101 n (gi M 78 n)) := by
        rw [← cp_step]
        exact RM_set hM
      have hS := hS.set (k := 101) (j := n) (x := gi M 78 n) (by decide)
      have hR := hM.1
      refine V_aload_n dM_image_107 rfl ?_
      refine V_getR (a := 102) dM_image_108 flM_154 k76 rfl (r76_47 hR) ?_
      refine V_iload_n dM_image_111 rfl ?_
      refine V_aload_n dM_image_112 rfl ?_
      refine V_getR (a := 79) dM_image_113 flM_29 k76 rfl (r76_6 hR) ?_
      refine V_iload_n dM_image_116 rfl ?_
      refine V_ialdN (j := n) dM_image_117 k79 rfl (by omega) (by decide) ?_
      refine V_topI (x' := gi M 79 n) (mR hM rfl) ?_
      refine V_iastN (j := n) dM_image_118 k102 rfl (by omega) (by decide) ?_
      have hM : RM (cpM (upM (upM (i2 n) 101 n (78, n)) 102 n (79, n)) (si M 76 37 1)) (si (si s 101 n (gi M 78 n)) 102 n (gi M 79 n)) := by
        rw [← cp_step]
        exact RM_set hM
      have hS := hS.set (k := 102) (j := n) (x := gi M 79 n) (by decide)
      have hR := hM.1
      refine V_aload_n dM_image_119 rfl ?_
      refine V_getR (a := 103) dM_image_120 flM_157 k76 rfl (r76_48 hR) ?_
      refine V_iload_n dM_image_123 rfl ?_
      refine V_aload_n dM_image_124 rfl ?_
      refine V_getR (a := 80) dM_image_125 flM_32 k76 rfl (r76_7 hR) ?_
      refine V_iload_n dM_image_128 rfl ?_
      refine V_ialdN (j := n) dM_image_129 k80 rfl (by omega) (by decide) ?_
      refine V_topI (x' := gi M 80 n) (mR hM rfl) ?_
      refine V_iastN (j := n) dM_image_130 k103 rfl (by omega) (by decide) ?_
      have hM : RM (cpM (upM (upM (upM (i2 n) 101 n (78, n)) 102 n (79, n)) 103 n (80, n)) (si M 76 37 1)) (si (si (si s 101 n (gi M 78 n)) 102 n (gi M 79 n)) 103 n (gi M 80 n)) := by
        rw [← cp_step]
        exact RM_set hM
      have hS := hS.set (k := 103) (j := n) (x := gi M 80 n) (by decide)
      have hR := hM.1
      refine V_aload_n dM_image_131 rfl ?_
      refine V_getR (a := 104) dM_image_132 flM_160 k76 rfl (r76_49 hR) ?_
      refine V_iload_n dM_image_135 rfl ?_
      refine V_aload_n dM_image_136 rfl ?_
      refine V_getR (a := 81) dM_image_137 flM_35 k76 rfl (r76_8 hR) ?_
      refine V_iload_n dM_image_140 rfl ?_
      refine V_ialdN (j := n) dM_image_141 k81 rfl (by omega) (by decide) ?_
      refine V_topI (x' := gi M 81 n) (mR hM rfl) ?_
      refine V_iastN (j := n) dM_image_142 k104 rfl (by omega) (by decide) ?_
      have hM : RM (cpM (upM (upM (upM (upM (i2 n) 101 n (78, n)) 102 n (79, n)) 103 n (80, n)) 104 n (81, n)) (si M 76 37 1)) (si (si (si (si s 101 n (gi M 78 n)) 102 n (gi M 79 n)) 103 n (gi M 80 n)) 104 n (gi M 81 n)) := by
        rw [← cp_step]
        exact RM_set hM
      have hS := hS.set (k := 104) (j := n) (x := gi M 81 n) (by decide)
      have hR := hM.1
      refine V_aload_n dM_image_143 rfl ?_
      refine V_getR (a := 105) dM_image_144 flM_163 k76 rfl (r76_50 hR) ?_
      refine V_iload_n dM_image_147 rfl ?_
      refine V_aload_n dM_image_148 rfl ?_
      refine V_getR (a := 82) dM_image_149 flM_38 k76 rfl (r76_9 hR) ?_
      refine V_iload_n dM_image_152 rfl ?_
      refine V_ialdN (j := n) dM_image_153 k82 rfl (by omega) (by decide) ?_
      refine V_topI (x' := gi M 82 n) (mR hM rfl) ?_
      refine V_iastN (j := n) dM_image_154 k105 rfl (by omega) (by decide) ?_
      have hM : RM (cpM (upM (upM (upM (upM (upM (i2 n) 101 n (78, n)) 102 n (79, n)) 103 n (80, n)) 104 n (81, n)) 105 n (82, n)) (si M 76 37 1)) (si (si (si (si (si s 101 n (gi M 78 n)) 102 n (gi M 79 n)) 103 n (gi M 80 n)) 104 n (gi M 81 n)) 105 n (gi M 82 n)) := by
        rw [← cp_step]
        exact RM_set hM
      have hS := hS.set (k := 105) (j := n) (x := gi M 82 n) (by decide)
      have hR := hM.1
      refine V_aload_n dM_image_155 rfl ?_
      refine V_getR (a := 107) dM_image_156 flM_169 k76 rfl (r76_52 hR) ?_
      refine V_iload_n dM_image_159 rfl ?_
      refine V_aload_n dM_image_160 rfl ?_
      refine V_getR (a := 95) dM_image_161 flM_105 k76 rfl (r76_31 hR) ?_
      refine V_iload_n dM_image_164 rfl ?_
      refine V_ialdN (j := n) dM_image_165 k95 rfl (by omega) (by decide) ?_
      refine V_topI (x' := gi M 95 n) (mR hM rfl) ?_
      refine V_iastN (j := n) dM_image_166 k107 rfl (by omega) (by decide) ?_
      have hM : RM (cpM (upM (upM (upM (upM (upM (upM (i2 n) 101 n (78, n)) 102 n (79, n)) 103 n (80, n)) 104 n (81, n)) 105 n (82, n)) 107 n (95, n)) (si M 76 37 1)) (si (si (si (si (si (si s 101 n (gi M 78 n)) 102 n (gi M 79 n)) 103 n (gi M 80 n)) 104 n (gi M 81 n)) 105 n (gi M 82 n)) 107 n (gi M 95 n)) := by
        rw [← cp_step]
        exact RM_set hM
      have hS := hS.set (k := 107) (j := n) (x := gi M 95 n) (by decide)
      have hR := hM.1
      refine V_aload_n dM_image_167 rfl ?_
      refine V_getR (a := 111) dM_image_168 flM_181 k76 rfl (r76_56 hR) ?_
      refine V_iload_n dM_image_171 rfl ?_
      refine V_aload_n dM_image_172 rfl ?_
      refine V_getR (a := 96) dM_image_173 flM_108 k76 rfl (r76_32 hR) ?_
      refine V_iload_n dM_image_176 rfl ?_
      refine V_zaldN (j := n) dM_image_177 k96 rfl (by omega) (by decide) ?_
      refine V_topI (x' := gi M 96 n) (mR hM rfl) ?_
      refine V_zastN (j := n) dM_image_178 k111 rfl (by omega) (by decide) (hB n hn).1 ?_
      have hM : RM (cpM (upM (upM (upM (upM (upM (upM (upM (i2 n) 101 n (78, n)) 102 n (79, n)) 103 n (80, n)) 104 n (81, n)) 105 n (82, n)) 107 n (95, n)) 111 n (96, n)) (si M 76 37 1)) (si (si (si (si (si (si (si s 101 n (gi M 78 n)) 102 n (gi M 79 n)) 103 n (gi M 80 n)) 104 n (gi M 81 n)) 105 n (gi M 82 n)) 107 n (gi M 95 n)) 111 n (gi M 96 n)) := by
        rw [← cp_step]
        exact RM_set hM
      have hS := hS.set (k := 111) (j := n) (x := gi M 96 n) (by decide)
      have hR := hM.1
      refine V_aload_n dM_image_179 rfl ?_
      refine V_getR (a := 108) dM_image_180 flM_172 k76 rfl (r76_53 hR) ?_
      refine V_iload_n dM_image_183 rfl ?_
      refine V_aload_n dM_image_184 rfl ?_
      refine V_getR (a := 97) dM_image_185 flM_114 k76 rfl (r76_34 hR) ?_
      refine V_iload_n dM_image_188 rfl ?_
      refine V_ialdN (j := n) dM_image_189 k97 rfl (by omega) (by decide) ?_
      refine V_topI (x' := gi M 97 n) (mR hM rfl) ?_
      refine V_iastN (j := n) dM_image_190 k108 rfl (by omega) (by decide) ?_
      have hM : RM (cpM (upM (upM (upM (upM (upM (upM (upM (upM (i2 n) 101 n (78, n)) 102 n (79, n)) 103 n (80, n)) 104 n (81, n)) 105 n (82, n)) 107 n (95, n)) 111 n (96, n)) 108 n (97, n)) (si M 76 37 1)) (si (si (si (si (si (si (si (si s 101 n (gi M 78 n)) 102 n (gi M 79 n)) 103 n (gi M 80 n)) 104 n (gi M 81 n)) 105 n (gi M 82 n)) 107 n (gi M 95 n)) 111 n (gi M 96 n)) 108 n (gi M 97 n)) := by
        rw [← cp_step]
        exact RM_set hM
      have hS := hS.set (k := 108) (j := n) (x := gi M 97 n) (by decide)
      have hR := hM.1
      refine V_aload_n dM_image_191 rfl ?_
      refine V_getR (a := 109) dM_image_192 flM_175 k76 rfl (r76_54 hR) ?_
      refine V_iload_n dM_image_195 rfl ?_
      refine V_aload_n dM_image_196 rfl ?_
      refine V_getR (a := 98) dM_image_197 flM_117 k76 rfl (r76_35 hR) ?_
      refine V_iload_n dM_image_200 rfl ?_
      refine V_ialdN (j := n) dM_image_201 k98 rfl (by omega) (by decide) ?_
      refine V_topI (x' := gi M 98 n) (mR hM rfl) ?_
      refine V_iastN (j := n) dM_image_202 k109 rfl (by omega) (by decide) ?_
      have hM : RM (cpM (upM (upM (upM (upM (upM (upM (upM (upM (upM (i2 n) 101 n (78, n)) 102 n (79, n)) 103 n (80, n)) 104 n (81, n)) 105 n (82, n)) 107 n (95, n)) 111 n (96, n)) 108 n (97, n)) 109 n (98, n)) (si M 76 37 1)) (si (si (si (si (si (si (si (si (si s 101 n (gi M 78 n)) 102 n (gi M 79 n)) 103 n (gi M 80 n)) 104 n (gi M 81 n)) 105 n (gi M 82 n)) 107 n (gi M 95 n)) 111 n (gi M 96 n)) 108 n (gi M 97 n)) 109 n (gi M 98 n)) := by
        rw [← cp_step]
        exact RM_set hM
      have hS := hS.set (k := 109) (j := n) (x := gi M 98 n) (by decide)
      have hR := hM.1
      refine V_aload_n dM_image_203 rfl ?_
      refine V_getR (a := 110) dM_image_204 flM_178 k76 rfl (r76_55 hR) ?_
      refine V_iload_n dM_image_207 rfl ?_
      refine V_aload_n dM_image_208 rfl ?_
      refine V_getR (a := 99) dM_image_209 flM_120 k76 rfl (r76_36 hR) ?_
      refine V_iload_n dM_image_212 rfl ?_
      refine V_ialdN (j := n) dM_image_213 k99 rfl (by omega) (by decide) ?_
      refine V_topI (x' := gi M 99 n) (mR hM rfl) ?_
      refine V_iastN (j := n) dM_image_214 k110 rfl (by omega) (by decide) ?_
      have hM : RM (cpM (i2 (n + 1)) (si M 76 37 1)) (si (si (si (si (si (si (si (si (si (si s 101 n (gi M 78 n)) 102 n (gi M 79 n)) 103 n (gi M 80 n)) 104 n (gi M 81 n)) 105 n (gi M 82 n)) 107 n (gi M 95 n)) 111 n (gi M 96 n)) 108 n (gi M 97 n)) 109 n (gi M 98 n)) 110 n (gi M 99 n)) := by
        rw [← i2_s, ← cp_step]
        exact RM_set hM
      have hS := hS.set (k := 110) (j := n) (x := gi M 99 n) (by decide)
      have hR := hM.1
      refine V_iinc (v := nI (n + 1)) (loc' := [(1, .int (nI (n + 1))), (0, .ref 76)]) dM_image_215 rfl (nI_inc n) (by decide) rfl ?_
      refine V_goto (tgt := 89) dM_image_218 rfl ?_
      refine V.locs (loc' := [(1, .int (nI (n + 1))), (0, .ref 76)]) [0, 1] rfl ?_
      exact (ihn _ hM hS)
  have li1 : ∀ n : Nat, n ≤ 6 → ∀ s : Hp, RM (cpM (i1 n) (si M 76 37 1)) s → Sc σ s → V l G mM_image (rmd 1 0 0) (KA.length + 0) 0 63 [(1, .int (nI n)), (0, .ref 76)] [] KA s (PM σ (q_image M)) := by
    refine lp_up 6 ?_ (fun n hn ihn => ?_)
    · skip
      intro s hM hS
      have hR := hM.1
      refine V_iload_n dM_image_63 rfl ?_
      refine V_bipush (v := 6) dM_image_64 (by decide) ?_
      refine V_icmp_ge (tgt := 87) dM_image_66 rfl (fun _ => ?_) (fun h => absurd h (not_not_intro (nI_le (a := 6) (b := 6) (by decide) (by decide))))
      refine V_iconst (v := 0) dM_image_87 (by decide) ?_
      refine V_istore_n (loc' := [(1, .int 0), (0, .ref 76)]) dM_image_88 (by decide) rfl ?_
      refine V.locs (loc' := [(1, .int 0), (0, .ref 76)]) [0, 1] rfl ?_
      refine V_eqL (loc' := [(1, .int (nI 0)), (0, .ref 76)]) ?_ ?_
      · rfl
      exact (li2 0 (Nat.zero_le _) _ (by rw [i2_0]; exact hM) hS)
    · skip
      intro s hM hS
      have hR := hM.1
      refine V_iload_n dM_image_63 rfl ?_
      refine V_bipush (v := 6) dM_image_64 (by decide) ?_
      refine V_icmp_ge (tgt := 87) dM_image_66 rfl (fun h => absurd h (nI_ge (a := n) (b := 6) hn (by decide))) (fun _ => ?_)
      refine V_aload_n dM_image_69 rfl ?_
      refine V_getR (a := 100) dM_image_70 flM_148 k76 rfl (r76_45 hR) ?_
      refine V_iload_n dM_image_73 rfl ?_
      refine V_aload_n dM_image_74 rfl ?_
      refine V_getR (a := 77) dM_image_75 flM_22 k76 rfl (r76_4 hR) ?_
      refine V_iload_n dM_image_78 rfl ?_
      refine V_ialdN (j := n) dM_image_79 k77 rfl (by omega) (by decide) ?_
      refine V_topI (x' := gi M 77 n) (mR hM rfl) ?_
      refine V_iastN (j := n) dM_image_80 k100 rfl (by omega) (by decide) ?_
      have hM : RM (cpM (i1 (n + 1)) (si M 76 37 1)) (si s 100 n (gi M 77 n)) := by
        rw [← i1_s, ← cp_step]
        exact RM_set hM
      have hS := hS.set (k := 100) (j := n) (x := gi M 77 n) (by decide)
      have hR := hM.1
      refine V_iinc (v := nI (n + 1)) (loc' := [(1, .int (nI (n + 1))), (0, .ref 76)]) dM_image_81 rfl (nI_inc n) (by decide) rfl ?_
      refine V_goto (tgt := 63) dM_image_84 rfl ?_
      refine V.locs (loc' := [(1, .int (nI (n + 1))), (0, .ref 76)]) [0, 1] rfl ?_
      exact (ihn _ hM hS)
  refine V_aload_n dM_image_0 rfl ?_
  refine V_iconst (v := 1) dM_image_1 (by decide) ?_
  refine V_putZ dM_image_2 flM_123 (fpM_37 _) (Or.inl rfl) k76 rfl (by decide) ?_
  have hM : RM (cpM (fun _ _ => none) (si M 76 37 1)) (si σ 76 37 1) := RM_set hM
  have hS := hS.set (k := 76) (j := 37) (x := 1) (by decide)
  have hR := hM.1
  refine V_aload_n dM_image_5 rfl ?_
  refine V_aload_n dM_image_6 rfl ?_
  refine V_getE (x := gi M 76 12) dM_image_7 flM_47 k76 rfl (mR hM rfl) ?_
  refine V_putI dM_image_10 flM_127 (fpM_38 _) (Or.inl rfl) k76 rfl ?_
  have hM : RM (cpM (upM (fun _ _ => none) 76 38 (76, 12)) (si M 76 37 1)) (si (si σ 76 37 1) 76 38 (gi M 76 12)) := by
    rw [← cp_step]
    exact RM_set hM
  have hS := hS.set (k := 76) (j := 38) (x := gi M 76 12) (by decide)
  have hR := hM.1
  refine V_aload_n dM_image_13 rfl ?_
  refine V_aload_n dM_image_14 rfl ?_
  refine V_getE (x := gi M 76 0) dM_image_15 flM_7 k76 rfl (mR hM rfl) ?_
  refine V_putI dM_image_18 flM_130 (fpM_39 _) (Or.inl rfl) k76 rfl ?_
  have hM : RM (cpM (upM (upM (fun _ _ => none) 76 38 (76, 12)) 76 39 (76, 0)) (si M 76 37 1)) (si (si (si σ 76 37 1) 76 38 (gi M 76 12)) 76 39 (gi M 76 0)) := by
    rw [← cp_step]
    exact RM_set hM
  have hS := hS.set (k := 76) (j := 39) (x := gi M 76 0) (by decide)
  have hR := hM.1
  refine V_aload_n dM_image_21 rfl ?_
  refine V_aload_n dM_image_22 rfl ?_
  refine V_getE (x := gi M 76 1) dM_image_23 flM_13 k76 rfl (mR hM rfl) ?_
  refine V_putI dM_image_26 flM_133 (fpM_40 _) (Or.inl rfl) k76 rfl ?_
  have hM : RM (cpM (upM (upM (upM (fun _ _ => none) 76 38 (76, 12)) 76 39 (76, 0)) 76 40 (76, 1)) (si M 76 37 1)) (si (si (si (si σ 76 37 1) 76 38 (gi M 76 12)) 76 39 (gi M 76 0)) 76 40 (gi M 76 1)) := by
    rw [← cp_step]
    exact RM_set hM
  have hS := hS.set (k := 76) (j := 40) (x := gi M 76 1) (by decide)
  have hR := hM.1
  refine V_aload_n dM_image_29 rfl ?_
  refine V_aload_n dM_image_30 rfl ?_
  refine V_getE (x := gi M 76 2) dM_image_31 flM_16 k76 rfl (mR hM rfl) ?_
  refine V_putI dM_image_34 flM_136 (fpM_41 _) (Or.inl rfl) k76 rfl ?_
  have hM : RM (cpM (upM (upM (upM (upM (fun _ _ => none) 76 38 (76, 12)) 76 39 (76, 0)) 76 40 (76, 1)) 76 41 (76, 2)) (si M 76 37 1)) (si (si (si (si (si σ 76 37 1) 76 38 (gi M 76 12)) 76 39 (gi M 76 0)) 76 40 (gi M 76 1)) 76 41 (gi M 76 2)) := by
    rw [← cp_step]
    exact RM_set hM
  have hS := hS.set (k := 76) (j := 41) (x := gi M 76 2) (by decide)
  have hR := hM.1
  refine V_aload_n dM_image_37 rfl ?_
  refine V_aload_n dM_image_38 rfl ?_
  refine V_getE (x := gi M 76 3) dM_image_39 flM_19 k76 rfl (mR hM rfl) ?_
  refine V_putI dM_image_42 flM_139 (fpM_42 _) (Or.inl rfl) k76 rfl ?_
  have hM : RM (cpM (upM (upM (upM (upM (upM (fun _ _ => none) 76 38 (76, 12)) 76 39 (76, 0)) 76 40 (76, 1)) 76 41 (76, 2)) 76 42 (76, 3)) (si M 76 37 1)) (si (si (si (si (si (si σ 76 37 1) 76 38 (gi M 76 12)) 76 39 (gi M 76 0)) 76 40 (gi M 76 1)) 76 41 (gi M 76 2)) 76 42 (gi M 76 3)) := by
    rw [← cp_step]
    exact RM_set hM
  have hS := hS.set (k := 76) (j := 42) (x := gi M 76 3) (by decide)
  have hR := hM.1
  refine V_aload_n dM_image_45 rfl ?_
  refine V_aload_n dM_image_46 rfl ?_
  refine V_getE (x := gi M 76 30) dM_image_47 flM_102 k76 rfl (mR hM rfl) ?_
  refine V_putI dM_image_50 flM_142 (fpM_43 _) (Or.inl rfl) k76 rfl ?_
  have hM : RM (cpM (upM (upM (upM (upM (upM (upM (fun _ _ => none) 76 38 (76, 12)) 76 39 (76, 0)) 76 40 (76, 1)) 76 41 (76, 2)) 76 42 (76, 3)) 76 43 (76, 30)) (si M 76 37 1)) (si (si (si (si (si (si (si σ 76 37 1) 76 38 (gi M 76 12)) 76 39 (gi M 76 0)) 76 40 (gi M 76 1)) 76 41 (gi M 76 2)) 76 42 (gi M 76 3)) 76 43 (gi M 76 30)) := by
    rw [← cp_step]
    exact RM_set hM
  have hS := hS.set (k := 76) (j := 43) (x := gi M 76 30) (by decide)
  have hR := hM.1
  refine V_aload_n dM_image_53 rfl ?_
  refine V_aload_n dM_image_54 rfl ?_
  refine V_getE (x := gi M 76 33) dM_image_55 flM_111 k76 rfl (mR hM rfl) ?_
  refine V_putI dM_image_58 flM_145 (fpM_44 _) (Or.inl rfl) k76 rfl ?_
  have hM : RM (cpM (upM (upM (upM (upM (upM (upM (upM (fun _ _ => none) 76 38 (76, 12)) 76 39 (76, 0)) 76 40 (76, 1)) 76 41 (76, 2)) 76 42 (76, 3)) 76 43 (76, 30)) 76 44 (76, 33)) (si M 76 37 1)) (si (si (si (si (si (si (si (si σ 76 37 1) 76 38 (gi M 76 12)) 76 39 (gi M 76 0)) 76 40 (gi M 76 1)) 76 41 (gi M 76 2)) 76 42 (gi M 76 3)) 76 43 (gi M 76 30)) 76 44 (gi M 76 33)) := by
    rw [← cp_step]
    exact RM_set hM
  have hS := hS.set (k := 76) (j := 44) (x := gi M 76 33) (by decide)
  have hR := hM.1
  refine V_iconst (v := 0) dM_image_61 (by decide) ?_
  refine V_istore_n (loc' := [(1, .int 0), (0, .ref 76)]) dM_image_62 (by decide) rfl ?_
  refine V.locs (loc' := [(1, .int 0), (0, .ref 76)]) [0, 1] rfl ?_
  refine V_eqL (loc' := [(1, .int (nI 0)), (0, .ref 76)]) ?_ ?_
  · rfl
  exact (li1 0 (Nat.zero_le _) _ (by rw [i1_0]; exact hM) hS)
