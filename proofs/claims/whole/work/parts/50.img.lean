/-! undo: the second object walked -/
def u0 : Nat → Nat → Option (Nat × Nat) := upM (upM (upM (upM (upM (upM (upM (fun _ _ => none) 76 12 (76, 38)) 76 0 (76, 39)) 76 1 (76, 40)) 76 2 (76, 41)) 76 3 (76, 42)) 76 30 (76, 43)) 76 33 (76, 44)
def u1 (n : Nat) : Nat → Nat → Option (Nat × Nat) := fun x y => if x = 77 ∧ y < n then some (100, y) else u0 x y
def u2 (n : Nat) : Nat → Nat → Option (Nat × Nat) := fun x y => if (78 ≤ x ∧ x ≤ 82) ∧ y < n then some (x + 23, y) else if x = 95 ∧ y < n then some (107, y) else if x = 96 ∧ y < n then some (111, y) else if (97 ≤ x ∧ x ≤ 99) ∧ y < n then some (x + 11, y) else u1 6 x y
def u3 (n : Nat) : Nat → Nat → Option (Nat × Nat) := fun x y => if x = 83 ∧ y < n then some (106, y) else u2 8 x y
theorem u1_s (n : Nat) : upM (u1 n) 77 n (100, n) = u1 (n + 1) := by
  funext x y
  unfold upM u1
  by_cases h : x = 77 ∧ y = n
  · obtain ⟨rfl, rfl⟩ := h
    rw [if_pos ⟨rfl, rfl⟩, if_pos (by omega)]
  · rw [if_neg h]
    by_cases h2 : x = 77 ∧ y < n
    · rw [if_pos h2, if_pos (by omega)]
    · rw [if_neg h2, if_neg (by omega)]
theorem u3_s (n : Nat) : upM (u3 n) 83 n (106, n) = u3 (n + 1) := by
  funext x y
  unfold upM u3
  by_cases h : x = 83 ∧ y = n
  · obtain ⟨rfl, rfl⟩ := h
    rw [if_pos ⟨rfl, rfl⟩, if_pos (by omega)]
  · rw [if_neg h]
    by_cases h2 : x = 83 ∧ y < n
    · rw [if_pos h2, if_pos (by omega)]
    · rw [if_neg h2, if_neg (by omega)]
theorem u2_s (n : Nat) : upM (upM (upM (upM (upM (upM (upM (upM (upM (upM (u2 n) 78 n (101, n)) 79 n (102, n)) 80 n (103, n)) 81 n (104, n)) 82 n (105, n)) 95 n (107, n)) 96 n (111, n)) 97 n (108, n)) 98 n (109, n)) 99 n (110, n) = u2 (n + 1) := by
  funext x y
  by_cases hy : y = n
  · subst hy
    by_cases hx : (78 ≤ x ∧ x ≤ 82) ∨ (95 ≤ x ∧ x ≤ 99)
    · have h : x = 78 ∨ x = 79 ∨ x = 80 ∨ x = 81 ∨ x = 82 ∨ x = 95 ∨ x = 96 ∨ x = 97 ∨ x = 98 ∨ x = 99 := by omega
      rcases h with h | h | h | h | h | h | h | h | h | h <;> subst h <;> simp [upM, u2]
    · unfold upM u2
      repeat rw [if_neg (by omega)]
  · have e : ∀ m a q, upM m a n q x y = m x y := fun m a q => if_neg (fun z => hy z.2)
    simp only [e]
    unfold u2
    have hl : y < n ↔ y < n + 1 := by omega
    simp only [hl]
theorem u2_0 : u2 0 = u1 6 := by
  funext x y
  unfold u2
  repeat rw [if_neg (by omega)]
theorem u1_0 : u1 0 = u0 := by
  funext x y
  unfold u1
  rw [if_neg (by omega)]
theorem u3_0 : u3 0 = u2 8 := by
  funext x y
  unfold u3
  rw [if_neg (by omega)]
theorem u3_um : u3 32 = um := by
  funext x y
  unfold u3 u2 u1 u0 upM um
  by_cases h : x = 76
  · subst h
    simp
    repeat' split
    all_goals first | rfl | omega
  · by_cases h2 : (77 ≤ x ∧ x ≤ 83) ∨ (95 ≤ x ∧ x ≤ 99)
    · have h3 : x = 77 ∨ x = 78 ∨ x = 79 ∨ x = 80 ∨ x = 81 ∨ x = 82 ∨ x = 83 ∨ x = 95 ∨ x = 96 ∨ x = 97 ∨ x = 98 ∨ x = 99 := by omega
      rcases h3 with q | q | q | q | q | q | q | q | q | q | q | q <;> subst q <;> simp
    · repeat rw [if_neg (by omega)]
theorem m_undo {l : Launch} {G : GT} {L : Nat → List Cl} {M σ : Hp} (hM : RM M σ) (hI : Inv L M) (hB : Bo M) : MM l G mM_undo 1 0 0 [.ref 76] KA σ (PM σ (q_undo M)) := by
  have hR := hM.1
  have hM0 := hM
  have hS : Sc σ σ := Sc.rfl
  refine MM.of (loc := [(0, .ref 76)]) (by decide +kernel) rfl (Nat.le_of_ble_eq_true rfl) ?_
  refine V_aload_n dM_undo_0 rfl ?_
  refine V_getE (x := gi M 76 37) dM_undo_1 flM_123 k76 rfl (mR hM rfl) ?_
  refine V_if_ne (tgt := 10) dM_undo_4 rfl (fun c4 => ?_) (fun c4 => ?_)
  · skip
    have hM : RM (cpM (fun _ _ => none) M) σ := hM
    refine V_aload_n dM_undo_10 rfl ?_
    refine V_aload_n dM_undo_11 rfl ?_
    refine V_getE (x := gi M 76 38) dM_undo_12 flM_127 k76 rfl (mR hM rfl) ?_
    refine V_putI dM_undo_15 flM_47 (fpM_12 _) (Or.inl rfl) k76 rfl ?_
    have hM : RM (cpM (upM (fun _ _ => none) 76 12 (76, 38)) M) (si σ 76 12 (gi M 76 38)) := by
      rw [← cp_step]
      exact RM_set hM
    have hS := hS.set (k := 76) (j := 12) (x := gi M 76 38) (by decide)
    have hR := hM.1
    refine V_aload_n dM_undo_18 rfl ?_
    refine V_aload_n dM_undo_19 rfl ?_
    refine V_getE (x := gi M 76 39) dM_undo_20 flM_130 k76 rfl (mR hM rfl) ?_
    refine V_putI dM_undo_23 flM_7 (fpM_0 _) (Or.inl rfl) k76 rfl ?_
    have hM : RM (cpM (upM (upM (fun _ _ => none) 76 12 (76, 38)) 76 0 (76, 39)) M) (si (si σ 76 12 (gi M 76 38)) 76 0 (gi M 76 39)) := by
      rw [← cp_step]
      exact RM_set hM
    have hS := hS.set (k := 76) (j := 0) (x := gi M 76 39) (by decide)
    have hR := hM.1
    refine V_aload_n dM_undo_26 rfl ?_
    refine V_aload_n dM_undo_27 rfl ?_
    refine V_getE (x := gi M 76 40) dM_undo_28 flM_133 k76 rfl (mR hM rfl) ?_
    refine V_putI dM_undo_31 flM_13 (fpM_1 _) (Or.inl rfl) k76 rfl ?_
    have hM : RM (cpM (upM (upM (upM (fun _ _ => none) 76 12 (76, 38)) 76 0 (76, 39)) 76 1 (76, 40)) M) (si (si (si σ 76 12 (gi M 76 38)) 76 0 (gi M 76 39)) 76 1 (gi M 76 40)) := by
      rw [← cp_step]
      exact RM_set hM
    have hS := hS.set (k := 76) (j := 1) (x := gi M 76 40) (by decide)
    have hR := hM.1
    refine V_aload_n dM_undo_34 rfl ?_
    refine V_aload_n dM_undo_35 rfl ?_
    refine V_getE (x := gi M 76 41) dM_undo_36 flM_136 k76 rfl (mR hM rfl) ?_
    refine V_putI dM_undo_39 flM_16 (fpM_2 _) (Or.inl rfl) k76 rfl ?_
    have hM : RM (cpM (upM (upM (upM (upM (fun _ _ => none) 76 12 (76, 38)) 76 0 (76, 39)) 76 1 (76, 40)) 76 2 (76, 41)) M) (si (si (si (si σ 76 12 (gi M 76 38)) 76 0 (gi M 76 39)) 76 1 (gi M 76 40)) 76 2 (gi M 76 41)) := by
      rw [← cp_step]
      exact RM_set hM
    have hS := hS.set (k := 76) (j := 2) (x := gi M 76 41) (by decide)
    have hR := hM.1
    refine V_aload_n dM_undo_42 rfl ?_
    refine V_aload_n dM_undo_43 rfl ?_
    refine V_getE (x := gi M 76 42) dM_undo_44 flM_139 k76 rfl (mR hM rfl) ?_
    refine V_putI dM_undo_47 flM_19 (fpM_3 _) (Or.inl rfl) k76 rfl ?_
    have hM : RM (cpM (upM (upM (upM (upM (upM (fun _ _ => none) 76 12 (76, 38)) 76 0 (76, 39)) 76 1 (76, 40)) 76 2 (76, 41)) 76 3 (76, 42)) M) (si (si (si (si (si σ 76 12 (gi M 76 38)) 76 0 (gi M 76 39)) 76 1 (gi M 76 40)) 76 2 (gi M 76 41)) 76 3 (gi M 76 42)) := by
      rw [← cp_step]
      exact RM_set hM
    have hS := hS.set (k := 76) (j := 3) (x := gi M 76 42) (by decide)
    have hR := hM.1
    refine V_aload_n dM_undo_50 rfl ?_
    refine V_aload_n dM_undo_51 rfl ?_
    refine V_getE (x := gi M 76 43) dM_undo_52 flM_142 k76 rfl (mR hM rfl) ?_
    refine V_putI dM_undo_55 flM_102 (fpM_30 _) (Or.inl rfl) k76 rfl ?_
    have hM : RM (cpM (upM (upM (upM (upM (upM (upM (fun _ _ => none) 76 12 (76, 38)) 76 0 (76, 39)) 76 1 (76, 40)) 76 2 (76, 41)) 76 3 (76, 42)) 76 30 (76, 43)) M) (si (si (si (si (si (si σ 76 12 (gi M 76 38)) 76 0 (gi M 76 39)) 76 1 (gi M 76 40)) 76 2 (gi M 76 41)) 76 3 (gi M 76 42)) 76 30 (gi M 76 43)) := by
      rw [← cp_step]
      exact RM_set hM
    have hS := hS.set (k := 76) (j := 30) (x := gi M 76 43) (by decide)
    have hR := hM.1
    refine V_aload_n dM_undo_58 rfl ?_
    refine V_aload_n dM_undo_59 rfl ?_
    refine V_getE (x := gi M 76 44) dM_undo_60 flM_145 k76 rfl (mR hM rfl) ?_
    refine V_putI dM_undo_63 flM_111 (fpM_33 _) (Or.inl rfl) k76 rfl ?_
    have hM : RM (cpM (upM (upM (upM (upM (upM (upM (upM (fun _ _ => none) 76 12 (76, 38)) 76 0 (76, 39)) 76 1 (76, 40)) 76 2 (76, 41)) 76 3 (76, 42)) 76 30 (76, 43)) 76 33 (76, 44)) M) (si (si (si (si (si (si (si σ 76 12 (gi M 76 38)) 76 0 (gi M 76 39)) 76 1 (gi M 76 40)) 76 2 (gi M 76 41)) 76 3 (gi M 76 42)) 76 30 (gi M 76 43)) 76 33 (gi M 76 44)) := by
      rw [← cp_step]
      exact RM_set hM
    have hS := hS.set (k := 76) (j := 33) (x := gi M 76 44) (by decide)
    have hR := hM.1
    refine V_iconst (v := 0) dM_undo_66 (by decide) ?_
    refine V_istore_n (loc' := [(1, .int 0), (0, .ref 76)]) dM_undo_67 (by decide) rfl ?_
    have hc : ¬ gi M 76 37 = 0 := c4
    have lu3 : ∀ n : Nat, n ≤ 32 → ∀ s : Hp, RM (cpM (u3 n) M) s → Sc σ s → V l G mM_undo (rmd 1 0 0) (KA.length + 0) 0 228 [(1, .int (nI n)), (0, .ref 76)] [] KA s (PM σ (q_undo M)) := by
      refine lp_up 32 ?_ (fun n hn ihn => ?_)
      · skip
        intro s hM hS
        have hR := hM.1
        refine V_iload_n dM_undo_228 rfl ?_
        refine V_bipush (v := 32) dM_undo_229 (by decide) ?_
        refine V_icmp_ge (tgt := 252) dM_undo_231 rfl (fun _ => ?_) (fun h => absurd h (not_not_intro (nI_le (a := 32) (b := 32) (by decide) (by decide))))
        refine V_aload_n dM_undo_252 rfl ?_
        refine V_getE (x := gi M 76 40) dM_undo_253 flM_13 k76 rfl (mR hM rfl) ?_
        refine V_iret dM_undo_256 rfl rfl ?_
        rw [show q_undo M = (gi M 76 40, undM M) from if_neg hc, undM, ← u3_um]
        exact ⟨rfl, rfl, hM, hS⟩
      · skip
        intro s hM hS
        have hR := hM.1
        refine V_iload_n dM_undo_228 rfl ?_
        refine V_bipush (v := 32) dM_undo_229 (by decide) ?_
        refine V_icmp_ge (tgt := 252) dM_undo_231 rfl (fun h => absurd h (nI_ge (a := n) (b := 32) hn (by decide))) (fun _ => ?_)
        refine V_aload_n dM_undo_234 rfl ?_
        refine V_getR (a := 83) dM_undo_235 flM_41 k76 rfl (r76_10 hR) ?_
        refine V_iload_n dM_undo_238 rfl ?_
        refine V_aload_n dM_undo_239 rfl ?_
        refine V_getR (a := 106) dM_undo_240 flM_166 k76 rfl (r76_51 hR) ?_
        refine V_iload_n dM_undo_243 rfl ?_
        refine V_ialdN (j := n) dM_undo_244 k106 rfl (by omega) (by decide) ?_
        refine V_topI (x' := gi M 106 n) (mR hM rfl) ?_
        refine V_iastN (j := n) dM_undo_245 k83 rfl (by omega) (by decide) ?_
        have hM : RM (cpM (u3 (n + 1)) M) (si s 83 n (gi M 106 n)) := by
          rw [← u3_s, ← cp_step]
          exact RM_set hM
        have hS := hS.set (k := 83) (j := n) (x := gi M 106 n) (by decide)
        have hR := hM.1
        refine V_iinc (v := nI (n + 1)) (loc' := [(1, .int (nI (n + 1))), (0, .ref 76)]) dM_undo_246 rfl (nI_inc n) (by decide) rfl ?_
        refine V_goto (tgt := 228) dM_undo_249 rfl ?_
        refine V.locs (loc' := [(1, .int (nI (n + 1))), (0, .ref 76)]) [0, 1] rfl ?_
        exact (ihn _ hM hS)
    have lu2 : ∀ n : Nat, n ≤ 8 → ∀ s : Hp, RM (cpM (u2 n) M) s → Sc σ s → V l G mM_undo (rmd 1 0 0) (KA.length + 0) 0 94 [(1, .int (nI n)), (0, .ref 76)] [] KA s (PM σ (q_undo M)) := by
      refine lp_up 8 ?_ (fun n hn ihn => ?_)
      · skip
        intro s hM hS
        have hR := hM.1
        refine V_iload_n dM_undo_94 rfl ?_
        refine V_bipush (v := 8) dM_undo_95 (by decide) ?_
        refine V_icmp_ge (tgt := 226) dM_undo_97 rfl (fun _ => ?_) (fun h => absurd h (not_not_intro (nI_le (a := 8) (b := 8) (by decide) (by decide))))
        refine V_iconst (v := 0) dM_undo_226 (by decide) ?_
        refine V_istore_n (loc' := [(1, .int 0), (0, .ref 76)]) dM_undo_227 (by decide) rfl ?_
        refine V.locs (loc' := [(1, .int 0), (0, .ref 76)]) [0, 1] rfl ?_
        refine V_eqL (loc' := [(1, .int (nI 0)), (0, .ref 76)]) ?_ ?_
        · rfl
        exact (lu3 0 (Nat.zero_le _) _ (by rw [u3_0]; exact hM) hS)
      · skip
        intro s hM hS
        have hR := hM.1
        refine V_iload_n dM_undo_94 rfl ?_
        refine V_bipush (v := 8) dM_undo_95 (by decide) ?_
        refine V_icmp_ge (tgt := 226) dM_undo_97 rfl (fun h => absurd h (nI_ge (a := n) (b := 8) hn (by decide))) (fun _ => ?_)
        refine V_aload_n dM_undo_100 rfl ?_
        refine V_getR (a := 78) dM_undo_101 flM_26 k76 rfl (r76_5 hR) ?_
        refine V_iload_n dM_undo_104 rfl ?_
        refine V_aload_n dM_undo_105 rfl ?_
        refine V_getR (a := 101) dM_undo_106 flM_151 k76 rfl (r76_46 hR) ?_
        refine V_iload_n dM_undo_109 rfl ?_
        refine V_ialdN (j := n) dM_undo_110 k101 rfl (by omega) (by decide) ?_
        refine V_topI (x' := gi M 101 n) (mR hM rfl) ?_
        refine V_iastN (j := n) dM_undo_111 k78 rfl (by omega) (by decide) ?_
        have hM : RM (cpM (upM (u2 n) 78 n (101, n)) M) (si s 78 n (gi M 101 n)) := by
          rw [← cp_step]
          exact RM_set hM
        have hS := hS.set (k := 78) (j := n) (x := gi M 101 n) (by decide)
        have hR := hM.1
        refine V_aload_n dM_undo_112 rfl ?_
        refine V_getR (a := 79) dM_undo_113 flM_29 k76 rfl (r76_6 hR) ?_
        refine V_iload_n dM_undo_116 rfl ?_
        refine V_aload_n dM_undo_117 rfl ?_
        refine V_getR (a := 102) dM_undo_118 flM_154 k76 rfl (r76_47 hR) ?_
        refine V_iload_n dM_undo_121 rfl ?_
        refine V_ialdN (j := n) dM_undo_122 k102 rfl (by omega) (by decide) ?_
        refine V_topI (x' := gi M 102 n) (mR hM rfl) ?_
        refine V_iastN (j := n) dM_undo_123 k79 rfl (by omega) (by decide) ?_
        have hM : RM (cpM (upM (upM (u2 n) 78 n (101, n)) 79 n (102, n)) M) (si (si s 78 n (gi M 101 n)) 79 n (gi M 102 n)) := by
          rw [← cp_step]
          exact RM_set hM
        have hS := hS.set (k := 79) (j := n) (x := gi M 102 n) (by decide)
        have hR := hM.1
        refine V_aload_n dM_undo_124 rfl ?_
        refine V_getR (a := 80) dM_undo_125 flM_32 k76 rfl (r76_7 hR) ?_
        refine V_iload_n dM_undo_128 rfl ?_
        refine V_aload_n dM_undo_129 rfl ?_
        refine V_getR (a := 103) dM_undo_130 flM_157 k76 rfl (r76_48 hR) ?_
        refine V_iload_n dM_undo_133 rfl ?_
        refine V_ialdN (j := n) dM_undo_134 k103 rfl (by omega) (by decide) ?_
        refine V_topI (x' := gi M 103 n) (mR hM rfl) ?_
        refine V_iastN (j := n) dM_undo_135 k80 rfl (by omega) (by decide) ?_
        have hM : RM (cpM (upM (upM (upM (u2 n) 78 n (101, n)) 79 n (102, n)) 80 n (103, n)) M) (si (si (si s 78 n (gi M 101 n)) 79 n (gi M 102 n)) 80 n (gi M 103 n)) := by
          rw [← cp_step]
          exact RM_set hM
        have hS := hS.set (k := 80) (j := n) (x := gi M 103 n) (by decide)
        have hR := hM.1
        refine V_aload_n dM_undo_136 rfl ?_
        refine V_getR (a := 81) dM_undo_137 flM_35 k76 rfl (r76_8 hR) ?_
        refine V_iload_n dM_undo_140 rfl ?_
        refine V_aload_n dM_undo_141 rfl ?_
        refine V_getR (a := 104) dM_undo_142 flM_160 k76 rfl (r76_49 hR) ?_
        refine V_iload_n dM_undo_145 rfl ?_
        refine V_ialdN (j := n) dM_undo_146 k104 rfl (by omega) (by decide) ?_
        refine V_topI (x' := gi M 104 n) (mR hM rfl) ?_
        refine V_iastN (j := n) dM_undo_147 k81 rfl (by omega) (by decide) ?_
        have hM : RM (cpM (upM (upM (upM (upM (u2 n) 78 n (101, n)) 79 n (102, n)) 80 n (103, n)) 81 n (104, n)) M) (si (si (si (si s 78 n (gi M 101 n)) 79 n (gi M 102 n)) 80 n (gi M 103 n)) 81 n (gi M 104 n)) := by
          rw [← cp_step]
          exact RM_set hM
        have hS := hS.set (k := 81) (j := n) (x := gi M 104 n) (by decide)
        have hR := hM.1
        refine V_aload_n dM_undo_148 rfl ?_
        refine V_getR (a := 82) dM_undo_149 flM_38 k76 rfl (r76_9 hR) ?_
        refine V_iload_n dM_undo_152 rfl ?_
        refine V_aload_n dM_undo_153 rfl ?_
        refine V_getR (a := 105) dM_undo_154 flM_163 k76 rfl (r76_50 hR) ?_
        refine V_iload_n dM_undo_157 rfl ?_
        refine V_ialdN (j := n) dM_undo_158 k105 rfl (by omega) (by decide) ?_
        refine V_topI (x' := gi M 105 n) (mR hM rfl) ?_
        refine V_iastN (j := n) dM_undo_159 k82 rfl (by omega) (by decide) ?_
        have hM : RM (cpM (upM (upM (upM (upM (upM (u2 n) 78 n (101, n)) 79 n (102, n)) 80 n (103, n)) 81 n (104, n)) 82 n (105, n)) M) (si (si (si (si (si s 78 n (gi M 101 n)) 79 n (gi M 102 n)) 80 n (gi M 103 n)) 81 n (gi M 104 n)) 82 n (gi M 105 n)) := by
          rw [← cp_step]
          exact RM_set hM
        have hS := hS.set (k := 82) (j := n) (x := gi M 105 n) (by decide)
        have hR := hM.1
        refine V_aload_n dM_undo_160 rfl ?_
        refine V_getR (a := 95) dM_undo_161 flM_105 k76 rfl (r76_31 hR) ?_
        refine V_iload_n dM_undo_164 rfl ?_
        refine V_aload_n dM_undo_165 rfl ?_
        refine V_getR (a := 107) dM_undo_166 flM_169 k76 rfl (r76_52 hR) ?_
        refine V_iload_n dM_undo_169 rfl ?_
        refine V_ialdN (j := n) dM_undo_170 k107 rfl (by omega) (by decide) ?_
        refine V_topI (x' := gi M 107 n) (mR hM rfl) ?_
        refine V_iastN (j := n) dM_undo_171 k95 rfl (by omega) (by decide) ?_
        have hM : RM (cpM (upM (upM (upM (upM (upM (upM (u2 n) 78 n (101, n)) 79 n (102, n)) 80 n (103, n)) 81 n (104, n)) 82 n (105, n)) 95 n (107, n)) M) (si (si (si (si (si (si s 78 n (gi M 101 n)) 79 n (gi M 102 n)) 80 n (gi M 103 n)) 81 n (gi M 104 n)) 82 n (gi M 105 n)) 95 n (gi M 107 n)) := by
          rw [← cp_step]
          exact RM_set hM
        have hS := hS.set (k := 95) (j := n) (x := gi M 107 n) (by decide)
        have hR := hM.1
        refine V_aload_n dM_undo_172 rfl ?_
        refine V_getR (a := 96) dM_undo_173 flM_108 k76 rfl (r76_32 hR) ?_
        refine V_iload_n dM_undo_176 rfl ?_
        refine V_aload_n dM_undo_177 rfl ?_
        refine V_getR (a := 111) dM_undo_178 flM_181 k76 rfl (r76_56 hR) ?_
        refine V_iload_n dM_undo_181 rfl ?_
        refine V_zaldN (j := n) dM_undo_182 k111 rfl (by omega) (by decide) ?_
        refine V_topI (x' := gi M 111 n) (mR hM rfl) ?_
        refine V_zastN (j := n) dM_undo_183 k96 rfl (by omega) (by decide) (hB n hn).2 ?_
        have hM : RM (cpM (upM (upM (upM (upM (upM (upM (upM (u2 n) 78 n (101, n)) 79 n (102, n)) 80 n (103, n)) 81 n (104, n)) 82 n (105, n)) 95 n (107, n)) 96 n (111, n)) M) (si (si (si (si (si (si (si s 78 n (gi M 101 n)) 79 n (gi M 102 n)) 80 n (gi M 103 n)) 81 n (gi M 104 n)) 82 n (gi M 105 n)) 95 n (gi M 107 n)) 96 n (gi M 111 n)) := by
          rw [← cp_step]
          exact RM_set hM
        have hS := hS.set (k := 96) (j := n) (x := gi M 111 n) (by decide)
        have hR := hM.1
        refine V_aload_n dM_undo_184 rfl ?_
        refine V_getR (a := 97) dM_undo_185 flM_114 k76 rfl (r76_34 hR) ?_
        refine V_iload_n dM_undo_188 rfl ?_
        refine V_aload_n dM_undo_189 rfl ?_
        refine V_getR (a := 108) dM_undo_190 flM_172 k76 rfl (r76_53 hR) ?_
        refine V_iload_n dM_undo_193 rfl ?_
        refine V_ialdN (j := n) dM_undo_194 k108 rfl (by omega) (by decide) ?_
        refine V_topI (x' := gi M 108 n) (mR hM rfl) ?_
        refine V_iastN (j := n) dM_undo_195 k97 rfl (by omega) (by decide) ?_
        have hM : RM (cpM (upM (upM (upM (upM (upM (upM (upM (upM (u2 n) 78 n (101, n)) 79 n (102, n)) 80 n (103, n)) 81 n (104, n)) 82 n (105, n)) 95 n (107, n)) 96 n (111, n)) 97 n (108, n)) M) (si (si (si (si (si (si (si (si s 78 n (gi M 101 n)) 79 n (gi M 102 n)) 80 n (gi M 103 n)) 81 n (gi M 104 n)) 82 n (gi M 105 n)) 95 n (gi M 107 n)) 96 n (gi M 111 n)) 97 n (gi M 108 n)) := by
          rw [← cp_step]
          exact RM_set hM
        have hS := hS.set (k := 97) (j := n) (x := gi M 108 n) (by decide)
        have hR := hM.1
        refine V_aload_n dM_undo_196 rfl ?_
        refine V_getR (a := 98) dM_undo_197 flM_117 k76 rfl (r76_35 hR) ?_
        refine V_iload_n dM_undo_200 rfl ?_
        refine V_aload_n dM_undo_201 rfl ?_
        refine V_getR (a := 109) dM_undo_202 flM_175 k76 rfl (r76_54 hR) ?_
        refine V_iload_n dM_undo_205 rfl ?_
        refine V_ialdN (j := n) dM_undo_206 k109 rfl (by omega) (by decide) ?_
        refine V_topI (x' := gi M 109 n) (mR hM rfl) ?_
        refine V_iastN (j := n) dM_undo_207 k98 rfl (by omega) (by decide) ?_
        have hM : RM (cpM (upM (upM (upM (upM (upM (upM (upM (upM (upM (u2 n) 78 n (101, n)) 79 n (102, n)) 80 n (103, n)) 81 n (104, n)) 82 n (105, n)) 95 n (107, n)) 96 n (111, n)) 97 n (108, n)) 98 n (109, n)) M) (si (si (si (si (si (si (si (si (si s 78 n (gi M 101 n)) 79 n (gi M 102 n)) 80 n (gi M 103 n)) 81 n (gi M 104 n)) 82 n (gi M 105 n)) 95 n (gi M 107 n)) 96 n (gi M 111 n)) 97 n (gi M 108 n)) 98 n (gi M 109 n)) := by
          rw [← cp_step]
          exact RM_set hM
        have hS := hS.set (k := 98) (j := n) (x := gi M 109 n) (by decide)
        have hR := hM.1
        refine V_aload_n dM_undo_208 rfl ?_
        refine V_getR (a := 99) dM_undo_209 flM_120 k76 rfl (r76_36 hR) ?_
        refine V_iload_n dM_undo_212 rfl ?_
        refine V_aload_n dM_undo_213 rfl ?_
        refine V_getR (a := 110) dM_undo_214 flM_178 k76 rfl (r76_55 hR) ?_
        refine V_iload_n dM_undo_217 rfl ?_
        refine V_ialdN (j := n) dM_undo_218 k110 rfl (by omega) (by decide) ?_
        refine V_topI (x' := gi M 110 n) (mR hM rfl) ?_
        refine V_iastN (j := n) dM_undo_219 k99 rfl (by omega) (by decide) ?_
        have hM : RM (cpM (u2 (n + 1)) M) (si (si (si (si (si (si (si (si (si (si s 78 n (gi M 101 n)) 79 n (gi M 102 n)) 80 n (gi M 103 n)) 81 n (gi M 104 n)) 82 n (gi M 105 n)) 95 n (gi M 107 n)) 96 n (gi M 111 n)) 97 n (gi M 108 n)) 98 n (gi M 109 n)) 99 n (gi M 110 n)) := by
          rw [← u2_s, ← cp_step]
          exact RM_set hM
        have hS := hS.set (k := 99) (j := n) (x := gi M 110 n) (by decide)
        have hR := hM.1
        refine V_iinc (v := nI (n + 1)) (loc' := [(1, .int (nI (n + 1))), (0, .ref 76)]) dM_undo_220 rfl (nI_inc n) (by decide) rfl ?_
        refine V_goto (tgt := 94) dM_undo_223 rfl ?_
        refine V.locs (loc' := [(1, .int (nI (n + 1))), (0, .ref 76)]) [0, 1] rfl ?_
        exact (ihn _ hM hS)
    have lu1 : ∀ n : Nat, n ≤ 6 → ∀ s : Hp, RM (cpM (u1 n) M) s → Sc σ s → V l G mM_undo (rmd 1 0 0) (KA.length + 0) 0 68 [(1, .int (nI n)), (0, .ref 76)] [] KA s (PM σ (q_undo M)) := by
      refine lp_up 6 ?_ (fun n hn ihn => ?_)
      · skip
        intro s hM hS
        have hR := hM.1
        refine V_iload_n dM_undo_68 rfl ?_
        refine V_bipush (v := 6) dM_undo_69 (by decide) ?_
        refine V_icmp_ge (tgt := 92) dM_undo_71 rfl (fun _ => ?_) (fun h => absurd h (not_not_intro (nI_le (a := 6) (b := 6) (by decide) (by decide))))
        refine V_iconst (v := 0) dM_undo_92 (by decide) ?_
        refine V_istore_n (loc' := [(1, .int 0), (0, .ref 76)]) dM_undo_93 (by decide) rfl ?_
        refine V.locs (loc' := [(1, .int 0), (0, .ref 76)]) [0, 1] rfl ?_
        refine V_eqL (loc' := [(1, .int (nI 0)), (0, .ref 76)]) ?_ ?_
        · rfl
        exact (lu2 0 (Nat.zero_le _) _ (by rw [u2_0]; exact hM) hS)
      · skip
        intro s hM hS
        have hR := hM.1
        refine V_iload_n dM_undo_68 rfl ?_
        refine V_bipush (v := 6) dM_undo_69 (by decide) ?_
        refine V_icmp_ge (tgt := 92) dM_undo_71 rfl (fun h => absurd h (nI_ge (a := n) (b := 6) hn (by decide))) (fun _ => ?_)
        refine V_aload_n dM_undo_74 rfl ?_
        refine V_getR (a := 77) dM_undo_75 flM_22 k76 rfl (r76_4 hR) ?_
        refine V_iload_n dM_undo_78 rfl ?_
        refine V_aload_n dM_undo_79 rfl ?_
        refine V_getR (a := 100) dM_undo_80 flM_148 k76 rfl (r76_45 hR) ?_
        refine V_iload_n dM_undo_83 rfl ?_
        refine V_ialdN (j := n) dM_undo_84 k100 rfl (by omega) (by decide) ?_
        refine V_topI (x' := gi M 100 n) (mR hM rfl) ?_
        refine V_iastN (j := n) dM_undo_85 k77 rfl (by omega) (by decide) ?_
        have hM : RM (cpM (u1 (n + 1)) M) (si s 77 n (gi M 100 n)) := by
          rw [← u1_s, ← cp_step]
          exact RM_set hM
        have hS := hS.set (k := 77) (j := n) (x := gi M 100 n) (by decide)
        have hR := hM.1
        refine V_iinc (v := nI (n + 1)) (loc' := [(1, .int (nI (n + 1))), (0, .ref 76)]) dM_undo_86 rfl (nI_inc n) (by decide) rfl ?_
        refine V_goto (tgt := 68) dM_undo_89 rfl ?_
        refine V.locs (loc' := [(1, .int (nI (n + 1))), (0, .ref 76)]) [0, 1] rfl ?_
        exact (ihn _ hM hS)
    refine V.locs (loc' := [(1, .int 0), (0, .ref 76)]) [0, 1] rfl ?_
    refine V_eqL (loc' := [(1, .int (nI 0)), (0, .ref 76)]) ?_ ?_
    · rfl
    exact (lu1 0 (Nat.zero_le _) _ (by rw [u1_0]; exact hM) hS)
  · skip
    refine V_bipush (v := -3) dM_undo_7 (by decide) ?_
    refine V_iret dM_undo_9 rfl rfl ?_
    rw [show q_undo M = (-3, M) from if_pos c4]
    exact ⟨rfl, rfl, hM, hS⟩
