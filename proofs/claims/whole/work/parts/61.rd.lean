/-! the reader of the first object: E, T and F, within one another-/
def anK (ch : Nat → Nat) (k p : Nat) : Rs := anyP ch (k + 1) k p
def onK (ch : Nat → Nat) (k p : Nat) : Rs := oneP ch (anK ch) k p
theorem one_cg {ch : Nat → Nat} {rc rc' : Nat → Nat → Rs} {k : Nat} (h : ∀ k', k' < k → ∀ q, rc k' q = rc' k' q) (p : Nat) : oneP ch rc k p = oneP ch rc' k p := by
  unfold oneP
  by_cases hc : bgs ch k p < k ∧ ch (p + bgs ch k p) = 40
  · rw [if_pos hc, if_pos hc, h _ (by omega)]
  · rw [if_neg hc, if_neg hc]
theorem any_fuel {ch : Nat → Nat} : ∀ f k p : Nat, k < f → anyP ch f k p = anK ch k p
  | 0, k, p, h => absurd h (Nat.not_lt_zero _)
  | f + 1, k, p, h => by
    show anP ch (oneP ch (anyP ch f) k) 100 0 ([], []) p = anP ch (oneP ch (anyP ch k) k) 100 0 ([], []) p
    have e : oneP ch (anyP ch f) k = oneP ch (anyP ch k) k := funext fun q => one_cg (fun k' hk' q' => (any_fuel f k' q' (by omega)).trans (any_fuel k k' q' hk').symm) q
    rw [e]
termination_by f k => f + k
theorem anK_eq (ch : Nat → Nat) (k p : Nat) : anK ch k p = anP ch (onK ch k) 100 0 ([], []) p := by
  show anP ch (oneP ch (anyP ch k) k) 100 0 ([], []) p = _
  have e : oneP ch (anyP ch k) k = onK ch k := funext fun q => one_cg (fun k' hk' q' => any_fuel k k' q' hk') q
  rw [e]
theorem anK_gd {ch : Nat → Nat} {N : Nat} (hch : ∀ q, N ≤ q → ch q = 255) (k : Nat) {q : Nat} (hq : q ≤ N) : Gd N q (2 * k + 3) (anK ch k q) := any_gd hch (k + 1) k q (Nat.lt_succ_self k) hq
theorem onK_gd {ch : Nat → Nat} {N : Nat} (hch : ∀ q, N ≤ q → ch q = 255) (k : Nat) {q : Nat} (hq : q ≤ N) : Gd N q (2 * k + 1) (onK ch k q) := one_gd hch (fun k' p' _ hp' => anK_gd hch k' hp') hq
theorem on_a {ch : Nat → Nat} {k p j : Nat} (hj : bgs ch k p = j) (h : j < k ∧ ch (p + j) = 40) : onK ch k p = notP j (clsP ch (anK ch (k - j - 1) (p + j + 1))) := by
  unfold onK oneP
  rw [hj, if_pos h]
theorem on_b {ch : Nat → Nat} {k p j : Nat} (hj : bgs ch k p = j) (h : ¬ (j < k ∧ ch (p + j) = 40)) : onK ch k p = notP j (tsP ch (p + j)) := by
  unfold onK oneP
  rw [hj, if_neg h]
theorem cls_t {ch : Nat → Nat} {a : Rs} (ha : a.1 = true) (h : ch a.2.1 = 41) : clsP ch a = (true, a.2.1 + 1, a.2.2) := by
  unfold clsP
  rw [if_pos ha, if_pos h]
theorem cls_f {ch : Nat → Nat} {a : Rs} (ha : a.1 = true) (h : ¬ ch a.2.1 = 41) : clsP ch a = (false, a.2.1, a.2.2) := by
  unfold clsP
  rw [if_pos ha, if_neg h]
theorem cls_n {ch : Nat → Nat} {a : Rs} (ha : a.1 = false) : clsP ch a = a := by
  unfold clsP
  rw [if_neg (by rw [ha]; decide)]
theorem rp_odd {σ t : Hp} {f n b j : Nat} {ops : List Nat} {r : Rs} (hr : r.1 = true) (hj : j % 2 = 1) (hS : RS σ t f n r.2.1 b (ops ++ r.2.2.1 ++ [30001])) : RP σ f n b ops (notP j r) (some (.int 1)) KA t := by
  unfold notP
  rw [if_pos hr, if_pos hj]
  refine Or.inl ⟨rfl, rfl, rfl, ?_⟩
  show RS σ t f n r.2.1 b (ops ++ (r.2.2.1 ++ [30001]))
  rw [← List.append_assoc]
  exact hS
theorem rp_even {σ t : Hp} {f n b j : Nat} {ops : List Nat} {r : Rs} (hr : r.1 = true) (hj : j % 2 = 0) (hS : RS σ t f n r.2.1 b (ops ++ r.2.2.1)) : RP σ f n b ops (notP j r) (some (.int 1)) KA t := by
  unfold notP
  rw [if_pos hr, if_neg (by omega), List.append_nil]
  exact Or.inl ⟨rfl, rfl, rfl, hS⟩
theorem rp_fail {σ t : Hp} {f n b b' j : Nat} {ops o : List Nat} {r : Rs} (hr : r.1 = false) (hS : RS σ t f n r.2.1 b' o) : RP σ f n b ops (notP j r) (some (.int 0)) KA t := by
  unfold notP
  rw [if_neg (by rw [hr]; decide)]
  exact Or.inr ⟨hr, rfl, rfl, b', o, hS⟩
theorem an_1 {ch : Nat → Nat} {one : Nat → Rs} {f n p : Nat} {acc : List Nat × List Nat} (h : (one p).1 = false) : anP ch one (f + 1) n acc p = one p := if_neg (by rw [h]; decide)
theorem an_2 {ch : Nat → Nat} {one : Nat → Rs} {f n p : Nat} {acc : List Nat × List Nat} (h : (one p).1 = true) (h2 : (tmP ch one 100 (one p)).1 = false) : anP ch one (f + 1) n acc p = tmP ch one 100 (one p) := (if_pos h).trans (if_neg (by rw [h2]; decide))
theorem an_3 {ch : Nat → Nat} {one : Nat → Rs} {f n p : Nat} {acc : List Nat × List Nat} (h : (one p).1 = true) (h2 : (tmP ch one 100 (one p)).1 = true) (h3 : ch (tmP ch one 100 (one p)).2.1 = 124) : anP ch one (f + 1) n acc p = anP ch one f (n + 1) (orP n acc (tmP ch one 100 (one p)).2.2) ((tmP ch one 100 (one p)).2.1 + 1) := (if_pos h).trans ((if_pos h2).trans (if_pos h3))
theorem an_4 {ch : Nat → Nat} {one : Nat → Rs} {f n p : Nat} {acc : List Nat × List Nat} (h : (one p).1 = true) (h2 : (tmP ch one 100 (one p)).1 = true) (h3 : ¬ ch (tmP ch one 100 (one p)).2.1 = 124) : anP ch one (f + 1) n acc p = (true, (tmP ch one 100 (one p)).2.1, orP n acc (tmP ch one 100 (one p)).2.2) := (if_pos h).trans ((if_pos h2).trans (if_neg h3))
theorem tm_1 {ch : Nat → Nat} {one : Nat → Rs} {f : Nat} {a : Rs} (h : ¬ ch a.2.1 = 38) : tmP ch one (f + 1) a = a := if_neg h
theorem tm_2 {ch : Nat → Nat} {one : Nat → Rs} {f : Nat} {a : Rs} (h : ch a.2.1 = 38) (h2 : (one (a.2.1 + 1)).1 = false) : tmP ch one (f + 1) a = one (a.2.1 + 1) := (if_pos h).trans (if_neg (by rw [h2]; decide))
theorem tm_3 {ch : Nat → Nat} {one : Nat → Rs} {f : Nat} {a : Rs} (h : ch a.2.1 = 38) (h2 : (one (a.2.1 + 1)).1 = true) : tmP ch one (f + 1) a = tmP ch one f (true, (one (a.2.1 + 1)).2.1, a.2.2.1 ++ (one (a.2.1 + 1)).2.2.1 ++ [30002], a.2.2.2 ++ (one (a.2.1 + 1)).2.2.2 ++ [30002]) := (if_pos h).trans (if_pos h2)
theorem c_rone0 {l : Launch} {G : GT} {ch : Nat → Nat} {σ s : Hp} {f n p b : Nat} {ops : List Nat} (hR0 : RF σ) (hf : f < 6) (hT : TX σ n ch) (hS : RS σ s f n p b ops) (hl : ops.length ≤ p) : MM l G mR_one 5 0 0 [.ref 58, .int 4] KA s (RP σ f n b ops (onK ch 0 p)) := by
  have hR := hS.rf hR0
  have hTs := hS.tx hf hT
  have hle := hS.le
  have h100 := hT.1
  refine MM.of (loc := [(0, .ref 58), (1, .int 4)]) (by decide +kernel) rfl (Nat.le_of_ble_eq_true rfl) ?_
  refine V_iload_n dR_one_0 rfl ?_
  refine V_istore_n (loc' := [(2, .int 4), (0, .ref 58), (1, .int 4)]) dR_one_1 (by decide) rfl ?_
  refine V_iconst (v := 0) dR_one_2 (by decide) ?_
  refine V_istore_n (loc' := [(3, .int 0), (2, .int 4), (0, .ref 58), (1, .int 4)]) dR_one_3 (by decide) rfl ?_
  refine V_iload_n dR_one_4 rfl ?_
  refine V_iconst (v := 4) dR_one_5 (by decide) ?_
  refine V_icmp_ge (tgt := 32) dR_one_6 rfl (fun h => absurd h (by decide)) (fun _ => ?_)
  refine V_iload_n dR_one_9 rfl ?_
  refine V_iconst (v := 4) dR_one_10 (by decide) ?_
  refine V_icmp_ge (tgt := 32) dR_one_11 rfl (fun _ => ?_) (fun h => absurd h (by decide))
  refine V_iload_n dR_one_32 rfl ?_
  refine V_iconst (v := 4) dR_one_33 (by decide) ?_
  refine V_icmp_ge (tgt := 74) dR_one_34 rfl (fun _ => ?_) (fun h => absurd h (by decide))
  refine V_aload_n dR_one_74 rfl ?_
  refine V_callV (as := []) (rest := []) (bs' := 0) rfl dR_one_75 cmR_test cvR_test mlR_74 (Or.inl ⟨_, _, _, _, _, rfl, k58, by decide, rfl⟩) rfl rfl (c_rtest hR0 hf hT hS (by omega)) (by decide) (Nat.le_refl _) (by decide) (Nat.le_of_ble_eq_true rfl) ?_
  rintro _ _ mT (⟨haT, rfl, rfl, hS⟩ | ⟨haT, rfl, rfl, b2, o2, hS⟩) -
  · refine V_one ?_
    have hR := hS.rf hR0
    have hTs := hS.tx hf hT
    have hleT := hS.le
    refine V_istore_n (loc' := [(3, .int 1), (2, .int 4), (0, .ref 58), (1, .int 4)]) dR_one_78 (by decide) rfl ?_
    refine V_iload_n dR_one_79 rfl ?_
    refine V_iload_n dR_one_80 rfl ?_
    refine V_isub dR_one_81 ?_
    refine V_topI (x' := 0) (by decide) ?_
    refine V_iconst (v := 2) dR_one_82 (by decide) ?_
    refine V_irem dR_one_83 (by decide) ?_
    refine V_topI (x' := 0) (by decide) ?_
    refine V_if_eq (tgt := 91) dR_one_84 rfl (fun _ => ?_) (fun h => absurd h (by decide))
    refine V_iconst (v := 0) dR_one_91 (by decide) ?_
    refine V_istore (loc' := [(4, .int 0), (3, .int 1), (2, .int 4), (0, .ref 58), (1, .int 4)]) dR_one_92 (by decide) rfl ?_
    refine V_iload_n dR_one_94 rfl ?_
    refine V_if_eq (tgt := 115) dR_one_95 rfl (fun h => absurd h (by decide)) (fun _ => ?_)
    refine V_iload dR_one_98 rfl ?_
    refine V_if_eq (tgt := 111) dR_one_100 rfl (fun _ => ?_) (fun h => absurd h (by decide))
    refine V_iconst (v := 1) dR_one_111 (by decide) ?_
    refine V_goto (tgt := 116) dR_one_112 rfl ?_
    refine V_zret dR_one_116 rfl rfl rfl ?_
    have hj : bgs ch 0 p = 0 := by
      show 0 = 0
      rfl
    rw [on_b hj (by rintro ⟨h1, h2⟩; first | exact absurd h1 (by decide) | exact ho h2)]
    exact rp_even haT (by decide) hS
  · refine V_one ?_
    refine V_istore_n (loc' := [(3, .int 0), (2, .int 4), (0, .ref 58), (1, .int 4)]) dR_one_78 (by decide) rfl ?_
    refine V_iload_n dR_one_79 rfl ?_
    refine V_iload_n dR_one_80 rfl ?_
    refine V_isub dR_one_81 ?_
    refine V_topI (x' := 0) (by decide) ?_
    refine V_iconst (v := 2) dR_one_82 (by decide) ?_
    refine V_irem dR_one_83 (by decide) ?_
    refine V_topI (x' := 0) (by decide) ?_
    refine V_if_eq (tgt := 91) dR_one_84 rfl (fun _ => ?_) (fun h => absurd h (by decide))
    refine V_iconst (v := 0) dR_one_91 (by decide) ?_
    refine V_istore (loc' := [(4, .int 0), (3, .int 0), (2, .int 4), (0, .ref 58), (1, .int 4)]) dR_one_92 (by decide) rfl ?_
    refine V_iload_n dR_one_94 rfl ?_
    refine V_if_eq (tgt := 115) dR_one_95 rfl (fun _ => ?_) (fun h => absurd h (by decide))
    refine V_iconst (v := 0) dR_one_115 (by decide) ?_
    refine V_zret dR_one_116 rfl rfl rfl ?_
    have hj : bgs ch 0 p = 0 := by
      show 0 = 0
      rfl
    rw [on_b hj (by rintro ⟨h1, h2⟩; first | exact absurd h1 (by decide) | exact ho h2)]
    exact rp_fail haT hS
theorem c_rany0 {l : Launch} {G : GT} {ch : Nat → Nat} {σ s : Hp} {f n p b : Nat} {ops : List Nat} (hR0 : RF σ) (hf : f < 6) (hT : TX σ n ch) (hS : RS σ s f n p b ops) (hl : ops.length ≤ p) : MM l G mR_any 6 0 0 [.ref 58, .int 4] KA s (RP σ f n b ops (anK ch 0 p)) := by
  have hR := hS.rf hR0
  have hTs := hS.tx hf hT
  have hle := hS.le
  have h100 := hT.1
  refine MM.of (loc := [(0, .ref 58), (1, .int 4)]) (by decide +kernel) rfl (Nat.le_of_ble_eq_true rfl) ?_
  rw [anK_eq]
  have lp : ∀ (F i : Nat), F + i = 100 → ∀ (acc : List Nat × List Nat) (q : Nat) (s : Hp), RS σ s f n q b (ops ++ (if i = 0 then [] else acc.1)) → (ops ++ (if i = 0 then [] else acc.1)).length + (if i = 0 then 0 else 1) ≤ q → V l G mR_any (rmd 6 0 0) (KA.length + 0) 0 2 [(2, .int (nI i)), (0, .ref 58), (1, .int 4)] [] KA s (RP σ f n b ops (anP ch (onK ch 0) F i acc q)) := by
    intro F
    induction F with
    | zero =>
      intro i hi acc q s hS hlen
      have hi2 : i = 100 := by omega
      subst hi2
      refine V_iload_n dR_any_2 rfl ?_
      refine V_bipush (v := 100) dR_any_3 (by decide) ?_
      refine V_icmp_ge (tgt := 92) dR_any_5 rfl (fun _ => ?_) (fun h => absurd h (not_not_intro (nI_le (a := 100) (b := 100) (by decide) (by decide))))
      refine V_iconst (v := 0) dR_any_92 (by decide) ?_
      exact V_zret dR_any_93 rfl rfl rfl (Or.inr ⟨rfl, rfl, rfl, b, _, hS⟩)
    | succ F ih =>
      intro i hi acc q s hS hlen
      have hR := hS.rf hR0
      have hTs := hS.tx hf hT
      have hle := hS.le
      generalize hO : ops ++ (if i = 0 then [] else acc.1) = ops1 at hS hlen
      have hog := onK_gd hT.2.2 0 (q := q) hle
      have htg : ∀ h : ((onK ch 0) q).1 = true, Gd n q (1 + 1) (tmP ch (onK ch 0) 100 ((onK ch 0) q)) := fun h => tm_gd hT.2.2 (fun q hq => onK_gd hT.2.2 0 hq) (p0 := q) 100 ((onK ch 0) q) (hog.mono (Nat.le_succ _)) h
      refine V_iload_n dR_any_2 rfl ?_
      refine V_bipush (v := 100) dR_any_3 (by decide) ?_
      refine V_icmp_ge (tgt := 92) dR_any_5 rfl (fun h => absurd h (nI_ge (a := i) (b := 100) (by omega) (by decide))) (fun _ => ?_)
      refine V_aload_n dR_any_8 rfl ?_
      refine V_iload_n dR_any_9 rfl ?_
      refine V_callV (as := [.int 4]) (rest := []) (bs' := 0) rfl dR_any_10 cmR_one cvR_one mlR_71 (Or.inl ⟨_, _, _, _, _, rfl, k58, by decide, rfl⟩) rfl rfl (c_rone0 hR0 hf hT hS (by omega)) (by decide) (Nat.le_refl _) (by decide) (Nat.le_of_ble_eq_true rfl) ?_
      rintro _ _ mO (⟨haO, rfl, rfl, hS⟩ | ⟨haO, rfl, rfl, b2, o2, hS⟩) -
      · refine V_one ?_
        have hR := hS.rf hR0
        have hTs := hS.tx hf hT
        have hleO := hS.le
        refine V_if_ne (tgt := 18) dR_any_13 rfl (fun _ => ?_) (fun h => absurd h (by decide))
        refine V_iconst (v := 0) dR_any_18 (by decide) ?_
        refine V_istore_n (loc' := [(3, .int 0), (2, .int (nI i)), (0, .ref 58), (1, .int 4)]) dR_any_19 (by decide) rfl ?_
        have hog2 := hog.2.2 haO
        have htg2 := htg haO
        have hT1 : ∀ t, tmP ch (onK ch 0) 100 ((onK ch 0) q) = t → t.1 = false → anP ch (onK ch 0) (F + 1) i acc q = t := fun t ht h => by rw [an_2 haO (by rw [ht]; exact h), ht]
        have hT3 : ∀ t, tmP ch (onK ch 0) 100 ((onK ch 0) q) = t → t.1 = true → ch t.2.1 = 124 → anP ch (onK ch 0) (F + 1) i acc q = anP ch (onK ch 0) F (i + 1) (orP i acc t.2.2) (t.2.1 + 1) := fun t ht h h2 => by rw [an_3 haO (by rw [ht]; exact h) (by rw [ht]; exact h2), ht]
        have hT4 : ∀ t, tmP ch (onK ch 0) 100 ((onK ch 0) q) = t → t.1 = true → ¬ ch t.2.1 = 124 → anP ch (onK ch 0) (F + 1) i acc q = (true, t.2.1, orP i acc t.2.2) := fun t ht h h2 => by rw [an_4 haO (by rw [ht]; exact h) (by rw [ht]; exact h2), ht]
        have lp2 : ∀ (F2 m : Nat), F2 + m = 100 → ∀ (a : Rs) (s : Hp), a.1 = true → tmP ch (onK ch 0) F2 a = tmP ch (onK ch 0) 100 ((onK ch 0) q) → RS σ s f n a.2.1 b (ops1 ++ a.2.2.1) → (ops1 ++ a.2.2.1).length ≤ a.2.1 → V l G mR_any (rmd 6 0 0) (KA.length + 0) 0 20 [(3, .int (nI m)), (2, .int (nI i)), (0, .ref 58), (1, .int 4)] [] KA s (RP σ f n b ops (anP ch (onK ch 0) (F + 1) i acc q)) := by
          have h60 : ∀ (s : Hp) (m : Nat), ∀ t : Rs, tmP ch (onK ch 0) 100 ((onK ch 0) q) = t → t.1 = true → RS σ s f n t.2.1 b (ops1 ++ t.2.2.1) → V l G mR_any (rmd 6 0 0) (KA.length + 0) 0 60 [(3, .int (nI m)), (2, .int (nI i)), (0, .ref 58), (1, .int 4)] [] KA s (RP σ f n b ops (anP ch (onK ch 0) (F + 1) i acc q)) := by
            intro s m t ht htt hS
            have hR := hS.rf hR0
            have hTs := hS.tx hf hT
            have hle2 := hS.le
            rw [ht] at htg2
            obtain ⟨u1, u2, u3⟩ := htg2
            obtain ⟨v1, v2, v3, v4⟩ := u3 htt
            have hc255 := tx_n hT t.2.1
            by_cases hi0 : i = 0
            · skip
              refine V_iload_n dR_any_60 rfl ?_
              refine V_if_le (tgt := 75) dR_any_61 rfl (fun _ => ?_) (fun h => absurd h (not_not_intro (by rw [hi0]; exact Int32.le_refl _)))
              refine V_aload_n dR_any_75 rfl ?_
              refine V_bipush (v := 124) dR_any_76 (by decide) ?_
              refine V_callV (as := [.int 124]) (rest := []) (bs' := 0) rfl dR_any_78 cmR_takes cvR_takes mlR_31 (Or.inl ⟨_, _, _, _, _, rfl, k58, by decide, rfl⟩) rfl rfl (c_rtakes hR0 hf hT hS (c := 124) (by decide)) (by decide) (Nat.le_refl _) (by decide) (Nat.le_of_ble_eq_true rfl) ?_
              rintro _ _ mk (⟨hbK, rfl, rfl, hS⟩ | ⟨hbK, rfl, rfl, rfl⟩) -
              · refine V_one ?_
                refine V_if_ne (tgt := 86) dR_any_81 rfl (fun _ => ?_) (fun h => absurd h (by decide))
                refine V_iinc (v := nI (i + 1)) (loc' := [(2, .int (nI (i + 1))), (3, .int (nI m)), (0, .ref 58), (1, .int 4)]) dR_any_86 rfl (nI_inc i) (by decide) rfl ?_
                refine V_goto (tgt := 2) dR_any_89 rfl ?_
                have eo : ops ++ (orP i acc t.2.2).1 = ops1 ++ t.2.2.1 := by
                  rw [← hO]
                  simp [orP, hi0]
                have en : ops ++ (if i + 1 = 0 then [] else (orP i acc t.2.2).1) = ops1 ++ t.2.2.1 := by rw [if_neg (Nat.succ_ne_zero i)]; exact eo
                rw [hT3 t ht htt hbK]
                refine V.locs (loc' := [(2, .int (nI (i + 1))), (0, .ref 58), (1, .int 4)]) [0, 2, 3] rfl ?_
                exact (ih (i + 1) (by omega) (orP i acc t.2.2) (t.2.1 + 1) _ (by rw [en]; exact hS) (by rw [en]; simp only [List.length_append, List.length_singleton]; rw [if_neg (Nat.succ_ne_zero i)]; rw [if_pos hi0] at hlen; omega))
              · refine V_one ?_
                refine V_if_ne (tgt := 86) dR_any_81 rfl (fun h => absurd h (by decide)) (fun _ => ?_)
                refine V_iconst (v := 1) dR_any_84 (by decide) ?_
                refine V_zret dR_any_85 rfl rfl rfl ?_
                have eo : ops ++ (orP i acc t.2.2).1 = ops1 ++ t.2.2.1 := by
                  rw [← hO]
                  simp [orP, hi0]
                rw [hT4 t ht htt hbK]
                exact Or.inl ⟨rfl, rfl, rfl, by rw [eo]; exact hS⟩
            · skip
              refine V_iload_n dR_any_60 rfl ?_
              refine V_if_le (tgt := 75) dR_any_61 rfl (fun h => absurd h (nI_nle (by omega) (by omega))) (fun _ => ?_)
              refine V_aload_n dR_any_64 rfl ?_
              refine V_bipush (v := -3) dR_any_65 (by decide) ?_
              refine V_callV (as := [.int (-3)]) (rest := []) (bs' := 0) rfl dR_any_67 cmR_writes cvR_writes mlR_68 (Or.inl ⟨_, _, _, _, _, rfl, k58, by decide, rfl⟩) rfl rfl (c_rwrites hR0 hf hT hS (op := 30003) (by decide) (by rw [if_neg hi0] at hlen; rw [List.length_append]; omega)) (by decide) (Nat.le_refl _) (by decide) (Nat.le_of_ble_eq_true rfl) ?_
              rintro _ _ m67 ⟨rfl, rfl, hS⟩ -
              refine V_one ?_
              have hR := hS.rf hR0
              have hTs := hS.tx hf hT
              refine V_if_ne (tgt := 75) dR_any_70 rfl (fun _ => ?_) (fun h => absurd h (by decide))
              refine V_aload_n dR_any_75 rfl ?_
              refine V_bipush (v := 124) dR_any_76 (by decide) ?_
              refine V_callV (as := [.int 124]) (rest := []) (bs' := 0) rfl dR_any_78 cmR_takes cvR_takes mlR_31 (Or.inl ⟨_, _, _, _, _, rfl, k58, by decide, rfl⟩) rfl rfl (c_rtakes hR0 hf hT hS (c := 124) (by decide)) (by decide) (Nat.le_refl _) (by decide) (Nat.le_of_ble_eq_true rfl) ?_
              rintro _ _ mk (⟨hbK, rfl, rfl, hS⟩ | ⟨hbK, rfl, rfl, rfl⟩) -
              · refine V_one ?_
                refine V_if_ne (tgt := 86) dR_any_81 rfl (fun _ => ?_) (fun h => absurd h (by decide))
                refine V_iinc (v := nI (i + 1)) (loc' := [(2, .int (nI (i + 1))), (3, .int (nI m)), (0, .ref 58), (1, .int 4)]) dR_any_86 rfl (nI_inc i) (by decide) rfl ?_
                refine V_goto (tgt := 2) dR_any_89 rfl ?_
                have eo : ops ++ (orP i acc t.2.2).1 = ops1 ++ t.2.2.1 ++ [30003] := by
                  rw [← hO]
                  simp [orP, hi0]
                have en : ops ++ (if i + 1 = 0 then [] else (orP i acc t.2.2).1) = ops1 ++ t.2.2.1 ++ [30003] := by rw [if_neg (Nat.succ_ne_zero i)]; exact eo
                rw [hT3 t ht htt hbK]
                refine V.locs (loc' := [(2, .int (nI (i + 1))), (0, .ref 58), (1, .int 4)]) [0, 2, 3] rfl ?_
                exact (ih (i + 1) (by omega) (orP i acc t.2.2) (t.2.1 + 1) _ (by rw [en]; exact hS) (by rw [en]; simp only [List.length_append, List.length_singleton]; rw [if_neg (Nat.succ_ne_zero i)]; rw [if_neg hi0] at hlen; omega))
              · refine V_one ?_
                refine V_if_ne (tgt := 86) dR_any_81 rfl (fun h => absurd h (by decide)) (fun _ => ?_)
                refine V_iconst (v := 1) dR_any_84 (by decide) ?_
                refine V_zret dR_any_85 rfl rfl rfl ?_
                have eo : ops ++ (orP i acc t.2.2).1 = ops1 ++ t.2.2.1 ++ [30003] := by
                  rw [← hO]
                  simp [orP, hi0]
                rw [hT4 t ht htt hbK]
                exact Or.inl ⟨rfl, rfl, rfl, by rw [eo]; exact hS⟩
          intro F2
          induction F2 with
          | zero =>
            intro m hm a s ha ht hS hl2
            have hm2 : m = 100 := by omega
            subst hm2
            refine V_iload_n dR_any_20 rfl ?_
            refine V_bipush (v := 100) dR_any_21 (by decide) ?_
            refine V_icmp_ge (tgt := 60) dR_any_23 rfl (fun _ => ?_) (fun h => absurd h (not_not_intro (nI_le (a := 100) (b := 100) (by decide) (by decide))))
            refine V.locs (loc' := [(3, .int (nI 100)), (2, .int (nI i)), (0, .ref 58), (1, .int 4)]) [0, 1, 2, 3] rfl ?_
            exact (h60 _ _ a (ht.symm.trans rfl) ha hS)
          | succ F2 ih2 =>
            intro m hm a s ha ht hS hl2
            have hR := hS.rf hR0
            have hTs := hS.tx hf hT
            have hle3 := hS.le
            refine V_iload_n dR_any_20 rfl ?_
            refine V_bipush (v := 100) dR_any_21 (by decide) ?_
            refine V_icmp_ge (tgt := 60) dR_any_23 rfl (fun h => absurd h (nI_ge (a := m) (b := 100) (by omega) (by decide))) (fun _ => ?_)
            refine V_aload_n dR_any_26 rfl ?_
            refine V_bipush (v := 38) dR_any_27 (by decide) ?_
            refine V_callV (as := [.int 38]) (rest := []) (bs' := 0) rfl dR_any_29 cmR_takes cvR_takes mlR_31 (Or.inl ⟨_, _, _, _, _, rfl, k58, by decide, rfl⟩) rfl rfl (c_rtakes hR0 hf hT hS (c := 38) (by decide)) (by decide) (Nat.le_refl _) (by decide) (Nat.le_of_ble_eq_true rfl) ?_
            rintro _ _ mA (⟨hbA, rfl, rfl, hS⟩ | ⟨hbA, rfl, rfl, rfl⟩) -
            · refine V_one ?_
              have hR := hS.rf hR0
              have hTs := hS.tx hf hT
              have hle4 := hS.le
              refine V_if_eq (tgt := 60) dR_any_32 rfl (fun h => absurd h (by decide)) (fun _ => ?_)
              refine V_aload_n dR_any_35 rfl ?_
              refine V_iload_n dR_any_36 rfl ?_
              refine V_callV (as := [.int 4]) (rest := []) (bs' := 0) rfl dR_any_37 cmR_one cvR_one mlR_71 (Or.inl ⟨_, _, _, _, _, rfl, k58, by decide, rfl⟩) rfl rfl (c_rone0 hR0 hf hT hS (by omega)) (by decide) (Nat.le_refl _) (by decide) (Nat.le_of_ble_eq_true rfl) ?_
              rintro _ _ mP (⟨haP, rfl, rfl, hS⟩ | ⟨haP, rfl, rfl, b2, o2, hS⟩) -
              · refine V_one ?_
                have hR := hS.rf hR0
                have hTs := hS.tx hf hT
                have hleP := hS.le
                refine V_if_eq (tgt := 52) dR_any_40 rfl (fun h => absurd h (by decide)) (fun _ => ?_)
                refine V_aload_n dR_any_43 rfl ?_
                refine V_bipush (v := -2) dR_any_44 (by decide) ?_
                refine V_callV (as := [.int (-2)]) (rest := []) (bs' := 0) rfl dR_any_46 cmR_writes cvR_writes mlR_68 (Or.inl ⟨_, _, _, _, _, rfl, k58, by decide, rfl⟩) rfl rfl (c_rwrites hR0 hf hT hS (op := 30002) (by decide) (by have hg3 := (onK_gd hT.2.2 0 (q := a.2.1 + 1) (by omega)).2.2 haP; rw [List.length_append]; omega)) (by decide) (Nat.le_refl _) (by decide) (Nat.le_of_ble_eq_true rfl) ?_
                rintro _ _ m46 ⟨rfl, rfl, hS⟩ -
                refine V_one ?_
                have hR := hS.rf hR0
                have hTs := hS.tx hf hT
                refine V_if_ne (tgt := 54) dR_any_49 rfl (fun _ => ?_) (fun h => absurd h (by decide))
                refine V_iinc (v := nI (m + 1)) (loc' := [(3, .int (nI (m + 1))), (2, .int (nI i)), (0, .ref 58), (1, .int 4)]) dR_any_54 rfl (nI_inc m) (by decide) rfl ?_
                refine V_goto (tgt := 20) dR_any_57 rfl ?_
                have hg3 := (onK_gd hT.2.2 0 (q := a.2.1 + 1) (by omega)).2.2 haP
                refine V.locs (loc' := [(3, .int (nI (m + 1))), (2, .int (nI i)), (0, .ref 58), (1, .int 4)]) [0, 1, 2, 3] rfl ?_
                exact (ih2 (m + 1) (by omega) (true, ((onK ch 0) (a.2.1 + 1)).2.1, a.2.2.1 ++ ((onK ch 0) (a.2.1 + 1)).2.2.1 ++ [30002], a.2.2.2 ++ ((onK ch 0) (a.2.1 + 1)).2.2.2 ++ [30002]) _ rfl ((tm_3 hbA haP).symm.trans ht) (by simp only [List.append_assoc] at hS ⊢; exact hS) (by simp only [List.length_append, List.length_singleton] at hl2 ⊢; omega))
              · refine V_one ?_
                refine V_if_eq (tgt := 52) dR_any_40 rfl (fun _ => ?_) (fun h => absurd h (by decide))
                refine V_iconst (v := 0) dR_any_52 (by decide) ?_
                refine V_zret dR_any_53 rfl rfl rfl ?_
                rw [hT1 ((onK ch 0) (a.2.1 + 1)) (ht.symm.trans (tm_2 hbA haP)) haP]
                exact Or.inr ⟨haP, rfl, rfl, b2, o2, hS⟩
            · refine V_one ?_
              refine V_if_eq (tgt := 60) dR_any_32 rfl (fun _ => ?_) (fun h => absurd h (by decide))
              refine V.locs (loc' := [(3, .int (nI m)), (2, .int (nI i)), (0, .ref 58), (1, .int 4)]) [0, 1, 2, 3] rfl ?_
              exact (h60 _ _ a (ht.symm.trans (tm_1 hbA)) ha hS)
        refine V.locs (loc' := [(3, .int 0), (2, .int (nI i)), (0, .ref 58), (1, .int 4)]) [0, 1, 2, 3] rfl ?_
        refine V_eqL (loc' := [(3, .int (nI 0)), (2, .int (nI i)), (0, .ref 58), (1, .int 4)]) ?_ ?_
        · rfl
        exact (lp2 100 0 rfl ((onK ch 0) q) _ haO rfl hS (by rw [List.length_append]; omega))
      · refine V_one ?_
        refine V_if_ne (tgt := 18) dR_any_13 rfl (fun h => absurd h (by decide)) (fun _ => ?_)
        refine V_iconst (v := 0) dR_any_16 (by decide) ?_
        refine V_zret dR_any_17 rfl rfl rfl ?_
        rw [an_1 haO]
        exact Or.inr ⟨haO, rfl, rfl, b2, o2, hS⟩
  refine V_iconst (v := 0) dR_any_0 (by decide) ?_
  refine V_istore_n (loc' := [(2, .int 0), (0, .ref 58), (1, .int 4)]) dR_any_1 (by decide) rfl ?_
  refine V.locs (loc' := [(2, .int 0), (0, .ref 58), (1, .int 4)]) [0, 1, 2] rfl ?_
  refine V_eqL (loc' := [(2, .int (nI 0)), (0, .ref 58), (1, .int 4)]) ?_ ?_
  · rfl
  exact (lp 100 0 rfl ([], []) p s (by rw [if_pos rfl, List.append_nil]; exact hS) (by rw [if_pos rfl, if_pos rfl, List.append_nil]; exact hl))
theorem c_rone1 {l : Launch} {G : GT} {ch : Nat → Nat} {σ s : Hp} {f n p b : Nat} {ops : List Nat} (hR0 : RF σ) (hf : f < 6) (hT : TX σ n ch) (hS : RS σ s f n p b ops) (hl : ops.length ≤ p) : MM l G mR_one 7 0 0 [.ref 58, .int 3] KA s (RP σ f n b ops (onK ch 1 p)) := by
  have hR := hS.rf hR0
  have hTs := hS.tx hf hT
  have hle := hS.le
  have h100 := hT.1
  refine MM.of (loc := [(0, .ref 58), (1, .int 3)]) (by decide +kernel) rfl (Nat.le_of_ble_eq_true rfl) ?_
  refine V_iload_n dR_one_0 rfl ?_
  refine V_istore_n (loc' := [(2, .int 3), (0, .ref 58), (1, .int 3)]) dR_one_1 (by decide) rfl ?_
  refine V_iconst (v := 0) dR_one_2 (by decide) ?_
  refine V_istore_n (loc' := [(3, .int 0), (2, .int 3), (0, .ref 58), (1, .int 3)]) dR_one_3 (by decide) rfl ?_
  refine V_iload_n dR_one_4 rfl ?_
  refine V_iconst (v := 4) dR_one_5 (by decide) ?_
  refine V_icmp_ge (tgt := 32) dR_one_6 rfl (fun h => absurd h (by decide)) (fun _ => ?_)
  refine V_iload_n dR_one_9 rfl ?_
  refine V_iconst (v := 4) dR_one_10 (by decide) ?_
  refine V_icmp_ge (tgt := 32) dR_one_11 rfl (fun h => absurd h (by decide)) (fun _ => ?_)
  refine V_aload_n dR_one_14 rfl ?_
  refine V_bipush (v := 33) dR_one_15 (by decide) ?_
  refine V_callV (as := [.int 33]) (rest := []) (bs' := 0) rfl dR_one_17 cmR_takes cvR_takes mlR_31 (Or.inl ⟨_, _, _, _, _, rfl, k58, by decide, rfl⟩) rfl rfl (c_rtakes hR0 hf hT hS (c := 33) (by decide)) (by decide) (Nat.le_refl _) (by decide) (Nat.le_of_ble_eq_true rfl) ?_
  rintro _ _ m0 (⟨hw0, rfl, rfl, hS⟩ | ⟨hv, rfl, rfl, rfl⟩) -
  · refine V_one ?_
    have hR := hS.rf hR0
    have hTs := hS.tx hf hT
    have hlw0 := hS.le
    refine V_if_eq (tgt := 32) dR_one_20 rfl (fun h => absurd h (by decide)) (fun _ => ?_)
    refine V_iinc (v := 4) (loc' := [(2, .int 4), (3, .int 0), (0, .ref 58), (1, .int 3)]) dR_one_23 rfl (by decide) (by decide) rfl ?_
    refine V_iinc (v := 1) (loc' := [(3, .int 1), (2, .int 4), (0, .ref 58), (1, .int 3)]) dR_one_26 rfl (by decide) (by decide) rfl ?_
    refine V_goto (tgt := 4) dR_one_29 rfl ?_
    refine V_iload_n dR_one_4 rfl ?_
    refine V_iconst (v := 4) dR_one_5 (by decide) ?_
    refine V_icmp_ge (tgt := 32) dR_one_6 rfl (fun h => absurd h (by decide)) (fun _ => ?_)
    refine V_iload_n dR_one_9 rfl ?_
    refine V_iconst (v := 4) dR_one_10 (by decide) ?_
    refine V_icmp_ge (tgt := 32) dR_one_11 rfl (fun _ => ?_) (fun h => absurd h (by decide))
    refine V_iload_n dR_one_32 rfl ?_
    refine V_iconst (v := 4) dR_one_33 (by decide) ?_
    refine V_icmp_ge (tgt := 74) dR_one_34 rfl (fun _ => ?_) (fun h => absurd h (by decide))
    refine V_aload_n dR_one_74 rfl ?_
    refine V_callV (as := []) (rest := []) (bs' := 0) rfl dR_one_75 cmR_test cvR_test mlR_74 (Or.inl ⟨_, _, _, _, _, rfl, k58, by decide, rfl⟩) rfl rfl (c_rtest hR0 hf hT hS (by omega)) (by decide) (Nat.le_refl _) (by decide) (Nat.le_of_ble_eq_true rfl) ?_
    rintro _ _ mT (⟨haT, rfl, rfl, hS⟩ | ⟨haT, rfl, rfl, b2, o2, hS⟩) -
    · refine V_one ?_
      have hR := hS.rf hR0
      have hTs := hS.tx hf hT
      have hleT := hS.le
      refine V_istore_n (loc' := [(3, .int 1), (2, .int 4), (0, .ref 58), (1, .int 3)]) dR_one_78 (by decide) rfl ?_
      refine V_iload_n dR_one_79 rfl ?_
      refine V_iload_n dR_one_80 rfl ?_
      refine V_isub dR_one_81 ?_
      refine V_topI (x' := 1) (by decide) ?_
      refine V_iconst (v := 2) dR_one_82 (by decide) ?_
      refine V_irem dR_one_83 (by decide) ?_
      refine V_topI (x' := 1) (by decide) ?_
      refine V_if_eq (tgt := 91) dR_one_84 rfl (fun h => absurd h (by decide)) (fun _ => ?_)
      refine V_iconst (v := 1) dR_one_87 (by decide) ?_
      refine V_goto (tgt := 92) dR_one_88 rfl ?_
      refine V_istore (loc' := [(4, .int 1), (3, .int 1), (2, .int 4), (0, .ref 58), (1, .int 3)]) dR_one_92 (by decide) rfl ?_
      refine V_iload_n dR_one_94 rfl ?_
      refine V_if_eq (tgt := 115) dR_one_95 rfl (fun h => absurd h (by decide)) (fun _ => ?_)
      refine V_iload dR_one_98 rfl ?_
      refine V_if_eq (tgt := 111) dR_one_100 rfl (fun h => absurd h (by decide)) (fun _ => ?_)
      refine V_aload_n dR_one_103 rfl ?_
      refine V_iconst (v := -1) dR_one_104 (by decide) ?_
      refine V_callV (as := [.int (-1)]) (rest := []) (bs' := 0) rfl dR_one_105 cmR_writes cvR_writes mlR_68 (Or.inl ⟨_, _, _, _, _, rfl, k58, by decide, rfl⟩) rfl rfl (c_rwrites hR0 hf hT hS (op := 30001) (by decide) (by have hg := (ts_gd hT.2.2 (p := p + 1) (by omega)).2.2 haT; rw [List.length_append]; omega)) (by decide) (Nat.le_refl _) (by decide) (Nat.le_of_ble_eq_true rfl) ?_
      rintro _ _ m105 ⟨rfl, rfl, hS⟩ -
      refine V_one ?_
      have hR := hS.rf hR0
      have hTs := hS.tx hf hT
      refine V_if_eq (tgt := 115) dR_one_108 rfl (fun h => absurd h (by decide)) (fun _ => ?_)
      refine V_iconst (v := 1) dR_one_111 (by decide) ?_
      refine V_goto (tgt := 116) dR_one_112 rfl ?_
      refine V_zret dR_one_116 rfl rfl rfl ?_
      have hj : bgs ch 1 p = 1 := by
        show (if ch (p) = 33 then 0 + 1 else 0) = 1
        rw [if_pos hw0]
      rw [on_b hj (by rintro ⟨h1, h2⟩; first | exact absurd h1 (by decide) | exact ho h2)]
      exact rp_odd haT (by decide) hS
    · refine V_one ?_
      refine V_istore_n (loc' := [(3, .int 0), (2, .int 4), (0, .ref 58), (1, .int 3)]) dR_one_78 (by decide) rfl ?_
      refine V_iload_n dR_one_79 rfl ?_
      refine V_iload_n dR_one_80 rfl ?_
      refine V_isub dR_one_81 ?_
      refine V_topI (x' := 1) (by decide) ?_
      refine V_iconst (v := 2) dR_one_82 (by decide) ?_
      refine V_irem dR_one_83 (by decide) ?_
      refine V_topI (x' := 1) (by decide) ?_
      refine V_if_eq (tgt := 91) dR_one_84 rfl (fun h => absurd h (by decide)) (fun _ => ?_)
      refine V_iconst (v := 1) dR_one_87 (by decide) ?_
      refine V_goto (tgt := 92) dR_one_88 rfl ?_
      refine V_istore (loc' := [(4, .int 1), (3, .int 0), (2, .int 4), (0, .ref 58), (1, .int 3)]) dR_one_92 (by decide) rfl ?_
      refine V_iload_n dR_one_94 rfl ?_
      refine V_if_eq (tgt := 115) dR_one_95 rfl (fun _ => ?_) (fun h => absurd h (by decide))
      refine V_iconst (v := 0) dR_one_115 (by decide) ?_
      refine V_zret dR_one_116 rfl rfl rfl ?_
      have hj : bgs ch 1 p = 1 := by
        show (if ch (p) = 33 then 0 + 1 else 0) = 1
        rw [if_pos hw0]
      rw [on_b hj (by rintro ⟨h1, h2⟩; first | exact absurd h1 (by decide) | exact ho h2)]
      exact rp_fail haT hS
  · refine V_one ?_
    refine V_if_eq (tgt := 32) dR_one_20 rfl (fun _ => ?_) (fun h => absurd h (by decide))
    refine V_iload_n dR_one_32 rfl ?_
    refine V_iconst (v := 4) dR_one_33 (by decide) ?_
    refine V_icmp_ge (tgt := 74) dR_one_34 rfl (fun h => absurd h (by decide)) (fun _ => ?_)
    refine V_aload_n dR_one_37 rfl ?_
    refine V_bipush (v := 40) dR_one_38 (by decide) ?_
    refine V_callV (as := [.int 40]) (rest := []) (bs' := 0) rfl dR_one_40 cmR_takes cvR_takes mlR_31 (Or.inl ⟨_, _, _, _, _, rfl, k58, by decide, rfl⟩) rfl rfl (c_rtakes hR0 hf hT hS (c := 40) (by decide)) (by decide) (Nat.le_refl _) (by decide) (Nat.le_of_ble_eq_true rfl) ?_
    rintro _ _ mo (⟨ho, rfl, rfl, hS⟩ | ⟨ho, rfl, rfl, rfl⟩) -
    · refine V_one ?_
      have hR := hS.rf hR0
      have hTs := hS.tx hf hT
      have hlo := hS.le
      refine V_if_eq (tgt := 74) dR_one_43 rfl (fun h => absurd h (by decide)) (fun _ => ?_)
      refine V_aload_n dR_one_46 rfl ?_
      refine V_iload_n dR_one_47 rfl ?_
      refine V_iconst (v := 1) dR_one_48 (by decide) ?_
      refine V_iadd dR_one_49 ?_
      refine V_topI (x' := 4) (by decide) ?_
      refine V_callV (as := [.int 4]) (rest := []) (bs' := 0) rfl dR_one_50 cmR_any cvR_any mlR_64 (Or.inl ⟨_, _, _, _, _, rfl, k58, by decide, rfl⟩) rfl rfl (c_rany0 hR0 hf hT hS (by omega)) (by decide) (Nat.le_refl _) (by decide) (Nat.le_of_ble_eq_true rfl) ?_
      rintro _ _ mA (⟨haA, rfl, rfl, hS⟩ | ⟨haA, rfl, rfl, b2, o2, hS⟩) -
      · refine V_one ?_
        have hR := hS.rf hR0
        have hTs := hS.tx hf hT
        have hleA := hS.le
        refine V_if_eq (tgt := 69) dR_one_53 rfl (fun h => absurd h (by decide)) (fun _ => ?_)
        refine V_aload_n dR_one_56 rfl ?_
        refine V_bipush (v := 41) dR_one_57 (by decide) ?_
        refine V_callV (as := [.int 41]) (rest := []) (bs' := 0) rfl dR_one_59 cmR_takes cvR_takes mlR_31 (Or.inl ⟨_, _, _, _, _, rfl, k58, by decide, rfl⟩) rfl rfl (c_rtakes hR0 hf hT hS (c := 41) (by decide)) (by decide) (Nat.le_refl _) (by decide) (Nat.le_of_ble_eq_true rfl) ?_
        rintro _ _ mc (⟨hcl, rfl, rfl, hS⟩ | ⟨hcl, rfl, rfl, rfl⟩) -
        · refine V_one ?_
          have hR := hS.rf hR0
          have hTs := hS.tx hf hT
          have hlc := hS.le
          refine V_if_eq (tgt := 69) dR_one_62 rfl (fun h => absurd h (by decide)) (fun _ => ?_)
          refine V_iconst (v := 1) dR_one_65 (by decide) ?_
          refine V_goto (tgt := 70) dR_one_66 rfl ?_
          refine V_istore_n (loc' := [(3, .int 1), (2, .int 3), (0, .ref 58), (1, .int 3)]) dR_one_70 (by decide) rfl ?_
          refine V_goto (tgt := 79) dR_one_71 rfl ?_
          refine V_iload_n dR_one_79 rfl ?_
          refine V_iload_n dR_one_80 rfl ?_
          refine V_isub dR_one_81 ?_
          refine V_topI (x' := 0) (by decide) ?_
          refine V_iconst (v := 2) dR_one_82 (by decide) ?_
          refine V_irem dR_one_83 (by decide) ?_
          refine V_topI (x' := 0) (by decide) ?_
          refine V_if_eq (tgt := 91) dR_one_84 rfl (fun _ => ?_) (fun h => absurd h (by decide))
          refine V_iconst (v := 0) dR_one_91 (by decide) ?_
          refine V_istore (loc' := [(4, .int 0), (3, .int 1), (2, .int 3), (0, .ref 58), (1, .int 3)]) dR_one_92 (by decide) rfl ?_
          refine V_iload_n dR_one_94 rfl ?_
          refine V_if_eq (tgt := 115) dR_one_95 rfl (fun h => absurd h (by decide)) (fun _ => ?_)
          refine V_iload dR_one_98 rfl ?_
          refine V_if_eq (tgt := 111) dR_one_100 rfl (fun _ => ?_) (fun h => absurd h (by decide))
          refine V_iconst (v := 1) dR_one_111 (by decide) ?_
          refine V_goto (tgt := 116) dR_one_112 rfl ?_
          refine V_zret dR_one_116 rfl rfl rfl ?_
          have hj : bgs ch 1 p = 0 := by
            show (if ch (p) = 33 then bgs ch 0 (p + 1) + 1 else 0) = 0
            rw [if_neg hv]
          rw [on_a hj ⟨by decide, ho⟩]
          rw [cls_t haA hcl]
          exact rp_even rfl (by decide) hS
        · refine V_one ?_
          refine V_if_eq (tgt := 69) dR_one_62 rfl (fun _ => ?_) (fun h => absurd h (by decide))
          refine V_iconst (v := 0) dR_one_69 (by decide) ?_
          refine V_istore_n (loc' := [(3, .int 0), (2, .int 3), (0, .ref 58), (1, .int 3)]) dR_one_70 (by decide) rfl ?_
          refine V_goto (tgt := 79) dR_one_71 rfl ?_
          refine V_iload_n dR_one_79 rfl ?_
          refine V_iload_n dR_one_80 rfl ?_
          refine V_isub dR_one_81 ?_
          refine V_topI (x' := 0) (by decide) ?_
          refine V_iconst (v := 2) dR_one_82 (by decide) ?_
          refine V_irem dR_one_83 (by decide) ?_
          refine V_topI (x' := 0) (by decide) ?_
          refine V_if_eq (tgt := 91) dR_one_84 rfl (fun _ => ?_) (fun h => absurd h (by decide))
          refine V_iconst (v := 0) dR_one_91 (by decide) ?_
          refine V_istore (loc' := [(4, .int 0), (3, .int 0), (2, .int 3), (0, .ref 58), (1, .int 3)]) dR_one_92 (by decide) rfl ?_
          refine V_iload_n dR_one_94 rfl ?_
          refine V_if_eq (tgt := 115) dR_one_95 rfl (fun _ => ?_) (fun h => absurd h (by decide))
          refine V_iconst (v := 0) dR_one_115 (by decide) ?_
          refine V_zret dR_one_116 rfl rfl rfl ?_
          have hj : bgs ch 1 p = 0 := by
            show (if ch (p) = 33 then bgs ch 0 (p + 1) + 1 else 0) = 0
            rw [if_neg hv]
          rw [on_a hj ⟨by decide, ho⟩]
          rw [cls_f haA hcl]
          exact rp_fail rfl hS
      · refine V_one ?_
        refine V_if_eq (tgt := 69) dR_one_53 rfl (fun _ => ?_) (fun h => absurd h (by decide))
        refine V_iconst (v := 0) dR_one_69 (by decide) ?_
        refine V_istore_n (loc' := [(3, .int 0), (2, .int 3), (0, .ref 58), (1, .int 3)]) dR_one_70 (by decide) rfl ?_
        refine V_goto (tgt := 79) dR_one_71 rfl ?_
        refine V_iload_n dR_one_79 rfl ?_
        refine V_iload_n dR_one_80 rfl ?_
        refine V_isub dR_one_81 ?_
        refine V_topI (x' := 0) (by decide) ?_
        refine V_iconst (v := 2) dR_one_82 (by decide) ?_
        refine V_irem dR_one_83 (by decide) ?_
        refine V_topI (x' := 0) (by decide) ?_
        refine V_if_eq (tgt := 91) dR_one_84 rfl (fun _ => ?_) (fun h => absurd h (by decide))
        refine V_iconst (v := 0) dR_one_91 (by decide) ?_
        refine V_istore (loc' := [(4, .int 0), (3, .int 0), (2, .int 3), (0, .ref 58), (1, .int 3)]) dR_one_92 (by decide) rfl ?_
        refine V_iload_n dR_one_94 rfl ?_
        refine V_if_eq (tgt := 115) dR_one_95 rfl (fun _ => ?_) (fun h => absurd h (by decide))
        refine V_iconst (v := 0) dR_one_115 (by decide) ?_
        refine V_zret dR_one_116 rfl rfl rfl ?_
        have hj : bgs ch 1 p = 0 := by
          show (if ch (p) = 33 then bgs ch 0 (p + 1) + 1 else 0) = 0
          rw [if_neg hv]
        rw [on_a hj ⟨by decide, ho⟩]
        rw [cls_n haA]
        exact rp_fail haA hS
    · refine V_one ?_
      refine V_if_eq (tgt := 74) dR_one_43 rfl (fun _ => ?_) (fun h => absurd h (by decide))
      refine V_aload_n dR_one_74 rfl ?_
      refine V_callV (as := []) (rest := []) (bs' := 0) rfl dR_one_75 cmR_test cvR_test mlR_74 (Or.inl ⟨_, _, _, _, _, rfl, k58, by decide, rfl⟩) rfl rfl (c_rtest hR0 hf hT hS (by omega)) (by decide) (Nat.le_refl _) (by decide) (Nat.le_of_ble_eq_true rfl) ?_
      rintro _ _ mT (⟨haT, rfl, rfl, hS⟩ | ⟨haT, rfl, rfl, b2, o2, hS⟩) -
      · refine V_one ?_
        have hR := hS.rf hR0
        have hTs := hS.tx hf hT
        have hleT := hS.le
        refine V_istore_n (loc' := [(3, .int 1), (2, .int 3), (0, .ref 58), (1, .int 3)]) dR_one_78 (by decide) rfl ?_
        refine V_iload_n dR_one_79 rfl ?_
        refine V_iload_n dR_one_80 rfl ?_
        refine V_isub dR_one_81 ?_
        refine V_topI (x' := 0) (by decide) ?_
        refine V_iconst (v := 2) dR_one_82 (by decide) ?_
        refine V_irem dR_one_83 (by decide) ?_
        refine V_topI (x' := 0) (by decide) ?_
        refine V_if_eq (tgt := 91) dR_one_84 rfl (fun _ => ?_) (fun h => absurd h (by decide))
        refine V_iconst (v := 0) dR_one_91 (by decide) ?_
        refine V_istore (loc' := [(4, .int 0), (3, .int 1), (2, .int 3), (0, .ref 58), (1, .int 3)]) dR_one_92 (by decide) rfl ?_
        refine V_iload_n dR_one_94 rfl ?_
        refine V_if_eq (tgt := 115) dR_one_95 rfl (fun h => absurd h (by decide)) (fun _ => ?_)
        refine V_iload dR_one_98 rfl ?_
        refine V_if_eq (tgt := 111) dR_one_100 rfl (fun _ => ?_) (fun h => absurd h (by decide))
        refine V_iconst (v := 1) dR_one_111 (by decide) ?_
        refine V_goto (tgt := 116) dR_one_112 rfl ?_
        refine V_zret dR_one_116 rfl rfl rfl ?_
        have hj : bgs ch 1 p = 0 := by
          show (if ch (p) = 33 then bgs ch 0 (p + 1) + 1 else 0) = 0
          rw [if_neg hv]
        rw [on_b hj (by rintro ⟨h1, h2⟩; first | exact absurd h1 (by decide) | exact ho h2)]
        exact rp_even haT (by decide) hS
      · refine V_one ?_
        refine V_istore_n (loc' := [(3, .int 0), (2, .int 3), (0, .ref 58), (1, .int 3)]) dR_one_78 (by decide) rfl ?_
        refine V_iload_n dR_one_79 rfl ?_
        refine V_iload_n dR_one_80 rfl ?_
        refine V_isub dR_one_81 ?_
        refine V_topI (x' := 0) (by decide) ?_
        refine V_iconst (v := 2) dR_one_82 (by decide) ?_
        refine V_irem dR_one_83 (by decide) ?_
        refine V_topI (x' := 0) (by decide) ?_
        refine V_if_eq (tgt := 91) dR_one_84 rfl (fun _ => ?_) (fun h => absurd h (by decide))
        refine V_iconst (v := 0) dR_one_91 (by decide) ?_
        refine V_istore (loc' := [(4, .int 0), (3, .int 0), (2, .int 3), (0, .ref 58), (1, .int 3)]) dR_one_92 (by decide) rfl ?_
        refine V_iload_n dR_one_94 rfl ?_
        refine V_if_eq (tgt := 115) dR_one_95 rfl (fun _ => ?_) (fun h => absurd h (by decide))
        refine V_iconst (v := 0) dR_one_115 (by decide) ?_
        refine V_zret dR_one_116 rfl rfl rfl ?_
        have hj : bgs ch 1 p = 0 := by
          show (if ch (p) = 33 then bgs ch 0 (p + 1) + 1 else 0) = 0
          rw [if_neg hv]
        rw [on_b hj (by rintro ⟨h1, h2⟩; first | exact absurd h1 (by decide) | exact ho h2)]
        exact rp_fail haT hS
theorem c_rany1 {l : Launch} {G : GT} {ch : Nat → Nat} {σ s : Hp} {f n p b : Nat} {ops : List Nat} (hR0 : RF σ) (hf : f < 6) (hT : TX σ n ch) (hS : RS σ s f n p b ops) (hl : ops.length ≤ p) : MM l G mR_any 8 0 0 [.ref 58, .int 3] KA s (RP σ f n b ops (anK ch 1 p)) := by
  have hR := hS.rf hR0
  have hTs := hS.tx hf hT
  have hle := hS.le
  have h100 := hT.1
  refine MM.of (loc := [(0, .ref 58), (1, .int 3)]) (by decide +kernel) rfl (Nat.le_of_ble_eq_true rfl) ?_
  rw [anK_eq]
  have lp : ∀ (F i : Nat), F + i = 100 → ∀ (acc : List Nat × List Nat) (q : Nat) (s : Hp), RS σ s f n q b (ops ++ (if i = 0 then [] else acc.1)) → (ops ++ (if i = 0 then [] else acc.1)).length + (if i = 0 then 0 else 1) ≤ q → V l G mR_any (rmd 8 0 0) (KA.length + 0) 0 2 [(2, .int (nI i)), (0, .ref 58), (1, .int 3)] [] KA s (RP σ f n b ops (anP ch (onK ch 1) F i acc q)) := by
    intro F
    induction F with
    | zero =>
      intro i hi acc q s hS hlen
      have hi2 : i = 100 := by omega
      subst hi2
      refine V_iload_n dR_any_2 rfl ?_
      refine V_bipush (v := 100) dR_any_3 (by decide) ?_
      refine V_icmp_ge (tgt := 92) dR_any_5 rfl (fun _ => ?_) (fun h => absurd h (not_not_intro (nI_le (a := 100) (b := 100) (by decide) (by decide))))
      refine V_iconst (v := 0) dR_any_92 (by decide) ?_
      exact V_zret dR_any_93 rfl rfl rfl (Or.inr ⟨rfl, rfl, rfl, b, _, hS⟩)
    | succ F ih =>
      intro i hi acc q s hS hlen
      have hR := hS.rf hR0
      have hTs := hS.tx hf hT
      have hle := hS.le
      generalize hO : ops ++ (if i = 0 then [] else acc.1) = ops1 at hS hlen
      have hog := onK_gd hT.2.2 1 (q := q) hle
      have htg : ∀ h : ((onK ch 1) q).1 = true, Gd n q (3 + 1) (tmP ch (onK ch 1) 100 ((onK ch 1) q)) := fun h => tm_gd hT.2.2 (fun q hq => onK_gd hT.2.2 1 hq) (p0 := q) 100 ((onK ch 1) q) (hog.mono (Nat.le_succ _)) h
      refine V_iload_n dR_any_2 rfl ?_
      refine V_bipush (v := 100) dR_any_3 (by decide) ?_
      refine V_icmp_ge (tgt := 92) dR_any_5 rfl (fun h => absurd h (nI_ge (a := i) (b := 100) (by omega) (by decide))) (fun _ => ?_)
      refine V_aload_n dR_any_8 rfl ?_
      refine V_iload_n dR_any_9 rfl ?_
      refine V_callV (as := [.int 3]) (rest := []) (bs' := 0) rfl dR_any_10 cmR_one cvR_one mlR_71 (Or.inl ⟨_, _, _, _, _, rfl, k58, by decide, rfl⟩) rfl rfl (c_rone1 hR0 hf hT hS (by omega)) (by decide) (Nat.le_refl _) (by decide) (Nat.le_of_ble_eq_true rfl) ?_
      rintro _ _ mO (⟨haO, rfl, rfl, hS⟩ | ⟨haO, rfl, rfl, b2, o2, hS⟩) -
      · refine V_one ?_
        have hR := hS.rf hR0
        have hTs := hS.tx hf hT
        have hleO := hS.le
        refine V_if_ne (tgt := 18) dR_any_13 rfl (fun _ => ?_) (fun h => absurd h (by decide))
        refine V_iconst (v := 0) dR_any_18 (by decide) ?_
        refine V_istore_n (loc' := [(3, .int 0), (2, .int (nI i)), (0, .ref 58), (1, .int 3)]) dR_any_19 (by decide) rfl ?_
        have hog2 := hog.2.2 haO
        have htg2 := htg haO
        have hT1 : ∀ t, tmP ch (onK ch 1) 100 ((onK ch 1) q) = t → t.1 = false → anP ch (onK ch 1) (F + 1) i acc q = t := fun t ht h => by rw [an_2 haO (by rw [ht]; exact h), ht]
        have hT3 : ∀ t, tmP ch (onK ch 1) 100 ((onK ch 1) q) = t → t.1 = true → ch t.2.1 = 124 → anP ch (onK ch 1) (F + 1) i acc q = anP ch (onK ch 1) F (i + 1) (orP i acc t.2.2) (t.2.1 + 1) := fun t ht h h2 => by rw [an_3 haO (by rw [ht]; exact h) (by rw [ht]; exact h2), ht]
        have hT4 : ∀ t, tmP ch (onK ch 1) 100 ((onK ch 1) q) = t → t.1 = true → ¬ ch t.2.1 = 124 → anP ch (onK ch 1) (F + 1) i acc q = (true, t.2.1, orP i acc t.2.2) := fun t ht h h2 => by rw [an_4 haO (by rw [ht]; exact h) (by rw [ht]; exact h2), ht]
        have lp2 : ∀ (F2 m : Nat), F2 + m = 100 → ∀ (a : Rs) (s : Hp), a.1 = true → tmP ch (onK ch 1) F2 a = tmP ch (onK ch 1) 100 ((onK ch 1) q) → RS σ s f n a.2.1 b (ops1 ++ a.2.2.1) → (ops1 ++ a.2.2.1).length ≤ a.2.1 → V l G mR_any (rmd 8 0 0) (KA.length + 0) 0 20 [(3, .int (nI m)), (2, .int (nI i)), (0, .ref 58), (1, .int 3)] [] KA s (RP σ f n b ops (anP ch (onK ch 1) (F + 1) i acc q)) := by
          have h60 : ∀ (s : Hp) (m : Nat), ∀ t : Rs, tmP ch (onK ch 1) 100 ((onK ch 1) q) = t → t.1 = true → RS σ s f n t.2.1 b (ops1 ++ t.2.2.1) → V l G mR_any (rmd 8 0 0) (KA.length + 0) 0 60 [(3, .int (nI m)), (2, .int (nI i)), (0, .ref 58), (1, .int 3)] [] KA s (RP σ f n b ops (anP ch (onK ch 1) (F + 1) i acc q)) := by
            intro s m t ht htt hS
            have hR := hS.rf hR0
            have hTs := hS.tx hf hT
            have hle2 := hS.le
            rw [ht] at htg2
            obtain ⟨u1, u2, u3⟩ := htg2
            obtain ⟨v1, v2, v3, v4⟩ := u3 htt
            have hc255 := tx_n hT t.2.1
            by_cases hi0 : i = 0
            · skip
              refine V_iload_n dR_any_60 rfl ?_
              refine V_if_le (tgt := 75) dR_any_61 rfl (fun _ => ?_) (fun h => absurd h (not_not_intro (by rw [hi0]; exact Int32.le_refl _)))
              refine V_aload_n dR_any_75 rfl ?_
              refine V_bipush (v := 124) dR_any_76 (by decide) ?_
              refine V_callV (as := [.int 124]) (rest := []) (bs' := 0) rfl dR_any_78 cmR_takes cvR_takes mlR_31 (Or.inl ⟨_, _, _, _, _, rfl, k58, by decide, rfl⟩) rfl rfl (c_rtakes hR0 hf hT hS (c := 124) (by decide)) (by decide) (Nat.le_refl _) (by decide) (Nat.le_of_ble_eq_true rfl) ?_
              rintro _ _ mk (⟨hbK, rfl, rfl, hS⟩ | ⟨hbK, rfl, rfl, rfl⟩) -
              · refine V_one ?_
                refine V_if_ne (tgt := 86) dR_any_81 rfl (fun _ => ?_) (fun h => absurd h (by decide))
                refine V_iinc (v := nI (i + 1)) (loc' := [(2, .int (nI (i + 1))), (3, .int (nI m)), (0, .ref 58), (1, .int 3)]) dR_any_86 rfl (nI_inc i) (by decide) rfl ?_
                refine V_goto (tgt := 2) dR_any_89 rfl ?_
                have eo : ops ++ (orP i acc t.2.2).1 = ops1 ++ t.2.2.1 := by
                  rw [← hO]
                  simp [orP, hi0]
                have en : ops ++ (if i + 1 = 0 then [] else (orP i acc t.2.2).1) = ops1 ++ t.2.2.1 := by rw [if_neg (Nat.succ_ne_zero i)]; exact eo
                rw [hT3 t ht htt hbK]
                refine V.locs (loc' := [(2, .int (nI (i + 1))), (0, .ref 58), (1, .int 3)]) [0, 2, 3] rfl ?_
                exact (ih (i + 1) (by omega) (orP i acc t.2.2) (t.2.1 + 1) _ (by rw [en]; exact hS) (by rw [en]; simp only [List.length_append, List.length_singleton]; rw [if_neg (Nat.succ_ne_zero i)]; rw [if_pos hi0] at hlen; omega))
              · refine V_one ?_
                refine V_if_ne (tgt := 86) dR_any_81 rfl (fun h => absurd h (by decide)) (fun _ => ?_)
                refine V_iconst (v := 1) dR_any_84 (by decide) ?_
                refine V_zret dR_any_85 rfl rfl rfl ?_
                have eo : ops ++ (orP i acc t.2.2).1 = ops1 ++ t.2.2.1 := by
                  rw [← hO]
                  simp [orP, hi0]
                rw [hT4 t ht htt hbK]
                exact Or.inl ⟨rfl, rfl, rfl, by rw [eo]; exact hS⟩
            · skip
              refine V_iload_n dR_any_60 rfl ?_
              refine V_if_le (tgt := 75) dR_any_61 rfl (fun h => absurd h (nI_nle (by omega) (by omega))) (fun _ => ?_)
              refine V_aload_n dR_any_64 rfl ?_
              refine V_bipush (v := -3) dR_any_65 (by decide) ?_
              refine V_callV (as := [.int (-3)]) (rest := []) (bs' := 0) rfl dR_any_67 cmR_writes cvR_writes mlR_68 (Or.inl ⟨_, _, _, _, _, rfl, k58, by decide, rfl⟩) rfl rfl (c_rwrites hR0 hf hT hS (op := 30003) (by decide) (by rw [if_neg hi0] at hlen; rw [List.length_append]; omega)) (by decide) (Nat.le_refl _) (by decide) (Nat.le_of_ble_eq_true rfl) ?_
              rintro _ _ m67 ⟨rfl, rfl, hS⟩ -
              refine V_one ?_
              have hR := hS.rf hR0
              have hTs := hS.tx hf hT
              refine V_if_ne (tgt := 75) dR_any_70 rfl (fun _ => ?_) (fun h => absurd h (by decide))
              refine V_aload_n dR_any_75 rfl ?_
              refine V_bipush (v := 124) dR_any_76 (by decide) ?_
              refine V_callV (as := [.int 124]) (rest := []) (bs' := 0) rfl dR_any_78 cmR_takes cvR_takes mlR_31 (Or.inl ⟨_, _, _, _, _, rfl, k58, by decide, rfl⟩) rfl rfl (c_rtakes hR0 hf hT hS (c := 124) (by decide)) (by decide) (Nat.le_refl _) (by decide) (Nat.le_of_ble_eq_true rfl) ?_
              rintro _ _ mk (⟨hbK, rfl, rfl, hS⟩ | ⟨hbK, rfl, rfl, rfl⟩) -
              · refine V_one ?_
                refine V_if_ne (tgt := 86) dR_any_81 rfl (fun _ => ?_) (fun h => absurd h (by decide))
                refine V_iinc (v := nI (i + 1)) (loc' := [(2, .int (nI (i + 1))), (3, .int (nI m)), (0, .ref 58), (1, .int 3)]) dR_any_86 rfl (nI_inc i) (by decide) rfl ?_
                refine V_goto (tgt := 2) dR_any_89 rfl ?_
                have eo : ops ++ (orP i acc t.2.2).1 = ops1 ++ t.2.2.1 ++ [30003] := by
                  rw [← hO]
                  simp [orP, hi0]
                have en : ops ++ (if i + 1 = 0 then [] else (orP i acc t.2.2).1) = ops1 ++ t.2.2.1 ++ [30003] := by rw [if_neg (Nat.succ_ne_zero i)]; exact eo
                rw [hT3 t ht htt hbK]
                refine V.locs (loc' := [(2, .int (nI (i + 1))), (0, .ref 58), (1, .int 3)]) [0, 2, 3] rfl ?_
                exact (ih (i + 1) (by omega) (orP i acc t.2.2) (t.2.1 + 1) _ (by rw [en]; exact hS) (by rw [en]; simp only [List.length_append, List.length_singleton]; rw [if_neg (Nat.succ_ne_zero i)]; rw [if_neg hi0] at hlen; omega))
              · refine V_one ?_
                refine V_if_ne (tgt := 86) dR_any_81 rfl (fun h => absurd h (by decide)) (fun _ => ?_)
                refine V_iconst (v := 1) dR_any_84 (by decide) ?_
                refine V_zret dR_any_85 rfl rfl rfl ?_
                have eo : ops ++ (orP i acc t.2.2).1 = ops1 ++ t.2.2.1 ++ [30003] := by
                  rw [← hO]
                  simp [orP, hi0]
                rw [hT4 t ht htt hbK]
                exact Or.inl ⟨rfl, rfl, rfl, by rw [eo]; exact hS⟩
          intro F2
          induction F2 with
          | zero =>
            intro m hm a s ha ht hS hl2
            have hm2 : m = 100 := by omega
            subst hm2
            refine V_iload_n dR_any_20 rfl ?_
            refine V_bipush (v := 100) dR_any_21 (by decide) ?_
            refine V_icmp_ge (tgt := 60) dR_any_23 rfl (fun _ => ?_) (fun h => absurd h (not_not_intro (nI_le (a := 100) (b := 100) (by decide) (by decide))))
            refine V.locs (loc' := [(3, .int (nI 100)), (2, .int (nI i)), (0, .ref 58), (1, .int 3)]) [0, 1, 2, 3] rfl ?_
            exact (h60 _ _ a (ht.symm.trans rfl) ha hS)
          | succ F2 ih2 =>
            intro m hm a s ha ht hS hl2
            have hR := hS.rf hR0
            have hTs := hS.tx hf hT
            have hle3 := hS.le
            refine V_iload_n dR_any_20 rfl ?_
            refine V_bipush (v := 100) dR_any_21 (by decide) ?_
            refine V_icmp_ge (tgt := 60) dR_any_23 rfl (fun h => absurd h (nI_ge (a := m) (b := 100) (by omega) (by decide))) (fun _ => ?_)
            refine V_aload_n dR_any_26 rfl ?_
            refine V_bipush (v := 38) dR_any_27 (by decide) ?_
            refine V_callV (as := [.int 38]) (rest := []) (bs' := 0) rfl dR_any_29 cmR_takes cvR_takes mlR_31 (Or.inl ⟨_, _, _, _, _, rfl, k58, by decide, rfl⟩) rfl rfl (c_rtakes hR0 hf hT hS (c := 38) (by decide)) (by decide) (Nat.le_refl _) (by decide) (Nat.le_of_ble_eq_true rfl) ?_
            rintro _ _ mA (⟨hbA, rfl, rfl, hS⟩ | ⟨hbA, rfl, rfl, rfl⟩) -
            · refine V_one ?_
              have hR := hS.rf hR0
              have hTs := hS.tx hf hT
              have hle4 := hS.le
              refine V_if_eq (tgt := 60) dR_any_32 rfl (fun h => absurd h (by decide)) (fun _ => ?_)
              refine V_aload_n dR_any_35 rfl ?_
              refine V_iload_n dR_any_36 rfl ?_
              refine V_callV (as := [.int 3]) (rest := []) (bs' := 0) rfl dR_any_37 cmR_one cvR_one mlR_71 (Or.inl ⟨_, _, _, _, _, rfl, k58, by decide, rfl⟩) rfl rfl (c_rone1 hR0 hf hT hS (by omega)) (by decide) (Nat.le_refl _) (by decide) (Nat.le_of_ble_eq_true rfl) ?_
              rintro _ _ mP (⟨haP, rfl, rfl, hS⟩ | ⟨haP, rfl, rfl, b2, o2, hS⟩) -
              · refine V_one ?_
                have hR := hS.rf hR0
                have hTs := hS.tx hf hT
                have hleP := hS.le
                refine V_if_eq (tgt := 52) dR_any_40 rfl (fun h => absurd h (by decide)) (fun _ => ?_)
                refine V_aload_n dR_any_43 rfl ?_
                refine V_bipush (v := -2) dR_any_44 (by decide) ?_
                refine V_callV (as := [.int (-2)]) (rest := []) (bs' := 0) rfl dR_any_46 cmR_writes cvR_writes mlR_68 (Or.inl ⟨_, _, _, _, _, rfl, k58, by decide, rfl⟩) rfl rfl (c_rwrites hR0 hf hT hS (op := 30002) (by decide) (by have hg3 := (onK_gd hT.2.2 1 (q := a.2.1 + 1) (by omega)).2.2 haP; rw [List.length_append]; omega)) (by decide) (Nat.le_refl _) (by decide) (Nat.le_of_ble_eq_true rfl) ?_
                rintro _ _ m46 ⟨rfl, rfl, hS⟩ -
                refine V_one ?_
                have hR := hS.rf hR0
                have hTs := hS.tx hf hT
                refine V_if_ne (tgt := 54) dR_any_49 rfl (fun _ => ?_) (fun h => absurd h (by decide))
                refine V_iinc (v := nI (m + 1)) (loc' := [(3, .int (nI (m + 1))), (2, .int (nI i)), (0, .ref 58), (1, .int 3)]) dR_any_54 rfl (nI_inc m) (by decide) rfl ?_
                refine V_goto (tgt := 20) dR_any_57 rfl ?_
                have hg3 := (onK_gd hT.2.2 1 (q := a.2.1 + 1) (by omega)).2.2 haP
                refine V.locs (loc' := [(3, .int (nI (m + 1))), (2, .int (nI i)), (0, .ref 58), (1, .int 3)]) [0, 1, 2, 3] rfl ?_
                exact (ih2 (m + 1) (by omega) (true, ((onK ch 1) (a.2.1 + 1)).2.1, a.2.2.1 ++ ((onK ch 1) (a.2.1 + 1)).2.2.1 ++ [30002], a.2.2.2 ++ ((onK ch 1) (a.2.1 + 1)).2.2.2 ++ [30002]) _ rfl ((tm_3 hbA haP).symm.trans ht) (by simp only [List.append_assoc] at hS ⊢; exact hS) (by simp only [List.length_append, List.length_singleton] at hl2 ⊢; omega))
              · refine V_one ?_
                refine V_if_eq (tgt := 52) dR_any_40 rfl (fun _ => ?_) (fun h => absurd h (by decide))
                refine V_iconst (v := 0) dR_any_52 (by decide) ?_
                refine V_zret dR_any_53 rfl rfl rfl ?_
                rw [hT1 ((onK ch 1) (a.2.1 + 1)) (ht.symm.trans (tm_2 hbA haP)) haP]
                exact Or.inr ⟨haP, rfl, rfl, b2, o2, hS⟩
            · refine V_one ?_
              refine V_if_eq (tgt := 60) dR_any_32 rfl (fun _ => ?_) (fun h => absurd h (by decide))
              refine V.locs (loc' := [(3, .int (nI m)), (2, .int (nI i)), (0, .ref 58), (1, .int 3)]) [0, 1, 2, 3] rfl ?_
              exact (h60 _ _ a (ht.symm.trans (tm_1 hbA)) ha hS)
        refine V.locs (loc' := [(3, .int 0), (2, .int (nI i)), (0, .ref 58), (1, .int 3)]) [0, 1, 2, 3] rfl ?_
        refine V_eqL (loc' := [(3, .int (nI 0)), (2, .int (nI i)), (0, .ref 58), (1, .int 3)]) ?_ ?_
        · rfl
        exact (lp2 100 0 rfl ((onK ch 1) q) _ haO rfl hS (by rw [List.length_append]; omega))
      · refine V_one ?_
        refine V_if_ne (tgt := 18) dR_any_13 rfl (fun h => absurd h (by decide)) (fun _ => ?_)
        refine V_iconst (v := 0) dR_any_16 (by decide) ?_
        refine V_zret dR_any_17 rfl rfl rfl ?_
        rw [an_1 haO]
        exact Or.inr ⟨haO, rfl, rfl, b2, o2, hS⟩
  refine V_iconst (v := 0) dR_any_0 (by decide) ?_
  refine V_istore_n (loc' := [(2, .int 0), (0, .ref 58), (1, .int 3)]) dR_any_1 (by decide) rfl ?_
  refine V.locs (loc' := [(2, .int 0), (0, .ref 58), (1, .int 3)]) [0, 1, 2] rfl ?_
  refine V_eqL (loc' := [(2, .int (nI 0)), (0, .ref 58), (1, .int 3)]) ?_ ?_
  · rfl
  exact (lp 100 0 rfl ([], []) p s (by rw [if_pos rfl, List.append_nil]; exact hS) (by rw [if_pos rfl, if_pos rfl, List.append_nil]; exact hl))
theorem c_rone2 {l : Launch} {G : GT} {ch : Nat → Nat} {σ s : Hp} {f n p b : Nat} {ops : List Nat} (hR0 : RF σ) (hf : f < 6) (hT : TX σ n ch) (hS : RS σ s f n p b ops) (hl : ops.length ≤ p) : MM l G mR_one 9 0 0 [.ref 58, .int 2] KA s (RP σ f n b ops (onK ch 2 p)) := by
  have hR := hS.rf hR0
  have hTs := hS.tx hf hT
  have hle := hS.le
  have h100 := hT.1
  refine MM.of (loc := [(0, .ref 58), (1, .int 2)]) (by decide +kernel) rfl (Nat.le_of_ble_eq_true rfl) ?_
  refine V_iload_n dR_one_0 rfl ?_
  refine V_istore_n (loc' := [(2, .int 2), (0, .ref 58), (1, .int 2)]) dR_one_1 (by decide) rfl ?_
  refine V_iconst (v := 0) dR_one_2 (by decide) ?_
  refine V_istore_n (loc' := [(3, .int 0), (2, .int 2), (0, .ref 58), (1, .int 2)]) dR_one_3 (by decide) rfl ?_
  refine V_iload_n dR_one_4 rfl ?_
  refine V_iconst (v := 4) dR_one_5 (by decide) ?_
  refine V_icmp_ge (tgt := 32) dR_one_6 rfl (fun h => absurd h (by decide)) (fun _ => ?_)
  refine V_iload_n dR_one_9 rfl ?_
  refine V_iconst (v := 4) dR_one_10 (by decide) ?_
  refine V_icmp_ge (tgt := 32) dR_one_11 rfl (fun h => absurd h (by decide)) (fun _ => ?_)
  refine V_aload_n dR_one_14 rfl ?_
  refine V_bipush (v := 33) dR_one_15 (by decide) ?_
  refine V_callV (as := [.int 33]) (rest := []) (bs' := 0) rfl dR_one_17 cmR_takes cvR_takes mlR_31 (Or.inl ⟨_, _, _, _, _, rfl, k58, by decide, rfl⟩) rfl rfl (c_rtakes hR0 hf hT hS (c := 33) (by decide)) (by decide) (Nat.le_refl _) (by decide) (Nat.le_of_ble_eq_true rfl) ?_
  rintro _ _ m0 (⟨hw0, rfl, rfl, hS⟩ | ⟨hv, rfl, rfl, rfl⟩) -
  · refine V_one ?_
    have hR := hS.rf hR0
    have hTs := hS.tx hf hT
    have hlw0 := hS.le
    refine V_if_eq (tgt := 32) dR_one_20 rfl (fun h => absurd h (by decide)) (fun _ => ?_)
    refine V_iinc (v := 3) (loc' := [(2, .int 3), (3, .int 0), (0, .ref 58), (1, .int 2)]) dR_one_23 rfl (by decide) (by decide) rfl ?_
    refine V_iinc (v := 1) (loc' := [(3, .int 1), (2, .int 3), (0, .ref 58), (1, .int 2)]) dR_one_26 rfl (by decide) (by decide) rfl ?_
    refine V_goto (tgt := 4) dR_one_29 rfl ?_
    refine V_iload_n dR_one_4 rfl ?_
    refine V_iconst (v := 4) dR_one_5 (by decide) ?_
    refine V_icmp_ge (tgt := 32) dR_one_6 rfl (fun h => absurd h (by decide)) (fun _ => ?_)
    refine V_iload_n dR_one_9 rfl ?_
    refine V_iconst (v := 4) dR_one_10 (by decide) ?_
    refine V_icmp_ge (tgt := 32) dR_one_11 rfl (fun h => absurd h (by decide)) (fun _ => ?_)
    refine V_aload_n dR_one_14 rfl ?_
    refine V_bipush (v := 33) dR_one_15 (by decide) ?_
    refine V_callV (as := [.int 33]) (rest := []) (bs' := 0) rfl dR_one_17 cmR_takes cvR_takes mlR_31 (Or.inl ⟨_, _, _, _, _, rfl, k58, by decide, rfl⟩) rfl rfl (c_rtakes hR0 hf hT hS (c := 33) (by decide)) (by decide) (Nat.le_refl _) (by decide) (Nat.le_of_ble_eq_true rfl) ?_
    rintro _ _ m1 (⟨hw1, rfl, rfl, hS⟩ | ⟨hv, rfl, rfl, rfl⟩) -
    · refine V_one ?_
      have hR := hS.rf hR0
      have hTs := hS.tx hf hT
      have hlw1 := hS.le
      refine V_if_eq (tgt := 32) dR_one_20 rfl (fun h => absurd h (by decide)) (fun _ => ?_)
      refine V_iinc (v := 4) (loc' := [(2, .int 4), (3, .int 1), (0, .ref 58), (1, .int 2)]) dR_one_23 rfl (by decide) (by decide) rfl ?_
      refine V_iinc (v := 2) (loc' := [(3, .int 2), (2, .int 4), (0, .ref 58), (1, .int 2)]) dR_one_26 rfl (by decide) (by decide) rfl ?_
      refine V_goto (tgt := 4) dR_one_29 rfl ?_
      refine V_iload_n dR_one_4 rfl ?_
      refine V_iconst (v := 4) dR_one_5 (by decide) ?_
      refine V_icmp_ge (tgt := 32) dR_one_6 rfl (fun h => absurd h (by decide)) (fun _ => ?_)
      refine V_iload_n dR_one_9 rfl ?_
      refine V_iconst (v := 4) dR_one_10 (by decide) ?_
      refine V_icmp_ge (tgt := 32) dR_one_11 rfl (fun _ => ?_) (fun h => absurd h (by decide))
      refine V_iload_n dR_one_32 rfl ?_
      refine V_iconst (v := 4) dR_one_33 (by decide) ?_
      refine V_icmp_ge (tgt := 74) dR_one_34 rfl (fun _ => ?_) (fun h => absurd h (by decide))
      refine V_aload_n dR_one_74 rfl ?_
      refine V_callV (as := []) (rest := []) (bs' := 0) rfl dR_one_75 cmR_test cvR_test mlR_74 (Or.inl ⟨_, _, _, _, _, rfl, k58, by decide, rfl⟩) rfl rfl (c_rtest hR0 hf hT hS (by omega)) (by decide) (Nat.le_refl _) (by decide) (Nat.le_of_ble_eq_true rfl) ?_
      rintro _ _ mT (⟨haT, rfl, rfl, hS⟩ | ⟨haT, rfl, rfl, b2, o2, hS⟩) -
      · refine V_one ?_
        have hR := hS.rf hR0
        have hTs := hS.tx hf hT
        have hleT := hS.le
        refine V_istore_n (loc' := [(3, .int 1), (2, .int 4), (0, .ref 58), (1, .int 2)]) dR_one_78 (by decide) rfl ?_
        refine V_iload_n dR_one_79 rfl ?_
        refine V_iload_n dR_one_80 rfl ?_
        refine V_isub dR_one_81 ?_
        refine V_topI (x' := 2) (by decide) ?_
        refine V_iconst (v := 2) dR_one_82 (by decide) ?_
        refine V_irem dR_one_83 (by decide) ?_
        refine V_topI (x' := 0) (by decide) ?_
        refine V_if_eq (tgt := 91) dR_one_84 rfl (fun _ => ?_) (fun h => absurd h (by decide))
        refine V_iconst (v := 0) dR_one_91 (by decide) ?_
        refine V_istore (loc' := [(4, .int 0), (3, .int 1), (2, .int 4), (0, .ref 58), (1, .int 2)]) dR_one_92 (by decide) rfl ?_
        refine V_iload_n dR_one_94 rfl ?_
        refine V_if_eq (tgt := 115) dR_one_95 rfl (fun h => absurd h (by decide)) (fun _ => ?_)
        refine V_iload dR_one_98 rfl ?_
        refine V_if_eq (tgt := 111) dR_one_100 rfl (fun _ => ?_) (fun h => absurd h (by decide))
        refine V_iconst (v := 1) dR_one_111 (by decide) ?_
        refine V_goto (tgt := 116) dR_one_112 rfl ?_
        refine V_zret dR_one_116 rfl rfl rfl ?_
        have hj : bgs ch 2 p = 2 := by
          show (if ch (p) = 33 then (if ch (p + 1) = 33 then 0 + 1 else 0) + 1 else 0) = 2
          rw [if_pos hw0, if_pos hw1]
        rw [on_b hj (by rintro ⟨h1, h2⟩; first | exact absurd h1 (by decide) | exact ho h2)]
        exact rp_even haT (by decide) hS
      · refine V_one ?_
        refine V_istore_n (loc' := [(3, .int 0), (2, .int 4), (0, .ref 58), (1, .int 2)]) dR_one_78 (by decide) rfl ?_
        refine V_iload_n dR_one_79 rfl ?_
        refine V_iload_n dR_one_80 rfl ?_
        refine V_isub dR_one_81 ?_
        refine V_topI (x' := 2) (by decide) ?_
        refine V_iconst (v := 2) dR_one_82 (by decide) ?_
        refine V_irem dR_one_83 (by decide) ?_
        refine V_topI (x' := 0) (by decide) ?_
        refine V_if_eq (tgt := 91) dR_one_84 rfl (fun _ => ?_) (fun h => absurd h (by decide))
        refine V_iconst (v := 0) dR_one_91 (by decide) ?_
        refine V_istore (loc' := [(4, .int 0), (3, .int 0), (2, .int 4), (0, .ref 58), (1, .int 2)]) dR_one_92 (by decide) rfl ?_
        refine V_iload_n dR_one_94 rfl ?_
        refine V_if_eq (tgt := 115) dR_one_95 rfl (fun _ => ?_) (fun h => absurd h (by decide))
        refine V_iconst (v := 0) dR_one_115 (by decide) ?_
        refine V_zret dR_one_116 rfl rfl rfl ?_
        have hj : bgs ch 2 p = 2 := by
          show (if ch (p) = 33 then (if ch (p + 1) = 33 then 0 + 1 else 0) + 1 else 0) = 2
          rw [if_pos hw0, if_pos hw1]
        rw [on_b hj (by rintro ⟨h1, h2⟩; first | exact absurd h1 (by decide) | exact ho h2)]
        exact rp_fail haT hS
    · refine V_one ?_
      refine V_if_eq (tgt := 32) dR_one_20 rfl (fun _ => ?_) (fun h => absurd h (by decide))
      refine V_iload_n dR_one_32 rfl ?_
      refine V_iconst (v := 4) dR_one_33 (by decide) ?_
      refine V_icmp_ge (tgt := 74) dR_one_34 rfl (fun h => absurd h (by decide)) (fun _ => ?_)
      refine V_aload_n dR_one_37 rfl ?_
      refine V_bipush (v := 40) dR_one_38 (by decide) ?_
      refine V_callV (as := [.int 40]) (rest := []) (bs' := 0) rfl dR_one_40 cmR_takes cvR_takes mlR_31 (Or.inl ⟨_, _, _, _, _, rfl, k58, by decide, rfl⟩) rfl rfl (c_rtakes hR0 hf hT hS (c := 40) (by decide)) (by decide) (Nat.le_refl _) (by decide) (Nat.le_of_ble_eq_true rfl) ?_
      rintro _ _ mo (⟨ho, rfl, rfl, hS⟩ | ⟨ho, rfl, rfl, rfl⟩) -
      · refine V_one ?_
        have hR := hS.rf hR0
        have hTs := hS.tx hf hT
        have hlo := hS.le
        refine V_if_eq (tgt := 74) dR_one_43 rfl (fun h => absurd h (by decide)) (fun _ => ?_)
        refine V_aload_n dR_one_46 rfl ?_
        refine V_iload_n dR_one_47 rfl ?_
        refine V_iconst (v := 1) dR_one_48 (by decide) ?_
        refine V_iadd dR_one_49 ?_
        refine V_topI (x' := 4) (by decide) ?_
        refine V_callV (as := [.int 4]) (rest := []) (bs' := 0) rfl dR_one_50 cmR_any cvR_any mlR_64 (Or.inl ⟨_, _, _, _, _, rfl, k58, by decide, rfl⟩) rfl rfl (c_rany0 hR0 hf hT hS (by omega)) (by decide) (Nat.le_refl _) (by decide) (Nat.le_of_ble_eq_true rfl) ?_
        rintro _ _ mA (⟨haA, rfl, rfl, hS⟩ | ⟨haA, rfl, rfl, b2, o2, hS⟩) -
        · refine V_one ?_
          have hR := hS.rf hR0
          have hTs := hS.tx hf hT
          have hleA := hS.le
          refine V_if_eq (tgt := 69) dR_one_53 rfl (fun h => absurd h (by decide)) (fun _ => ?_)
          refine V_aload_n dR_one_56 rfl ?_
          refine V_bipush (v := 41) dR_one_57 (by decide) ?_
          refine V_callV (as := [.int 41]) (rest := []) (bs' := 0) rfl dR_one_59 cmR_takes cvR_takes mlR_31 (Or.inl ⟨_, _, _, _, _, rfl, k58, by decide, rfl⟩) rfl rfl (c_rtakes hR0 hf hT hS (c := 41) (by decide)) (by decide) (Nat.le_refl _) (by decide) (Nat.le_of_ble_eq_true rfl) ?_
          rintro _ _ mc (⟨hcl, rfl, rfl, hS⟩ | ⟨hcl, rfl, rfl, rfl⟩) -
          · refine V_one ?_
            have hR := hS.rf hR0
            have hTs := hS.tx hf hT
            have hlc := hS.le
            refine V_if_eq (tgt := 69) dR_one_62 rfl (fun h => absurd h (by decide)) (fun _ => ?_)
            refine V_iconst (v := 1) dR_one_65 (by decide) ?_
            refine V_goto (tgt := 70) dR_one_66 rfl ?_
            refine V_istore_n (loc' := [(3, .int 1), (2, .int 3), (0, .ref 58), (1, .int 2)]) dR_one_70 (by decide) rfl ?_
            refine V_goto (tgt := 79) dR_one_71 rfl ?_
            refine V_iload_n dR_one_79 rfl ?_
            refine V_iload_n dR_one_80 rfl ?_
            refine V_isub dR_one_81 ?_
            refine V_topI (x' := 1) (by decide) ?_
            refine V_iconst (v := 2) dR_one_82 (by decide) ?_
            refine V_irem dR_one_83 (by decide) ?_
            refine V_topI (x' := 1) (by decide) ?_
            refine V_if_eq (tgt := 91) dR_one_84 rfl (fun h => absurd h (by decide)) (fun _ => ?_)
            refine V_iconst (v := 1) dR_one_87 (by decide) ?_
            refine V_goto (tgt := 92) dR_one_88 rfl ?_
            refine V_istore (loc' := [(4, .int 1), (3, .int 1), (2, .int 3), (0, .ref 58), (1, .int 2)]) dR_one_92 (by decide) rfl ?_
            refine V_iload_n dR_one_94 rfl ?_
            refine V_if_eq (tgt := 115) dR_one_95 rfl (fun h => absurd h (by decide)) (fun _ => ?_)
            refine V_iload dR_one_98 rfl ?_
            refine V_if_eq (tgt := 111) dR_one_100 rfl (fun h => absurd h (by decide)) (fun _ => ?_)
            refine V_aload_n dR_one_103 rfl ?_
            refine V_iconst (v := -1) dR_one_104 (by decide) ?_
            refine V_callV (as := [.int (-1)]) (rest := []) (bs' := 0) rfl dR_one_105 cmR_writes cvR_writes mlR_68 (Or.inl ⟨_, _, _, _, _, rfl, k58, by decide, rfl⟩) rfl rfl (c_rwrites hR0 hf hT hS (op := 30001) (by decide) (by have hg := (anK_gd hT.2.2 0 (q := p + 1 + 1) (by omega)).2.2 haA; rw [List.length_append]; omega)) (by decide) (Nat.le_refl _) (by decide) (Nat.le_of_ble_eq_true rfl) ?_
            rintro _ _ m105 ⟨rfl, rfl, hS⟩ -
            refine V_one ?_
            have hR := hS.rf hR0
            have hTs := hS.tx hf hT
            refine V_if_eq (tgt := 115) dR_one_108 rfl (fun h => absurd h (by decide)) (fun _ => ?_)
            refine V_iconst (v := 1) dR_one_111 (by decide) ?_
            refine V_goto (tgt := 116) dR_one_112 rfl ?_
            refine V_zret dR_one_116 rfl rfl rfl ?_
            have hj : bgs ch 2 p = 1 := by
              show (if ch (p) = 33 then (if ch (p + 1) = 33 then bgs ch 0 (p + 1 + 1) + 1 else 0) + 1 else 0) = 1
              rw [if_pos hw0, if_neg hv]
            rw [on_a hj ⟨by decide, ho⟩]
            rw [cls_t haA hcl]
            exact rp_odd rfl (by decide) hS
          · refine V_one ?_
            refine V_if_eq (tgt := 69) dR_one_62 rfl (fun _ => ?_) (fun h => absurd h (by decide))
            refine V_iconst (v := 0) dR_one_69 (by decide) ?_
            refine V_istore_n (loc' := [(3, .int 0), (2, .int 3), (0, .ref 58), (1, .int 2)]) dR_one_70 (by decide) rfl ?_
            refine V_goto (tgt := 79) dR_one_71 rfl ?_
            refine V_iload_n dR_one_79 rfl ?_
            refine V_iload_n dR_one_80 rfl ?_
            refine V_isub dR_one_81 ?_
            refine V_topI (x' := 1) (by decide) ?_
            refine V_iconst (v := 2) dR_one_82 (by decide) ?_
            refine V_irem dR_one_83 (by decide) ?_
            refine V_topI (x' := 1) (by decide) ?_
            refine V_if_eq (tgt := 91) dR_one_84 rfl (fun h => absurd h (by decide)) (fun _ => ?_)
            refine V_iconst (v := 1) dR_one_87 (by decide) ?_
            refine V_goto (tgt := 92) dR_one_88 rfl ?_
            refine V_istore (loc' := [(4, .int 1), (3, .int 0), (2, .int 3), (0, .ref 58), (1, .int 2)]) dR_one_92 (by decide) rfl ?_
            refine V_iload_n dR_one_94 rfl ?_
            refine V_if_eq (tgt := 115) dR_one_95 rfl (fun _ => ?_) (fun h => absurd h (by decide))
            refine V_iconst (v := 0) dR_one_115 (by decide) ?_
            refine V_zret dR_one_116 rfl rfl rfl ?_
            have hj : bgs ch 2 p = 1 := by
              show (if ch (p) = 33 then (if ch (p + 1) = 33 then bgs ch 0 (p + 1 + 1) + 1 else 0) + 1 else 0) = 1
              rw [if_pos hw0, if_neg hv]
            rw [on_a hj ⟨by decide, ho⟩]
            rw [cls_f haA hcl]
            exact rp_fail rfl hS
        · refine V_one ?_
          refine V_if_eq (tgt := 69) dR_one_53 rfl (fun _ => ?_) (fun h => absurd h (by decide))
          refine V_iconst (v := 0) dR_one_69 (by decide) ?_
          refine V_istore_n (loc' := [(3, .int 0), (2, .int 3), (0, .ref 58), (1, .int 2)]) dR_one_70 (by decide) rfl ?_
          refine V_goto (tgt := 79) dR_one_71 rfl ?_
          refine V_iload_n dR_one_79 rfl ?_
          refine V_iload_n dR_one_80 rfl ?_
          refine V_isub dR_one_81 ?_
          refine V_topI (x' := 1) (by decide) ?_
          refine V_iconst (v := 2) dR_one_82 (by decide) ?_
          refine V_irem dR_one_83 (by decide) ?_
          refine V_topI (x' := 1) (by decide) ?_
          refine V_if_eq (tgt := 91) dR_one_84 rfl (fun h => absurd h (by decide)) (fun _ => ?_)
          refine V_iconst (v := 1) dR_one_87 (by decide) ?_
          refine V_goto (tgt := 92) dR_one_88 rfl ?_
          refine V_istore (loc' := [(4, .int 1), (3, .int 0), (2, .int 3), (0, .ref 58), (1, .int 2)]) dR_one_92 (by decide) rfl ?_
          refine V_iload_n dR_one_94 rfl ?_
          refine V_if_eq (tgt := 115) dR_one_95 rfl (fun _ => ?_) (fun h => absurd h (by decide))
          refine V_iconst (v := 0) dR_one_115 (by decide) ?_
          refine V_zret dR_one_116 rfl rfl rfl ?_
          have hj : bgs ch 2 p = 1 := by
            show (if ch (p) = 33 then (if ch (p + 1) = 33 then bgs ch 0 (p + 1 + 1) + 1 else 0) + 1 else 0) = 1
            rw [if_pos hw0, if_neg hv]
          rw [on_a hj ⟨by decide, ho⟩]
          rw [cls_n haA]
          exact rp_fail haA hS
      · refine V_one ?_
        refine V_if_eq (tgt := 74) dR_one_43 rfl (fun _ => ?_) (fun h => absurd h (by decide))
        refine V_aload_n dR_one_74 rfl ?_
        refine V_callV (as := []) (rest := []) (bs' := 0) rfl dR_one_75 cmR_test cvR_test mlR_74 (Or.inl ⟨_, _, _, _, _, rfl, k58, by decide, rfl⟩) rfl rfl (c_rtest hR0 hf hT hS (by omega)) (by decide) (Nat.le_refl _) (by decide) (Nat.le_of_ble_eq_true rfl) ?_
        rintro _ _ mT (⟨haT, rfl, rfl, hS⟩ | ⟨haT, rfl, rfl, b2, o2, hS⟩) -
        · refine V_one ?_
          have hR := hS.rf hR0
          have hTs := hS.tx hf hT
          have hleT := hS.le
          refine V_istore_n (loc' := [(3, .int 1), (2, .int 3), (0, .ref 58), (1, .int 2)]) dR_one_78 (by decide) rfl ?_
          refine V_iload_n dR_one_79 rfl ?_
          refine V_iload_n dR_one_80 rfl ?_
          refine V_isub dR_one_81 ?_
          refine V_topI (x' := 1) (by decide) ?_
          refine V_iconst (v := 2) dR_one_82 (by decide) ?_
          refine V_irem dR_one_83 (by decide) ?_
          refine V_topI (x' := 1) (by decide) ?_
          refine V_if_eq (tgt := 91) dR_one_84 rfl (fun h => absurd h (by decide)) (fun _ => ?_)
          refine V_iconst (v := 1) dR_one_87 (by decide) ?_
          refine V_goto (tgt := 92) dR_one_88 rfl ?_
          refine V_istore (loc' := [(4, .int 1), (3, .int 1), (2, .int 3), (0, .ref 58), (1, .int 2)]) dR_one_92 (by decide) rfl ?_
          refine V_iload_n dR_one_94 rfl ?_
          refine V_if_eq (tgt := 115) dR_one_95 rfl (fun h => absurd h (by decide)) (fun _ => ?_)
          refine V_iload dR_one_98 rfl ?_
          refine V_if_eq (tgt := 111) dR_one_100 rfl (fun h => absurd h (by decide)) (fun _ => ?_)
          refine V_aload_n dR_one_103 rfl ?_
          refine V_iconst (v := -1) dR_one_104 (by decide) ?_
          refine V_callV (as := [.int (-1)]) (rest := []) (bs' := 0) rfl dR_one_105 cmR_writes cvR_writes mlR_68 (Or.inl ⟨_, _, _, _, _, rfl, k58, by decide, rfl⟩) rfl rfl (c_rwrites hR0 hf hT hS (op := 30001) (by decide) (by have hg := (ts_gd hT.2.2 (p := p + 1) (by omega)).2.2 haT; rw [List.length_append]; omega)) (by decide) (Nat.le_refl _) (by decide) (Nat.le_of_ble_eq_true rfl) ?_
          rintro _ _ m105 ⟨rfl, rfl, hS⟩ -
          refine V_one ?_
          have hR := hS.rf hR0
          have hTs := hS.tx hf hT
          refine V_if_eq (tgt := 115) dR_one_108 rfl (fun h => absurd h (by decide)) (fun _ => ?_)
          refine V_iconst (v := 1) dR_one_111 (by decide) ?_
          refine V_goto (tgt := 116) dR_one_112 rfl ?_
          refine V_zret dR_one_116 rfl rfl rfl ?_
          have hj : bgs ch 2 p = 1 := by
            show (if ch (p) = 33 then (if ch (p + 1) = 33 then bgs ch 0 (p + 1 + 1) + 1 else 0) + 1 else 0) = 1
            rw [if_pos hw0, if_neg hv]
          rw [on_b hj (by rintro ⟨h1, h2⟩; first | exact absurd h1 (by decide) | exact ho h2)]
          exact rp_odd haT (by decide) hS
        · refine V_one ?_
          refine V_istore_n (loc' := [(3, .int 0), (2, .int 3), (0, .ref 58), (1, .int 2)]) dR_one_78 (by decide) rfl ?_
          refine V_iload_n dR_one_79 rfl ?_
          refine V_iload_n dR_one_80 rfl ?_
          refine V_isub dR_one_81 ?_
          refine V_topI (x' := 1) (by decide) ?_
          refine V_iconst (v := 2) dR_one_82 (by decide) ?_
          refine V_irem dR_one_83 (by decide) ?_
          refine V_topI (x' := 1) (by decide) ?_
          refine V_if_eq (tgt := 91) dR_one_84 rfl (fun h => absurd h (by decide)) (fun _ => ?_)
          refine V_iconst (v := 1) dR_one_87 (by decide) ?_
          refine V_goto (tgt := 92) dR_one_88 rfl ?_
          refine V_istore (loc' := [(4, .int 1), (3, .int 0), (2, .int 3), (0, .ref 58), (1, .int 2)]) dR_one_92 (by decide) rfl ?_
          refine V_iload_n dR_one_94 rfl ?_
          refine V_if_eq (tgt := 115) dR_one_95 rfl (fun _ => ?_) (fun h => absurd h (by decide))
          refine V_iconst (v := 0) dR_one_115 (by decide) ?_
          refine V_zret dR_one_116 rfl rfl rfl ?_
          have hj : bgs ch 2 p = 1 := by
            show (if ch (p) = 33 then (if ch (p + 1) = 33 then bgs ch 0 (p + 1 + 1) + 1 else 0) + 1 else 0) = 1
            rw [if_pos hw0, if_neg hv]
          rw [on_b hj (by rintro ⟨h1, h2⟩; first | exact absurd h1 (by decide) | exact ho h2)]
          exact rp_fail haT hS
  · refine V_one ?_
    refine V_if_eq (tgt := 32) dR_one_20 rfl (fun _ => ?_) (fun h => absurd h (by decide))
    refine V_iload_n dR_one_32 rfl ?_
    refine V_iconst (v := 4) dR_one_33 (by decide) ?_
    refine V_icmp_ge (tgt := 74) dR_one_34 rfl (fun h => absurd h (by decide)) (fun _ => ?_)
    refine V_aload_n dR_one_37 rfl ?_
    refine V_bipush (v := 40) dR_one_38 (by decide) ?_
    refine V_callV (as := [.int 40]) (rest := []) (bs' := 0) rfl dR_one_40 cmR_takes cvR_takes mlR_31 (Or.inl ⟨_, _, _, _, _, rfl, k58, by decide, rfl⟩) rfl rfl (c_rtakes hR0 hf hT hS (c := 40) (by decide)) (by decide) (Nat.le_refl _) (by decide) (Nat.le_of_ble_eq_true rfl) ?_
    rintro _ _ mo (⟨ho, rfl, rfl, hS⟩ | ⟨ho, rfl, rfl, rfl⟩) -
    · refine V_one ?_
      have hR := hS.rf hR0
      have hTs := hS.tx hf hT
      have hlo := hS.le
      refine V_if_eq (tgt := 74) dR_one_43 rfl (fun h => absurd h (by decide)) (fun _ => ?_)
      refine V_aload_n dR_one_46 rfl ?_
      refine V_iload_n dR_one_47 rfl ?_
      refine V_iconst (v := 1) dR_one_48 (by decide) ?_
      refine V_iadd dR_one_49 ?_
      refine V_topI (x' := 3) (by decide) ?_
      refine V_callV (as := [.int 3]) (rest := []) (bs' := 0) rfl dR_one_50 cmR_any cvR_any mlR_64 (Or.inl ⟨_, _, _, _, _, rfl, k58, by decide, rfl⟩) rfl rfl (c_rany1 hR0 hf hT hS (by omega)) (by decide) (Nat.le_refl _) (by decide) (Nat.le_of_ble_eq_true rfl) ?_
      rintro _ _ mA (⟨haA, rfl, rfl, hS⟩ | ⟨haA, rfl, rfl, b2, o2, hS⟩) -
      · refine V_one ?_
        have hR := hS.rf hR0
        have hTs := hS.tx hf hT
        have hleA := hS.le
        refine V_if_eq (tgt := 69) dR_one_53 rfl (fun h => absurd h (by decide)) (fun _ => ?_)
        refine V_aload_n dR_one_56 rfl ?_
        refine V_bipush (v := 41) dR_one_57 (by decide) ?_
        refine V_callV (as := [.int 41]) (rest := []) (bs' := 0) rfl dR_one_59 cmR_takes cvR_takes mlR_31 (Or.inl ⟨_, _, _, _, _, rfl, k58, by decide, rfl⟩) rfl rfl (c_rtakes hR0 hf hT hS (c := 41) (by decide)) (by decide) (Nat.le_refl _) (by decide) (Nat.le_of_ble_eq_true rfl) ?_
        rintro _ _ mc (⟨hcl, rfl, rfl, hS⟩ | ⟨hcl, rfl, rfl, rfl⟩) -
        · refine V_one ?_
          have hR := hS.rf hR0
          have hTs := hS.tx hf hT
          have hlc := hS.le
          refine V_if_eq (tgt := 69) dR_one_62 rfl (fun h => absurd h (by decide)) (fun _ => ?_)
          refine V_iconst (v := 1) dR_one_65 (by decide) ?_
          refine V_goto (tgt := 70) dR_one_66 rfl ?_
          refine V_istore_n (loc' := [(3, .int 1), (2, .int 2), (0, .ref 58), (1, .int 2)]) dR_one_70 (by decide) rfl ?_
          refine V_goto (tgt := 79) dR_one_71 rfl ?_
          refine V_iload_n dR_one_79 rfl ?_
          refine V_iload_n dR_one_80 rfl ?_
          refine V_isub dR_one_81 ?_
          refine V_topI (x' := 0) (by decide) ?_
          refine V_iconst (v := 2) dR_one_82 (by decide) ?_
          refine V_irem dR_one_83 (by decide) ?_
          refine V_topI (x' := 0) (by decide) ?_
          refine V_if_eq (tgt := 91) dR_one_84 rfl (fun _ => ?_) (fun h => absurd h (by decide))
          refine V_iconst (v := 0) dR_one_91 (by decide) ?_
          refine V_istore (loc' := [(4, .int 0), (3, .int 1), (2, .int 2), (0, .ref 58), (1, .int 2)]) dR_one_92 (by decide) rfl ?_
          refine V_iload_n dR_one_94 rfl ?_
          refine V_if_eq (tgt := 115) dR_one_95 rfl (fun h => absurd h (by decide)) (fun _ => ?_)
          refine V_iload dR_one_98 rfl ?_
          refine V_if_eq (tgt := 111) dR_one_100 rfl (fun _ => ?_) (fun h => absurd h (by decide))
          refine V_iconst (v := 1) dR_one_111 (by decide) ?_
          refine V_goto (tgt := 116) dR_one_112 rfl ?_
          refine V_zret dR_one_116 rfl rfl rfl ?_
          have hj : bgs ch 2 p = 0 := by
            show (if ch (p) = 33 then bgs ch 1 (p + 1) + 1 else 0) = 0
            rw [if_neg hv]
          rw [on_a hj ⟨by decide, ho⟩]
          rw [cls_t haA hcl]
          exact rp_even rfl (by decide) hS
        · refine V_one ?_
          refine V_if_eq (tgt := 69) dR_one_62 rfl (fun _ => ?_) (fun h => absurd h (by decide))
          refine V_iconst (v := 0) dR_one_69 (by decide) ?_
          refine V_istore_n (loc' := [(3, .int 0), (2, .int 2), (0, .ref 58), (1, .int 2)]) dR_one_70 (by decide) rfl ?_
          refine V_goto (tgt := 79) dR_one_71 rfl ?_
          refine V_iload_n dR_one_79 rfl ?_
          refine V_iload_n dR_one_80 rfl ?_
          refine V_isub dR_one_81 ?_
          refine V_topI (x' := 0) (by decide) ?_
          refine V_iconst (v := 2) dR_one_82 (by decide) ?_
          refine V_irem dR_one_83 (by decide) ?_
          refine V_topI (x' := 0) (by decide) ?_
          refine V_if_eq (tgt := 91) dR_one_84 rfl (fun _ => ?_) (fun h => absurd h (by decide))
          refine V_iconst (v := 0) dR_one_91 (by decide) ?_
          refine V_istore (loc' := [(4, .int 0), (3, .int 0), (2, .int 2), (0, .ref 58), (1, .int 2)]) dR_one_92 (by decide) rfl ?_
          refine V_iload_n dR_one_94 rfl ?_
          refine V_if_eq (tgt := 115) dR_one_95 rfl (fun _ => ?_) (fun h => absurd h (by decide))
          refine V_iconst (v := 0) dR_one_115 (by decide) ?_
          refine V_zret dR_one_116 rfl rfl rfl ?_
          have hj : bgs ch 2 p = 0 := by
            show (if ch (p) = 33 then bgs ch 1 (p + 1) + 1 else 0) = 0
            rw [if_neg hv]
          rw [on_a hj ⟨by decide, ho⟩]
          rw [cls_f haA hcl]
          exact rp_fail rfl hS
      · refine V_one ?_
        refine V_if_eq (tgt := 69) dR_one_53 rfl (fun _ => ?_) (fun h => absurd h (by decide))
        refine V_iconst (v := 0) dR_one_69 (by decide) ?_
        refine V_istore_n (loc' := [(3, .int 0), (2, .int 2), (0, .ref 58), (1, .int 2)]) dR_one_70 (by decide) rfl ?_
        refine V_goto (tgt := 79) dR_one_71 rfl ?_
        refine V_iload_n dR_one_79 rfl ?_
        refine V_iload_n dR_one_80 rfl ?_
        refine V_isub dR_one_81 ?_
        refine V_topI (x' := 0) (by decide) ?_
        refine V_iconst (v := 2) dR_one_82 (by decide) ?_
        refine V_irem dR_one_83 (by decide) ?_
        refine V_topI (x' := 0) (by decide) ?_
        refine V_if_eq (tgt := 91) dR_one_84 rfl (fun _ => ?_) (fun h => absurd h (by decide))
        refine V_iconst (v := 0) dR_one_91 (by decide) ?_
        refine V_istore (loc' := [(4, .int 0), (3, .int 0), (2, .int 2), (0, .ref 58), (1, .int 2)]) dR_one_92 (by decide) rfl ?_
        refine V_iload_n dR_one_94 rfl ?_
        refine V_if_eq (tgt := 115) dR_one_95 rfl (fun _ => ?_) (fun h => absurd h (by decide))
        refine V_iconst (v := 0) dR_one_115 (by decide) ?_
        refine V_zret dR_one_116 rfl rfl rfl ?_
        have hj : bgs ch 2 p = 0 := by
          show (if ch (p) = 33 then bgs ch 1 (p + 1) + 1 else 0) = 0
          rw [if_neg hv]
        rw [on_a hj ⟨by decide, ho⟩]
        rw [cls_n haA]
        exact rp_fail haA hS
    · refine V_one ?_
      refine V_if_eq (tgt := 74) dR_one_43 rfl (fun _ => ?_) (fun h => absurd h (by decide))
      refine V_aload_n dR_one_74 rfl ?_
      refine V_callV (as := []) (rest := []) (bs' := 0) rfl dR_one_75 cmR_test cvR_test mlR_74 (Or.inl ⟨_, _, _, _, _, rfl, k58, by decide, rfl⟩) rfl rfl (c_rtest hR0 hf hT hS (by omega)) (by decide) (Nat.le_refl _) (by decide) (Nat.le_of_ble_eq_true rfl) ?_
      rintro _ _ mT (⟨haT, rfl, rfl, hS⟩ | ⟨haT, rfl, rfl, b2, o2, hS⟩) -
      · refine V_one ?_
        have hR := hS.rf hR0
        have hTs := hS.tx hf hT
        have hleT := hS.le
        refine V_istore_n (loc' := [(3, .int 1), (2, .int 2), (0, .ref 58), (1, .int 2)]) dR_one_78 (by decide) rfl ?_
        refine V_iload_n dR_one_79 rfl ?_
        refine V_iload_n dR_one_80 rfl ?_
        refine V_isub dR_one_81 ?_
        refine V_topI (x' := 0) (by decide) ?_
        refine V_iconst (v := 2) dR_one_82 (by decide) ?_
        refine V_irem dR_one_83 (by decide) ?_
        refine V_topI (x' := 0) (by decide) ?_
        refine V_if_eq (tgt := 91) dR_one_84 rfl (fun _ => ?_) (fun h => absurd h (by decide))
        refine V_iconst (v := 0) dR_one_91 (by decide) ?_
        refine V_istore (loc' := [(4, .int 0), (3, .int 1), (2, .int 2), (0, .ref 58), (1, .int 2)]) dR_one_92 (by decide) rfl ?_
        refine V_iload_n dR_one_94 rfl ?_
        refine V_if_eq (tgt := 115) dR_one_95 rfl (fun h => absurd h (by decide)) (fun _ => ?_)
        refine V_iload dR_one_98 rfl ?_
        refine V_if_eq (tgt := 111) dR_one_100 rfl (fun _ => ?_) (fun h => absurd h (by decide))
        refine V_iconst (v := 1) dR_one_111 (by decide) ?_
        refine V_goto (tgt := 116) dR_one_112 rfl ?_
        refine V_zret dR_one_116 rfl rfl rfl ?_
        have hj : bgs ch 2 p = 0 := by
          show (if ch (p) = 33 then bgs ch 1 (p + 1) + 1 else 0) = 0
          rw [if_neg hv]
        rw [on_b hj (by rintro ⟨h1, h2⟩; first | exact absurd h1 (by decide) | exact ho h2)]
        exact rp_even haT (by decide) hS
      · refine V_one ?_
        refine V_istore_n (loc' := [(3, .int 0), (2, .int 2), (0, .ref 58), (1, .int 2)]) dR_one_78 (by decide) rfl ?_
        refine V_iload_n dR_one_79 rfl ?_
        refine V_iload_n dR_one_80 rfl ?_
        refine V_isub dR_one_81 ?_
        refine V_topI (x' := 0) (by decide) ?_
        refine V_iconst (v := 2) dR_one_82 (by decide) ?_
        refine V_irem dR_one_83 (by decide) ?_
        refine V_topI (x' := 0) (by decide) ?_
        refine V_if_eq (tgt := 91) dR_one_84 rfl (fun _ => ?_) (fun h => absurd h (by decide))
        refine V_iconst (v := 0) dR_one_91 (by decide) ?_
        refine V_istore (loc' := [(4, .int 0), (3, .int 0), (2, .int 2), (0, .ref 58), (1, .int 2)]) dR_one_92 (by decide) rfl ?_
        refine V_iload_n dR_one_94 rfl ?_
        refine V_if_eq (tgt := 115) dR_one_95 rfl (fun _ => ?_) (fun h => absurd h (by decide))
        refine V_iconst (v := 0) dR_one_115 (by decide) ?_
        refine V_zret dR_one_116 rfl rfl rfl ?_
        have hj : bgs ch 2 p = 0 := by
          show (if ch (p) = 33 then bgs ch 1 (p + 1) + 1 else 0) = 0
          rw [if_neg hv]
        rw [on_b hj (by rintro ⟨h1, h2⟩; first | exact absurd h1 (by decide) | exact ho h2)]
        exact rp_fail haT hS
theorem c_rany2 {l : Launch} {G : GT} {ch : Nat → Nat} {σ s : Hp} {f n p b : Nat} {ops : List Nat} (hR0 : RF σ) (hf : f < 6) (hT : TX σ n ch) (hS : RS σ s f n p b ops) (hl : ops.length ≤ p) : MM l G mR_any 10 0 0 [.ref 58, .int 2] KA s (RP σ f n b ops (anK ch 2 p)) := by
  have hR := hS.rf hR0
  have hTs := hS.tx hf hT
  have hle := hS.le
  have h100 := hT.1
  refine MM.of (loc := [(0, .ref 58), (1, .int 2)]) (by decide +kernel) rfl (Nat.le_of_ble_eq_true rfl) ?_
  rw [anK_eq]
  have lp : ∀ (F i : Nat), F + i = 100 → ∀ (acc : List Nat × List Nat) (q : Nat) (s : Hp), RS σ s f n q b (ops ++ (if i = 0 then [] else acc.1)) → (ops ++ (if i = 0 then [] else acc.1)).length + (if i = 0 then 0 else 1) ≤ q → V l G mR_any (rmd 10 0 0) (KA.length + 0) 0 2 [(2, .int (nI i)), (0, .ref 58), (1, .int 2)] [] KA s (RP σ f n b ops (anP ch (onK ch 2) F i acc q)) := by
    intro F
    induction F with
    | zero =>
      intro i hi acc q s hS hlen
      have hi2 : i = 100 := by omega
      subst hi2
      refine V_iload_n dR_any_2 rfl ?_
      refine V_bipush (v := 100) dR_any_3 (by decide) ?_
      refine V_icmp_ge (tgt := 92) dR_any_5 rfl (fun _ => ?_) (fun h => absurd h (not_not_intro (nI_le (a := 100) (b := 100) (by decide) (by decide))))
      refine V_iconst (v := 0) dR_any_92 (by decide) ?_
      exact V_zret dR_any_93 rfl rfl rfl (Or.inr ⟨rfl, rfl, rfl, b, _, hS⟩)
    | succ F ih =>
      intro i hi acc q s hS hlen
      have hR := hS.rf hR0
      have hTs := hS.tx hf hT
      have hle := hS.le
      generalize hO : ops ++ (if i = 0 then [] else acc.1) = ops1 at hS hlen
      have hog := onK_gd hT.2.2 2 (q := q) hle
      have htg : ∀ h : ((onK ch 2) q).1 = true, Gd n q (5 + 1) (tmP ch (onK ch 2) 100 ((onK ch 2) q)) := fun h => tm_gd hT.2.2 (fun q hq => onK_gd hT.2.2 2 hq) (p0 := q) 100 ((onK ch 2) q) (hog.mono (Nat.le_succ _)) h
      refine V_iload_n dR_any_2 rfl ?_
      refine V_bipush (v := 100) dR_any_3 (by decide) ?_
      refine V_icmp_ge (tgt := 92) dR_any_5 rfl (fun h => absurd h (nI_ge (a := i) (b := 100) (by omega) (by decide))) (fun _ => ?_)
      refine V_aload_n dR_any_8 rfl ?_
      refine V_iload_n dR_any_9 rfl ?_
      refine V_callV (as := [.int 2]) (rest := []) (bs' := 0) rfl dR_any_10 cmR_one cvR_one mlR_71 (Or.inl ⟨_, _, _, _, _, rfl, k58, by decide, rfl⟩) rfl rfl (c_rone2 hR0 hf hT hS (by omega)) (by decide) (Nat.le_refl _) (by decide) (Nat.le_of_ble_eq_true rfl) ?_
      rintro _ _ mO (⟨haO, rfl, rfl, hS⟩ | ⟨haO, rfl, rfl, b2, o2, hS⟩) -
      · refine V_one ?_
        have hR := hS.rf hR0
        have hTs := hS.tx hf hT
        have hleO := hS.le
        refine V_if_ne (tgt := 18) dR_any_13 rfl (fun _ => ?_) (fun h => absurd h (by decide))
        refine V_iconst (v := 0) dR_any_18 (by decide) ?_
        refine V_istore_n (loc' := [(3, .int 0), (2, .int (nI i)), (0, .ref 58), (1, .int 2)]) dR_any_19 (by decide) rfl ?_
        have hog2 := hog.2.2 haO
        have htg2 := htg haO
        have hT1 : ∀ t, tmP ch (onK ch 2) 100 ((onK ch 2) q) = t → t.1 = false → anP ch (onK ch 2) (F + 1) i acc q = t := fun t ht h => by rw [an_2 haO (by rw [ht]; exact h), ht]
        have hT3 : ∀ t, tmP ch (onK ch 2) 100 ((onK ch 2) q) = t → t.1 = true → ch t.2.1 = 124 → anP ch (onK ch 2) (F + 1) i acc q = anP ch (onK ch 2) F (i + 1) (orP i acc t.2.2) (t.2.1 + 1) := fun t ht h h2 => by rw [an_3 haO (by rw [ht]; exact h) (by rw [ht]; exact h2), ht]
        have hT4 : ∀ t, tmP ch (onK ch 2) 100 ((onK ch 2) q) = t → t.1 = true → ¬ ch t.2.1 = 124 → anP ch (onK ch 2) (F + 1) i acc q = (true, t.2.1, orP i acc t.2.2) := fun t ht h h2 => by rw [an_4 haO (by rw [ht]; exact h) (by rw [ht]; exact h2), ht]
        have lp2 : ∀ (F2 m : Nat), F2 + m = 100 → ∀ (a : Rs) (s : Hp), a.1 = true → tmP ch (onK ch 2) F2 a = tmP ch (onK ch 2) 100 ((onK ch 2) q) → RS σ s f n a.2.1 b (ops1 ++ a.2.2.1) → (ops1 ++ a.2.2.1).length ≤ a.2.1 → V l G mR_any (rmd 10 0 0) (KA.length + 0) 0 20 [(3, .int (nI m)), (2, .int (nI i)), (0, .ref 58), (1, .int 2)] [] KA s (RP σ f n b ops (anP ch (onK ch 2) (F + 1) i acc q)) := by
          have h60 : ∀ (s : Hp) (m : Nat), ∀ t : Rs, tmP ch (onK ch 2) 100 ((onK ch 2) q) = t → t.1 = true → RS σ s f n t.2.1 b (ops1 ++ t.2.2.1) → V l G mR_any (rmd 10 0 0) (KA.length + 0) 0 60 [(3, .int (nI m)), (2, .int (nI i)), (0, .ref 58), (1, .int 2)] [] KA s (RP σ f n b ops (anP ch (onK ch 2) (F + 1) i acc q)) := by
            intro s m t ht htt hS
            have hR := hS.rf hR0
            have hTs := hS.tx hf hT
            have hle2 := hS.le
            rw [ht] at htg2
            obtain ⟨u1, u2, u3⟩ := htg2
            obtain ⟨v1, v2, v3, v4⟩ := u3 htt
            have hc255 := tx_n hT t.2.1
            by_cases hi0 : i = 0
            · skip
              refine V_iload_n dR_any_60 rfl ?_
              refine V_if_le (tgt := 75) dR_any_61 rfl (fun _ => ?_) (fun h => absurd h (not_not_intro (by rw [hi0]; exact Int32.le_refl _)))
              refine V_aload_n dR_any_75 rfl ?_
              refine V_bipush (v := 124) dR_any_76 (by decide) ?_
              refine V_callV (as := [.int 124]) (rest := []) (bs' := 0) rfl dR_any_78 cmR_takes cvR_takes mlR_31 (Or.inl ⟨_, _, _, _, _, rfl, k58, by decide, rfl⟩) rfl rfl (c_rtakes hR0 hf hT hS (c := 124) (by decide)) (by decide) (Nat.le_refl _) (by decide) (Nat.le_of_ble_eq_true rfl) ?_
              rintro _ _ mk (⟨hbK, rfl, rfl, hS⟩ | ⟨hbK, rfl, rfl, rfl⟩) -
              · refine V_one ?_
                refine V_if_ne (tgt := 86) dR_any_81 rfl (fun _ => ?_) (fun h => absurd h (by decide))
                refine V_iinc (v := nI (i + 1)) (loc' := [(2, .int (nI (i + 1))), (3, .int (nI m)), (0, .ref 58), (1, .int 2)]) dR_any_86 rfl (nI_inc i) (by decide) rfl ?_
                refine V_goto (tgt := 2) dR_any_89 rfl ?_
                have eo : ops ++ (orP i acc t.2.2).1 = ops1 ++ t.2.2.1 := by
                  rw [← hO]
                  simp [orP, hi0]
                have en : ops ++ (if i + 1 = 0 then [] else (orP i acc t.2.2).1) = ops1 ++ t.2.2.1 := by rw [if_neg (Nat.succ_ne_zero i)]; exact eo
                rw [hT3 t ht htt hbK]
                refine V.locs (loc' := [(2, .int (nI (i + 1))), (0, .ref 58), (1, .int 2)]) [0, 2, 3] rfl ?_
                exact (ih (i + 1) (by omega) (orP i acc t.2.2) (t.2.1 + 1) _ (by rw [en]; exact hS) (by rw [en]; simp only [List.length_append, List.length_singleton]; rw [if_neg (Nat.succ_ne_zero i)]; rw [if_pos hi0] at hlen; omega))
              · refine V_one ?_
                refine V_if_ne (tgt := 86) dR_any_81 rfl (fun h => absurd h (by decide)) (fun _ => ?_)
                refine V_iconst (v := 1) dR_any_84 (by decide) ?_
                refine V_zret dR_any_85 rfl rfl rfl ?_
                have eo : ops ++ (orP i acc t.2.2).1 = ops1 ++ t.2.2.1 := by
                  rw [← hO]
                  simp [orP, hi0]
                rw [hT4 t ht htt hbK]
                exact Or.inl ⟨rfl, rfl, rfl, by rw [eo]; exact hS⟩
            · skip
              refine V_iload_n dR_any_60 rfl ?_
              refine V_if_le (tgt := 75) dR_any_61 rfl (fun h => absurd h (nI_nle (by omega) (by omega))) (fun _ => ?_)
              refine V_aload_n dR_any_64 rfl ?_
              refine V_bipush (v := -3) dR_any_65 (by decide) ?_
              refine V_callV (as := [.int (-3)]) (rest := []) (bs' := 0) rfl dR_any_67 cmR_writes cvR_writes mlR_68 (Or.inl ⟨_, _, _, _, _, rfl, k58, by decide, rfl⟩) rfl rfl (c_rwrites hR0 hf hT hS (op := 30003) (by decide) (by rw [if_neg hi0] at hlen; rw [List.length_append]; omega)) (by decide) (Nat.le_refl _) (by decide) (Nat.le_of_ble_eq_true rfl) ?_
              rintro _ _ m67 ⟨rfl, rfl, hS⟩ -
              refine V_one ?_
              have hR := hS.rf hR0
              have hTs := hS.tx hf hT
              refine V_if_ne (tgt := 75) dR_any_70 rfl (fun _ => ?_) (fun h => absurd h (by decide))
              refine V_aload_n dR_any_75 rfl ?_
              refine V_bipush (v := 124) dR_any_76 (by decide) ?_
              refine V_callV (as := [.int 124]) (rest := []) (bs' := 0) rfl dR_any_78 cmR_takes cvR_takes mlR_31 (Or.inl ⟨_, _, _, _, _, rfl, k58, by decide, rfl⟩) rfl rfl (c_rtakes hR0 hf hT hS (c := 124) (by decide)) (by decide) (Nat.le_refl _) (by decide) (Nat.le_of_ble_eq_true rfl) ?_
              rintro _ _ mk (⟨hbK, rfl, rfl, hS⟩ | ⟨hbK, rfl, rfl, rfl⟩) -
              · refine V_one ?_
                refine V_if_ne (tgt := 86) dR_any_81 rfl (fun _ => ?_) (fun h => absurd h (by decide))
                refine V_iinc (v := nI (i + 1)) (loc' := [(2, .int (nI (i + 1))), (3, .int (nI m)), (0, .ref 58), (1, .int 2)]) dR_any_86 rfl (nI_inc i) (by decide) rfl ?_
                refine V_goto (tgt := 2) dR_any_89 rfl ?_
                have eo : ops ++ (orP i acc t.2.2).1 = ops1 ++ t.2.2.1 ++ [30003] := by
                  rw [← hO]
                  simp [orP, hi0]
                have en : ops ++ (if i + 1 = 0 then [] else (orP i acc t.2.2).1) = ops1 ++ t.2.2.1 ++ [30003] := by rw [if_neg (Nat.succ_ne_zero i)]; exact eo
                rw [hT3 t ht htt hbK]
                refine V.locs (loc' := [(2, .int (nI (i + 1))), (0, .ref 58), (1, .int 2)]) [0, 2, 3] rfl ?_
                exact (ih (i + 1) (by omega) (orP i acc t.2.2) (t.2.1 + 1) _ (by rw [en]; exact hS) (by rw [en]; simp only [List.length_append, List.length_singleton]; rw [if_neg (Nat.succ_ne_zero i)]; rw [if_neg hi0] at hlen; omega))
              · refine V_one ?_
                refine V_if_ne (tgt := 86) dR_any_81 rfl (fun h => absurd h (by decide)) (fun _ => ?_)
                refine V_iconst (v := 1) dR_any_84 (by decide) ?_
                refine V_zret dR_any_85 rfl rfl rfl ?_
                have eo : ops ++ (orP i acc t.2.2).1 = ops1 ++ t.2.2.1 ++ [30003] := by
                  rw [← hO]
                  simp [orP, hi0]
                rw [hT4 t ht htt hbK]
                exact Or.inl ⟨rfl, rfl, rfl, by rw [eo]; exact hS⟩
          intro F2
          induction F2 with
          | zero =>
            intro m hm a s ha ht hS hl2
            have hm2 : m = 100 := by omega
            subst hm2
            refine V_iload_n dR_any_20 rfl ?_
            refine V_bipush (v := 100) dR_any_21 (by decide) ?_
            refine V_icmp_ge (tgt := 60) dR_any_23 rfl (fun _ => ?_) (fun h => absurd h (not_not_intro (nI_le (a := 100) (b := 100) (by decide) (by decide))))
            refine V.locs (loc' := [(3, .int (nI 100)), (2, .int (nI i)), (0, .ref 58), (1, .int 2)]) [0, 1, 2, 3] rfl ?_
            exact (h60 _ _ a (ht.symm.trans rfl) ha hS)
          | succ F2 ih2 =>
            intro m hm a s ha ht hS hl2
            have hR := hS.rf hR0
            have hTs := hS.tx hf hT
            have hle3 := hS.le
            refine V_iload_n dR_any_20 rfl ?_
            refine V_bipush (v := 100) dR_any_21 (by decide) ?_
            refine V_icmp_ge (tgt := 60) dR_any_23 rfl (fun h => absurd h (nI_ge (a := m) (b := 100) (by omega) (by decide))) (fun _ => ?_)
            refine V_aload_n dR_any_26 rfl ?_
            refine V_bipush (v := 38) dR_any_27 (by decide) ?_
            refine V_callV (as := [.int 38]) (rest := []) (bs' := 0) rfl dR_any_29 cmR_takes cvR_takes mlR_31 (Or.inl ⟨_, _, _, _, _, rfl, k58, by decide, rfl⟩) rfl rfl (c_rtakes hR0 hf hT hS (c := 38) (by decide)) (by decide) (Nat.le_refl _) (by decide) (Nat.le_of_ble_eq_true rfl) ?_
            rintro _ _ mA (⟨hbA, rfl, rfl, hS⟩ | ⟨hbA, rfl, rfl, rfl⟩) -
            · refine V_one ?_
              have hR := hS.rf hR0
              have hTs := hS.tx hf hT
              have hle4 := hS.le
              refine V_if_eq (tgt := 60) dR_any_32 rfl (fun h => absurd h (by decide)) (fun _ => ?_)
              refine V_aload_n dR_any_35 rfl ?_
              refine V_iload_n dR_any_36 rfl ?_
              refine V_callV (as := [.int 2]) (rest := []) (bs' := 0) rfl dR_any_37 cmR_one cvR_one mlR_71 (Or.inl ⟨_, _, _, _, _, rfl, k58, by decide, rfl⟩) rfl rfl (c_rone2 hR0 hf hT hS (by omega)) (by decide) (Nat.le_refl _) (by decide) (Nat.le_of_ble_eq_true rfl) ?_
              rintro _ _ mP (⟨haP, rfl, rfl, hS⟩ | ⟨haP, rfl, rfl, b2, o2, hS⟩) -
              · refine V_one ?_
                have hR := hS.rf hR0
                have hTs := hS.tx hf hT
                have hleP := hS.le
                refine V_if_eq (tgt := 52) dR_any_40 rfl (fun h => absurd h (by decide)) (fun _ => ?_)
                refine V_aload_n dR_any_43 rfl ?_
                refine V_bipush (v := -2) dR_any_44 (by decide) ?_
                refine V_callV (as := [.int (-2)]) (rest := []) (bs' := 0) rfl dR_any_46 cmR_writes cvR_writes mlR_68 (Or.inl ⟨_, _, _, _, _, rfl, k58, by decide, rfl⟩) rfl rfl (c_rwrites hR0 hf hT hS (op := 30002) (by decide) (by have hg3 := (onK_gd hT.2.2 2 (q := a.2.1 + 1) (by omega)).2.2 haP; rw [List.length_append]; omega)) (by decide) (Nat.le_refl _) (by decide) (Nat.le_of_ble_eq_true rfl) ?_
                rintro _ _ m46 ⟨rfl, rfl, hS⟩ -
                refine V_one ?_
                have hR := hS.rf hR0
                have hTs := hS.tx hf hT
                refine V_if_ne (tgt := 54) dR_any_49 rfl (fun _ => ?_) (fun h => absurd h (by decide))
                refine V_iinc (v := nI (m + 1)) (loc' := [(3, .int (nI (m + 1))), (2, .int (nI i)), (0, .ref 58), (1, .int 2)]) dR_any_54 rfl (nI_inc m) (by decide) rfl ?_
                refine V_goto (tgt := 20) dR_any_57 rfl ?_
                have hg3 := (onK_gd hT.2.2 2 (q := a.2.1 + 1) (by omega)).2.2 haP
                refine V.locs (loc' := [(3, .int (nI (m + 1))), (2, .int (nI i)), (0, .ref 58), (1, .int 2)]) [0, 1, 2, 3] rfl ?_
                exact (ih2 (m + 1) (by omega) (true, ((onK ch 2) (a.2.1 + 1)).2.1, a.2.2.1 ++ ((onK ch 2) (a.2.1 + 1)).2.2.1 ++ [30002], a.2.2.2 ++ ((onK ch 2) (a.2.1 + 1)).2.2.2 ++ [30002]) _ rfl ((tm_3 hbA haP).symm.trans ht) (by simp only [List.append_assoc] at hS ⊢; exact hS) (by simp only [List.length_append, List.length_singleton] at hl2 ⊢; omega))
              · refine V_one ?_
                refine V_if_eq (tgt := 52) dR_any_40 rfl (fun _ => ?_) (fun h => absurd h (by decide))
                refine V_iconst (v := 0) dR_any_52 (by decide) ?_
                refine V_zret dR_any_53 rfl rfl rfl ?_
                rw [hT1 ((onK ch 2) (a.2.1 + 1)) (ht.symm.trans (tm_2 hbA haP)) haP]
                exact Or.inr ⟨haP, rfl, rfl, b2, o2, hS⟩
            · refine V_one ?_
              refine V_if_eq (tgt := 60) dR_any_32 rfl (fun _ => ?_) (fun h => absurd h (by decide))
              refine V.locs (loc' := [(3, .int (nI m)), (2, .int (nI i)), (0, .ref 58), (1, .int 2)]) [0, 1, 2, 3] rfl ?_
              exact (h60 _ _ a (ht.symm.trans (tm_1 hbA)) ha hS)
        refine V.locs (loc' := [(3, .int 0), (2, .int (nI i)), (0, .ref 58), (1, .int 2)]) [0, 1, 2, 3] rfl ?_
        refine V_eqL (loc' := [(3, .int (nI 0)), (2, .int (nI i)), (0, .ref 58), (1, .int 2)]) ?_ ?_
        · rfl
        exact (lp2 100 0 rfl ((onK ch 2) q) _ haO rfl hS (by rw [List.length_append]; omega))
      · refine V_one ?_
        refine V_if_ne (tgt := 18) dR_any_13 rfl (fun h => absurd h (by decide)) (fun _ => ?_)
        refine V_iconst (v := 0) dR_any_16 (by decide) ?_
        refine V_zret dR_any_17 rfl rfl rfl ?_
        rw [an_1 haO]
        exact Or.inr ⟨haO, rfl, rfl, b2, o2, hS⟩
  refine V_iconst (v := 0) dR_any_0 (by decide) ?_
  refine V_istore_n (loc' := [(2, .int 0), (0, .ref 58), (1, .int 2)]) dR_any_1 (by decide) rfl ?_
  refine V.locs (loc' := [(2, .int 0), (0, .ref 58), (1, .int 2)]) [0, 1, 2] rfl ?_
  refine V_eqL (loc' := [(2, .int (nI 0)), (0, .ref 58), (1, .int 2)]) ?_ ?_
  · rfl
  exact (lp 100 0 rfl ([], []) p s (by rw [if_pos rfl, List.append_nil]; exact hS) (by rw [if_pos rfl, if_pos rfl, List.append_nil]; exact hl))
theorem c_rone3 {l : Launch} {G : GT} {ch : Nat → Nat} {σ s : Hp} {f n p b : Nat} {ops : List Nat} (hR0 : RF σ) (hf : f < 6) (hT : TX σ n ch) (hS : RS σ s f n p b ops) (hl : ops.length ≤ p) : MM l G mR_one 11 0 0 [.ref 58, .int 1] KA s (RP σ f n b ops (onK ch 3 p)) := by
  have hR := hS.rf hR0
  have hTs := hS.tx hf hT
  have hle := hS.le
  have h100 := hT.1
  refine MM.of (loc := [(0, .ref 58), (1, .int 1)]) (by decide +kernel) rfl (Nat.le_of_ble_eq_true rfl) ?_
  refine V_iload_n dR_one_0 rfl ?_
  refine V_istore_n (loc' := [(2, .int 1), (0, .ref 58), (1, .int 1)]) dR_one_1 (by decide) rfl ?_
  refine V_iconst (v := 0) dR_one_2 (by decide) ?_
  refine V_istore_n (loc' := [(3, .int 0), (2, .int 1), (0, .ref 58), (1, .int 1)]) dR_one_3 (by decide) rfl ?_
  refine V_iload_n dR_one_4 rfl ?_
  refine V_iconst (v := 4) dR_one_5 (by decide) ?_
  refine V_icmp_ge (tgt := 32) dR_one_6 rfl (fun h => absurd h (by decide)) (fun _ => ?_)
  refine V_iload_n dR_one_9 rfl ?_
  refine V_iconst (v := 4) dR_one_10 (by decide) ?_
  refine V_icmp_ge (tgt := 32) dR_one_11 rfl (fun h => absurd h (by decide)) (fun _ => ?_)
  refine V_aload_n dR_one_14 rfl ?_
  refine V_bipush (v := 33) dR_one_15 (by decide) ?_
  refine V_callV (as := [.int 33]) (rest := []) (bs' := 0) rfl dR_one_17 cmR_takes cvR_takes mlR_31 (Or.inl ⟨_, _, _, _, _, rfl, k58, by decide, rfl⟩) rfl rfl (c_rtakes hR0 hf hT hS (c := 33) (by decide)) (by decide) (Nat.le_refl _) (by decide) (Nat.le_of_ble_eq_true rfl) ?_
  rintro _ _ m0 (⟨hw0, rfl, rfl, hS⟩ | ⟨hv, rfl, rfl, rfl⟩) -
  · refine V_one ?_
    have hR := hS.rf hR0
    have hTs := hS.tx hf hT
    have hlw0 := hS.le
    refine V_if_eq (tgt := 32) dR_one_20 rfl (fun h => absurd h (by decide)) (fun _ => ?_)
    refine V_iinc (v := 2) (loc' := [(2, .int 2), (3, .int 0), (0, .ref 58), (1, .int 1)]) dR_one_23 rfl (by decide) (by decide) rfl ?_
    refine V_iinc (v := 1) (loc' := [(3, .int 1), (2, .int 2), (0, .ref 58), (1, .int 1)]) dR_one_26 rfl (by decide) (by decide) rfl ?_
    refine V_goto (tgt := 4) dR_one_29 rfl ?_
    refine V_iload_n dR_one_4 rfl ?_
    refine V_iconst (v := 4) dR_one_5 (by decide) ?_
    refine V_icmp_ge (tgt := 32) dR_one_6 rfl (fun h => absurd h (by decide)) (fun _ => ?_)
    refine V_iload_n dR_one_9 rfl ?_
    refine V_iconst (v := 4) dR_one_10 (by decide) ?_
    refine V_icmp_ge (tgt := 32) dR_one_11 rfl (fun h => absurd h (by decide)) (fun _ => ?_)
    refine V_aload_n dR_one_14 rfl ?_
    refine V_bipush (v := 33) dR_one_15 (by decide) ?_
    refine V_callV (as := [.int 33]) (rest := []) (bs' := 0) rfl dR_one_17 cmR_takes cvR_takes mlR_31 (Or.inl ⟨_, _, _, _, _, rfl, k58, by decide, rfl⟩) rfl rfl (c_rtakes hR0 hf hT hS (c := 33) (by decide)) (by decide) (Nat.le_refl _) (by decide) (Nat.le_of_ble_eq_true rfl) ?_
    rintro _ _ m1 (⟨hw1, rfl, rfl, hS⟩ | ⟨hv, rfl, rfl, rfl⟩) -
    · refine V_one ?_
      have hR := hS.rf hR0
      have hTs := hS.tx hf hT
      have hlw1 := hS.le
      refine V_if_eq (tgt := 32) dR_one_20 rfl (fun h => absurd h (by decide)) (fun _ => ?_)
      refine V_iinc (v := 3) (loc' := [(2, .int 3), (3, .int 1), (0, .ref 58), (1, .int 1)]) dR_one_23 rfl (by decide) (by decide) rfl ?_
      refine V_iinc (v := 2) (loc' := [(3, .int 2), (2, .int 3), (0, .ref 58), (1, .int 1)]) dR_one_26 rfl (by decide) (by decide) rfl ?_
      refine V_goto (tgt := 4) dR_one_29 rfl ?_
      refine V_iload_n dR_one_4 rfl ?_
      refine V_iconst (v := 4) dR_one_5 (by decide) ?_
      refine V_icmp_ge (tgt := 32) dR_one_6 rfl (fun h => absurd h (by decide)) (fun _ => ?_)
      refine V_iload_n dR_one_9 rfl ?_
      refine V_iconst (v := 4) dR_one_10 (by decide) ?_
      refine V_icmp_ge (tgt := 32) dR_one_11 rfl (fun h => absurd h (by decide)) (fun _ => ?_)
      refine V_aload_n dR_one_14 rfl ?_
      refine V_bipush (v := 33) dR_one_15 (by decide) ?_
      refine V_callV (as := [.int 33]) (rest := []) (bs' := 0) rfl dR_one_17 cmR_takes cvR_takes mlR_31 (Or.inl ⟨_, _, _, _, _, rfl, k58, by decide, rfl⟩) rfl rfl (c_rtakes hR0 hf hT hS (c := 33) (by decide)) (by decide) (Nat.le_refl _) (by decide) (Nat.le_of_ble_eq_true rfl) ?_
      rintro _ _ m2 (⟨hw2, rfl, rfl, hS⟩ | ⟨hv, rfl, rfl, rfl⟩) -
      · refine V_one ?_
        have hR := hS.rf hR0
        have hTs := hS.tx hf hT
        have hlw2 := hS.le
        refine V_if_eq (tgt := 32) dR_one_20 rfl (fun h => absurd h (by decide)) (fun _ => ?_)
        refine V_iinc (v := 4) (loc' := [(2, .int 4), (3, .int 2), (0, .ref 58), (1, .int 1)]) dR_one_23 rfl (by decide) (by decide) rfl ?_
        refine V_iinc (v := 3) (loc' := [(3, .int 3), (2, .int 4), (0, .ref 58), (1, .int 1)]) dR_one_26 rfl (by decide) (by decide) rfl ?_
        refine V_goto (tgt := 4) dR_one_29 rfl ?_
        refine V_iload_n dR_one_4 rfl ?_
        refine V_iconst (v := 4) dR_one_5 (by decide) ?_
        refine V_icmp_ge (tgt := 32) dR_one_6 rfl (fun h => absurd h (by decide)) (fun _ => ?_)
        refine V_iload_n dR_one_9 rfl ?_
        refine V_iconst (v := 4) dR_one_10 (by decide) ?_
        refine V_icmp_ge (tgt := 32) dR_one_11 rfl (fun _ => ?_) (fun h => absurd h (by decide))
        refine V_iload_n dR_one_32 rfl ?_
        refine V_iconst (v := 4) dR_one_33 (by decide) ?_
        refine V_icmp_ge (tgt := 74) dR_one_34 rfl (fun _ => ?_) (fun h => absurd h (by decide))
        refine V_aload_n dR_one_74 rfl ?_
        refine V_callV (as := []) (rest := []) (bs' := 0) rfl dR_one_75 cmR_test cvR_test mlR_74 (Or.inl ⟨_, _, _, _, _, rfl, k58, by decide, rfl⟩) rfl rfl (c_rtest hR0 hf hT hS (by omega)) (by decide) (Nat.le_refl _) (by decide) (Nat.le_of_ble_eq_true rfl) ?_
        rintro _ _ mT (⟨haT, rfl, rfl, hS⟩ | ⟨haT, rfl, rfl, b2, o2, hS⟩) -
        · refine V_one ?_
          have hR := hS.rf hR0
          have hTs := hS.tx hf hT
          have hleT := hS.le
          refine V_istore_n (loc' := [(3, .int 1), (2, .int 4), (0, .ref 58), (1, .int 1)]) dR_one_78 (by decide) rfl ?_
          refine V_iload_n dR_one_79 rfl ?_
          refine V_iload_n dR_one_80 rfl ?_
          refine V_isub dR_one_81 ?_
          refine V_topI (x' := 3) (by decide) ?_
          refine V_iconst (v := 2) dR_one_82 (by decide) ?_
          refine V_irem dR_one_83 (by decide) ?_
          refine V_topI (x' := 1) (by decide) ?_
          refine V_if_eq (tgt := 91) dR_one_84 rfl (fun h => absurd h (by decide)) (fun _ => ?_)
          refine V_iconst (v := 1) dR_one_87 (by decide) ?_
          refine V_goto (tgt := 92) dR_one_88 rfl ?_
          refine V_istore (loc' := [(4, .int 1), (3, .int 1), (2, .int 4), (0, .ref 58), (1, .int 1)]) dR_one_92 (by decide) rfl ?_
          refine V_iload_n dR_one_94 rfl ?_
          refine V_if_eq (tgt := 115) dR_one_95 rfl (fun h => absurd h (by decide)) (fun _ => ?_)
          refine V_iload dR_one_98 rfl ?_
          refine V_if_eq (tgt := 111) dR_one_100 rfl (fun h => absurd h (by decide)) (fun _ => ?_)
          refine V_aload_n dR_one_103 rfl ?_
          refine V_iconst (v := -1) dR_one_104 (by decide) ?_
          refine V_callV (as := [.int (-1)]) (rest := []) (bs' := 0) rfl dR_one_105 cmR_writes cvR_writes mlR_68 (Or.inl ⟨_, _, _, _, _, rfl, k58, by decide, rfl⟩) rfl rfl (c_rwrites hR0 hf hT hS (op := 30001) (by decide) (by have hg := (ts_gd hT.2.2 (p := p + 1 + 1 + 1) (by omega)).2.2 haT; rw [List.length_append]; omega)) (by decide) (Nat.le_refl _) (by decide) (Nat.le_of_ble_eq_true rfl) ?_
          rintro _ _ m105 ⟨rfl, rfl, hS⟩ -
          refine V_one ?_
          have hR := hS.rf hR0
          have hTs := hS.tx hf hT
          refine V_if_eq (tgt := 115) dR_one_108 rfl (fun h => absurd h (by decide)) (fun _ => ?_)
          refine V_iconst (v := 1) dR_one_111 (by decide) ?_
          refine V_goto (tgt := 116) dR_one_112 rfl ?_
          refine V_zret dR_one_116 rfl rfl rfl ?_
          have hj : bgs ch 3 p = 3 := by
            show (if ch (p) = 33 then (if ch (p + 1) = 33 then (if ch (p + 1 + 1) = 33 then 0 + 1 else 0) + 1 else 0) + 1 else 0) = 3
            rw [if_pos hw0, if_pos hw1, if_pos hw2]
          rw [on_b hj (by rintro ⟨h1, h2⟩; first | exact absurd h1 (by decide) | exact ho h2)]
          exact rp_odd haT (by decide) hS
        · refine V_one ?_
          refine V_istore_n (loc' := [(3, .int 0), (2, .int 4), (0, .ref 58), (1, .int 1)]) dR_one_78 (by decide) rfl ?_
          refine V_iload_n dR_one_79 rfl ?_
          refine V_iload_n dR_one_80 rfl ?_
          refine V_isub dR_one_81 ?_
          refine V_topI (x' := 3) (by decide) ?_
          refine V_iconst (v := 2) dR_one_82 (by decide) ?_
          refine V_irem dR_one_83 (by decide) ?_
          refine V_topI (x' := 1) (by decide) ?_
          refine V_if_eq (tgt := 91) dR_one_84 rfl (fun h => absurd h (by decide)) (fun _ => ?_)
          refine V_iconst (v := 1) dR_one_87 (by decide) ?_
          refine V_goto (tgt := 92) dR_one_88 rfl ?_
          refine V_istore (loc' := [(4, .int 1), (3, .int 0), (2, .int 4), (0, .ref 58), (1, .int 1)]) dR_one_92 (by decide) rfl ?_
          refine V_iload_n dR_one_94 rfl ?_
          refine V_if_eq (tgt := 115) dR_one_95 rfl (fun _ => ?_) (fun h => absurd h (by decide))
          refine V_iconst (v := 0) dR_one_115 (by decide) ?_
          refine V_zret dR_one_116 rfl rfl rfl ?_
          have hj : bgs ch 3 p = 3 := by
            show (if ch (p) = 33 then (if ch (p + 1) = 33 then (if ch (p + 1 + 1) = 33 then 0 + 1 else 0) + 1 else 0) + 1 else 0) = 3
            rw [if_pos hw0, if_pos hw1, if_pos hw2]
          rw [on_b hj (by rintro ⟨h1, h2⟩; first | exact absurd h1 (by decide) | exact ho h2)]
          exact rp_fail haT hS
      · refine V_one ?_
        refine V_if_eq (tgt := 32) dR_one_20 rfl (fun _ => ?_) (fun h => absurd h (by decide))
        refine V_iload_n dR_one_32 rfl ?_
        refine V_iconst (v := 4) dR_one_33 (by decide) ?_
        refine V_icmp_ge (tgt := 74) dR_one_34 rfl (fun h => absurd h (by decide)) (fun _ => ?_)
        refine V_aload_n dR_one_37 rfl ?_
        refine V_bipush (v := 40) dR_one_38 (by decide) ?_
        refine V_callV (as := [.int 40]) (rest := []) (bs' := 0) rfl dR_one_40 cmR_takes cvR_takes mlR_31 (Or.inl ⟨_, _, _, _, _, rfl, k58, by decide, rfl⟩) rfl rfl (c_rtakes hR0 hf hT hS (c := 40) (by decide)) (by decide) (Nat.le_refl _) (by decide) (Nat.le_of_ble_eq_true rfl) ?_
        rintro _ _ mo (⟨ho, rfl, rfl, hS⟩ | ⟨ho, rfl, rfl, rfl⟩) -
        · refine V_one ?_
          have hR := hS.rf hR0
          have hTs := hS.tx hf hT
          have hlo := hS.le
          refine V_if_eq (tgt := 74) dR_one_43 rfl (fun h => absurd h (by decide)) (fun _ => ?_)
          refine V_aload_n dR_one_46 rfl ?_
          refine V_iload_n dR_one_47 rfl ?_
          refine V_iconst (v := 1) dR_one_48 (by decide) ?_
          refine V_iadd dR_one_49 ?_
          refine V_topI (x' := 4) (by decide) ?_
          refine V_callV (as := [.int 4]) (rest := []) (bs' := 0) rfl dR_one_50 cmR_any cvR_any mlR_64 (Or.inl ⟨_, _, _, _, _, rfl, k58, by decide, rfl⟩) rfl rfl (c_rany0 hR0 hf hT hS (by omega)) (by decide) (Nat.le_refl _) (by decide) (Nat.le_of_ble_eq_true rfl) ?_
          rintro _ _ mA (⟨haA, rfl, rfl, hS⟩ | ⟨haA, rfl, rfl, b2, o2, hS⟩) -
          · refine V_one ?_
            have hR := hS.rf hR0
            have hTs := hS.tx hf hT
            have hleA := hS.le
            refine V_if_eq (tgt := 69) dR_one_53 rfl (fun h => absurd h (by decide)) (fun _ => ?_)
            refine V_aload_n dR_one_56 rfl ?_
            refine V_bipush (v := 41) dR_one_57 (by decide) ?_
            refine V_callV (as := [.int 41]) (rest := []) (bs' := 0) rfl dR_one_59 cmR_takes cvR_takes mlR_31 (Or.inl ⟨_, _, _, _, _, rfl, k58, by decide, rfl⟩) rfl rfl (c_rtakes hR0 hf hT hS (c := 41) (by decide)) (by decide) (Nat.le_refl _) (by decide) (Nat.le_of_ble_eq_true rfl) ?_
            rintro _ _ mc (⟨hcl, rfl, rfl, hS⟩ | ⟨hcl, rfl, rfl, rfl⟩) -
            · refine V_one ?_
              have hR := hS.rf hR0
              have hTs := hS.tx hf hT
              have hlc := hS.le
              refine V_if_eq (tgt := 69) dR_one_62 rfl (fun h => absurd h (by decide)) (fun _ => ?_)
              refine V_iconst (v := 1) dR_one_65 (by decide) ?_
              refine V_goto (tgt := 70) dR_one_66 rfl ?_
              refine V_istore_n (loc' := [(3, .int 1), (2, .int 3), (0, .ref 58), (1, .int 1)]) dR_one_70 (by decide) rfl ?_
              refine V_goto (tgt := 79) dR_one_71 rfl ?_
              refine V_iload_n dR_one_79 rfl ?_
              refine V_iload_n dR_one_80 rfl ?_
              refine V_isub dR_one_81 ?_
              refine V_topI (x' := 2) (by decide) ?_
              refine V_iconst (v := 2) dR_one_82 (by decide) ?_
              refine V_irem dR_one_83 (by decide) ?_
              refine V_topI (x' := 0) (by decide) ?_
              refine V_if_eq (tgt := 91) dR_one_84 rfl (fun _ => ?_) (fun h => absurd h (by decide))
              refine V_iconst (v := 0) dR_one_91 (by decide) ?_
              refine V_istore (loc' := [(4, .int 0), (3, .int 1), (2, .int 3), (0, .ref 58), (1, .int 1)]) dR_one_92 (by decide) rfl ?_
              refine V_iload_n dR_one_94 rfl ?_
              refine V_if_eq (tgt := 115) dR_one_95 rfl (fun h => absurd h (by decide)) (fun _ => ?_)
              refine V_iload dR_one_98 rfl ?_
              refine V_if_eq (tgt := 111) dR_one_100 rfl (fun _ => ?_) (fun h => absurd h (by decide))
              refine V_iconst (v := 1) dR_one_111 (by decide) ?_
              refine V_goto (tgt := 116) dR_one_112 rfl ?_
              refine V_zret dR_one_116 rfl rfl rfl ?_
              have hj : bgs ch 3 p = 2 := by
                show (if ch (p) = 33 then (if ch (p + 1) = 33 then (if ch (p + 1 + 1) = 33 then bgs ch 0 (p + 1 + 1 + 1) + 1 else 0) + 1 else 0) + 1 else 0) = 2
                rw [if_pos hw0, if_pos hw1, if_neg hv]
              rw [on_a hj ⟨by decide, ho⟩]
              rw [cls_t haA hcl]
              exact rp_even rfl (by decide) hS
            · refine V_one ?_
              refine V_if_eq (tgt := 69) dR_one_62 rfl (fun _ => ?_) (fun h => absurd h (by decide))
              refine V_iconst (v := 0) dR_one_69 (by decide) ?_
              refine V_istore_n (loc' := [(3, .int 0), (2, .int 3), (0, .ref 58), (1, .int 1)]) dR_one_70 (by decide) rfl ?_
              refine V_goto (tgt := 79) dR_one_71 rfl ?_
              refine V_iload_n dR_one_79 rfl ?_
              refine V_iload_n dR_one_80 rfl ?_
              refine V_isub dR_one_81 ?_
              refine V_topI (x' := 2) (by decide) ?_
              refine V_iconst (v := 2) dR_one_82 (by decide) ?_
              refine V_irem dR_one_83 (by decide) ?_
              refine V_topI (x' := 0) (by decide) ?_
              refine V_if_eq (tgt := 91) dR_one_84 rfl (fun _ => ?_) (fun h => absurd h (by decide))
              refine V_iconst (v := 0) dR_one_91 (by decide) ?_
              refine V_istore (loc' := [(4, .int 0), (3, .int 0), (2, .int 3), (0, .ref 58), (1, .int 1)]) dR_one_92 (by decide) rfl ?_
              refine V_iload_n dR_one_94 rfl ?_
              refine V_if_eq (tgt := 115) dR_one_95 rfl (fun _ => ?_) (fun h => absurd h (by decide))
              refine V_iconst (v := 0) dR_one_115 (by decide) ?_
              refine V_zret dR_one_116 rfl rfl rfl ?_
              have hj : bgs ch 3 p = 2 := by
                show (if ch (p) = 33 then (if ch (p + 1) = 33 then (if ch (p + 1 + 1) = 33 then bgs ch 0 (p + 1 + 1 + 1) + 1 else 0) + 1 else 0) + 1 else 0) = 2
                rw [if_pos hw0, if_pos hw1, if_neg hv]
              rw [on_a hj ⟨by decide, ho⟩]
              rw [cls_f haA hcl]
              exact rp_fail rfl hS
          · refine V_one ?_
            refine V_if_eq (tgt := 69) dR_one_53 rfl (fun _ => ?_) (fun h => absurd h (by decide))
            refine V_iconst (v := 0) dR_one_69 (by decide) ?_
            refine V_istore_n (loc' := [(3, .int 0), (2, .int 3), (0, .ref 58), (1, .int 1)]) dR_one_70 (by decide) rfl ?_
            refine V_goto (tgt := 79) dR_one_71 rfl ?_
            refine V_iload_n dR_one_79 rfl ?_
            refine V_iload_n dR_one_80 rfl ?_
            refine V_isub dR_one_81 ?_
            refine V_topI (x' := 2) (by decide) ?_
            refine V_iconst (v := 2) dR_one_82 (by decide) ?_
            refine V_irem dR_one_83 (by decide) ?_
            refine V_topI (x' := 0) (by decide) ?_
            refine V_if_eq (tgt := 91) dR_one_84 rfl (fun _ => ?_) (fun h => absurd h (by decide))
            refine V_iconst (v := 0) dR_one_91 (by decide) ?_
            refine V_istore (loc' := [(4, .int 0), (3, .int 0), (2, .int 3), (0, .ref 58), (1, .int 1)]) dR_one_92 (by decide) rfl ?_
            refine V_iload_n dR_one_94 rfl ?_
            refine V_if_eq (tgt := 115) dR_one_95 rfl (fun _ => ?_) (fun h => absurd h (by decide))
            refine V_iconst (v := 0) dR_one_115 (by decide) ?_
            refine V_zret dR_one_116 rfl rfl rfl ?_
            have hj : bgs ch 3 p = 2 := by
              show (if ch (p) = 33 then (if ch (p + 1) = 33 then (if ch (p + 1 + 1) = 33 then bgs ch 0 (p + 1 + 1 + 1) + 1 else 0) + 1 else 0) + 1 else 0) = 2
              rw [if_pos hw0, if_pos hw1, if_neg hv]
            rw [on_a hj ⟨by decide, ho⟩]
            rw [cls_n haA]
            exact rp_fail haA hS
        · refine V_one ?_
          refine V_if_eq (tgt := 74) dR_one_43 rfl (fun _ => ?_) (fun h => absurd h (by decide))
          refine V_aload_n dR_one_74 rfl ?_
          refine V_callV (as := []) (rest := []) (bs' := 0) rfl dR_one_75 cmR_test cvR_test mlR_74 (Or.inl ⟨_, _, _, _, _, rfl, k58, by decide, rfl⟩) rfl rfl (c_rtest hR0 hf hT hS (by omega)) (by decide) (Nat.le_refl _) (by decide) (Nat.le_of_ble_eq_true rfl) ?_
          rintro _ _ mT (⟨haT, rfl, rfl, hS⟩ | ⟨haT, rfl, rfl, b2, o2, hS⟩) -
          · refine V_one ?_
            have hR := hS.rf hR0
            have hTs := hS.tx hf hT
            have hleT := hS.le
            refine V_istore_n (loc' := [(3, .int 1), (2, .int 3), (0, .ref 58), (1, .int 1)]) dR_one_78 (by decide) rfl ?_
            refine V_iload_n dR_one_79 rfl ?_
            refine V_iload_n dR_one_80 rfl ?_
            refine V_isub dR_one_81 ?_
            refine V_topI (x' := 2) (by decide) ?_
            refine V_iconst (v := 2) dR_one_82 (by decide) ?_
            refine V_irem dR_one_83 (by decide) ?_
            refine V_topI (x' := 0) (by decide) ?_
            refine V_if_eq (tgt := 91) dR_one_84 rfl (fun _ => ?_) (fun h => absurd h (by decide))
            refine V_iconst (v := 0) dR_one_91 (by decide) ?_
            refine V_istore (loc' := [(4, .int 0), (3, .int 1), (2, .int 3), (0, .ref 58), (1, .int 1)]) dR_one_92 (by decide) rfl ?_
            refine V_iload_n dR_one_94 rfl ?_
            refine V_if_eq (tgt := 115) dR_one_95 rfl (fun h => absurd h (by decide)) (fun _ => ?_)
            refine V_iload dR_one_98 rfl ?_
            refine V_if_eq (tgt := 111) dR_one_100 rfl (fun _ => ?_) (fun h => absurd h (by decide))
            refine V_iconst (v := 1) dR_one_111 (by decide) ?_
            refine V_goto (tgt := 116) dR_one_112 rfl ?_
            refine V_zret dR_one_116 rfl rfl rfl ?_
            have hj : bgs ch 3 p = 2 := by
              show (if ch (p) = 33 then (if ch (p + 1) = 33 then (if ch (p + 1 + 1) = 33 then bgs ch 0 (p + 1 + 1 + 1) + 1 else 0) + 1 else 0) + 1 else 0) = 2
              rw [if_pos hw0, if_pos hw1, if_neg hv]
            rw [on_b hj (by rintro ⟨h1, h2⟩; first | exact absurd h1 (by decide) | exact ho h2)]
            exact rp_even haT (by decide) hS
          · refine V_one ?_
            refine V_istore_n (loc' := [(3, .int 0), (2, .int 3), (0, .ref 58), (1, .int 1)]) dR_one_78 (by decide) rfl ?_
            refine V_iload_n dR_one_79 rfl ?_
            refine V_iload_n dR_one_80 rfl ?_
            refine V_isub dR_one_81 ?_
            refine V_topI (x' := 2) (by decide) ?_
            refine V_iconst (v := 2) dR_one_82 (by decide) ?_
            refine V_irem dR_one_83 (by decide) ?_
            refine V_topI (x' := 0) (by decide) ?_
            refine V_if_eq (tgt := 91) dR_one_84 rfl (fun _ => ?_) (fun h => absurd h (by decide))
            refine V_iconst (v := 0) dR_one_91 (by decide) ?_
            refine V_istore (loc' := [(4, .int 0), (3, .int 0), (2, .int 3), (0, .ref 58), (1, .int 1)]) dR_one_92 (by decide) rfl ?_
            refine V_iload_n dR_one_94 rfl ?_
            refine V_if_eq (tgt := 115) dR_one_95 rfl (fun _ => ?_) (fun h => absurd h (by decide))
            refine V_iconst (v := 0) dR_one_115 (by decide) ?_
            refine V_zret dR_one_116 rfl rfl rfl ?_
            have hj : bgs ch 3 p = 2 := by
              show (if ch (p) = 33 then (if ch (p + 1) = 33 then (if ch (p + 1 + 1) = 33 then bgs ch 0 (p + 1 + 1 + 1) + 1 else 0) + 1 else 0) + 1 else 0) = 2
              rw [if_pos hw0, if_pos hw1, if_neg hv]
            rw [on_b hj (by rintro ⟨h1, h2⟩; first | exact absurd h1 (by decide) | exact ho h2)]
            exact rp_fail haT hS
    · refine V_one ?_
      refine V_if_eq (tgt := 32) dR_one_20 rfl (fun _ => ?_) (fun h => absurd h (by decide))
      refine V_iload_n dR_one_32 rfl ?_
      refine V_iconst (v := 4) dR_one_33 (by decide) ?_
      refine V_icmp_ge (tgt := 74) dR_one_34 rfl (fun h => absurd h (by decide)) (fun _ => ?_)
      refine V_aload_n dR_one_37 rfl ?_
      refine V_bipush (v := 40) dR_one_38 (by decide) ?_
      refine V_callV (as := [.int 40]) (rest := []) (bs' := 0) rfl dR_one_40 cmR_takes cvR_takes mlR_31 (Or.inl ⟨_, _, _, _, _, rfl, k58, by decide, rfl⟩) rfl rfl (c_rtakes hR0 hf hT hS (c := 40) (by decide)) (by decide) (Nat.le_refl _) (by decide) (Nat.le_of_ble_eq_true rfl) ?_
      rintro _ _ mo (⟨ho, rfl, rfl, hS⟩ | ⟨ho, rfl, rfl, rfl⟩) -
      · refine V_one ?_
        have hR := hS.rf hR0
        have hTs := hS.tx hf hT
        have hlo := hS.le
        refine V_if_eq (tgt := 74) dR_one_43 rfl (fun h => absurd h (by decide)) (fun _ => ?_)
        refine V_aload_n dR_one_46 rfl ?_
        refine V_iload_n dR_one_47 rfl ?_
        refine V_iconst (v := 1) dR_one_48 (by decide) ?_
        refine V_iadd dR_one_49 ?_
        refine V_topI (x' := 3) (by decide) ?_
        refine V_callV (as := [.int 3]) (rest := []) (bs' := 0) rfl dR_one_50 cmR_any cvR_any mlR_64 (Or.inl ⟨_, _, _, _, _, rfl, k58, by decide, rfl⟩) rfl rfl (c_rany1 hR0 hf hT hS (by omega)) (by decide) (Nat.le_refl _) (by decide) (Nat.le_of_ble_eq_true rfl) ?_
        rintro _ _ mA (⟨haA, rfl, rfl, hS⟩ | ⟨haA, rfl, rfl, b2, o2, hS⟩) -
        · refine V_one ?_
          have hR := hS.rf hR0
          have hTs := hS.tx hf hT
          have hleA := hS.le
          refine V_if_eq (tgt := 69) dR_one_53 rfl (fun h => absurd h (by decide)) (fun _ => ?_)
          refine V_aload_n dR_one_56 rfl ?_
          refine V_bipush (v := 41) dR_one_57 (by decide) ?_
          refine V_callV (as := [.int 41]) (rest := []) (bs' := 0) rfl dR_one_59 cmR_takes cvR_takes mlR_31 (Or.inl ⟨_, _, _, _, _, rfl, k58, by decide, rfl⟩) rfl rfl (c_rtakes hR0 hf hT hS (c := 41) (by decide)) (by decide) (Nat.le_refl _) (by decide) (Nat.le_of_ble_eq_true rfl) ?_
          rintro _ _ mc (⟨hcl, rfl, rfl, hS⟩ | ⟨hcl, rfl, rfl, rfl⟩) -
          · refine V_one ?_
            have hR := hS.rf hR0
            have hTs := hS.tx hf hT
            have hlc := hS.le
            refine V_if_eq (tgt := 69) dR_one_62 rfl (fun h => absurd h (by decide)) (fun _ => ?_)
            refine V_iconst (v := 1) dR_one_65 (by decide) ?_
            refine V_goto (tgt := 70) dR_one_66 rfl ?_
            refine V_istore_n (loc' := [(3, .int 1), (2, .int 2), (0, .ref 58), (1, .int 1)]) dR_one_70 (by decide) rfl ?_
            refine V_goto (tgt := 79) dR_one_71 rfl ?_
            refine V_iload_n dR_one_79 rfl ?_
            refine V_iload_n dR_one_80 rfl ?_
            refine V_isub dR_one_81 ?_
            refine V_topI (x' := 1) (by decide) ?_
            refine V_iconst (v := 2) dR_one_82 (by decide) ?_
            refine V_irem dR_one_83 (by decide) ?_
            refine V_topI (x' := 1) (by decide) ?_
            refine V_if_eq (tgt := 91) dR_one_84 rfl (fun h => absurd h (by decide)) (fun _ => ?_)
            refine V_iconst (v := 1) dR_one_87 (by decide) ?_
            refine V_goto (tgt := 92) dR_one_88 rfl ?_
            refine V_istore (loc' := [(4, .int 1), (3, .int 1), (2, .int 2), (0, .ref 58), (1, .int 1)]) dR_one_92 (by decide) rfl ?_
            refine V_iload_n dR_one_94 rfl ?_
            refine V_if_eq (tgt := 115) dR_one_95 rfl (fun h => absurd h (by decide)) (fun _ => ?_)
            refine V_iload dR_one_98 rfl ?_
            refine V_if_eq (tgt := 111) dR_one_100 rfl (fun h => absurd h (by decide)) (fun _ => ?_)
            refine V_aload_n dR_one_103 rfl ?_
            refine V_iconst (v := -1) dR_one_104 (by decide) ?_
            refine V_callV (as := [.int (-1)]) (rest := []) (bs' := 0) rfl dR_one_105 cmR_writes cvR_writes mlR_68 (Or.inl ⟨_, _, _, _, _, rfl, k58, by decide, rfl⟩) rfl rfl (c_rwrites hR0 hf hT hS (op := 30001) (by decide) (by have hg := (anK_gd hT.2.2 1 (q := p + 1 + 1) (by omega)).2.2 haA; rw [List.length_append]; omega)) (by decide) (Nat.le_refl _) (by decide) (Nat.le_of_ble_eq_true rfl) ?_
            rintro _ _ m105 ⟨rfl, rfl, hS⟩ -
            refine V_one ?_
            have hR := hS.rf hR0
            have hTs := hS.tx hf hT
            refine V_if_eq (tgt := 115) dR_one_108 rfl (fun h => absurd h (by decide)) (fun _ => ?_)
            refine V_iconst (v := 1) dR_one_111 (by decide) ?_
            refine V_goto (tgt := 116) dR_one_112 rfl ?_
            refine V_zret dR_one_116 rfl rfl rfl ?_
            have hj : bgs ch 3 p = 1 := by
              show (if ch (p) = 33 then (if ch (p + 1) = 33 then bgs ch 1 (p + 1 + 1) + 1 else 0) + 1 else 0) = 1
              rw [if_pos hw0, if_neg hv]
            rw [on_a hj ⟨by decide, ho⟩]
            rw [cls_t haA hcl]
            exact rp_odd rfl (by decide) hS
          · refine V_one ?_
            refine V_if_eq (tgt := 69) dR_one_62 rfl (fun _ => ?_) (fun h => absurd h (by decide))
            refine V_iconst (v := 0) dR_one_69 (by decide) ?_
            refine V_istore_n (loc' := [(3, .int 0), (2, .int 2), (0, .ref 58), (1, .int 1)]) dR_one_70 (by decide) rfl ?_
            refine V_goto (tgt := 79) dR_one_71 rfl ?_
            refine V_iload_n dR_one_79 rfl ?_
            refine V_iload_n dR_one_80 rfl ?_
            refine V_isub dR_one_81 ?_
            refine V_topI (x' := 1) (by decide) ?_
            refine V_iconst (v := 2) dR_one_82 (by decide) ?_
            refine V_irem dR_one_83 (by decide) ?_
            refine V_topI (x' := 1) (by decide) ?_
            refine V_if_eq (tgt := 91) dR_one_84 rfl (fun h => absurd h (by decide)) (fun _ => ?_)
            refine V_iconst (v := 1) dR_one_87 (by decide) ?_
            refine V_goto (tgt := 92) dR_one_88 rfl ?_
            refine V_istore (loc' := [(4, .int 1), (3, .int 0), (2, .int 2), (0, .ref 58), (1, .int 1)]) dR_one_92 (by decide) rfl ?_
            refine V_iload_n dR_one_94 rfl ?_
            refine V_if_eq (tgt := 115) dR_one_95 rfl (fun _ => ?_) (fun h => absurd h (by decide))
            refine V_iconst (v := 0) dR_one_115 (by decide) ?_
            refine V_zret dR_one_116 rfl rfl rfl ?_
            have hj : bgs ch 3 p = 1 := by
              show (if ch (p) = 33 then (if ch (p + 1) = 33 then bgs ch 1 (p + 1 + 1) + 1 else 0) + 1 else 0) = 1
              rw [if_pos hw0, if_neg hv]
            rw [on_a hj ⟨by decide, ho⟩]
            rw [cls_f haA hcl]
            exact rp_fail rfl hS
        · refine V_one ?_
          refine V_if_eq (tgt := 69) dR_one_53 rfl (fun _ => ?_) (fun h => absurd h (by decide))
          refine V_iconst (v := 0) dR_one_69 (by decide) ?_
          refine V_istore_n (loc' := [(3, .int 0), (2, .int 2), (0, .ref 58), (1, .int 1)]) dR_one_70 (by decide) rfl ?_
          refine V_goto (tgt := 79) dR_one_71 rfl ?_
          refine V_iload_n dR_one_79 rfl ?_
          refine V_iload_n dR_one_80 rfl ?_
          refine V_isub dR_one_81 ?_
          refine V_topI (x' := 1) (by decide) ?_
          refine V_iconst (v := 2) dR_one_82 (by decide) ?_
          refine V_irem dR_one_83 (by decide) ?_
          refine V_topI (x' := 1) (by decide) ?_
          refine V_if_eq (tgt := 91) dR_one_84 rfl (fun h => absurd h (by decide)) (fun _ => ?_)
          refine V_iconst (v := 1) dR_one_87 (by decide) ?_
          refine V_goto (tgt := 92) dR_one_88 rfl ?_
          refine V_istore (loc' := [(4, .int 1), (3, .int 0), (2, .int 2), (0, .ref 58), (1, .int 1)]) dR_one_92 (by decide) rfl ?_
          refine V_iload_n dR_one_94 rfl ?_
          refine V_if_eq (tgt := 115) dR_one_95 rfl (fun _ => ?_) (fun h => absurd h (by decide))
          refine V_iconst (v := 0) dR_one_115 (by decide) ?_
          refine V_zret dR_one_116 rfl rfl rfl ?_
          have hj : bgs ch 3 p = 1 := by
            show (if ch (p) = 33 then (if ch (p + 1) = 33 then bgs ch 1 (p + 1 + 1) + 1 else 0) + 1 else 0) = 1
            rw [if_pos hw0, if_neg hv]
          rw [on_a hj ⟨by decide, ho⟩]
          rw [cls_n haA]
          exact rp_fail haA hS
      · refine V_one ?_
        refine V_if_eq (tgt := 74) dR_one_43 rfl (fun _ => ?_) (fun h => absurd h (by decide))
        refine V_aload_n dR_one_74 rfl ?_
        refine V_callV (as := []) (rest := []) (bs' := 0) rfl dR_one_75 cmR_test cvR_test mlR_74 (Or.inl ⟨_, _, _, _, _, rfl, k58, by decide, rfl⟩) rfl rfl (c_rtest hR0 hf hT hS (by omega)) (by decide) (Nat.le_refl _) (by decide) (Nat.le_of_ble_eq_true rfl) ?_
        rintro _ _ mT (⟨haT, rfl, rfl, hS⟩ | ⟨haT, rfl, rfl, b2, o2, hS⟩) -
        · refine V_one ?_
          have hR := hS.rf hR0
          have hTs := hS.tx hf hT
          have hleT := hS.le
          refine V_istore_n (loc' := [(3, .int 1), (2, .int 2), (0, .ref 58), (1, .int 1)]) dR_one_78 (by decide) rfl ?_
          refine V_iload_n dR_one_79 rfl ?_
          refine V_iload_n dR_one_80 rfl ?_
          refine V_isub dR_one_81 ?_
          refine V_topI (x' := 1) (by decide) ?_
          refine V_iconst (v := 2) dR_one_82 (by decide) ?_
          refine V_irem dR_one_83 (by decide) ?_
          refine V_topI (x' := 1) (by decide) ?_
          refine V_if_eq (tgt := 91) dR_one_84 rfl (fun h => absurd h (by decide)) (fun _ => ?_)
          refine V_iconst (v := 1) dR_one_87 (by decide) ?_
          refine V_goto (tgt := 92) dR_one_88 rfl ?_
          refine V_istore (loc' := [(4, .int 1), (3, .int 1), (2, .int 2), (0, .ref 58), (1, .int 1)]) dR_one_92 (by decide) rfl ?_
          refine V_iload_n dR_one_94 rfl ?_
          refine V_if_eq (tgt := 115) dR_one_95 rfl (fun h => absurd h (by decide)) (fun _ => ?_)
          refine V_iload dR_one_98 rfl ?_
          refine V_if_eq (tgt := 111) dR_one_100 rfl (fun h => absurd h (by decide)) (fun _ => ?_)
          refine V_aload_n dR_one_103 rfl ?_
          refine V_iconst (v := -1) dR_one_104 (by decide) ?_
          refine V_callV (as := [.int (-1)]) (rest := []) (bs' := 0) rfl dR_one_105 cmR_writes cvR_writes mlR_68 (Or.inl ⟨_, _, _, _, _, rfl, k58, by decide, rfl⟩) rfl rfl (c_rwrites hR0 hf hT hS (op := 30001) (by decide) (by have hg := (ts_gd hT.2.2 (p := p + 1) (by omega)).2.2 haT; rw [List.length_append]; omega)) (by decide) (Nat.le_refl _) (by decide) (Nat.le_of_ble_eq_true rfl) ?_
          rintro _ _ m105 ⟨rfl, rfl, hS⟩ -
          refine V_one ?_
          have hR := hS.rf hR0
          have hTs := hS.tx hf hT
          refine V_if_eq (tgt := 115) dR_one_108 rfl (fun h => absurd h (by decide)) (fun _ => ?_)
          refine V_iconst (v := 1) dR_one_111 (by decide) ?_
          refine V_goto (tgt := 116) dR_one_112 rfl ?_
          refine V_zret dR_one_116 rfl rfl rfl ?_
          have hj : bgs ch 3 p = 1 := by
            show (if ch (p) = 33 then (if ch (p + 1) = 33 then bgs ch 1 (p + 1 + 1) + 1 else 0) + 1 else 0) = 1
            rw [if_pos hw0, if_neg hv]
          rw [on_b hj (by rintro ⟨h1, h2⟩; first | exact absurd h1 (by decide) | exact ho h2)]
          exact rp_odd haT (by decide) hS
        · refine V_one ?_
          refine V_istore_n (loc' := [(3, .int 0), (2, .int 2), (0, .ref 58), (1, .int 1)]) dR_one_78 (by decide) rfl ?_
          refine V_iload_n dR_one_79 rfl ?_
          refine V_iload_n dR_one_80 rfl ?_
          refine V_isub dR_one_81 ?_
          refine V_topI (x' := 1) (by decide) ?_
          refine V_iconst (v := 2) dR_one_82 (by decide) ?_
          refine V_irem dR_one_83 (by decide) ?_
          refine V_topI (x' := 1) (by decide) ?_
          refine V_if_eq (tgt := 91) dR_one_84 rfl (fun h => absurd h (by decide)) (fun _ => ?_)
          refine V_iconst (v := 1) dR_one_87 (by decide) ?_
          refine V_goto (tgt := 92) dR_one_88 rfl ?_
          refine V_istore (loc' := [(4, .int 1), (3, .int 0), (2, .int 2), (0, .ref 58), (1, .int 1)]) dR_one_92 (by decide) rfl ?_
          refine V_iload_n dR_one_94 rfl ?_
          refine V_if_eq (tgt := 115) dR_one_95 rfl (fun _ => ?_) (fun h => absurd h (by decide))
          refine V_iconst (v := 0) dR_one_115 (by decide) ?_
          refine V_zret dR_one_116 rfl rfl rfl ?_
          have hj : bgs ch 3 p = 1 := by
            show (if ch (p) = 33 then (if ch (p + 1) = 33 then bgs ch 1 (p + 1 + 1) + 1 else 0) + 1 else 0) = 1
            rw [if_pos hw0, if_neg hv]
          rw [on_b hj (by rintro ⟨h1, h2⟩; first | exact absurd h1 (by decide) | exact ho h2)]
          exact rp_fail haT hS
  · refine V_one ?_
    refine V_if_eq (tgt := 32) dR_one_20 rfl (fun _ => ?_) (fun h => absurd h (by decide))
    refine V_iload_n dR_one_32 rfl ?_
    refine V_iconst (v := 4) dR_one_33 (by decide) ?_
    refine V_icmp_ge (tgt := 74) dR_one_34 rfl (fun h => absurd h (by decide)) (fun _ => ?_)
    refine V_aload_n dR_one_37 rfl ?_
    refine V_bipush (v := 40) dR_one_38 (by decide) ?_
    refine V_callV (as := [.int 40]) (rest := []) (bs' := 0) rfl dR_one_40 cmR_takes cvR_takes mlR_31 (Or.inl ⟨_, _, _, _, _, rfl, k58, by decide, rfl⟩) rfl rfl (c_rtakes hR0 hf hT hS (c := 40) (by decide)) (by decide) (Nat.le_refl _) (by decide) (Nat.le_of_ble_eq_true rfl) ?_
    rintro _ _ mo (⟨ho, rfl, rfl, hS⟩ | ⟨ho, rfl, rfl, rfl⟩) -
    · refine V_one ?_
      have hR := hS.rf hR0
      have hTs := hS.tx hf hT
      have hlo := hS.le
      refine V_if_eq (tgt := 74) dR_one_43 rfl (fun h => absurd h (by decide)) (fun _ => ?_)
      refine V_aload_n dR_one_46 rfl ?_
      refine V_iload_n dR_one_47 rfl ?_
      refine V_iconst (v := 1) dR_one_48 (by decide) ?_
      refine V_iadd dR_one_49 ?_
      refine V_topI (x' := 2) (by decide) ?_
      refine V_callV (as := [.int 2]) (rest := []) (bs' := 0) rfl dR_one_50 cmR_any cvR_any mlR_64 (Or.inl ⟨_, _, _, _, _, rfl, k58, by decide, rfl⟩) rfl rfl (c_rany2 hR0 hf hT hS (by omega)) (by decide) (Nat.le_refl _) (by decide) (Nat.le_of_ble_eq_true rfl) ?_
      rintro _ _ mA (⟨haA, rfl, rfl, hS⟩ | ⟨haA, rfl, rfl, b2, o2, hS⟩) -
      · refine V_one ?_
        have hR := hS.rf hR0
        have hTs := hS.tx hf hT
        have hleA := hS.le
        refine V_if_eq (tgt := 69) dR_one_53 rfl (fun h => absurd h (by decide)) (fun _ => ?_)
        refine V_aload_n dR_one_56 rfl ?_
        refine V_bipush (v := 41) dR_one_57 (by decide) ?_
        refine V_callV (as := [.int 41]) (rest := []) (bs' := 0) rfl dR_one_59 cmR_takes cvR_takes mlR_31 (Or.inl ⟨_, _, _, _, _, rfl, k58, by decide, rfl⟩) rfl rfl (c_rtakes hR0 hf hT hS (c := 41) (by decide)) (by decide) (Nat.le_refl _) (by decide) (Nat.le_of_ble_eq_true rfl) ?_
        rintro _ _ mc (⟨hcl, rfl, rfl, hS⟩ | ⟨hcl, rfl, rfl, rfl⟩) -
        · refine V_one ?_
          have hR := hS.rf hR0
          have hTs := hS.tx hf hT
          have hlc := hS.le
          refine V_if_eq (tgt := 69) dR_one_62 rfl (fun h => absurd h (by decide)) (fun _ => ?_)
          refine V_iconst (v := 1) dR_one_65 (by decide) ?_
          refine V_goto (tgt := 70) dR_one_66 rfl ?_
          refine V_istore_n (loc' := [(3, .int 1), (2, .int 1), (0, .ref 58), (1, .int 1)]) dR_one_70 (by decide) rfl ?_
          refine V_goto (tgt := 79) dR_one_71 rfl ?_
          refine V_iload_n dR_one_79 rfl ?_
          refine V_iload_n dR_one_80 rfl ?_
          refine V_isub dR_one_81 ?_
          refine V_topI (x' := 0) (by decide) ?_
          refine V_iconst (v := 2) dR_one_82 (by decide) ?_
          refine V_irem dR_one_83 (by decide) ?_
          refine V_topI (x' := 0) (by decide) ?_
          refine V_if_eq (tgt := 91) dR_one_84 rfl (fun _ => ?_) (fun h => absurd h (by decide))
          refine V_iconst (v := 0) dR_one_91 (by decide) ?_
          refine V_istore (loc' := [(4, .int 0), (3, .int 1), (2, .int 1), (0, .ref 58), (1, .int 1)]) dR_one_92 (by decide) rfl ?_
          refine V_iload_n dR_one_94 rfl ?_
          refine V_if_eq (tgt := 115) dR_one_95 rfl (fun h => absurd h (by decide)) (fun _ => ?_)
          refine V_iload dR_one_98 rfl ?_
          refine V_if_eq (tgt := 111) dR_one_100 rfl (fun _ => ?_) (fun h => absurd h (by decide))
          refine V_iconst (v := 1) dR_one_111 (by decide) ?_
          refine V_goto (tgt := 116) dR_one_112 rfl ?_
          refine V_zret dR_one_116 rfl rfl rfl ?_
          have hj : bgs ch 3 p = 0 := by
            show (if ch (p) = 33 then bgs ch 2 (p + 1) + 1 else 0) = 0
            rw [if_neg hv]
          rw [on_a hj ⟨by decide, ho⟩]
          rw [cls_t haA hcl]
          exact rp_even rfl (by decide) hS
        · refine V_one ?_
          refine V_if_eq (tgt := 69) dR_one_62 rfl (fun _ => ?_) (fun h => absurd h (by decide))
          refine V_iconst (v := 0) dR_one_69 (by decide) ?_
          refine V_istore_n (loc' := [(3, .int 0), (2, .int 1), (0, .ref 58), (1, .int 1)]) dR_one_70 (by decide) rfl ?_
          refine V_goto (tgt := 79) dR_one_71 rfl ?_
          refine V_iload_n dR_one_79 rfl ?_
          refine V_iload_n dR_one_80 rfl ?_
          refine V_isub dR_one_81 ?_
          refine V_topI (x' := 0) (by decide) ?_
          refine V_iconst (v := 2) dR_one_82 (by decide) ?_
          refine V_irem dR_one_83 (by decide) ?_
          refine V_topI (x' := 0) (by decide) ?_
          refine V_if_eq (tgt := 91) dR_one_84 rfl (fun _ => ?_) (fun h => absurd h (by decide))
          refine V_iconst (v := 0) dR_one_91 (by decide) ?_
          refine V_istore (loc' := [(4, .int 0), (3, .int 0), (2, .int 1), (0, .ref 58), (1, .int 1)]) dR_one_92 (by decide) rfl ?_
          refine V_iload_n dR_one_94 rfl ?_
          refine V_if_eq (tgt := 115) dR_one_95 rfl (fun _ => ?_) (fun h => absurd h (by decide))
          refine V_iconst (v := 0) dR_one_115 (by decide) ?_
          refine V_zret dR_one_116 rfl rfl rfl ?_
          have hj : bgs ch 3 p = 0 := by
            show (if ch (p) = 33 then bgs ch 2 (p + 1) + 1 else 0) = 0
            rw [if_neg hv]
          rw [on_a hj ⟨by decide, ho⟩]
          rw [cls_f haA hcl]
          exact rp_fail rfl hS
      · refine V_one ?_
        refine V_if_eq (tgt := 69) dR_one_53 rfl (fun _ => ?_) (fun h => absurd h (by decide))
        refine V_iconst (v := 0) dR_one_69 (by decide) ?_
        refine V_istore_n (loc' := [(3, .int 0), (2, .int 1), (0, .ref 58), (1, .int 1)]) dR_one_70 (by decide) rfl ?_
        refine V_goto (tgt := 79) dR_one_71 rfl ?_
        refine V_iload_n dR_one_79 rfl ?_
        refine V_iload_n dR_one_80 rfl ?_
        refine V_isub dR_one_81 ?_
        refine V_topI (x' := 0) (by decide) ?_
        refine V_iconst (v := 2) dR_one_82 (by decide) ?_
        refine V_irem dR_one_83 (by decide) ?_
        refine V_topI (x' := 0) (by decide) ?_
        refine V_if_eq (tgt := 91) dR_one_84 rfl (fun _ => ?_) (fun h => absurd h (by decide))
        refine V_iconst (v := 0) dR_one_91 (by decide) ?_
        refine V_istore (loc' := [(4, .int 0), (3, .int 0), (2, .int 1), (0, .ref 58), (1, .int 1)]) dR_one_92 (by decide) rfl ?_
        refine V_iload_n dR_one_94 rfl ?_
        refine V_if_eq (tgt := 115) dR_one_95 rfl (fun _ => ?_) (fun h => absurd h (by decide))
        refine V_iconst (v := 0) dR_one_115 (by decide) ?_
        refine V_zret dR_one_116 rfl rfl rfl ?_
        have hj : bgs ch 3 p = 0 := by
          show (if ch (p) = 33 then bgs ch 2 (p + 1) + 1 else 0) = 0
          rw [if_neg hv]
        rw [on_a hj ⟨by decide, ho⟩]
        rw [cls_n haA]
        exact rp_fail haA hS
    · refine V_one ?_
      refine V_if_eq (tgt := 74) dR_one_43 rfl (fun _ => ?_) (fun h => absurd h (by decide))
      refine V_aload_n dR_one_74 rfl ?_
      refine V_callV (as := []) (rest := []) (bs' := 0) rfl dR_one_75 cmR_test cvR_test mlR_74 (Or.inl ⟨_, _, _, _, _, rfl, k58, by decide, rfl⟩) rfl rfl (c_rtest hR0 hf hT hS (by omega)) (by decide) (Nat.le_refl _) (by decide) (Nat.le_of_ble_eq_true rfl) ?_
      rintro _ _ mT (⟨haT, rfl, rfl, hS⟩ | ⟨haT, rfl, rfl, b2, o2, hS⟩) -
      · refine V_one ?_
        have hR := hS.rf hR0
        have hTs := hS.tx hf hT
        have hleT := hS.le
        refine V_istore_n (loc' := [(3, .int 1), (2, .int 1), (0, .ref 58), (1, .int 1)]) dR_one_78 (by decide) rfl ?_
        refine V_iload_n dR_one_79 rfl ?_
        refine V_iload_n dR_one_80 rfl ?_
        refine V_isub dR_one_81 ?_
        refine V_topI (x' := 0) (by decide) ?_
        refine V_iconst (v := 2) dR_one_82 (by decide) ?_
        refine V_irem dR_one_83 (by decide) ?_
        refine V_topI (x' := 0) (by decide) ?_
        refine V_if_eq (tgt := 91) dR_one_84 rfl (fun _ => ?_) (fun h => absurd h (by decide))
        refine V_iconst (v := 0) dR_one_91 (by decide) ?_
        refine V_istore (loc' := [(4, .int 0), (3, .int 1), (2, .int 1), (0, .ref 58), (1, .int 1)]) dR_one_92 (by decide) rfl ?_
        refine V_iload_n dR_one_94 rfl ?_
        refine V_if_eq (tgt := 115) dR_one_95 rfl (fun h => absurd h (by decide)) (fun _ => ?_)
        refine V_iload dR_one_98 rfl ?_
        refine V_if_eq (tgt := 111) dR_one_100 rfl (fun _ => ?_) (fun h => absurd h (by decide))
        refine V_iconst (v := 1) dR_one_111 (by decide) ?_
        refine V_goto (tgt := 116) dR_one_112 rfl ?_
        refine V_zret dR_one_116 rfl rfl rfl ?_
        have hj : bgs ch 3 p = 0 := by
          show (if ch (p) = 33 then bgs ch 2 (p + 1) + 1 else 0) = 0
          rw [if_neg hv]
        rw [on_b hj (by rintro ⟨h1, h2⟩; first | exact absurd h1 (by decide) | exact ho h2)]
        exact rp_even haT (by decide) hS
      · refine V_one ?_
        refine V_istore_n (loc' := [(3, .int 0), (2, .int 1), (0, .ref 58), (1, .int 1)]) dR_one_78 (by decide) rfl ?_
        refine V_iload_n dR_one_79 rfl ?_
        refine V_iload_n dR_one_80 rfl ?_
        refine V_isub dR_one_81 ?_
        refine V_topI (x' := 0) (by decide) ?_
        refine V_iconst (v := 2) dR_one_82 (by decide) ?_
        refine V_irem dR_one_83 (by decide) ?_
        refine V_topI (x' := 0) (by decide) ?_
        refine V_if_eq (tgt := 91) dR_one_84 rfl (fun _ => ?_) (fun h => absurd h (by decide))
        refine V_iconst (v := 0) dR_one_91 (by decide) ?_
        refine V_istore (loc' := [(4, .int 0), (3, .int 0), (2, .int 1), (0, .ref 58), (1, .int 1)]) dR_one_92 (by decide) rfl ?_
        refine V_iload_n dR_one_94 rfl ?_
        refine V_if_eq (tgt := 115) dR_one_95 rfl (fun _ => ?_) (fun h => absurd h (by decide))
        refine V_iconst (v := 0) dR_one_115 (by decide) ?_
        refine V_zret dR_one_116 rfl rfl rfl ?_
        have hj : bgs ch 3 p = 0 := by
          show (if ch (p) = 33 then bgs ch 2 (p + 1) + 1 else 0) = 0
          rw [if_neg hv]
        rw [on_b hj (by rintro ⟨h1, h2⟩; first | exact absurd h1 (by decide) | exact ho h2)]
        exact rp_fail haT hS
theorem c_rany3 {l : Launch} {G : GT} {ch : Nat → Nat} {σ s : Hp} {f n p b : Nat} {ops : List Nat} (hR0 : RF σ) (hf : f < 6) (hT : TX σ n ch) (hS : RS σ s f n p b ops) (hl : ops.length ≤ p) : MM l G mR_any 12 0 0 [.ref 58, .int 1] KA s (RP σ f n b ops (anK ch 3 p)) := by
  have hR := hS.rf hR0
  have hTs := hS.tx hf hT
  have hle := hS.le
  have h100 := hT.1
  refine MM.of (loc := [(0, .ref 58), (1, .int 1)]) (by decide +kernel) rfl (Nat.le_of_ble_eq_true rfl) ?_
  rw [anK_eq]
  have lp : ∀ (F i : Nat), F + i = 100 → ∀ (acc : List Nat × List Nat) (q : Nat) (s : Hp), RS σ s f n q b (ops ++ (if i = 0 then [] else acc.1)) → (ops ++ (if i = 0 then [] else acc.1)).length + (if i = 0 then 0 else 1) ≤ q → V l G mR_any (rmd 12 0 0) (KA.length + 0) 0 2 [(2, .int (nI i)), (0, .ref 58), (1, .int 1)] [] KA s (RP σ f n b ops (anP ch (onK ch 3) F i acc q)) := by
    intro F
    induction F with
    | zero =>
      intro i hi acc q s hS hlen
      have hi2 : i = 100 := by omega
      subst hi2
      refine V_iload_n dR_any_2 rfl ?_
      refine V_bipush (v := 100) dR_any_3 (by decide) ?_
      refine V_icmp_ge (tgt := 92) dR_any_5 rfl (fun _ => ?_) (fun h => absurd h (not_not_intro (nI_le (a := 100) (b := 100) (by decide) (by decide))))
      refine V_iconst (v := 0) dR_any_92 (by decide) ?_
      exact V_zret dR_any_93 rfl rfl rfl (Or.inr ⟨rfl, rfl, rfl, b, _, hS⟩)
    | succ F ih =>
      intro i hi acc q s hS hlen
      have hR := hS.rf hR0
      have hTs := hS.tx hf hT
      have hle := hS.le
      generalize hO : ops ++ (if i = 0 then [] else acc.1) = ops1 at hS hlen
      have hog := onK_gd hT.2.2 3 (q := q) hle
      have htg : ∀ h : ((onK ch 3) q).1 = true, Gd n q (7 + 1) (tmP ch (onK ch 3) 100 ((onK ch 3) q)) := fun h => tm_gd hT.2.2 (fun q hq => onK_gd hT.2.2 3 hq) (p0 := q) 100 ((onK ch 3) q) (hog.mono (Nat.le_succ _)) h
      refine V_iload_n dR_any_2 rfl ?_
      refine V_bipush (v := 100) dR_any_3 (by decide) ?_
      refine V_icmp_ge (tgt := 92) dR_any_5 rfl (fun h => absurd h (nI_ge (a := i) (b := 100) (by omega) (by decide))) (fun _ => ?_)
      refine V_aload_n dR_any_8 rfl ?_
      refine V_iload_n dR_any_9 rfl ?_
      refine V_callV (as := [.int 1]) (rest := []) (bs' := 0) rfl dR_any_10 cmR_one cvR_one mlR_71 (Or.inl ⟨_, _, _, _, _, rfl, k58, by decide, rfl⟩) rfl rfl (c_rone3 hR0 hf hT hS (by omega)) (by decide) (Nat.le_refl _) (by decide) (Nat.le_of_ble_eq_true rfl) ?_
      rintro _ _ mO (⟨haO, rfl, rfl, hS⟩ | ⟨haO, rfl, rfl, b2, o2, hS⟩) -
      · refine V_one ?_
        have hR := hS.rf hR0
        have hTs := hS.tx hf hT
        have hleO := hS.le
        refine V_if_ne (tgt := 18) dR_any_13 rfl (fun _ => ?_) (fun h => absurd h (by decide))
        refine V_iconst (v := 0) dR_any_18 (by decide) ?_
        refine V_istore_n (loc' := [(3, .int 0), (2, .int (nI i)), (0, .ref 58), (1, .int 1)]) dR_any_19 (by decide) rfl ?_
        have hog2 := hog.2.2 haO
        have htg2 := htg haO
        have hT1 : ∀ t, tmP ch (onK ch 3) 100 ((onK ch 3) q) = t → t.1 = false → anP ch (onK ch 3) (F + 1) i acc q = t := fun t ht h => by rw [an_2 haO (by rw [ht]; exact h), ht]
        have hT3 : ∀ t, tmP ch (onK ch 3) 100 ((onK ch 3) q) = t → t.1 = true → ch t.2.1 = 124 → anP ch (onK ch 3) (F + 1) i acc q = anP ch (onK ch 3) F (i + 1) (orP i acc t.2.2) (t.2.1 + 1) := fun t ht h h2 => by rw [an_3 haO (by rw [ht]; exact h) (by rw [ht]; exact h2), ht]
        have hT4 : ∀ t, tmP ch (onK ch 3) 100 ((onK ch 3) q) = t → t.1 = true → ¬ ch t.2.1 = 124 → anP ch (onK ch 3) (F + 1) i acc q = (true, t.2.1, orP i acc t.2.2) := fun t ht h h2 => by rw [an_4 haO (by rw [ht]; exact h) (by rw [ht]; exact h2), ht]
        have lp2 : ∀ (F2 m : Nat), F2 + m = 100 → ∀ (a : Rs) (s : Hp), a.1 = true → tmP ch (onK ch 3) F2 a = tmP ch (onK ch 3) 100 ((onK ch 3) q) → RS σ s f n a.2.1 b (ops1 ++ a.2.2.1) → (ops1 ++ a.2.2.1).length ≤ a.2.1 → V l G mR_any (rmd 12 0 0) (KA.length + 0) 0 20 [(3, .int (nI m)), (2, .int (nI i)), (0, .ref 58), (1, .int 1)] [] KA s (RP σ f n b ops (anP ch (onK ch 3) (F + 1) i acc q)) := by
          have h60 : ∀ (s : Hp) (m : Nat), ∀ t : Rs, tmP ch (onK ch 3) 100 ((onK ch 3) q) = t → t.1 = true → RS σ s f n t.2.1 b (ops1 ++ t.2.2.1) → V l G mR_any (rmd 12 0 0) (KA.length + 0) 0 60 [(3, .int (nI m)), (2, .int (nI i)), (0, .ref 58), (1, .int 1)] [] KA s (RP σ f n b ops (anP ch (onK ch 3) (F + 1) i acc q)) := by
            intro s m t ht htt hS
            have hR := hS.rf hR0
            have hTs := hS.tx hf hT
            have hle2 := hS.le
            rw [ht] at htg2
            obtain ⟨u1, u2, u3⟩ := htg2
            obtain ⟨v1, v2, v3, v4⟩ := u3 htt
            have hc255 := tx_n hT t.2.1
            by_cases hi0 : i = 0
            · skip
              refine V_iload_n dR_any_60 rfl ?_
              refine V_if_le (tgt := 75) dR_any_61 rfl (fun _ => ?_) (fun h => absurd h (not_not_intro (by rw [hi0]; exact Int32.le_refl _)))
              refine V_aload_n dR_any_75 rfl ?_
              refine V_bipush (v := 124) dR_any_76 (by decide) ?_
              refine V_callV (as := [.int 124]) (rest := []) (bs' := 0) rfl dR_any_78 cmR_takes cvR_takes mlR_31 (Or.inl ⟨_, _, _, _, _, rfl, k58, by decide, rfl⟩) rfl rfl (c_rtakes hR0 hf hT hS (c := 124) (by decide)) (by decide) (Nat.le_refl _) (by decide) (Nat.le_of_ble_eq_true rfl) ?_
              rintro _ _ mk (⟨hbK, rfl, rfl, hS⟩ | ⟨hbK, rfl, rfl, rfl⟩) -
              · refine V_one ?_
                refine V_if_ne (tgt := 86) dR_any_81 rfl (fun _ => ?_) (fun h => absurd h (by decide))
                refine V_iinc (v := nI (i + 1)) (loc' := [(2, .int (nI (i + 1))), (3, .int (nI m)), (0, .ref 58), (1, .int 1)]) dR_any_86 rfl (nI_inc i) (by decide) rfl ?_
                refine V_goto (tgt := 2) dR_any_89 rfl ?_
                have eo : ops ++ (orP i acc t.2.2).1 = ops1 ++ t.2.2.1 := by
                  rw [← hO]
                  simp [orP, hi0]
                have en : ops ++ (if i + 1 = 0 then [] else (orP i acc t.2.2).1) = ops1 ++ t.2.2.1 := by rw [if_neg (Nat.succ_ne_zero i)]; exact eo
                rw [hT3 t ht htt hbK]
                refine V.locs (loc' := [(2, .int (nI (i + 1))), (0, .ref 58), (1, .int 1)]) [0, 2, 3] rfl ?_
                exact (ih (i + 1) (by omega) (orP i acc t.2.2) (t.2.1 + 1) _ (by rw [en]; exact hS) (by rw [en]; simp only [List.length_append, List.length_singleton]; rw [if_neg (Nat.succ_ne_zero i)]; rw [if_pos hi0] at hlen; omega))
              · refine V_one ?_
                refine V_if_ne (tgt := 86) dR_any_81 rfl (fun h => absurd h (by decide)) (fun _ => ?_)
                refine V_iconst (v := 1) dR_any_84 (by decide) ?_
                refine V_zret dR_any_85 rfl rfl rfl ?_
                have eo : ops ++ (orP i acc t.2.2).1 = ops1 ++ t.2.2.1 := by
                  rw [← hO]
                  simp [orP, hi0]
                rw [hT4 t ht htt hbK]
                exact Or.inl ⟨rfl, rfl, rfl, by rw [eo]; exact hS⟩
            · skip
              refine V_iload_n dR_any_60 rfl ?_
              refine V_if_le (tgt := 75) dR_any_61 rfl (fun h => absurd h (nI_nle (by omega) (by omega))) (fun _ => ?_)
              refine V_aload_n dR_any_64 rfl ?_
              refine V_bipush (v := -3) dR_any_65 (by decide) ?_
              refine V_callV (as := [.int (-3)]) (rest := []) (bs' := 0) rfl dR_any_67 cmR_writes cvR_writes mlR_68 (Or.inl ⟨_, _, _, _, _, rfl, k58, by decide, rfl⟩) rfl rfl (c_rwrites hR0 hf hT hS (op := 30003) (by decide) (by rw [if_neg hi0] at hlen; rw [List.length_append]; omega)) (by decide) (Nat.le_refl _) (by decide) (Nat.le_of_ble_eq_true rfl) ?_
              rintro _ _ m67 ⟨rfl, rfl, hS⟩ -
              refine V_one ?_
              have hR := hS.rf hR0
              have hTs := hS.tx hf hT
              refine V_if_ne (tgt := 75) dR_any_70 rfl (fun _ => ?_) (fun h => absurd h (by decide))
              refine V_aload_n dR_any_75 rfl ?_
              refine V_bipush (v := 124) dR_any_76 (by decide) ?_
              refine V_callV (as := [.int 124]) (rest := []) (bs' := 0) rfl dR_any_78 cmR_takes cvR_takes mlR_31 (Or.inl ⟨_, _, _, _, _, rfl, k58, by decide, rfl⟩) rfl rfl (c_rtakes hR0 hf hT hS (c := 124) (by decide)) (by decide) (Nat.le_refl _) (by decide) (Nat.le_of_ble_eq_true rfl) ?_
              rintro _ _ mk (⟨hbK, rfl, rfl, hS⟩ | ⟨hbK, rfl, rfl, rfl⟩) -
              · refine V_one ?_
                refine V_if_ne (tgt := 86) dR_any_81 rfl (fun _ => ?_) (fun h => absurd h (by decide))
                refine V_iinc (v := nI (i + 1)) (loc' := [(2, .int (nI (i + 1))), (3, .int (nI m)), (0, .ref 58), (1, .int 1)]) dR_any_86 rfl (nI_inc i) (by decide) rfl ?_
                refine V_goto (tgt := 2) dR_any_89 rfl ?_
                have eo : ops ++ (orP i acc t.2.2).1 = ops1 ++ t.2.2.1 ++ [30003] := by
                  rw [← hO]
                  simp [orP, hi0]
                have en : ops ++ (if i + 1 = 0 then [] else (orP i acc t.2.2).1) = ops1 ++ t.2.2.1 ++ [30003] := by rw [if_neg (Nat.succ_ne_zero i)]; exact eo
                rw [hT3 t ht htt hbK]
                refine V.locs (loc' := [(2, .int (nI (i + 1))), (0, .ref 58), (1, .int 1)]) [0, 2, 3] rfl ?_
                exact (ih (i + 1) (by omega) (orP i acc t.2.2) (t.2.1 + 1) _ (by rw [en]; exact hS) (by rw [en]; simp only [List.length_append, List.length_singleton]; rw [if_neg (Nat.succ_ne_zero i)]; rw [if_neg hi0] at hlen; omega))
              · refine V_one ?_
                refine V_if_ne (tgt := 86) dR_any_81 rfl (fun h => absurd h (by decide)) (fun _ => ?_)
                refine V_iconst (v := 1) dR_any_84 (by decide) ?_
                refine V_zret dR_any_85 rfl rfl rfl ?_
                have eo : ops ++ (orP i acc t.2.2).1 = ops1 ++ t.2.2.1 ++ [30003] := by
                  rw [← hO]
                  simp [orP, hi0]
                rw [hT4 t ht htt hbK]
                exact Or.inl ⟨rfl, rfl, rfl, by rw [eo]; exact hS⟩
          intro F2
          induction F2 with
          | zero =>
            intro m hm a s ha ht hS hl2
            have hm2 : m = 100 := by omega
            subst hm2
            refine V_iload_n dR_any_20 rfl ?_
            refine V_bipush (v := 100) dR_any_21 (by decide) ?_
            refine V_icmp_ge (tgt := 60) dR_any_23 rfl (fun _ => ?_) (fun h => absurd h (not_not_intro (nI_le (a := 100) (b := 100) (by decide) (by decide))))
            refine V.locs (loc' := [(3, .int (nI 100)), (2, .int (nI i)), (0, .ref 58), (1, .int 1)]) [0, 1, 2, 3] rfl ?_
            exact (h60 _ _ a (ht.symm.trans rfl) ha hS)
          | succ F2 ih2 =>
            intro m hm a s ha ht hS hl2
            have hR := hS.rf hR0
            have hTs := hS.tx hf hT
            have hle3 := hS.le
            refine V_iload_n dR_any_20 rfl ?_
            refine V_bipush (v := 100) dR_any_21 (by decide) ?_
            refine V_icmp_ge (tgt := 60) dR_any_23 rfl (fun h => absurd h (nI_ge (a := m) (b := 100) (by omega) (by decide))) (fun _ => ?_)
            refine V_aload_n dR_any_26 rfl ?_
            refine V_bipush (v := 38) dR_any_27 (by decide) ?_
            refine V_callV (as := [.int 38]) (rest := []) (bs' := 0) rfl dR_any_29 cmR_takes cvR_takes mlR_31 (Or.inl ⟨_, _, _, _, _, rfl, k58, by decide, rfl⟩) rfl rfl (c_rtakes hR0 hf hT hS (c := 38) (by decide)) (by decide) (Nat.le_refl _) (by decide) (Nat.le_of_ble_eq_true rfl) ?_
            rintro _ _ mA (⟨hbA, rfl, rfl, hS⟩ | ⟨hbA, rfl, rfl, rfl⟩) -
            · refine V_one ?_
              have hR := hS.rf hR0
              have hTs := hS.tx hf hT
              have hle4 := hS.le
              refine V_if_eq (tgt := 60) dR_any_32 rfl (fun h => absurd h (by decide)) (fun _ => ?_)
              refine V_aload_n dR_any_35 rfl ?_
              refine V_iload_n dR_any_36 rfl ?_
              refine V_callV (as := [.int 1]) (rest := []) (bs' := 0) rfl dR_any_37 cmR_one cvR_one mlR_71 (Or.inl ⟨_, _, _, _, _, rfl, k58, by decide, rfl⟩) rfl rfl (c_rone3 hR0 hf hT hS (by omega)) (by decide) (Nat.le_refl _) (by decide) (Nat.le_of_ble_eq_true rfl) ?_
              rintro _ _ mP (⟨haP, rfl, rfl, hS⟩ | ⟨haP, rfl, rfl, b2, o2, hS⟩) -
              · refine V_one ?_
                have hR := hS.rf hR0
                have hTs := hS.tx hf hT
                have hleP := hS.le
                refine V_if_eq (tgt := 52) dR_any_40 rfl (fun h => absurd h (by decide)) (fun _ => ?_)
                refine V_aload_n dR_any_43 rfl ?_
                refine V_bipush (v := -2) dR_any_44 (by decide) ?_
                refine V_callV (as := [.int (-2)]) (rest := []) (bs' := 0) rfl dR_any_46 cmR_writes cvR_writes mlR_68 (Or.inl ⟨_, _, _, _, _, rfl, k58, by decide, rfl⟩) rfl rfl (c_rwrites hR0 hf hT hS (op := 30002) (by decide) (by have hg3 := (onK_gd hT.2.2 3 (q := a.2.1 + 1) (by omega)).2.2 haP; rw [List.length_append]; omega)) (by decide) (Nat.le_refl _) (by decide) (Nat.le_of_ble_eq_true rfl) ?_
                rintro _ _ m46 ⟨rfl, rfl, hS⟩ -
                refine V_one ?_
                have hR := hS.rf hR0
                have hTs := hS.tx hf hT
                refine V_if_ne (tgt := 54) dR_any_49 rfl (fun _ => ?_) (fun h => absurd h (by decide))
                refine V_iinc (v := nI (m + 1)) (loc' := [(3, .int (nI (m + 1))), (2, .int (nI i)), (0, .ref 58), (1, .int 1)]) dR_any_54 rfl (nI_inc m) (by decide) rfl ?_
                refine V_goto (tgt := 20) dR_any_57 rfl ?_
                have hg3 := (onK_gd hT.2.2 3 (q := a.2.1 + 1) (by omega)).2.2 haP
                refine V.locs (loc' := [(3, .int (nI (m + 1))), (2, .int (nI i)), (0, .ref 58), (1, .int 1)]) [0, 1, 2, 3] rfl ?_
                exact (ih2 (m + 1) (by omega) (true, ((onK ch 3) (a.2.1 + 1)).2.1, a.2.2.1 ++ ((onK ch 3) (a.2.1 + 1)).2.2.1 ++ [30002], a.2.2.2 ++ ((onK ch 3) (a.2.1 + 1)).2.2.2 ++ [30002]) _ rfl ((tm_3 hbA haP).symm.trans ht) (by simp only [List.append_assoc] at hS ⊢; exact hS) (by simp only [List.length_append, List.length_singleton] at hl2 ⊢; omega))
              · refine V_one ?_
                refine V_if_eq (tgt := 52) dR_any_40 rfl (fun _ => ?_) (fun h => absurd h (by decide))
                refine V_iconst (v := 0) dR_any_52 (by decide) ?_
                refine V_zret dR_any_53 rfl rfl rfl ?_
                rw [hT1 ((onK ch 3) (a.2.1 + 1)) (ht.symm.trans (tm_2 hbA haP)) haP]
                exact Or.inr ⟨haP, rfl, rfl, b2, o2, hS⟩
            · refine V_one ?_
              refine V_if_eq (tgt := 60) dR_any_32 rfl (fun _ => ?_) (fun h => absurd h (by decide))
              refine V.locs (loc' := [(3, .int (nI m)), (2, .int (nI i)), (0, .ref 58), (1, .int 1)]) [0, 1, 2, 3] rfl ?_
              exact (h60 _ _ a (ht.symm.trans (tm_1 hbA)) ha hS)
        refine V.locs (loc' := [(3, .int 0), (2, .int (nI i)), (0, .ref 58), (1, .int 1)]) [0, 1, 2, 3] rfl ?_
        refine V_eqL (loc' := [(3, .int (nI 0)), (2, .int (nI i)), (0, .ref 58), (1, .int 1)]) ?_ ?_
        · rfl
        exact (lp2 100 0 rfl ((onK ch 3) q) _ haO rfl hS (by rw [List.length_append]; omega))
      · refine V_one ?_
        refine V_if_ne (tgt := 18) dR_any_13 rfl (fun h => absurd h (by decide)) (fun _ => ?_)
        refine V_iconst (v := 0) dR_any_16 (by decide) ?_
        refine V_zret dR_any_17 rfl rfl rfl ?_
        rw [an_1 haO]
        exact Or.inr ⟨haO, rfl, rfl, b2, o2, hS⟩
  refine V_iconst (v := 0) dR_any_0 (by decide) ?_
  refine V_istore_n (loc' := [(2, .int 0), (0, .ref 58), (1, .int 1)]) dR_any_1 (by decide) rfl ?_
  refine V.locs (loc' := [(2, .int 0), (0, .ref 58), (1, .int 1)]) [0, 1, 2] rfl ?_
  refine V_eqL (loc' := [(2, .int (nI 0)), (0, .ref 58), (1, .int 1)]) ?_ ?_
  · rfl
  exact (lp 100 0 rfl ([], []) p s (by rw [if_pos rfl, List.append_nil]; exact hS) (by rw [if_pos rfl, if_pos rfl, List.append_nil]; exact hl))
theorem c_rone4 {l : Launch} {G : GT} {ch : Nat → Nat} {σ s : Hp} {f n p b : Nat} {ops : List Nat} (hR0 : RF σ) (hf : f < 6) (hT : TX σ n ch) (hS : RS σ s f n p b ops) (hl : ops.length ≤ p) : MM l G mR_one 13 0 0 [.ref 58, .int 0] KA s (RP σ f n b ops (onK ch 4 p)) := by
  have hR := hS.rf hR0
  have hTs := hS.tx hf hT
  have hle := hS.le
  have h100 := hT.1
  refine MM.of (loc := [(0, .ref 58), (1, .int 0)]) (by decide +kernel) rfl (Nat.le_of_ble_eq_true rfl) ?_
  refine V_iload_n dR_one_0 rfl ?_
  refine V_istore_n (loc' := [(2, .int 0), (0, .ref 58), (1, .int 0)]) dR_one_1 (by decide) rfl ?_
  refine V_iconst (v := 0) dR_one_2 (by decide) ?_
  refine V_istore_n (loc' := [(3, .int 0), (2, .int 0), (0, .ref 58), (1, .int 0)]) dR_one_3 (by decide) rfl ?_
  refine V_iload_n dR_one_4 rfl ?_
  refine V_iconst (v := 4) dR_one_5 (by decide) ?_
  refine V_icmp_ge (tgt := 32) dR_one_6 rfl (fun h => absurd h (by decide)) (fun _ => ?_)
  refine V_iload_n dR_one_9 rfl ?_
  refine V_iconst (v := 4) dR_one_10 (by decide) ?_
  refine V_icmp_ge (tgt := 32) dR_one_11 rfl (fun h => absurd h (by decide)) (fun _ => ?_)
  refine V_aload_n dR_one_14 rfl ?_
  refine V_bipush (v := 33) dR_one_15 (by decide) ?_
  refine V_callV (as := [.int 33]) (rest := []) (bs' := 0) rfl dR_one_17 cmR_takes cvR_takes mlR_31 (Or.inl ⟨_, _, _, _, _, rfl, k58, by decide, rfl⟩) rfl rfl (c_rtakes hR0 hf hT hS (c := 33) (by decide)) (by decide) (Nat.le_refl _) (by decide) (Nat.le_of_ble_eq_true rfl) ?_
  rintro _ _ m0 (⟨hw0, rfl, rfl, hS⟩ | ⟨hv, rfl, rfl, rfl⟩) -
  · refine V_one ?_
    have hR := hS.rf hR0
    have hTs := hS.tx hf hT
    have hlw0 := hS.le
    refine V_if_eq (tgt := 32) dR_one_20 rfl (fun h => absurd h (by decide)) (fun _ => ?_)
    refine V_iinc (v := 1) (loc' := [(2, .int 1), (3, .int 0), (0, .ref 58), (1, .int 0)]) dR_one_23 rfl (by decide) (by decide) rfl ?_
    refine V_iinc (v := 1) (loc' := [(3, .int 1), (2, .int 1), (0, .ref 58), (1, .int 0)]) dR_one_26 rfl (by decide) (by decide) rfl ?_
    refine V_goto (tgt := 4) dR_one_29 rfl ?_
    refine V_iload_n dR_one_4 rfl ?_
    refine V_iconst (v := 4) dR_one_5 (by decide) ?_
    refine V_icmp_ge (tgt := 32) dR_one_6 rfl (fun h => absurd h (by decide)) (fun _ => ?_)
    refine V_iload_n dR_one_9 rfl ?_
    refine V_iconst (v := 4) dR_one_10 (by decide) ?_
    refine V_icmp_ge (tgt := 32) dR_one_11 rfl (fun h => absurd h (by decide)) (fun _ => ?_)
    refine V_aload_n dR_one_14 rfl ?_
    refine V_bipush (v := 33) dR_one_15 (by decide) ?_
    refine V_callV (as := [.int 33]) (rest := []) (bs' := 0) rfl dR_one_17 cmR_takes cvR_takes mlR_31 (Or.inl ⟨_, _, _, _, _, rfl, k58, by decide, rfl⟩) rfl rfl (c_rtakes hR0 hf hT hS (c := 33) (by decide)) (by decide) (Nat.le_refl _) (by decide) (Nat.le_of_ble_eq_true rfl) ?_
    rintro _ _ m1 (⟨hw1, rfl, rfl, hS⟩ | ⟨hv, rfl, rfl, rfl⟩) -
    · refine V_one ?_
      have hR := hS.rf hR0
      have hTs := hS.tx hf hT
      have hlw1 := hS.le
      refine V_if_eq (tgt := 32) dR_one_20 rfl (fun h => absurd h (by decide)) (fun _ => ?_)
      refine V_iinc (v := 2) (loc' := [(2, .int 2), (3, .int 1), (0, .ref 58), (1, .int 0)]) dR_one_23 rfl (by decide) (by decide) rfl ?_
      refine V_iinc (v := 2) (loc' := [(3, .int 2), (2, .int 2), (0, .ref 58), (1, .int 0)]) dR_one_26 rfl (by decide) (by decide) rfl ?_
      refine V_goto (tgt := 4) dR_one_29 rfl ?_
      refine V_iload_n dR_one_4 rfl ?_
      refine V_iconst (v := 4) dR_one_5 (by decide) ?_
      refine V_icmp_ge (tgt := 32) dR_one_6 rfl (fun h => absurd h (by decide)) (fun _ => ?_)
      refine V_iload_n dR_one_9 rfl ?_
      refine V_iconst (v := 4) dR_one_10 (by decide) ?_
      refine V_icmp_ge (tgt := 32) dR_one_11 rfl (fun h => absurd h (by decide)) (fun _ => ?_)
      refine V_aload_n dR_one_14 rfl ?_
      refine V_bipush (v := 33) dR_one_15 (by decide) ?_
      refine V_callV (as := [.int 33]) (rest := []) (bs' := 0) rfl dR_one_17 cmR_takes cvR_takes mlR_31 (Or.inl ⟨_, _, _, _, _, rfl, k58, by decide, rfl⟩) rfl rfl (c_rtakes hR0 hf hT hS (c := 33) (by decide)) (by decide) (Nat.le_refl _) (by decide) (Nat.le_of_ble_eq_true rfl) ?_
      rintro _ _ m2 (⟨hw2, rfl, rfl, hS⟩ | ⟨hv, rfl, rfl, rfl⟩) -
      · refine V_one ?_
        have hR := hS.rf hR0
        have hTs := hS.tx hf hT
        have hlw2 := hS.le
        refine V_if_eq (tgt := 32) dR_one_20 rfl (fun h => absurd h (by decide)) (fun _ => ?_)
        refine V_iinc (v := 3) (loc' := [(2, .int 3), (3, .int 2), (0, .ref 58), (1, .int 0)]) dR_one_23 rfl (by decide) (by decide) rfl ?_
        refine V_iinc (v := 3) (loc' := [(3, .int 3), (2, .int 3), (0, .ref 58), (1, .int 0)]) dR_one_26 rfl (by decide) (by decide) rfl ?_
        refine V_goto (tgt := 4) dR_one_29 rfl ?_
        refine V_iload_n dR_one_4 rfl ?_
        refine V_iconst (v := 4) dR_one_5 (by decide) ?_
        refine V_icmp_ge (tgt := 32) dR_one_6 rfl (fun h => absurd h (by decide)) (fun _ => ?_)
        refine V_iload_n dR_one_9 rfl ?_
        refine V_iconst (v := 4) dR_one_10 (by decide) ?_
        refine V_icmp_ge (tgt := 32) dR_one_11 rfl (fun h => absurd h (by decide)) (fun _ => ?_)
        refine V_aload_n dR_one_14 rfl ?_
        refine V_bipush (v := 33) dR_one_15 (by decide) ?_
        refine V_callV (as := [.int 33]) (rest := []) (bs' := 0) rfl dR_one_17 cmR_takes cvR_takes mlR_31 (Or.inl ⟨_, _, _, _, _, rfl, k58, by decide, rfl⟩) rfl rfl (c_rtakes hR0 hf hT hS (c := 33) (by decide)) (by decide) (Nat.le_refl _) (by decide) (Nat.le_of_ble_eq_true rfl) ?_
        rintro _ _ m3 (⟨hw3, rfl, rfl, hS⟩ | ⟨hv, rfl, rfl, rfl⟩) -
        · refine V_one ?_
          have hR := hS.rf hR0
          have hTs := hS.tx hf hT
          have hlw3 := hS.le
          refine V_if_eq (tgt := 32) dR_one_20 rfl (fun h => absurd h (by decide)) (fun _ => ?_)
          refine V_iinc (v := 4) (loc' := [(2, .int 4), (3, .int 3), (0, .ref 58), (1, .int 0)]) dR_one_23 rfl (by decide) (by decide) rfl ?_
          refine V_iinc (v := 4) (loc' := [(3, .int 4), (2, .int 4), (0, .ref 58), (1, .int 0)]) dR_one_26 rfl (by decide) (by decide) rfl ?_
          refine V_goto (tgt := 4) dR_one_29 rfl ?_
          refine V_iload_n dR_one_4 rfl ?_
          refine V_iconst (v := 4) dR_one_5 (by decide) ?_
          refine V_icmp_ge (tgt := 32) dR_one_6 rfl (fun _ => ?_) (fun h => absurd h (by decide))
          refine V_iload_n dR_one_32 rfl ?_
          refine V_iconst (v := 4) dR_one_33 (by decide) ?_
          refine V_icmp_ge (tgt := 74) dR_one_34 rfl (fun _ => ?_) (fun h => absurd h (by decide))
          refine V_aload_n dR_one_74 rfl ?_
          refine V_callV (as := []) (rest := []) (bs' := 0) rfl dR_one_75 cmR_test cvR_test mlR_74 (Or.inl ⟨_, _, _, _, _, rfl, k58, by decide, rfl⟩) rfl rfl (c_rtest hR0 hf hT hS (by omega)) (by decide) (Nat.le_refl _) (by decide) (Nat.le_of_ble_eq_true rfl) ?_
          rintro _ _ mT (⟨haT, rfl, rfl, hS⟩ | ⟨haT, rfl, rfl, b2, o2, hS⟩) -
          · refine V_one ?_
            have hR := hS.rf hR0
            have hTs := hS.tx hf hT
            have hleT := hS.le
            refine V_istore_n (loc' := [(3, .int 1), (2, .int 4), (0, .ref 58), (1, .int 0)]) dR_one_78 (by decide) rfl ?_
            refine V_iload_n dR_one_79 rfl ?_
            refine V_iload_n dR_one_80 rfl ?_
            refine V_isub dR_one_81 ?_
            refine V_topI (x' := 4) (by decide) ?_
            refine V_iconst (v := 2) dR_one_82 (by decide) ?_
            refine V_irem dR_one_83 (by decide) ?_
            refine V_topI (x' := 0) (by decide) ?_
            refine V_if_eq (tgt := 91) dR_one_84 rfl (fun _ => ?_) (fun h => absurd h (by decide))
            refine V_iconst (v := 0) dR_one_91 (by decide) ?_
            refine V_istore (loc' := [(4, .int 0), (3, .int 1), (2, .int 4), (0, .ref 58), (1, .int 0)]) dR_one_92 (by decide) rfl ?_
            refine V_iload_n dR_one_94 rfl ?_
            refine V_if_eq (tgt := 115) dR_one_95 rfl (fun h => absurd h (by decide)) (fun _ => ?_)
            refine V_iload dR_one_98 rfl ?_
            refine V_if_eq (tgt := 111) dR_one_100 rfl (fun _ => ?_) (fun h => absurd h (by decide))
            refine V_iconst (v := 1) dR_one_111 (by decide) ?_
            refine V_goto (tgt := 116) dR_one_112 rfl ?_
            refine V_zret dR_one_116 rfl rfl rfl ?_
            have hj : bgs ch 4 p = 4 := by
              show (if ch (p) = 33 then (if ch (p + 1) = 33 then (if ch (p + 1 + 1) = 33 then (if ch (p + 1 + 1 + 1) = 33 then 0 + 1 else 0) + 1 else 0) + 1 else 0) + 1 else 0) = 4
              rw [if_pos hw0, if_pos hw1, if_pos hw2, if_pos hw3]
            rw [on_b hj (by rintro ⟨h1, h2⟩; first | exact absurd h1 (by decide) | exact ho h2)]
            exact rp_even haT (by decide) hS
          · refine V_one ?_
            refine V_istore_n (loc' := [(3, .int 0), (2, .int 4), (0, .ref 58), (1, .int 0)]) dR_one_78 (by decide) rfl ?_
            refine V_iload_n dR_one_79 rfl ?_
            refine V_iload_n dR_one_80 rfl ?_
            refine V_isub dR_one_81 ?_
            refine V_topI (x' := 4) (by decide) ?_
            refine V_iconst (v := 2) dR_one_82 (by decide) ?_
            refine V_irem dR_one_83 (by decide) ?_
            refine V_topI (x' := 0) (by decide) ?_
            refine V_if_eq (tgt := 91) dR_one_84 rfl (fun _ => ?_) (fun h => absurd h (by decide))
            refine V_iconst (v := 0) dR_one_91 (by decide) ?_
            refine V_istore (loc' := [(4, .int 0), (3, .int 0), (2, .int 4), (0, .ref 58), (1, .int 0)]) dR_one_92 (by decide) rfl ?_
            refine V_iload_n dR_one_94 rfl ?_
            refine V_if_eq (tgt := 115) dR_one_95 rfl (fun _ => ?_) (fun h => absurd h (by decide))
            refine V_iconst (v := 0) dR_one_115 (by decide) ?_
            refine V_zret dR_one_116 rfl rfl rfl ?_
            have hj : bgs ch 4 p = 4 := by
              show (if ch (p) = 33 then (if ch (p + 1) = 33 then (if ch (p + 1 + 1) = 33 then (if ch (p + 1 + 1 + 1) = 33 then 0 + 1 else 0) + 1 else 0) + 1 else 0) + 1 else 0) = 4
              rw [if_pos hw0, if_pos hw1, if_pos hw2, if_pos hw3]
            rw [on_b hj (by rintro ⟨h1, h2⟩; first | exact absurd h1 (by decide) | exact ho h2)]
            exact rp_fail haT hS
        · refine V_one ?_
          refine V_if_eq (tgt := 32) dR_one_20 rfl (fun _ => ?_) (fun h => absurd h (by decide))
          refine V_iload_n dR_one_32 rfl ?_
          refine V_iconst (v := 4) dR_one_33 (by decide) ?_
          refine V_icmp_ge (tgt := 74) dR_one_34 rfl (fun h => absurd h (by decide)) (fun _ => ?_)
          refine V_aload_n dR_one_37 rfl ?_
          refine V_bipush (v := 40) dR_one_38 (by decide) ?_
          refine V_callV (as := [.int 40]) (rest := []) (bs' := 0) rfl dR_one_40 cmR_takes cvR_takes mlR_31 (Or.inl ⟨_, _, _, _, _, rfl, k58, by decide, rfl⟩) rfl rfl (c_rtakes hR0 hf hT hS (c := 40) (by decide)) (by decide) (Nat.le_refl _) (by decide) (Nat.le_of_ble_eq_true rfl) ?_
          rintro _ _ mo (⟨ho, rfl, rfl, hS⟩ | ⟨ho, rfl, rfl, rfl⟩) -
          · refine V_one ?_
            have hR := hS.rf hR0
            have hTs := hS.tx hf hT
            have hlo := hS.le
            refine V_if_eq (tgt := 74) dR_one_43 rfl (fun h => absurd h (by decide)) (fun _ => ?_)
            refine V_aload_n dR_one_46 rfl ?_
            refine V_iload_n dR_one_47 rfl ?_
            refine V_iconst (v := 1) dR_one_48 (by decide) ?_
            refine V_iadd dR_one_49 ?_
            refine V_topI (x' := 4) (by decide) ?_
            refine V_callV (as := [.int 4]) (rest := []) (bs' := 0) rfl dR_one_50 cmR_any cvR_any mlR_64 (Or.inl ⟨_, _, _, _, _, rfl, k58, by decide, rfl⟩) rfl rfl (c_rany0 hR0 hf hT hS (by omega)) (by decide) (Nat.le_refl _) (by decide) (Nat.le_of_ble_eq_true rfl) ?_
            rintro _ _ mA (⟨haA, rfl, rfl, hS⟩ | ⟨haA, rfl, rfl, b2, o2, hS⟩) -
            · refine V_one ?_
              have hR := hS.rf hR0
              have hTs := hS.tx hf hT
              have hleA := hS.le
              refine V_if_eq (tgt := 69) dR_one_53 rfl (fun h => absurd h (by decide)) (fun _ => ?_)
              refine V_aload_n dR_one_56 rfl ?_
              refine V_bipush (v := 41) dR_one_57 (by decide) ?_
              refine V_callV (as := [.int 41]) (rest := []) (bs' := 0) rfl dR_one_59 cmR_takes cvR_takes mlR_31 (Or.inl ⟨_, _, _, _, _, rfl, k58, by decide, rfl⟩) rfl rfl (c_rtakes hR0 hf hT hS (c := 41) (by decide)) (by decide) (Nat.le_refl _) (by decide) (Nat.le_of_ble_eq_true rfl) ?_
              rintro _ _ mc (⟨hcl, rfl, rfl, hS⟩ | ⟨hcl, rfl, rfl, rfl⟩) -
              · refine V_one ?_
                have hR := hS.rf hR0
                have hTs := hS.tx hf hT
                have hlc := hS.le
                refine V_if_eq (tgt := 69) dR_one_62 rfl (fun h => absurd h (by decide)) (fun _ => ?_)
                refine V_iconst (v := 1) dR_one_65 (by decide) ?_
                refine V_goto (tgt := 70) dR_one_66 rfl ?_
                refine V_istore_n (loc' := [(3, .int 1), (2, .int 3), (0, .ref 58), (1, .int 0)]) dR_one_70 (by decide) rfl ?_
                refine V_goto (tgt := 79) dR_one_71 rfl ?_
                refine V_iload_n dR_one_79 rfl ?_
                refine V_iload_n dR_one_80 rfl ?_
                refine V_isub dR_one_81 ?_
                refine V_topI (x' := 3) (by decide) ?_
                refine V_iconst (v := 2) dR_one_82 (by decide) ?_
                refine V_irem dR_one_83 (by decide) ?_
                refine V_topI (x' := 1) (by decide) ?_
                refine V_if_eq (tgt := 91) dR_one_84 rfl (fun h => absurd h (by decide)) (fun _ => ?_)
                refine V_iconst (v := 1) dR_one_87 (by decide) ?_
                refine V_goto (tgt := 92) dR_one_88 rfl ?_
                refine V_istore (loc' := [(4, .int 1), (3, .int 1), (2, .int 3), (0, .ref 58), (1, .int 0)]) dR_one_92 (by decide) rfl ?_
                refine V_iload_n dR_one_94 rfl ?_
                refine V_if_eq (tgt := 115) dR_one_95 rfl (fun h => absurd h (by decide)) (fun _ => ?_)
                refine V_iload dR_one_98 rfl ?_
                refine V_if_eq (tgt := 111) dR_one_100 rfl (fun h => absurd h (by decide)) (fun _ => ?_)
                refine V_aload_n dR_one_103 rfl ?_
                refine V_iconst (v := -1) dR_one_104 (by decide) ?_
                refine V_callV (as := [.int (-1)]) (rest := []) (bs' := 0) rfl dR_one_105 cmR_writes cvR_writes mlR_68 (Or.inl ⟨_, _, _, _, _, rfl, k58, by decide, rfl⟩) rfl rfl (c_rwrites hR0 hf hT hS (op := 30001) (by decide) (by have hg := (anK_gd hT.2.2 0 (q := p + 1 + 1 + 1 + 1) (by omega)).2.2 haA; rw [List.length_append]; omega)) (by decide) (Nat.le_refl _) (by decide) (Nat.le_of_ble_eq_true rfl) ?_
                rintro _ _ m105 ⟨rfl, rfl, hS⟩ -
                refine V_one ?_
                have hR := hS.rf hR0
                have hTs := hS.tx hf hT
                refine V_if_eq (tgt := 115) dR_one_108 rfl (fun h => absurd h (by decide)) (fun _ => ?_)
                refine V_iconst (v := 1) dR_one_111 (by decide) ?_
                refine V_goto (tgt := 116) dR_one_112 rfl ?_
                refine V_zret dR_one_116 rfl rfl rfl ?_
                have hj : bgs ch 4 p = 3 := by
                  show (if ch (p) = 33 then (if ch (p + 1) = 33 then (if ch (p + 1 + 1) = 33 then (if ch (p + 1 + 1 + 1) = 33 then bgs ch 0 (p + 1 + 1 + 1 + 1) + 1 else 0) + 1 else 0) + 1 else 0) + 1 else 0) = 3
                  rw [if_pos hw0, if_pos hw1, if_pos hw2, if_neg hv]
                rw [on_a hj ⟨by decide, ho⟩]
                rw [cls_t haA hcl]
                exact rp_odd rfl (by decide) hS
              · refine V_one ?_
                refine V_if_eq (tgt := 69) dR_one_62 rfl (fun _ => ?_) (fun h => absurd h (by decide))
                refine V_iconst (v := 0) dR_one_69 (by decide) ?_
                refine V_istore_n (loc' := [(3, .int 0), (2, .int 3), (0, .ref 58), (1, .int 0)]) dR_one_70 (by decide) rfl ?_
                refine V_goto (tgt := 79) dR_one_71 rfl ?_
                refine V_iload_n dR_one_79 rfl ?_
                refine V_iload_n dR_one_80 rfl ?_
                refine V_isub dR_one_81 ?_
                refine V_topI (x' := 3) (by decide) ?_
                refine V_iconst (v := 2) dR_one_82 (by decide) ?_
                refine V_irem dR_one_83 (by decide) ?_
                refine V_topI (x' := 1) (by decide) ?_
                refine V_if_eq (tgt := 91) dR_one_84 rfl (fun h => absurd h (by decide)) (fun _ => ?_)
                refine V_iconst (v := 1) dR_one_87 (by decide) ?_
                refine V_goto (tgt := 92) dR_one_88 rfl ?_
                refine V_istore (loc' := [(4, .int 1), (3, .int 0), (2, .int 3), (0, .ref 58), (1, .int 0)]) dR_one_92 (by decide) rfl ?_
                refine V_iload_n dR_one_94 rfl ?_
                refine V_if_eq (tgt := 115) dR_one_95 rfl (fun _ => ?_) (fun h => absurd h (by decide))
                refine V_iconst (v := 0) dR_one_115 (by decide) ?_
                refine V_zret dR_one_116 rfl rfl rfl ?_
                have hj : bgs ch 4 p = 3 := by
                  show (if ch (p) = 33 then (if ch (p + 1) = 33 then (if ch (p + 1 + 1) = 33 then (if ch (p + 1 + 1 + 1) = 33 then bgs ch 0 (p + 1 + 1 + 1 + 1) + 1 else 0) + 1 else 0) + 1 else 0) + 1 else 0) = 3
                  rw [if_pos hw0, if_pos hw1, if_pos hw2, if_neg hv]
                rw [on_a hj ⟨by decide, ho⟩]
                rw [cls_f haA hcl]
                exact rp_fail rfl hS
            · refine V_one ?_
              refine V_if_eq (tgt := 69) dR_one_53 rfl (fun _ => ?_) (fun h => absurd h (by decide))
              refine V_iconst (v := 0) dR_one_69 (by decide) ?_
              refine V_istore_n (loc' := [(3, .int 0), (2, .int 3), (0, .ref 58), (1, .int 0)]) dR_one_70 (by decide) rfl ?_
              refine V_goto (tgt := 79) dR_one_71 rfl ?_
              refine V_iload_n dR_one_79 rfl ?_
              refine V_iload_n dR_one_80 rfl ?_
              refine V_isub dR_one_81 ?_
              refine V_topI (x' := 3) (by decide) ?_
              refine V_iconst (v := 2) dR_one_82 (by decide) ?_
              refine V_irem dR_one_83 (by decide) ?_
              refine V_topI (x' := 1) (by decide) ?_
              refine V_if_eq (tgt := 91) dR_one_84 rfl (fun h => absurd h (by decide)) (fun _ => ?_)
              refine V_iconst (v := 1) dR_one_87 (by decide) ?_
              refine V_goto (tgt := 92) dR_one_88 rfl ?_
              refine V_istore (loc' := [(4, .int 1), (3, .int 0), (2, .int 3), (0, .ref 58), (1, .int 0)]) dR_one_92 (by decide) rfl ?_
              refine V_iload_n dR_one_94 rfl ?_
              refine V_if_eq (tgt := 115) dR_one_95 rfl (fun _ => ?_) (fun h => absurd h (by decide))
              refine V_iconst (v := 0) dR_one_115 (by decide) ?_
              refine V_zret dR_one_116 rfl rfl rfl ?_
              have hj : bgs ch 4 p = 3 := by
                show (if ch (p) = 33 then (if ch (p + 1) = 33 then (if ch (p + 1 + 1) = 33 then (if ch (p + 1 + 1 + 1) = 33 then bgs ch 0 (p + 1 + 1 + 1 + 1) + 1 else 0) + 1 else 0) + 1 else 0) + 1 else 0) = 3
                rw [if_pos hw0, if_pos hw1, if_pos hw2, if_neg hv]
              rw [on_a hj ⟨by decide, ho⟩]
              rw [cls_n haA]
              exact rp_fail haA hS
          · refine V_one ?_
            refine V_if_eq (tgt := 74) dR_one_43 rfl (fun _ => ?_) (fun h => absurd h (by decide))
            refine V_aload_n dR_one_74 rfl ?_
            refine V_callV (as := []) (rest := []) (bs' := 0) rfl dR_one_75 cmR_test cvR_test mlR_74 (Or.inl ⟨_, _, _, _, _, rfl, k58, by decide, rfl⟩) rfl rfl (c_rtest hR0 hf hT hS (by omega)) (by decide) (Nat.le_refl _) (by decide) (Nat.le_of_ble_eq_true rfl) ?_
            rintro _ _ mT (⟨haT, rfl, rfl, hS⟩ | ⟨haT, rfl, rfl, b2, o2, hS⟩) -
            · refine V_one ?_
              have hR := hS.rf hR0
              have hTs := hS.tx hf hT
              have hleT := hS.le
              refine V_istore_n (loc' := [(3, .int 1), (2, .int 3), (0, .ref 58), (1, .int 0)]) dR_one_78 (by decide) rfl ?_
              refine V_iload_n dR_one_79 rfl ?_
              refine V_iload_n dR_one_80 rfl ?_
              refine V_isub dR_one_81 ?_
              refine V_topI (x' := 3) (by decide) ?_
              refine V_iconst (v := 2) dR_one_82 (by decide) ?_
              refine V_irem dR_one_83 (by decide) ?_
              refine V_topI (x' := 1) (by decide) ?_
              refine V_if_eq (tgt := 91) dR_one_84 rfl (fun h => absurd h (by decide)) (fun _ => ?_)
              refine V_iconst (v := 1) dR_one_87 (by decide) ?_
              refine V_goto (tgt := 92) dR_one_88 rfl ?_
              refine V_istore (loc' := [(4, .int 1), (3, .int 1), (2, .int 3), (0, .ref 58), (1, .int 0)]) dR_one_92 (by decide) rfl ?_
              refine V_iload_n dR_one_94 rfl ?_
              refine V_if_eq (tgt := 115) dR_one_95 rfl (fun h => absurd h (by decide)) (fun _ => ?_)
              refine V_iload dR_one_98 rfl ?_
              refine V_if_eq (tgt := 111) dR_one_100 rfl (fun h => absurd h (by decide)) (fun _ => ?_)
              refine V_aload_n dR_one_103 rfl ?_
              refine V_iconst (v := -1) dR_one_104 (by decide) ?_
              refine V_callV (as := [.int (-1)]) (rest := []) (bs' := 0) rfl dR_one_105 cmR_writes cvR_writes mlR_68 (Or.inl ⟨_, _, _, _, _, rfl, k58, by decide, rfl⟩) rfl rfl (c_rwrites hR0 hf hT hS (op := 30001) (by decide) (by have hg := (ts_gd hT.2.2 (p := p + 1 + 1 + 1) (by omega)).2.2 haT; rw [List.length_append]; omega)) (by decide) (Nat.le_refl _) (by decide) (Nat.le_of_ble_eq_true rfl) ?_
              rintro _ _ m105 ⟨rfl, rfl, hS⟩ -
              refine V_one ?_
              have hR := hS.rf hR0
              have hTs := hS.tx hf hT
              refine V_if_eq (tgt := 115) dR_one_108 rfl (fun h => absurd h (by decide)) (fun _ => ?_)
              refine V_iconst (v := 1) dR_one_111 (by decide) ?_
              refine V_goto (tgt := 116) dR_one_112 rfl ?_
              refine V_zret dR_one_116 rfl rfl rfl ?_
              have hj : bgs ch 4 p = 3 := by
                show (if ch (p) = 33 then (if ch (p + 1) = 33 then (if ch (p + 1 + 1) = 33 then (if ch (p + 1 + 1 + 1) = 33 then bgs ch 0 (p + 1 + 1 + 1 + 1) + 1 else 0) + 1 else 0) + 1 else 0) + 1 else 0) = 3
                rw [if_pos hw0, if_pos hw1, if_pos hw2, if_neg hv]
              rw [on_b hj (by rintro ⟨h1, h2⟩; first | exact absurd h1 (by decide) | exact ho h2)]
              exact rp_odd haT (by decide) hS
            · refine V_one ?_
              refine V_istore_n (loc' := [(3, .int 0), (2, .int 3), (0, .ref 58), (1, .int 0)]) dR_one_78 (by decide) rfl ?_
              refine V_iload_n dR_one_79 rfl ?_
              refine V_iload_n dR_one_80 rfl ?_
              refine V_isub dR_one_81 ?_
              refine V_topI (x' := 3) (by decide) ?_
              refine V_iconst (v := 2) dR_one_82 (by decide) ?_
              refine V_irem dR_one_83 (by decide) ?_
              refine V_topI (x' := 1) (by decide) ?_
              refine V_if_eq (tgt := 91) dR_one_84 rfl (fun h => absurd h (by decide)) (fun _ => ?_)
              refine V_iconst (v := 1) dR_one_87 (by decide) ?_
              refine V_goto (tgt := 92) dR_one_88 rfl ?_
              refine V_istore (loc' := [(4, .int 1), (3, .int 0), (2, .int 3), (0, .ref 58), (1, .int 0)]) dR_one_92 (by decide) rfl ?_
              refine V_iload_n dR_one_94 rfl ?_
              refine V_if_eq (tgt := 115) dR_one_95 rfl (fun _ => ?_) (fun h => absurd h (by decide))
              refine V_iconst (v := 0) dR_one_115 (by decide) ?_
              refine V_zret dR_one_116 rfl rfl rfl ?_
              have hj : bgs ch 4 p = 3 := by
                show (if ch (p) = 33 then (if ch (p + 1) = 33 then (if ch (p + 1 + 1) = 33 then (if ch (p + 1 + 1 + 1) = 33 then bgs ch 0 (p + 1 + 1 + 1 + 1) + 1 else 0) + 1 else 0) + 1 else 0) + 1 else 0) = 3
                rw [if_pos hw0, if_pos hw1, if_pos hw2, if_neg hv]
              rw [on_b hj (by rintro ⟨h1, h2⟩; first | exact absurd h1 (by decide) | exact ho h2)]
              exact rp_fail haT hS
      · refine V_one ?_
        refine V_if_eq (tgt := 32) dR_one_20 rfl (fun _ => ?_) (fun h => absurd h (by decide))
        refine V_iload_n dR_one_32 rfl ?_
        refine V_iconst (v := 4) dR_one_33 (by decide) ?_
        refine V_icmp_ge (tgt := 74) dR_one_34 rfl (fun h => absurd h (by decide)) (fun _ => ?_)
        refine V_aload_n dR_one_37 rfl ?_
        refine V_bipush (v := 40) dR_one_38 (by decide) ?_
        refine V_callV (as := [.int 40]) (rest := []) (bs' := 0) rfl dR_one_40 cmR_takes cvR_takes mlR_31 (Or.inl ⟨_, _, _, _, _, rfl, k58, by decide, rfl⟩) rfl rfl (c_rtakes hR0 hf hT hS (c := 40) (by decide)) (by decide) (Nat.le_refl _) (by decide) (Nat.le_of_ble_eq_true rfl) ?_
        rintro _ _ mo (⟨ho, rfl, rfl, hS⟩ | ⟨ho, rfl, rfl, rfl⟩) -
        · refine V_one ?_
          have hR := hS.rf hR0
          have hTs := hS.tx hf hT
          have hlo := hS.le
          refine V_if_eq (tgt := 74) dR_one_43 rfl (fun h => absurd h (by decide)) (fun _ => ?_)
          refine V_aload_n dR_one_46 rfl ?_
          refine V_iload_n dR_one_47 rfl ?_
          refine V_iconst (v := 1) dR_one_48 (by decide) ?_
          refine V_iadd dR_one_49 ?_
          refine V_topI (x' := 3) (by decide) ?_
          refine V_callV (as := [.int 3]) (rest := []) (bs' := 0) rfl dR_one_50 cmR_any cvR_any mlR_64 (Or.inl ⟨_, _, _, _, _, rfl, k58, by decide, rfl⟩) rfl rfl (c_rany1 hR0 hf hT hS (by omega)) (by decide) (Nat.le_refl _) (by decide) (Nat.le_of_ble_eq_true rfl) ?_
          rintro _ _ mA (⟨haA, rfl, rfl, hS⟩ | ⟨haA, rfl, rfl, b2, o2, hS⟩) -
          · refine V_one ?_
            have hR := hS.rf hR0
            have hTs := hS.tx hf hT
            have hleA := hS.le
            refine V_if_eq (tgt := 69) dR_one_53 rfl (fun h => absurd h (by decide)) (fun _ => ?_)
            refine V_aload_n dR_one_56 rfl ?_
            refine V_bipush (v := 41) dR_one_57 (by decide) ?_
            refine V_callV (as := [.int 41]) (rest := []) (bs' := 0) rfl dR_one_59 cmR_takes cvR_takes mlR_31 (Or.inl ⟨_, _, _, _, _, rfl, k58, by decide, rfl⟩) rfl rfl (c_rtakes hR0 hf hT hS (c := 41) (by decide)) (by decide) (Nat.le_refl _) (by decide) (Nat.le_of_ble_eq_true rfl) ?_
            rintro _ _ mc (⟨hcl, rfl, rfl, hS⟩ | ⟨hcl, rfl, rfl, rfl⟩) -
            · refine V_one ?_
              have hR := hS.rf hR0
              have hTs := hS.tx hf hT
              have hlc := hS.le
              refine V_if_eq (tgt := 69) dR_one_62 rfl (fun h => absurd h (by decide)) (fun _ => ?_)
              refine V_iconst (v := 1) dR_one_65 (by decide) ?_
              refine V_goto (tgt := 70) dR_one_66 rfl ?_
              refine V_istore_n (loc' := [(3, .int 1), (2, .int 2), (0, .ref 58), (1, .int 0)]) dR_one_70 (by decide) rfl ?_
              refine V_goto (tgt := 79) dR_one_71 rfl ?_
              refine V_iload_n dR_one_79 rfl ?_
              refine V_iload_n dR_one_80 rfl ?_
              refine V_isub dR_one_81 ?_
              refine V_topI (x' := 2) (by decide) ?_
              refine V_iconst (v := 2) dR_one_82 (by decide) ?_
              refine V_irem dR_one_83 (by decide) ?_
              refine V_topI (x' := 0) (by decide) ?_
              refine V_if_eq (tgt := 91) dR_one_84 rfl (fun _ => ?_) (fun h => absurd h (by decide))
              refine V_iconst (v := 0) dR_one_91 (by decide) ?_
              refine V_istore (loc' := [(4, .int 0), (3, .int 1), (2, .int 2), (0, .ref 58), (1, .int 0)]) dR_one_92 (by decide) rfl ?_
              refine V_iload_n dR_one_94 rfl ?_
              refine V_if_eq (tgt := 115) dR_one_95 rfl (fun h => absurd h (by decide)) (fun _ => ?_)
              refine V_iload dR_one_98 rfl ?_
              refine V_if_eq (tgt := 111) dR_one_100 rfl (fun _ => ?_) (fun h => absurd h (by decide))
              refine V_iconst (v := 1) dR_one_111 (by decide) ?_
              refine V_goto (tgt := 116) dR_one_112 rfl ?_
              refine V_zret dR_one_116 rfl rfl rfl ?_
              have hj : bgs ch 4 p = 2 := by
                show (if ch (p) = 33 then (if ch (p + 1) = 33 then (if ch (p + 1 + 1) = 33 then bgs ch 1 (p + 1 + 1 + 1) + 1 else 0) + 1 else 0) + 1 else 0) = 2
                rw [if_pos hw0, if_pos hw1, if_neg hv]
              rw [on_a hj ⟨by decide, ho⟩]
              rw [cls_t haA hcl]
              exact rp_even rfl (by decide) hS
            · refine V_one ?_
              refine V_if_eq (tgt := 69) dR_one_62 rfl (fun _ => ?_) (fun h => absurd h (by decide))
              refine V_iconst (v := 0) dR_one_69 (by decide) ?_
              refine V_istore_n (loc' := [(3, .int 0), (2, .int 2), (0, .ref 58), (1, .int 0)]) dR_one_70 (by decide) rfl ?_
              refine V_goto (tgt := 79) dR_one_71 rfl ?_
              refine V_iload_n dR_one_79 rfl ?_
              refine V_iload_n dR_one_80 rfl ?_
              refine V_isub dR_one_81 ?_
              refine V_topI (x' := 2) (by decide) ?_
              refine V_iconst (v := 2) dR_one_82 (by decide) ?_
              refine V_irem dR_one_83 (by decide) ?_
              refine V_topI (x' := 0) (by decide) ?_
              refine V_if_eq (tgt := 91) dR_one_84 rfl (fun _ => ?_) (fun h => absurd h (by decide))
              refine V_iconst (v := 0) dR_one_91 (by decide) ?_
              refine V_istore (loc' := [(4, .int 0), (3, .int 0), (2, .int 2), (0, .ref 58), (1, .int 0)]) dR_one_92 (by decide) rfl ?_
              refine V_iload_n dR_one_94 rfl ?_
              refine V_if_eq (tgt := 115) dR_one_95 rfl (fun _ => ?_) (fun h => absurd h (by decide))
              refine V_iconst (v := 0) dR_one_115 (by decide) ?_
              refine V_zret dR_one_116 rfl rfl rfl ?_
              have hj : bgs ch 4 p = 2 := by
                show (if ch (p) = 33 then (if ch (p + 1) = 33 then (if ch (p + 1 + 1) = 33 then bgs ch 1 (p + 1 + 1 + 1) + 1 else 0) + 1 else 0) + 1 else 0) = 2
                rw [if_pos hw0, if_pos hw1, if_neg hv]
              rw [on_a hj ⟨by decide, ho⟩]
              rw [cls_f haA hcl]
              exact rp_fail rfl hS
          · refine V_one ?_
            refine V_if_eq (tgt := 69) dR_one_53 rfl (fun _ => ?_) (fun h => absurd h (by decide))
            refine V_iconst (v := 0) dR_one_69 (by decide) ?_
            refine V_istore_n (loc' := [(3, .int 0), (2, .int 2), (0, .ref 58), (1, .int 0)]) dR_one_70 (by decide) rfl ?_
            refine V_goto (tgt := 79) dR_one_71 rfl ?_
            refine V_iload_n dR_one_79 rfl ?_
            refine V_iload_n dR_one_80 rfl ?_
            refine V_isub dR_one_81 ?_
            refine V_topI (x' := 2) (by decide) ?_
            refine V_iconst (v := 2) dR_one_82 (by decide) ?_
            refine V_irem dR_one_83 (by decide) ?_
            refine V_topI (x' := 0) (by decide) ?_
            refine V_if_eq (tgt := 91) dR_one_84 rfl (fun _ => ?_) (fun h => absurd h (by decide))
            refine V_iconst (v := 0) dR_one_91 (by decide) ?_
            refine V_istore (loc' := [(4, .int 0), (3, .int 0), (2, .int 2), (0, .ref 58), (1, .int 0)]) dR_one_92 (by decide) rfl ?_
            refine V_iload_n dR_one_94 rfl ?_
            refine V_if_eq (tgt := 115) dR_one_95 rfl (fun _ => ?_) (fun h => absurd h (by decide))
            refine V_iconst (v := 0) dR_one_115 (by decide) ?_
            refine V_zret dR_one_116 rfl rfl rfl ?_
            have hj : bgs ch 4 p = 2 := by
              show (if ch (p) = 33 then (if ch (p + 1) = 33 then (if ch (p + 1 + 1) = 33 then bgs ch 1 (p + 1 + 1 + 1) + 1 else 0) + 1 else 0) + 1 else 0) = 2
              rw [if_pos hw0, if_pos hw1, if_neg hv]
            rw [on_a hj ⟨by decide, ho⟩]
            rw [cls_n haA]
            exact rp_fail haA hS
        · refine V_one ?_
          refine V_if_eq (tgt := 74) dR_one_43 rfl (fun _ => ?_) (fun h => absurd h (by decide))
          refine V_aload_n dR_one_74 rfl ?_
          refine V_callV (as := []) (rest := []) (bs' := 0) rfl dR_one_75 cmR_test cvR_test mlR_74 (Or.inl ⟨_, _, _, _, _, rfl, k58, by decide, rfl⟩) rfl rfl (c_rtest hR0 hf hT hS (by omega)) (by decide) (Nat.le_refl _) (by decide) (Nat.le_of_ble_eq_true rfl) ?_
          rintro _ _ mT (⟨haT, rfl, rfl, hS⟩ | ⟨haT, rfl, rfl, b2, o2, hS⟩) -
          · refine V_one ?_
            have hR := hS.rf hR0
            have hTs := hS.tx hf hT
            have hleT := hS.le
            refine V_istore_n (loc' := [(3, .int 1), (2, .int 2), (0, .ref 58), (1, .int 0)]) dR_one_78 (by decide) rfl ?_
            refine V_iload_n dR_one_79 rfl ?_
            refine V_iload_n dR_one_80 rfl ?_
            refine V_isub dR_one_81 ?_
            refine V_topI (x' := 2) (by decide) ?_
            refine V_iconst (v := 2) dR_one_82 (by decide) ?_
            refine V_irem dR_one_83 (by decide) ?_
            refine V_topI (x' := 0) (by decide) ?_
            refine V_if_eq (tgt := 91) dR_one_84 rfl (fun _ => ?_) (fun h => absurd h (by decide))
            refine V_iconst (v := 0) dR_one_91 (by decide) ?_
            refine V_istore (loc' := [(4, .int 0), (3, .int 1), (2, .int 2), (0, .ref 58), (1, .int 0)]) dR_one_92 (by decide) rfl ?_
            refine V_iload_n dR_one_94 rfl ?_
            refine V_if_eq (tgt := 115) dR_one_95 rfl (fun h => absurd h (by decide)) (fun _ => ?_)
            refine V_iload dR_one_98 rfl ?_
            refine V_if_eq (tgt := 111) dR_one_100 rfl (fun _ => ?_) (fun h => absurd h (by decide))
            refine V_iconst (v := 1) dR_one_111 (by decide) ?_
            refine V_goto (tgt := 116) dR_one_112 rfl ?_
            refine V_zret dR_one_116 rfl rfl rfl ?_
            have hj : bgs ch 4 p = 2 := by
              show (if ch (p) = 33 then (if ch (p + 1) = 33 then (if ch (p + 1 + 1) = 33 then bgs ch 1 (p + 1 + 1 + 1) + 1 else 0) + 1 else 0) + 1 else 0) = 2
              rw [if_pos hw0, if_pos hw1, if_neg hv]
            rw [on_b hj (by rintro ⟨h1, h2⟩; first | exact absurd h1 (by decide) | exact ho h2)]
            exact rp_even haT (by decide) hS
          · refine V_one ?_
            refine V_istore_n (loc' := [(3, .int 0), (2, .int 2), (0, .ref 58), (1, .int 0)]) dR_one_78 (by decide) rfl ?_
            refine V_iload_n dR_one_79 rfl ?_
            refine V_iload_n dR_one_80 rfl ?_
            refine V_isub dR_one_81 ?_
            refine V_topI (x' := 2) (by decide) ?_
            refine V_iconst (v := 2) dR_one_82 (by decide) ?_
            refine V_irem dR_one_83 (by decide) ?_
            refine V_topI (x' := 0) (by decide) ?_
            refine V_if_eq (tgt := 91) dR_one_84 rfl (fun _ => ?_) (fun h => absurd h (by decide))
            refine V_iconst (v := 0) dR_one_91 (by decide) ?_
            refine V_istore (loc' := [(4, .int 0), (3, .int 0), (2, .int 2), (0, .ref 58), (1, .int 0)]) dR_one_92 (by decide) rfl ?_
            refine V_iload_n dR_one_94 rfl ?_
            refine V_if_eq (tgt := 115) dR_one_95 rfl (fun _ => ?_) (fun h => absurd h (by decide))
            refine V_iconst (v := 0) dR_one_115 (by decide) ?_
            refine V_zret dR_one_116 rfl rfl rfl ?_
            have hj : bgs ch 4 p = 2 := by
              show (if ch (p) = 33 then (if ch (p + 1) = 33 then (if ch (p + 1 + 1) = 33 then bgs ch 1 (p + 1 + 1 + 1) + 1 else 0) + 1 else 0) + 1 else 0) = 2
              rw [if_pos hw0, if_pos hw1, if_neg hv]
            rw [on_b hj (by rintro ⟨h1, h2⟩; first | exact absurd h1 (by decide) | exact ho h2)]
            exact rp_fail haT hS
    · refine V_one ?_
      refine V_if_eq (tgt := 32) dR_one_20 rfl (fun _ => ?_) (fun h => absurd h (by decide))
      refine V_iload_n dR_one_32 rfl ?_
      refine V_iconst (v := 4) dR_one_33 (by decide) ?_
      refine V_icmp_ge (tgt := 74) dR_one_34 rfl (fun h => absurd h (by decide)) (fun _ => ?_)
      refine V_aload_n dR_one_37 rfl ?_
      refine V_bipush (v := 40) dR_one_38 (by decide) ?_
      refine V_callV (as := [.int 40]) (rest := []) (bs' := 0) rfl dR_one_40 cmR_takes cvR_takes mlR_31 (Or.inl ⟨_, _, _, _, _, rfl, k58, by decide, rfl⟩) rfl rfl (c_rtakes hR0 hf hT hS (c := 40) (by decide)) (by decide) (Nat.le_refl _) (by decide) (Nat.le_of_ble_eq_true rfl) ?_
      rintro _ _ mo (⟨ho, rfl, rfl, hS⟩ | ⟨ho, rfl, rfl, rfl⟩) -
      · refine V_one ?_
        have hR := hS.rf hR0
        have hTs := hS.tx hf hT
        have hlo := hS.le
        refine V_if_eq (tgt := 74) dR_one_43 rfl (fun h => absurd h (by decide)) (fun _ => ?_)
        refine V_aload_n dR_one_46 rfl ?_
        refine V_iload_n dR_one_47 rfl ?_
        refine V_iconst (v := 1) dR_one_48 (by decide) ?_
        refine V_iadd dR_one_49 ?_
        refine V_topI (x' := 2) (by decide) ?_
        refine V_callV (as := [.int 2]) (rest := []) (bs' := 0) rfl dR_one_50 cmR_any cvR_any mlR_64 (Or.inl ⟨_, _, _, _, _, rfl, k58, by decide, rfl⟩) rfl rfl (c_rany2 hR0 hf hT hS (by omega)) (by decide) (Nat.le_refl _) (by decide) (Nat.le_of_ble_eq_true rfl) ?_
        rintro _ _ mA (⟨haA, rfl, rfl, hS⟩ | ⟨haA, rfl, rfl, b2, o2, hS⟩) -
        · refine V_one ?_
          have hR := hS.rf hR0
          have hTs := hS.tx hf hT
          have hleA := hS.le
          refine V_if_eq (tgt := 69) dR_one_53 rfl (fun h => absurd h (by decide)) (fun _ => ?_)
          refine V_aload_n dR_one_56 rfl ?_
          refine V_bipush (v := 41) dR_one_57 (by decide) ?_
          refine V_callV (as := [.int 41]) (rest := []) (bs' := 0) rfl dR_one_59 cmR_takes cvR_takes mlR_31 (Or.inl ⟨_, _, _, _, _, rfl, k58, by decide, rfl⟩) rfl rfl (c_rtakes hR0 hf hT hS (c := 41) (by decide)) (by decide) (Nat.le_refl _) (by decide) (Nat.le_of_ble_eq_true rfl) ?_
          rintro _ _ mc (⟨hcl, rfl, rfl, hS⟩ | ⟨hcl, rfl, rfl, rfl⟩) -
          · refine V_one ?_
            have hR := hS.rf hR0
            have hTs := hS.tx hf hT
            have hlc := hS.le
            refine V_if_eq (tgt := 69) dR_one_62 rfl (fun h => absurd h (by decide)) (fun _ => ?_)
            refine V_iconst (v := 1) dR_one_65 (by decide) ?_
            refine V_goto (tgt := 70) dR_one_66 rfl ?_
            refine V_istore_n (loc' := [(3, .int 1), (2, .int 1), (0, .ref 58), (1, .int 0)]) dR_one_70 (by decide) rfl ?_
            refine V_goto (tgt := 79) dR_one_71 rfl ?_
            refine V_iload_n dR_one_79 rfl ?_
            refine V_iload_n dR_one_80 rfl ?_
            refine V_isub dR_one_81 ?_
            refine V_topI (x' := 1) (by decide) ?_
            refine V_iconst (v := 2) dR_one_82 (by decide) ?_
            refine V_irem dR_one_83 (by decide) ?_
            refine V_topI (x' := 1) (by decide) ?_
            refine V_if_eq (tgt := 91) dR_one_84 rfl (fun h => absurd h (by decide)) (fun _ => ?_)
            refine V_iconst (v := 1) dR_one_87 (by decide) ?_
            refine V_goto (tgt := 92) dR_one_88 rfl ?_
            refine V_istore (loc' := [(4, .int 1), (3, .int 1), (2, .int 1), (0, .ref 58), (1, .int 0)]) dR_one_92 (by decide) rfl ?_
            refine V_iload_n dR_one_94 rfl ?_
            refine V_if_eq (tgt := 115) dR_one_95 rfl (fun h => absurd h (by decide)) (fun _ => ?_)
            refine V_iload dR_one_98 rfl ?_
            refine V_if_eq (tgt := 111) dR_one_100 rfl (fun h => absurd h (by decide)) (fun _ => ?_)
            refine V_aload_n dR_one_103 rfl ?_
            refine V_iconst (v := -1) dR_one_104 (by decide) ?_
            refine V_callV (as := [.int (-1)]) (rest := []) (bs' := 0) rfl dR_one_105 cmR_writes cvR_writes mlR_68 (Or.inl ⟨_, _, _, _, _, rfl, k58, by decide, rfl⟩) rfl rfl (c_rwrites hR0 hf hT hS (op := 30001) (by decide) (by have hg := (anK_gd hT.2.2 2 (q := p + 1 + 1) (by omega)).2.2 haA; rw [List.length_append]; omega)) (by decide) (Nat.le_refl _) (by decide) (Nat.le_of_ble_eq_true rfl) ?_
            rintro _ _ m105 ⟨rfl, rfl, hS⟩ -
            refine V_one ?_
            have hR := hS.rf hR0
            have hTs := hS.tx hf hT
            refine V_if_eq (tgt := 115) dR_one_108 rfl (fun h => absurd h (by decide)) (fun _ => ?_)
            refine V_iconst (v := 1) dR_one_111 (by decide) ?_
            refine V_goto (tgt := 116) dR_one_112 rfl ?_
            refine V_zret dR_one_116 rfl rfl rfl ?_
            have hj : bgs ch 4 p = 1 := by
              show (if ch (p) = 33 then (if ch (p + 1) = 33 then bgs ch 2 (p + 1 + 1) + 1 else 0) + 1 else 0) = 1
              rw [if_pos hw0, if_neg hv]
            rw [on_a hj ⟨by decide, ho⟩]
            rw [cls_t haA hcl]
            exact rp_odd rfl (by decide) hS
          · refine V_one ?_
            refine V_if_eq (tgt := 69) dR_one_62 rfl (fun _ => ?_) (fun h => absurd h (by decide))
            refine V_iconst (v := 0) dR_one_69 (by decide) ?_
            refine V_istore_n (loc' := [(3, .int 0), (2, .int 1), (0, .ref 58), (1, .int 0)]) dR_one_70 (by decide) rfl ?_
            refine V_goto (tgt := 79) dR_one_71 rfl ?_
            refine V_iload_n dR_one_79 rfl ?_
            refine V_iload_n dR_one_80 rfl ?_
            refine V_isub dR_one_81 ?_
            refine V_topI (x' := 1) (by decide) ?_
            refine V_iconst (v := 2) dR_one_82 (by decide) ?_
            refine V_irem dR_one_83 (by decide) ?_
            refine V_topI (x' := 1) (by decide) ?_
            refine V_if_eq (tgt := 91) dR_one_84 rfl (fun h => absurd h (by decide)) (fun _ => ?_)
            refine V_iconst (v := 1) dR_one_87 (by decide) ?_
            refine V_goto (tgt := 92) dR_one_88 rfl ?_
            refine V_istore (loc' := [(4, .int 1), (3, .int 0), (2, .int 1), (0, .ref 58), (1, .int 0)]) dR_one_92 (by decide) rfl ?_
            refine V_iload_n dR_one_94 rfl ?_
            refine V_if_eq (tgt := 115) dR_one_95 rfl (fun _ => ?_) (fun h => absurd h (by decide))
            refine V_iconst (v := 0) dR_one_115 (by decide) ?_
            refine V_zret dR_one_116 rfl rfl rfl ?_
            have hj : bgs ch 4 p = 1 := by
              show (if ch (p) = 33 then (if ch (p + 1) = 33 then bgs ch 2 (p + 1 + 1) + 1 else 0) + 1 else 0) = 1
              rw [if_pos hw0, if_neg hv]
            rw [on_a hj ⟨by decide, ho⟩]
            rw [cls_f haA hcl]
            exact rp_fail rfl hS
        · refine V_one ?_
          refine V_if_eq (tgt := 69) dR_one_53 rfl (fun _ => ?_) (fun h => absurd h (by decide))
          refine V_iconst (v := 0) dR_one_69 (by decide) ?_
          refine V_istore_n (loc' := [(3, .int 0), (2, .int 1), (0, .ref 58), (1, .int 0)]) dR_one_70 (by decide) rfl ?_
          refine V_goto (tgt := 79) dR_one_71 rfl ?_
          refine V_iload_n dR_one_79 rfl ?_
          refine V_iload_n dR_one_80 rfl ?_
          refine V_isub dR_one_81 ?_
          refine V_topI (x' := 1) (by decide) ?_
          refine V_iconst (v := 2) dR_one_82 (by decide) ?_
          refine V_irem dR_one_83 (by decide) ?_
          refine V_topI (x' := 1) (by decide) ?_
          refine V_if_eq (tgt := 91) dR_one_84 rfl (fun h => absurd h (by decide)) (fun _ => ?_)
          refine V_iconst (v := 1) dR_one_87 (by decide) ?_
          refine V_goto (tgt := 92) dR_one_88 rfl ?_
          refine V_istore (loc' := [(4, .int 1), (3, .int 0), (2, .int 1), (0, .ref 58), (1, .int 0)]) dR_one_92 (by decide) rfl ?_
          refine V_iload_n dR_one_94 rfl ?_
          refine V_if_eq (tgt := 115) dR_one_95 rfl (fun _ => ?_) (fun h => absurd h (by decide))
          refine V_iconst (v := 0) dR_one_115 (by decide) ?_
          refine V_zret dR_one_116 rfl rfl rfl ?_
          have hj : bgs ch 4 p = 1 := by
            show (if ch (p) = 33 then (if ch (p + 1) = 33 then bgs ch 2 (p + 1 + 1) + 1 else 0) + 1 else 0) = 1
            rw [if_pos hw0, if_neg hv]
          rw [on_a hj ⟨by decide, ho⟩]
          rw [cls_n haA]
          exact rp_fail haA hS
      · refine V_one ?_
        refine V_if_eq (tgt := 74) dR_one_43 rfl (fun _ => ?_) (fun h => absurd h (by decide))
        refine V_aload_n dR_one_74 rfl ?_
        refine V_callV (as := []) (rest := []) (bs' := 0) rfl dR_one_75 cmR_test cvR_test mlR_74 (Or.inl ⟨_, _, _, _, _, rfl, k58, by decide, rfl⟩) rfl rfl (c_rtest hR0 hf hT hS (by omega)) (by decide) (Nat.le_refl _) (by decide) (Nat.le_of_ble_eq_true rfl) ?_
        rintro _ _ mT (⟨haT, rfl, rfl, hS⟩ | ⟨haT, rfl, rfl, b2, o2, hS⟩) -
        · refine V_one ?_
          have hR := hS.rf hR0
          have hTs := hS.tx hf hT
          have hleT := hS.le
          refine V_istore_n (loc' := [(3, .int 1), (2, .int 1), (0, .ref 58), (1, .int 0)]) dR_one_78 (by decide) rfl ?_
          refine V_iload_n dR_one_79 rfl ?_
          refine V_iload_n dR_one_80 rfl ?_
          refine V_isub dR_one_81 ?_
          refine V_topI (x' := 1) (by decide) ?_
          refine V_iconst (v := 2) dR_one_82 (by decide) ?_
          refine V_irem dR_one_83 (by decide) ?_
          refine V_topI (x' := 1) (by decide) ?_
          refine V_if_eq (tgt := 91) dR_one_84 rfl (fun h => absurd h (by decide)) (fun _ => ?_)
          refine V_iconst (v := 1) dR_one_87 (by decide) ?_
          refine V_goto (tgt := 92) dR_one_88 rfl ?_
          refine V_istore (loc' := [(4, .int 1), (3, .int 1), (2, .int 1), (0, .ref 58), (1, .int 0)]) dR_one_92 (by decide) rfl ?_
          refine V_iload_n dR_one_94 rfl ?_
          refine V_if_eq (tgt := 115) dR_one_95 rfl (fun h => absurd h (by decide)) (fun _ => ?_)
          refine V_iload dR_one_98 rfl ?_
          refine V_if_eq (tgt := 111) dR_one_100 rfl (fun h => absurd h (by decide)) (fun _ => ?_)
          refine V_aload_n dR_one_103 rfl ?_
          refine V_iconst (v := -1) dR_one_104 (by decide) ?_
          refine V_callV (as := [.int (-1)]) (rest := []) (bs' := 0) rfl dR_one_105 cmR_writes cvR_writes mlR_68 (Or.inl ⟨_, _, _, _, _, rfl, k58, by decide, rfl⟩) rfl rfl (c_rwrites hR0 hf hT hS (op := 30001) (by decide) (by have hg := (ts_gd hT.2.2 (p := p + 1) (by omega)).2.2 haT; rw [List.length_append]; omega)) (by decide) (Nat.le_refl _) (by decide) (Nat.le_of_ble_eq_true rfl) ?_
          rintro _ _ m105 ⟨rfl, rfl, hS⟩ -
          refine V_one ?_
          have hR := hS.rf hR0
          have hTs := hS.tx hf hT
          refine V_if_eq (tgt := 115) dR_one_108 rfl (fun h => absurd h (by decide)) (fun _ => ?_)
          refine V_iconst (v := 1) dR_one_111 (by decide) ?_
          refine V_goto (tgt := 116) dR_one_112 rfl ?_
          refine V_zret dR_one_116 rfl rfl rfl ?_
          have hj : bgs ch 4 p = 1 := by
            show (if ch (p) = 33 then (if ch (p + 1) = 33 then bgs ch 2 (p + 1 + 1) + 1 else 0) + 1 else 0) = 1
            rw [if_pos hw0, if_neg hv]
          rw [on_b hj (by rintro ⟨h1, h2⟩; first | exact absurd h1 (by decide) | exact ho h2)]
          exact rp_odd haT (by decide) hS
        · refine V_one ?_
          refine V_istore_n (loc' := [(3, .int 0), (2, .int 1), (0, .ref 58), (1, .int 0)]) dR_one_78 (by decide) rfl ?_
          refine V_iload_n dR_one_79 rfl ?_
          refine V_iload_n dR_one_80 rfl ?_
          refine V_isub dR_one_81 ?_
          refine V_topI (x' := 1) (by decide) ?_
          refine V_iconst (v := 2) dR_one_82 (by decide) ?_
          refine V_irem dR_one_83 (by decide) ?_
          refine V_topI (x' := 1) (by decide) ?_
          refine V_if_eq (tgt := 91) dR_one_84 rfl (fun h => absurd h (by decide)) (fun _ => ?_)
          refine V_iconst (v := 1) dR_one_87 (by decide) ?_
          refine V_goto (tgt := 92) dR_one_88 rfl ?_
          refine V_istore (loc' := [(4, .int 1), (3, .int 0), (2, .int 1), (0, .ref 58), (1, .int 0)]) dR_one_92 (by decide) rfl ?_
          refine V_iload_n dR_one_94 rfl ?_
          refine V_if_eq (tgt := 115) dR_one_95 rfl (fun _ => ?_) (fun h => absurd h (by decide))
          refine V_iconst (v := 0) dR_one_115 (by decide) ?_
          refine V_zret dR_one_116 rfl rfl rfl ?_
          have hj : bgs ch 4 p = 1 := by
            show (if ch (p) = 33 then (if ch (p + 1) = 33 then bgs ch 2 (p + 1 + 1) + 1 else 0) + 1 else 0) = 1
            rw [if_pos hw0, if_neg hv]
          rw [on_b hj (by rintro ⟨h1, h2⟩; first | exact absurd h1 (by decide) | exact ho h2)]
          exact rp_fail haT hS
  · refine V_one ?_
    refine V_if_eq (tgt := 32) dR_one_20 rfl (fun _ => ?_) (fun h => absurd h (by decide))
    refine V_iload_n dR_one_32 rfl ?_
    refine V_iconst (v := 4) dR_one_33 (by decide) ?_
    refine V_icmp_ge (tgt := 74) dR_one_34 rfl (fun h => absurd h (by decide)) (fun _ => ?_)
    refine V_aload_n dR_one_37 rfl ?_
    refine V_bipush (v := 40) dR_one_38 (by decide) ?_
    refine V_callV (as := [.int 40]) (rest := []) (bs' := 0) rfl dR_one_40 cmR_takes cvR_takes mlR_31 (Or.inl ⟨_, _, _, _, _, rfl, k58, by decide, rfl⟩) rfl rfl (c_rtakes hR0 hf hT hS (c := 40) (by decide)) (by decide) (Nat.le_refl _) (by decide) (Nat.le_of_ble_eq_true rfl) ?_
    rintro _ _ mo (⟨ho, rfl, rfl, hS⟩ | ⟨ho, rfl, rfl, rfl⟩) -
    · refine V_one ?_
      have hR := hS.rf hR0
      have hTs := hS.tx hf hT
      have hlo := hS.le
      refine V_if_eq (tgt := 74) dR_one_43 rfl (fun h => absurd h (by decide)) (fun _ => ?_)
      refine V_aload_n dR_one_46 rfl ?_
      refine V_iload_n dR_one_47 rfl ?_
      refine V_iconst (v := 1) dR_one_48 (by decide) ?_
      refine V_iadd dR_one_49 ?_
      refine V_topI (x' := 1) (by decide) ?_
      refine V_callV (as := [.int 1]) (rest := []) (bs' := 0) rfl dR_one_50 cmR_any cvR_any mlR_64 (Or.inl ⟨_, _, _, _, _, rfl, k58, by decide, rfl⟩) rfl rfl (c_rany3 hR0 hf hT hS (by omega)) (by decide) (Nat.le_refl _) (by decide) (Nat.le_of_ble_eq_true rfl) ?_
      rintro _ _ mA (⟨haA, rfl, rfl, hS⟩ | ⟨haA, rfl, rfl, b2, o2, hS⟩) -
      · refine V_one ?_
        have hR := hS.rf hR0
        have hTs := hS.tx hf hT
        have hleA := hS.le
        refine V_if_eq (tgt := 69) dR_one_53 rfl (fun h => absurd h (by decide)) (fun _ => ?_)
        refine V_aload_n dR_one_56 rfl ?_
        refine V_bipush (v := 41) dR_one_57 (by decide) ?_
        refine V_callV (as := [.int 41]) (rest := []) (bs' := 0) rfl dR_one_59 cmR_takes cvR_takes mlR_31 (Or.inl ⟨_, _, _, _, _, rfl, k58, by decide, rfl⟩) rfl rfl (c_rtakes hR0 hf hT hS (c := 41) (by decide)) (by decide) (Nat.le_refl _) (by decide) (Nat.le_of_ble_eq_true rfl) ?_
        rintro _ _ mc (⟨hcl, rfl, rfl, hS⟩ | ⟨hcl, rfl, rfl, rfl⟩) -
        · refine V_one ?_
          have hR := hS.rf hR0
          have hTs := hS.tx hf hT
          have hlc := hS.le
          refine V_if_eq (tgt := 69) dR_one_62 rfl (fun h => absurd h (by decide)) (fun _ => ?_)
          refine V_iconst (v := 1) dR_one_65 (by decide) ?_
          refine V_goto (tgt := 70) dR_one_66 rfl ?_
          refine V_istore_n (loc' := [(3, .int 1), (2, .int 0), (0, .ref 58), (1, .int 0)]) dR_one_70 (by decide) rfl ?_
          refine V_goto (tgt := 79) dR_one_71 rfl ?_
          refine V_iload_n dR_one_79 rfl ?_
          refine V_iload_n dR_one_80 rfl ?_
          refine V_isub dR_one_81 ?_
          refine V_topI (x' := 0) (by decide) ?_
          refine V_iconst (v := 2) dR_one_82 (by decide) ?_
          refine V_irem dR_one_83 (by decide) ?_
          refine V_topI (x' := 0) (by decide) ?_
          refine V_if_eq (tgt := 91) dR_one_84 rfl (fun _ => ?_) (fun h => absurd h (by decide))
          refine V_iconst (v := 0) dR_one_91 (by decide) ?_
          refine V_istore (loc' := [(4, .int 0), (3, .int 1), (2, .int 0), (0, .ref 58), (1, .int 0)]) dR_one_92 (by decide) rfl ?_
          refine V_iload_n dR_one_94 rfl ?_
          refine V_if_eq (tgt := 115) dR_one_95 rfl (fun h => absurd h (by decide)) (fun _ => ?_)
          refine V_iload dR_one_98 rfl ?_
          refine V_if_eq (tgt := 111) dR_one_100 rfl (fun _ => ?_) (fun h => absurd h (by decide))
          refine V_iconst (v := 1) dR_one_111 (by decide) ?_
          refine V_goto (tgt := 116) dR_one_112 rfl ?_
          refine V_zret dR_one_116 rfl rfl rfl ?_
          have hj : bgs ch 4 p = 0 := by
            show (if ch (p) = 33 then bgs ch 3 (p + 1) + 1 else 0) = 0
            rw [if_neg hv]
          rw [on_a hj ⟨by decide, ho⟩]
          rw [cls_t haA hcl]
          exact rp_even rfl (by decide) hS
        · refine V_one ?_
          refine V_if_eq (tgt := 69) dR_one_62 rfl (fun _ => ?_) (fun h => absurd h (by decide))
          refine V_iconst (v := 0) dR_one_69 (by decide) ?_
          refine V_istore_n (loc' := [(3, .int 0), (2, .int 0), (0, .ref 58), (1, .int 0)]) dR_one_70 (by decide) rfl ?_
          refine V_goto (tgt := 79) dR_one_71 rfl ?_
          refine V_iload_n dR_one_79 rfl ?_
          refine V_iload_n dR_one_80 rfl ?_
          refine V_isub dR_one_81 ?_
          refine V_topI (x' := 0) (by decide) ?_
          refine V_iconst (v := 2) dR_one_82 (by decide) ?_
          refine V_irem dR_one_83 (by decide) ?_
          refine V_topI (x' := 0) (by decide) ?_
          refine V_if_eq (tgt := 91) dR_one_84 rfl (fun _ => ?_) (fun h => absurd h (by decide))
          refine V_iconst (v := 0) dR_one_91 (by decide) ?_
          refine V_istore (loc' := [(4, .int 0), (3, .int 0), (2, .int 0), (0, .ref 58), (1, .int 0)]) dR_one_92 (by decide) rfl ?_
          refine V_iload_n dR_one_94 rfl ?_
          refine V_if_eq (tgt := 115) dR_one_95 rfl (fun _ => ?_) (fun h => absurd h (by decide))
          refine V_iconst (v := 0) dR_one_115 (by decide) ?_
          refine V_zret dR_one_116 rfl rfl rfl ?_
          have hj : bgs ch 4 p = 0 := by
            show (if ch (p) = 33 then bgs ch 3 (p + 1) + 1 else 0) = 0
            rw [if_neg hv]
          rw [on_a hj ⟨by decide, ho⟩]
          rw [cls_f haA hcl]
          exact rp_fail rfl hS
      · refine V_one ?_
        refine V_if_eq (tgt := 69) dR_one_53 rfl (fun _ => ?_) (fun h => absurd h (by decide))
        refine V_iconst (v := 0) dR_one_69 (by decide) ?_
        refine V_istore_n (loc' := [(3, .int 0), (2, .int 0), (0, .ref 58), (1, .int 0)]) dR_one_70 (by decide) rfl ?_
        refine V_goto (tgt := 79) dR_one_71 rfl ?_
        refine V_iload_n dR_one_79 rfl ?_
        refine V_iload_n dR_one_80 rfl ?_
        refine V_isub dR_one_81 ?_
        refine V_topI (x' := 0) (by decide) ?_
        refine V_iconst (v := 2) dR_one_82 (by decide) ?_
        refine V_irem dR_one_83 (by decide) ?_
        refine V_topI (x' := 0) (by decide) ?_
        refine V_if_eq (tgt := 91) dR_one_84 rfl (fun _ => ?_) (fun h => absurd h (by decide))
        refine V_iconst (v := 0) dR_one_91 (by decide) ?_
        refine V_istore (loc' := [(4, .int 0), (3, .int 0), (2, .int 0), (0, .ref 58), (1, .int 0)]) dR_one_92 (by decide) rfl ?_
        refine V_iload_n dR_one_94 rfl ?_
        refine V_if_eq (tgt := 115) dR_one_95 rfl (fun _ => ?_) (fun h => absurd h (by decide))
        refine V_iconst (v := 0) dR_one_115 (by decide) ?_
        refine V_zret dR_one_116 rfl rfl rfl ?_
        have hj : bgs ch 4 p = 0 := by
          show (if ch (p) = 33 then bgs ch 3 (p + 1) + 1 else 0) = 0
          rw [if_neg hv]
        rw [on_a hj ⟨by decide, ho⟩]
        rw [cls_n haA]
        exact rp_fail haA hS
    · refine V_one ?_
      refine V_if_eq (tgt := 74) dR_one_43 rfl (fun _ => ?_) (fun h => absurd h (by decide))
      refine V_aload_n dR_one_74 rfl ?_
      refine V_callV (as := []) (rest := []) (bs' := 0) rfl dR_one_75 cmR_test cvR_test mlR_74 (Or.inl ⟨_, _, _, _, _, rfl, k58, by decide, rfl⟩) rfl rfl (c_rtest hR0 hf hT hS (by omega)) (by decide) (Nat.le_refl _) (by decide) (Nat.le_of_ble_eq_true rfl) ?_
      rintro _ _ mT (⟨haT, rfl, rfl, hS⟩ | ⟨haT, rfl, rfl, b2, o2, hS⟩) -
      · refine V_one ?_
        have hR := hS.rf hR0
        have hTs := hS.tx hf hT
        have hleT := hS.le
        refine V_istore_n (loc' := [(3, .int 1), (2, .int 0), (0, .ref 58), (1, .int 0)]) dR_one_78 (by decide) rfl ?_
        refine V_iload_n dR_one_79 rfl ?_
        refine V_iload_n dR_one_80 rfl ?_
        refine V_isub dR_one_81 ?_
        refine V_topI (x' := 0) (by decide) ?_
        refine V_iconst (v := 2) dR_one_82 (by decide) ?_
        refine V_irem dR_one_83 (by decide) ?_
        refine V_topI (x' := 0) (by decide) ?_
        refine V_if_eq (tgt := 91) dR_one_84 rfl (fun _ => ?_) (fun h => absurd h (by decide))
        refine V_iconst (v := 0) dR_one_91 (by decide) ?_
        refine V_istore (loc' := [(4, .int 0), (3, .int 1), (2, .int 0), (0, .ref 58), (1, .int 0)]) dR_one_92 (by decide) rfl ?_
        refine V_iload_n dR_one_94 rfl ?_
        refine V_if_eq (tgt := 115) dR_one_95 rfl (fun h => absurd h (by decide)) (fun _ => ?_)
        refine V_iload dR_one_98 rfl ?_
        refine V_if_eq (tgt := 111) dR_one_100 rfl (fun _ => ?_) (fun h => absurd h (by decide))
        refine V_iconst (v := 1) dR_one_111 (by decide) ?_
        refine V_goto (tgt := 116) dR_one_112 rfl ?_
        refine V_zret dR_one_116 rfl rfl rfl ?_
        have hj : bgs ch 4 p = 0 := by
          show (if ch (p) = 33 then bgs ch 3 (p + 1) + 1 else 0) = 0
          rw [if_neg hv]
        rw [on_b hj (by rintro ⟨h1, h2⟩; first | exact absurd h1 (by decide) | exact ho h2)]
        exact rp_even haT (by decide) hS
      · refine V_one ?_
        refine V_istore_n (loc' := [(3, .int 0), (2, .int 0), (0, .ref 58), (1, .int 0)]) dR_one_78 (by decide) rfl ?_
        refine V_iload_n dR_one_79 rfl ?_
        refine V_iload_n dR_one_80 rfl ?_
        refine V_isub dR_one_81 ?_
        refine V_topI (x' := 0) (by decide) ?_
        refine V_iconst (v := 2) dR_one_82 (by decide) ?_
        refine V_irem dR_one_83 (by decide) ?_
        refine V_topI (x' := 0) (by decide) ?_
        refine V_if_eq (tgt := 91) dR_one_84 rfl (fun _ => ?_) (fun h => absurd h (by decide))
        refine V_iconst (v := 0) dR_one_91 (by decide) ?_
        refine V_istore (loc' := [(4, .int 0), (3, .int 0), (2, .int 0), (0, .ref 58), (1, .int 0)]) dR_one_92 (by decide) rfl ?_
        refine V_iload_n dR_one_94 rfl ?_
        refine V_if_eq (tgt := 115) dR_one_95 rfl (fun _ => ?_) (fun h => absurd h (by decide))
        refine V_iconst (v := 0) dR_one_115 (by decide) ?_
        refine V_zret dR_one_116 rfl rfl rfl ?_
        have hj : bgs ch 4 p = 0 := by
          show (if ch (p) = 33 then bgs ch 3 (p + 1) + 1 else 0) = 0
          rw [if_neg hv]
        rw [on_b hj (by rintro ⟨h1, h2⟩; first | exact absurd h1 (by decide) | exact ho h2)]
        exact rp_fail haT hS
theorem c_rany4 {l : Launch} {G : GT} {ch : Nat → Nat} {σ s : Hp} {f n p b : Nat} {ops : List Nat} (hR0 : RF σ) (hf : f < 6) (hT : TX σ n ch) (hS : RS σ s f n p b ops) (hl : ops.length ≤ p) : MM l G mR_any 14 0 0 [.ref 58, .int 0] KA s (RP σ f n b ops (anK ch 4 p)) := by
  have hR := hS.rf hR0
  have hTs := hS.tx hf hT
  have hle := hS.le
  have h100 := hT.1
  refine MM.of (loc := [(0, .ref 58), (1, .int 0)]) (by decide +kernel) rfl (Nat.le_of_ble_eq_true rfl) ?_
  rw [anK_eq]
  have lp : ∀ (F i : Nat), F + i = 100 → ∀ (acc : List Nat × List Nat) (q : Nat) (s : Hp), RS σ s f n q b (ops ++ (if i = 0 then [] else acc.1)) → (ops ++ (if i = 0 then [] else acc.1)).length + (if i = 0 then 0 else 1) ≤ q → V l G mR_any (rmd 14 0 0) (KA.length + 0) 0 2 [(2, .int (nI i)), (0, .ref 58), (1, .int 0)] [] KA s (RP σ f n b ops (anP ch (onK ch 4) F i acc q)) := by
    intro F
    induction F with
    | zero =>
      intro i hi acc q s hS hlen
      have hi2 : i = 100 := by omega
      subst hi2
      refine V_iload_n dR_any_2 rfl ?_
      refine V_bipush (v := 100) dR_any_3 (by decide) ?_
      refine V_icmp_ge (tgt := 92) dR_any_5 rfl (fun _ => ?_) (fun h => absurd h (not_not_intro (nI_le (a := 100) (b := 100) (by decide) (by decide))))
      refine V_iconst (v := 0) dR_any_92 (by decide) ?_
      exact V_zret dR_any_93 rfl rfl rfl (Or.inr ⟨rfl, rfl, rfl, b, _, hS⟩)
    | succ F ih =>
      intro i hi acc q s hS hlen
      have hR := hS.rf hR0
      have hTs := hS.tx hf hT
      have hle := hS.le
      generalize hO : ops ++ (if i = 0 then [] else acc.1) = ops1 at hS hlen
      have hog := onK_gd hT.2.2 4 (q := q) hle
      have htg : ∀ h : ((onK ch 4) q).1 = true, Gd n q (9 + 1) (tmP ch (onK ch 4) 100 ((onK ch 4) q)) := fun h => tm_gd hT.2.2 (fun q hq => onK_gd hT.2.2 4 hq) (p0 := q) 100 ((onK ch 4) q) (hog.mono (Nat.le_succ _)) h
      refine V_iload_n dR_any_2 rfl ?_
      refine V_bipush (v := 100) dR_any_3 (by decide) ?_
      refine V_icmp_ge (tgt := 92) dR_any_5 rfl (fun h => absurd h (nI_ge (a := i) (b := 100) (by omega) (by decide))) (fun _ => ?_)
      refine V_aload_n dR_any_8 rfl ?_
      refine V_iload_n dR_any_9 rfl ?_
      refine V_callV (as := [.int 0]) (rest := []) (bs' := 0) rfl dR_any_10 cmR_one cvR_one mlR_71 (Or.inl ⟨_, _, _, _, _, rfl, k58, by decide, rfl⟩) rfl rfl (c_rone4 hR0 hf hT hS (by omega)) (by decide) (Nat.le_refl _) (by decide) (Nat.le_of_ble_eq_true rfl) ?_
      rintro _ _ mO (⟨haO, rfl, rfl, hS⟩ | ⟨haO, rfl, rfl, b2, o2, hS⟩) -
      · refine V_one ?_
        have hR := hS.rf hR0
        have hTs := hS.tx hf hT
        have hleO := hS.le
        refine V_if_ne (tgt := 18) dR_any_13 rfl (fun _ => ?_) (fun h => absurd h (by decide))
        refine V_iconst (v := 0) dR_any_18 (by decide) ?_
        refine V_istore_n (loc' := [(3, .int 0), (2, .int (nI i)), (0, .ref 58), (1, .int 0)]) dR_any_19 (by decide) rfl ?_
        have hog2 := hog.2.2 haO
        have htg2 := htg haO
        have hT1 : ∀ t, tmP ch (onK ch 4) 100 ((onK ch 4) q) = t → t.1 = false → anP ch (onK ch 4) (F + 1) i acc q = t := fun t ht h => by rw [an_2 haO (by rw [ht]; exact h), ht]
        have hT3 : ∀ t, tmP ch (onK ch 4) 100 ((onK ch 4) q) = t → t.1 = true → ch t.2.1 = 124 → anP ch (onK ch 4) (F + 1) i acc q = anP ch (onK ch 4) F (i + 1) (orP i acc t.2.2) (t.2.1 + 1) := fun t ht h h2 => by rw [an_3 haO (by rw [ht]; exact h) (by rw [ht]; exact h2), ht]
        have hT4 : ∀ t, tmP ch (onK ch 4) 100 ((onK ch 4) q) = t → t.1 = true → ¬ ch t.2.1 = 124 → anP ch (onK ch 4) (F + 1) i acc q = (true, t.2.1, orP i acc t.2.2) := fun t ht h h2 => by rw [an_4 haO (by rw [ht]; exact h) (by rw [ht]; exact h2), ht]
        have lp2 : ∀ (F2 m : Nat), F2 + m = 100 → ∀ (a : Rs) (s : Hp), a.1 = true → tmP ch (onK ch 4) F2 a = tmP ch (onK ch 4) 100 ((onK ch 4) q) → RS σ s f n a.2.1 b (ops1 ++ a.2.2.1) → (ops1 ++ a.2.2.1).length ≤ a.2.1 → V l G mR_any (rmd 14 0 0) (KA.length + 0) 0 20 [(3, .int (nI m)), (2, .int (nI i)), (0, .ref 58), (1, .int 0)] [] KA s (RP σ f n b ops (anP ch (onK ch 4) (F + 1) i acc q)) := by
          have h60 : ∀ (s : Hp) (m : Nat), ∀ t : Rs, tmP ch (onK ch 4) 100 ((onK ch 4) q) = t → t.1 = true → RS σ s f n t.2.1 b (ops1 ++ t.2.2.1) → V l G mR_any (rmd 14 0 0) (KA.length + 0) 0 60 [(3, .int (nI m)), (2, .int (nI i)), (0, .ref 58), (1, .int 0)] [] KA s (RP σ f n b ops (anP ch (onK ch 4) (F + 1) i acc q)) := by
            intro s m t ht htt hS
            have hR := hS.rf hR0
            have hTs := hS.tx hf hT
            have hle2 := hS.le
            rw [ht] at htg2
            obtain ⟨u1, u2, u3⟩ := htg2
            obtain ⟨v1, v2, v3, v4⟩ := u3 htt
            have hc255 := tx_n hT t.2.1
            by_cases hi0 : i = 0
            · skip
              refine V_iload_n dR_any_60 rfl ?_
              refine V_if_le (tgt := 75) dR_any_61 rfl (fun _ => ?_) (fun h => absurd h (not_not_intro (by rw [hi0]; exact Int32.le_refl _)))
              refine V_aload_n dR_any_75 rfl ?_
              refine V_bipush (v := 124) dR_any_76 (by decide) ?_
              refine V_callV (as := [.int 124]) (rest := []) (bs' := 0) rfl dR_any_78 cmR_takes cvR_takes mlR_31 (Or.inl ⟨_, _, _, _, _, rfl, k58, by decide, rfl⟩) rfl rfl (c_rtakes hR0 hf hT hS (c := 124) (by decide)) (by decide) (Nat.le_refl _) (by decide) (Nat.le_of_ble_eq_true rfl) ?_
              rintro _ _ mk (⟨hbK, rfl, rfl, hS⟩ | ⟨hbK, rfl, rfl, rfl⟩) -
              · refine V_one ?_
                refine V_if_ne (tgt := 86) dR_any_81 rfl (fun _ => ?_) (fun h => absurd h (by decide))
                refine V_iinc (v := nI (i + 1)) (loc' := [(2, .int (nI (i + 1))), (3, .int (nI m)), (0, .ref 58), (1, .int 0)]) dR_any_86 rfl (nI_inc i) (by decide) rfl ?_
                refine V_goto (tgt := 2) dR_any_89 rfl ?_
                have eo : ops ++ (orP i acc t.2.2).1 = ops1 ++ t.2.2.1 := by
                  rw [← hO]
                  simp [orP, hi0]
                have en : ops ++ (if i + 1 = 0 then [] else (orP i acc t.2.2).1) = ops1 ++ t.2.2.1 := by rw [if_neg (Nat.succ_ne_zero i)]; exact eo
                rw [hT3 t ht htt hbK]
                refine V.locs (loc' := [(2, .int (nI (i + 1))), (0, .ref 58), (1, .int 0)]) [0, 2, 3] rfl ?_
                exact (ih (i + 1) (by omega) (orP i acc t.2.2) (t.2.1 + 1) _ (by rw [en]; exact hS) (by rw [en]; simp only [List.length_append, List.length_singleton]; rw [if_neg (Nat.succ_ne_zero i)]; rw [if_pos hi0] at hlen; omega))
              · refine V_one ?_
                refine V_if_ne (tgt := 86) dR_any_81 rfl (fun h => absurd h (by decide)) (fun _ => ?_)
                refine V_iconst (v := 1) dR_any_84 (by decide) ?_
                refine V_zret dR_any_85 rfl rfl rfl ?_
                have eo : ops ++ (orP i acc t.2.2).1 = ops1 ++ t.2.2.1 := by
                  rw [← hO]
                  simp [orP, hi0]
                rw [hT4 t ht htt hbK]
                exact Or.inl ⟨rfl, rfl, rfl, by rw [eo]; exact hS⟩
            · skip
              refine V_iload_n dR_any_60 rfl ?_
              refine V_if_le (tgt := 75) dR_any_61 rfl (fun h => absurd h (nI_nle (by omega) (by omega))) (fun _ => ?_)
              refine V_aload_n dR_any_64 rfl ?_
              refine V_bipush (v := -3) dR_any_65 (by decide) ?_
              refine V_callV (as := [.int (-3)]) (rest := []) (bs' := 0) rfl dR_any_67 cmR_writes cvR_writes mlR_68 (Or.inl ⟨_, _, _, _, _, rfl, k58, by decide, rfl⟩) rfl rfl (c_rwrites hR0 hf hT hS (op := 30003) (by decide) (by rw [if_neg hi0] at hlen; rw [List.length_append]; omega)) (by decide) (Nat.le_refl _) (by decide) (Nat.le_of_ble_eq_true rfl) ?_
              rintro _ _ m67 ⟨rfl, rfl, hS⟩ -
              refine V_one ?_
              have hR := hS.rf hR0
              have hTs := hS.tx hf hT
              refine V_if_ne (tgt := 75) dR_any_70 rfl (fun _ => ?_) (fun h => absurd h (by decide))
              refine V_aload_n dR_any_75 rfl ?_
              refine V_bipush (v := 124) dR_any_76 (by decide) ?_
              refine V_callV (as := [.int 124]) (rest := []) (bs' := 0) rfl dR_any_78 cmR_takes cvR_takes mlR_31 (Or.inl ⟨_, _, _, _, _, rfl, k58, by decide, rfl⟩) rfl rfl (c_rtakes hR0 hf hT hS (c := 124) (by decide)) (by decide) (Nat.le_refl _) (by decide) (Nat.le_of_ble_eq_true rfl) ?_
              rintro _ _ mk (⟨hbK, rfl, rfl, hS⟩ | ⟨hbK, rfl, rfl, rfl⟩) -
              · refine V_one ?_
                refine V_if_ne (tgt := 86) dR_any_81 rfl (fun _ => ?_) (fun h => absurd h (by decide))
                refine V_iinc (v := nI (i + 1)) (loc' := [(2, .int (nI (i + 1))), (3, .int (nI m)), (0, .ref 58), (1, .int 0)]) dR_any_86 rfl (nI_inc i) (by decide) rfl ?_
                refine V_goto (tgt := 2) dR_any_89 rfl ?_
                have eo : ops ++ (orP i acc t.2.2).1 = ops1 ++ t.2.2.1 ++ [30003] := by
                  rw [← hO]
                  simp [orP, hi0]
                have en : ops ++ (if i + 1 = 0 then [] else (orP i acc t.2.2).1) = ops1 ++ t.2.2.1 ++ [30003] := by rw [if_neg (Nat.succ_ne_zero i)]; exact eo
                rw [hT3 t ht htt hbK]
                refine V.locs (loc' := [(2, .int (nI (i + 1))), (0, .ref 58), (1, .int 0)]) [0, 2, 3] rfl ?_
                exact (ih (i + 1) (by omega) (orP i acc t.2.2) (t.2.1 + 1) _ (by rw [en]; exact hS) (by rw [en]; simp only [List.length_append, List.length_singleton]; rw [if_neg (Nat.succ_ne_zero i)]; rw [if_neg hi0] at hlen; omega))
              · refine V_one ?_
                refine V_if_ne (tgt := 86) dR_any_81 rfl (fun h => absurd h (by decide)) (fun _ => ?_)
                refine V_iconst (v := 1) dR_any_84 (by decide) ?_
                refine V_zret dR_any_85 rfl rfl rfl ?_
                have eo : ops ++ (orP i acc t.2.2).1 = ops1 ++ t.2.2.1 ++ [30003] := by
                  rw [← hO]
                  simp [orP, hi0]
                rw [hT4 t ht htt hbK]
                exact Or.inl ⟨rfl, rfl, rfl, by rw [eo]; exact hS⟩
          intro F2
          induction F2 with
          | zero =>
            intro m hm a s ha ht hS hl2
            have hm2 : m = 100 := by omega
            subst hm2
            refine V_iload_n dR_any_20 rfl ?_
            refine V_bipush (v := 100) dR_any_21 (by decide) ?_
            refine V_icmp_ge (tgt := 60) dR_any_23 rfl (fun _ => ?_) (fun h => absurd h (not_not_intro (nI_le (a := 100) (b := 100) (by decide) (by decide))))
            refine V.locs (loc' := [(3, .int (nI 100)), (2, .int (nI i)), (0, .ref 58), (1, .int 0)]) [0, 1, 2, 3] rfl ?_
            exact (h60 _ _ a (ht.symm.trans rfl) ha hS)
          | succ F2 ih2 =>
            intro m hm a s ha ht hS hl2
            have hR := hS.rf hR0
            have hTs := hS.tx hf hT
            have hle3 := hS.le
            refine V_iload_n dR_any_20 rfl ?_
            refine V_bipush (v := 100) dR_any_21 (by decide) ?_
            refine V_icmp_ge (tgt := 60) dR_any_23 rfl (fun h => absurd h (nI_ge (a := m) (b := 100) (by omega) (by decide))) (fun _ => ?_)
            refine V_aload_n dR_any_26 rfl ?_
            refine V_bipush (v := 38) dR_any_27 (by decide) ?_
            refine V_callV (as := [.int 38]) (rest := []) (bs' := 0) rfl dR_any_29 cmR_takes cvR_takes mlR_31 (Or.inl ⟨_, _, _, _, _, rfl, k58, by decide, rfl⟩) rfl rfl (c_rtakes hR0 hf hT hS (c := 38) (by decide)) (by decide) (Nat.le_refl _) (by decide) (Nat.le_of_ble_eq_true rfl) ?_
            rintro _ _ mA (⟨hbA, rfl, rfl, hS⟩ | ⟨hbA, rfl, rfl, rfl⟩) -
            · refine V_one ?_
              have hR := hS.rf hR0
              have hTs := hS.tx hf hT
              have hle4 := hS.le
              refine V_if_eq (tgt := 60) dR_any_32 rfl (fun h => absurd h (by decide)) (fun _ => ?_)
              refine V_aload_n dR_any_35 rfl ?_
              refine V_iload_n dR_any_36 rfl ?_
              refine V_callV (as := [.int 0]) (rest := []) (bs' := 0) rfl dR_any_37 cmR_one cvR_one mlR_71 (Or.inl ⟨_, _, _, _, _, rfl, k58, by decide, rfl⟩) rfl rfl (c_rone4 hR0 hf hT hS (by omega)) (by decide) (Nat.le_refl _) (by decide) (Nat.le_of_ble_eq_true rfl) ?_
              rintro _ _ mP (⟨haP, rfl, rfl, hS⟩ | ⟨haP, rfl, rfl, b2, o2, hS⟩) -
              · refine V_one ?_
                have hR := hS.rf hR0
                have hTs := hS.tx hf hT
                have hleP := hS.le
                refine V_if_eq (tgt := 52) dR_any_40 rfl (fun h => absurd h (by decide)) (fun _ => ?_)
                refine V_aload_n dR_any_43 rfl ?_
                refine V_bipush (v := -2) dR_any_44 (by decide) ?_
                refine V_callV (as := [.int (-2)]) (rest := []) (bs' := 0) rfl dR_any_46 cmR_writes cvR_writes mlR_68 (Or.inl ⟨_, _, _, _, _, rfl, k58, by decide, rfl⟩) rfl rfl (c_rwrites hR0 hf hT hS (op := 30002) (by decide) (by have hg3 := (onK_gd hT.2.2 4 (q := a.2.1 + 1) (by omega)).2.2 haP; rw [List.length_append]; omega)) (by decide) (Nat.le_refl _) (by decide) (Nat.le_of_ble_eq_true rfl) ?_
                rintro _ _ m46 ⟨rfl, rfl, hS⟩ -
                refine V_one ?_
                have hR := hS.rf hR0
                have hTs := hS.tx hf hT
                refine V_if_ne (tgt := 54) dR_any_49 rfl (fun _ => ?_) (fun h => absurd h (by decide))
                refine V_iinc (v := nI (m + 1)) (loc' := [(3, .int (nI (m + 1))), (2, .int (nI i)), (0, .ref 58), (1, .int 0)]) dR_any_54 rfl (nI_inc m) (by decide) rfl ?_
                refine V_goto (tgt := 20) dR_any_57 rfl ?_
                have hg3 := (onK_gd hT.2.2 4 (q := a.2.1 + 1) (by omega)).2.2 haP
                refine V.locs (loc' := [(3, .int (nI (m + 1))), (2, .int (nI i)), (0, .ref 58), (1, .int 0)]) [0, 1, 2, 3] rfl ?_
                exact (ih2 (m + 1) (by omega) (true, ((onK ch 4) (a.2.1 + 1)).2.1, a.2.2.1 ++ ((onK ch 4) (a.2.1 + 1)).2.2.1 ++ [30002], a.2.2.2 ++ ((onK ch 4) (a.2.1 + 1)).2.2.2 ++ [30002]) _ rfl ((tm_3 hbA haP).symm.trans ht) (by simp only [List.append_assoc] at hS ⊢; exact hS) (by simp only [List.length_append, List.length_singleton] at hl2 ⊢; omega))
              · refine V_one ?_
                refine V_if_eq (tgt := 52) dR_any_40 rfl (fun _ => ?_) (fun h => absurd h (by decide))
                refine V_iconst (v := 0) dR_any_52 (by decide) ?_
                refine V_zret dR_any_53 rfl rfl rfl ?_
                rw [hT1 ((onK ch 4) (a.2.1 + 1)) (ht.symm.trans (tm_2 hbA haP)) haP]
                exact Or.inr ⟨haP, rfl, rfl, b2, o2, hS⟩
            · refine V_one ?_
              refine V_if_eq (tgt := 60) dR_any_32 rfl (fun _ => ?_) (fun h => absurd h (by decide))
              refine V.locs (loc' := [(3, .int (nI m)), (2, .int (nI i)), (0, .ref 58), (1, .int 0)]) [0, 1, 2, 3] rfl ?_
              exact (h60 _ _ a (ht.symm.trans (tm_1 hbA)) ha hS)
        refine V.locs (loc' := [(3, .int 0), (2, .int (nI i)), (0, .ref 58), (1, .int 0)]) [0, 1, 2, 3] rfl ?_
        refine V_eqL (loc' := [(3, .int (nI 0)), (2, .int (nI i)), (0, .ref 58), (1, .int 0)]) ?_ ?_
        · rfl
        exact (lp2 100 0 rfl ((onK ch 4) q) _ haO rfl hS (by rw [List.length_append]; omega))
      · refine V_one ?_
        refine V_if_ne (tgt := 18) dR_any_13 rfl (fun h => absurd h (by decide)) (fun _ => ?_)
        refine V_iconst (v := 0) dR_any_16 (by decide) ?_
        refine V_zret dR_any_17 rfl rfl rfl ?_
        rw [an_1 haO]
        exact Or.inr ⟨haO, rfl, rfl, b2, o2, hS⟩
  refine V_iconst (v := 0) dR_any_0 (by decide) ?_
  refine V_istore_n (loc' := [(2, .int 0), (0, .ref 58), (1, .int 0)]) dR_any_1 (by decide) rfl ?_
  refine V.locs (loc' := [(2, .int 0), (0, .ref 58), (1, .int 0)]) [0, 1, 2] rfl ?_
  refine V_eqL (loc' := [(2, .int (nI 0)), (0, .ref 58), (1, .int 0)]) ?_ ?_
  · rfl
  exact (lp 100 0 rfl ([], []) p s (by rw [if_pos rfl, List.append_nil]; exact hS) (by rw [if_pos rfl, if_pos rfl, List.append_nil]; exact hl))
