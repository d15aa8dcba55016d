/-! the public methods: pays, means, gains -/
def scQ (k : Nat) : Prop := k = 93 ∨ k = 94
def Gy (σ s : Hp) : Prop := (∀ k j : Nat, ¬ scQ k → gi s k j = gi σ k j) ∧ (∀ k j : Nat, gl s k j = gl σ k j) ∧ ∀ k j : Nat, gr s k j = gr σ k j
theorem Gy.rfl {σ : Hp} : Gy σ σ := ⟨fun _ _ _ => Eq.refl _, fun _ _ => Eq.refl _, fun _ _ => Eq.refl _⟩
theorem Gy.trans {σ s t : Hp} (h : Gy σ s) (g : Gy s t) : Gy σ t := ⟨fun k j hk => (g.1 k j hk).trans (h.1 k j hk), fun k j => (g.2.1 k j).trans (h.2.1 k j), fun k j => (g.2.2 k j).trans (h.2.2 k j)⟩
theorem Gy.set {σ s : Hp} (h : Gy σ s) {k j : Nat} {x : Int32} (hk : scQ k) : Gy σ (si s k j x) := by
  refine ⟨fun a b ha => ?_, fun a b => (h.2.1 a b), fun a b => (h.2.2 a b)⟩
  rw [gi_ne (fun q => ha (by rw [q]; exact hk)), h.1 a b ha]
theorem Gy.rm {M σ s : Hp} (h : Gy σ s) (hM : RM M σ) : RM M s := by
  refine ⟨fun q hq => (h.2.2 _ _).trans (hM.1 q hq), fun k j hk => ⟨(h.1 k j (fun q => ?_)).trans (hM.2 k j hk).1, (h.2.1 k j).trans (hM.2 k j hk).2⟩⟩
  unfold scQ at q
  rcases q with rfl | rfl
  · exact absurd hk (by simp [cnt])
  · exact absurd hk (by simp [cnt])
theorem Gy.sc {σ s : Hp} (h : Gy σ s) : Sc σ s := fun k j hk => ⟨h.1 k j (by unfold scQ; omega), h.2.1 k j⟩

theorem Gz.gy {σ s : Hp} (h : Gz σ s) : Gy σ s := ⟨fun k j hk => h.1 k j (fun q => hk (Or.inl q)), h.2.1, h.2.2⟩
def GP (L : Nat → List Cl) (M s : Hp) (e w : Nat) : Prop := ∀ a b : Nat, b < mW M → (a < e ∨ a = e ∧ b < w) → gi s 94 (6 * a + b) = payS L M a b
theorem GP.fz {L : Nat → List Cl} {M s t : Hp} {e w : Nat} (h : GP L M s e w) (g : Gz s t) : GP L M t e w := fun a b hb q => (g.1 94 _ (by unfold scP; omega)).trans (h a b hb q)
theorem GP.set {L : Nat → List Cl} {M s : Hp} {e w : Nat} (h : GP L M s e w) (hI : Inv L M) (hw : w < mW M) : GP L M (si s 94 (6 * e + w) (payS L M e w)) e (w + 1) := by
  intro a b hb q
  have h6 := lt7 hI hw
  have hb6 := lt7 hI hb
  by_cases hab : a = e ∧ b = w
  · obtain ⟨rfl, rfl⟩ := hab
    exact gi_eq
  · rw [gi_nj (by omega)]
    exact h a b hb (by omega)
theorem GP.next {L : Nat → List Cl} {M s : Hp} {e : Nat} (h : GP L M s e (mW M)) : GP L M s (e + 1) 0 := fun a b hb q => h a b hb (by omega)
theorem GP.zero {L : Nat → List Cl} {M s : Hp} : GP L M s 0 0 := fun a b hb q => by omega
theorem GP.at {L : Nat → List Cl} {M s : Hp} {a b : Nat} (h : GP L M s (mE M) 0) (ha : a < mE M) (hb : b < mW M) : gi s 94 (6 * a + b) = payS L M a b := h a b hb (Or.inl ha)
def QGP (L : Nat → List Cl) (M σ : Hp) : Option Value → List Kd → Hp → Prop := fun r k s => r = none ∧ KA = k ∧ Gy σ s ∧ GP L M s (mE M) 0
theorem i6 (n c : Nat) : 6 * nI n + nI c = nI (6 * n + c) := by
  rw [show (6 : Int32) = nI 6 from rfl, pk_mul, nI_add]
theorem m_layPays {l : Launch} {G : GT} {L : Nat → List Cl} {M σ : Hp} (hM : RM M σ) (hI : Inv L M) : MM l G mM_layPays 6 0 0 [.ref 76] KA σ (QGP L M σ) := by
  have hR := hM.1
  have hM0 := hM
  have hF : Gy σ σ := Gy.rfl
  refine MM.of (loc := [(0, .ref 76)]) (by decide +kernel) rfl (Nat.le_of_ble_eq_true rfl) ?_
  refine V_iconst (v := 0) dM_layPays_0 (by decide) ?_
  refine V_istore_n (loc' := [(1, .int 0), (0, .ref 76)]) dM_layPays_1 (by decide) rfl ?_
  refine V.locs (loc' := [(1, .int 0), (0, .ref 76)]) [0, 1] rfl ?_
  refine V_eqL (loc' := [(1, .int (nI 0)), (0, .ref 76)]) ?_ ?_
  · rfl
  skip
  have lp : ∀ n : Nat, n ≤ (mE M) → ∀ s : Hp, Gy σ s → GP L M s n 0 → V l G mM_layPays (rmd 6 0 0) (KA.length + 0) 0 2 [(1, .int (nI n)), (0, .ref 76)] [] KA s (QGP L M σ) := by
    refine lp_up (mE M) ?_ (fun n hn ihn => ?_)
    · skip
      intro s hF hQ
      have hM := hF.rm hM0
      have hR := hM.1
      refine V_iload_n dM_layPays_2 rfl ?_
      refine V_aload_n dM_layPays_3 rfl ?_
      refine V_getE (x := nI (mE M)) dM_layPays_4 flM_13 k76 rfl ((mR hM rfl).trans (iE hI).1) ?_
      refine V_icmp_ge (tgt := 49) dM_layPays_7 rfl (fun _ => ?_) (fun h => absurd h (not_not_intro (nI_le (Nat.le_refl _) (sm9 hI))))
      exact V_ret dM_layPays_49 rfl rfl ⟨rfl, rfl, hF, hQ⟩
    · skip
      intro s hF hQ
      have hM := hF.rm hM0
      have hR := hM.1
      have lq : ∀ w : Nat, w ≤ (mW M) → ∀ s : Hp, Gy σ s → GP L M s n w → V l G mM_layPays (rmd 6 0 0) (KA.length + 0) 0 12 [(2, .int (nI w)), (1, .int (nI n)), (0, .ref 76)] [] KA s (QGP L M σ) := by
        refine lp_up (mW M) ?_ (fun w hw ihw => ?_)
        · skip
          intro s hF hQ
          have hM := hF.rm hM0
          have hR := hM.1
          refine V_iload_n dM_layPays_12 rfl ?_
          refine V_aload_n dM_layPays_13 rfl ?_
          refine V_getE (x := nI (mW M)) dM_layPays_14 flM_7 k76 rfl ((mR hM rfl).trans (iW hI).1) ?_
          refine V_icmp_ge (tgt := 43) dM_layPays_17 rfl (fun _ => ?_) (fun h => absurd h (not_not_intro (nI_le (Nat.le_refl _) (sm7 hI))))
          refine V_iinc (v := nI (n + 1)) (loc' := [(1, .int (nI (n + 1))), (2, .int (nI (mW M))), (0, .ref 76)]) dM_layPays_43 rfl (nI_inc n) (by decide) rfl ?_
          refine V_goto (tgt := 2) dM_layPays_46 rfl ?_
          refine V.locs (loc' := [(1, .int (nI (n + 1))), (0, .ref 76)]) [0, 2] rfl ?_
          exact (ihn _ hF hQ.next)
        · skip
          intro s hF hQ
          have hM := hF.rm hM0
          have hR := hM.1
          refine V_iload_n dM_layPays_12 rfl ?_
          refine V_aload_n dM_layPays_13 rfl ?_
          refine V_getE (x := nI (mW M)) dM_layPays_14 flM_7 k76 rfl ((mR hM rfl).trans (iW hI).1) ?_
          refine V_icmp_ge (tgt := 43) dM_layPays_17 rfl (fun h => absurd h (nI_ge hw (sm7 hI))) (fun _ => ?_)
          refine V_aload_n dM_layPays_20 rfl ?_
          refine V_getR (a := 94) dM_layPays_21 flM_99 k76 rfl (r76_29 hR) ?_
          refine V_bipush (v := 6) dM_layPays_24 (by decide) ?_
          refine V_iload_n dM_layPays_26 rfl ?_
          refine V_imul dM_layPays_27 ?_
          refine V_iload_n dM_layPays_28 rfl ?_
          refine V_iadd dM_layPays_29 ?_
          refine V_aload_n dM_layPays_30 rfl ?_
          refine V_iload_n dM_layPays_31 rfl ?_
          refine V_iload_n dM_layPays_32 rfl ?_
          refine V_callV (as := [.int (nI n), .int (nI w)]) (rest := [.int ((6 * (nI n)) + (nI w)), .ref 94]) (bs' := 0) rfl dM_layPays_33 cmM_payOf cvM_payOf mlM_311 (Or.inl ⟨_, _, _, _, _, rfl, k76, by decide, rfl⟩) rfl rfl (m_payOf hM hI.pw (lt9 hI hn) hw (hI.ps hn) (by have := (iD hI).2; omega)) (by decide) (Nat.le_refl _) (by decide) (Nat.le_of_ble_eq_true rfl) ?_
          rintro _ _ s1 ⟨rfl, rfl, hF1⟩ -
          refine V_one ?_
          have hF := hF.trans hF1.gy
          have hM := hF.rm hM0
          have hR := hM.1
          have hQ := hQ.fz hF1
          refine V_iastN (j := 6 * n + w) dM_layPays_36 k94 (i6 n w) (by have := lt9 hI hn; have := lt7 hI hw; omega) (by decide) ?_
          have hF : Gy σ (si s1 94 (6 * n + w) (payS L M n w)) := hF.set (Or.inr rfl)
          have hM := hF.rm hM0
          have hR := hM.1
          have hQ := hQ.set hI hw
          refine V_iinc (v := nI (w + 1)) (loc' := [(2, .int (nI (w + 1))), (1, .int (nI n)), (0, .ref 76)]) dM_layPays_37 rfl (nI_inc w) (by decide) rfl ?_
          refine V_goto (tgt := 12) dM_layPays_40 rfl ?_
          refine V.locs (loc' := [(2, .int (nI (w + 1))), (1, .int (nI n)), (0, .ref 76)]) [0, 1, 2] rfl ?_
          exact (ihw _ hF hQ)
      refine V_iload_n dM_layPays_2 rfl ?_
      refine V_aload_n dM_layPays_3 rfl ?_
      refine V_getE (x := nI (mE M)) dM_layPays_4 flM_13 k76 rfl ((mR hM rfl).trans (iE hI).1) ?_
      refine V_icmp_ge (tgt := 49) dM_layPays_7 rfl (fun h => absurd h (nI_ge hn (sm9 hI))) (fun _ => ?_)
      refine V_iconst (v := 0) dM_layPays_10 (by decide) ?_
      refine V_istore_n (loc' := [(2, .int 0), (1, .int (nI n)), (0, .ref 76)]) dM_layPays_11 (by decide) rfl ?_
      refine V.locs (loc' := [(2, .int 0), (1, .int (nI n)), (0, .ref 76)]) [0, 1, 2] rfl ?_
      refine V_eqL (loc' := [(2, .int (nI 0)), (1, .int (nI n)), (0, .ref 76)]) ?_ ?_
      · rfl
      exact (lq 0 (Nat.zero_le _) _ hF hQ)
  exact lp 0 (Nat.zero_le _) _ hF GP.zero
theorem m_gainOf {l : Launch} {G : GT} {L : Nat → List Cl} {M σ : Hp} (hM : RM M σ) (hI : Inv L M) (hQ : GP L M σ (mE M) 0) (set : Int32) {w : Nat} (hw : w < mW M) : MM l G mM_gainOf 1 0 0 [.ref 76, .int set, .int (nI w)] KA σ (PE (some (.int (gnS L M set w (mE M)))) KA σ) := by
  have hR := hM.1
  refine MM.of (loc := [(0, .ref 76), (1, .int set), (2, .int (nI w))]) (by decide +kernel) rfl (Nat.le_of_ble_eq_true rfl) ?_
  refine V_iconst (v := 0) dM_gainOf_0 (by decide) ?_
  refine V_istore_n (loc' := [(3, .int 0), (0, .ref 76), (1, .int set), (2, .int (nI w))]) dM_gainOf_1 (by decide) rfl ?_
  refine V_iconst (v := 0) dM_gainOf_2 (by decide) ?_
  refine V_istore (loc' := [(4, .int 0), (3, .int 0), (0, .ref 76), (1, .int set), (2, .int (nI w))]) dM_gainOf_3 (by decide) rfl ?_
  refine V.locs (loc' := [(4, .int 0), (3, .int 0), (0, .ref 76), (1, .int set), (2, .int (nI w))]) [0, 1, 2, 3, 4] rfl ?_
  refine V_eqL (loc' := [(4, .int (nI 0)), (3, .int (gnS L M set w 0)), (0, .ref 76), (1, .int set), (2, .int (nI w))]) ?_ ?_
  · first | rfl | simp
  skip
  have lp : ∀ n : Nat, n ≤ (mE M) → V l G mM_gainOf (rmd 1 0 0) (KA.length + 0) 0 5 [(4, .int (nI n)), (3, .int (gnS L M set w n)), (0, .ref 76), (1, .int set), (2, .int (nI w))] [] KA σ (PE (some (.int (gnS L M set w (mE M)))) KA σ) := by
    refine lp_up (mE M) ?_ (fun n hn ihn => ?_)
    · skip
      refine V_iload dM_gainOf_5 rfl ?_
      refine V_aload_n dM_gainOf_7 rfl ?_
      refine V_getE (x := nI (mE M)) dM_gainOf_8 flM_13 k76 rfl ((mR hM rfl).trans (iE hI).1) ?_
      refine V_icmp_ge (tgt := 57) dM_gainOf_11 rfl (fun _ => ?_) (fun h => absurd h (not_not_intro (nI_le (Nat.le_refl _) (sm9 hI))))
      refine V_iload_n dM_gainOf_57 rfl ?_
      exact V_iret dM_gainOf_58 rfl rfl ⟨rfl, rfl, rfl⟩
    · skip
      refine V_iload dM_gainOf_5 rfl ?_
      refine V_aload_n dM_gainOf_7 rfl ?_
      refine V_getE (x := nI (mE M)) dM_gainOf_8 flM_13 k76 rfl ((mR hM rfl).trans (iE hI).1) ?_
      refine V_icmp_ge (tgt := 57) dM_gainOf_11 rfl (fun h => absurd h (nI_ge hn (sm9 hI))) (fun _ => ?_)
      refine V_iload_n dM_gainOf_14 rfl ?_
      refine V_aload_n dM_gainOf_15 rfl ?_
      refine V_iload_n dM_gainOf_16 rfl ?_
      refine V_iload dM_gainOf_17 rfl ?_
      refine V_callV (as := [.int set, .int (nI n)]) (rest := [.int (gnS L M set w n)]) (bs' := 0) rfl dM_gainOf_19 cmM_has cvM_has mlM_286 (Or.inl ⟨_, _, _, _, _, rfl, k76, by decide, rfl⟩) rfl rfl (m_has set (nI n)) (by decide) (Nat.le_refl _) (by decide) (Nat.le_of_ble_eq_true rfl) ?_
      rintro _ _ _ (⟨hb, rfl, rfl, rfl⟩ | ⟨hb, rfl, rfl, rfl⟩) -
      · refine V_one ?_
        refine V_if_eq (tgt := 48) dM_gainOf_22 rfl (fun h => absurd h (by decide)) (fun _ => ?_)
        refine V_aload_n dM_gainOf_25 rfl ?_
        refine V_getR (a := 94) dM_gainOf_26 flM_99 k76 rfl (r76_29 hR) ?_
        refine V_bipush (v := 6) dM_gainOf_29 (by decide) ?_
        refine V_iload dM_gainOf_31 rfl ?_
        refine V_imul dM_gainOf_33 ?_
        refine V_iload_n dM_gainOf_34 rfl ?_
        refine V_iadd dM_gainOf_35 ?_
        refine V_ialdN (j := 6 * n + w) dM_gainOf_36 k94 (i6 n w) (by have := lt9 hI hn; have := lt7 hI hw; omega) (by decide) ?_
        refine V_topI (x' := payS L M n w) (hQ.at hn hw) ?_
        refine V_aload_n dM_gainOf_37 rfl ?_
        refine V_getR (a := 81) dM_gainOf_38 flM_35 k76 rfl (r76_8 hR) ?_
        refine V_iload dM_gainOf_41 rfl ?_
        refine V_ialdN (j := n) dM_gainOf_43 k81 rfl (lt9 hI hn) (by decide) ?_
        refine V_topI (x' := gi M 81 n) (mR hM rfl) ?_
        refine V_isub dM_gainOf_44 ?_
        refine V_goto (tgt := 49) dM_gainOf_45 rfl ?_
        refine V_iadd dM_gainOf_49 ?_
        refine V_istore_n (loc' := [(3, .int ((gnS L M set w n) + ((payS L M n w) - (gi M 81 n)))), (4, .int (nI n)), (0, .ref 76), (1, .int set), (2, .int (nI w))]) dM_gainOf_50 (by decide) rfl ?_
        refine V_iinc (v := nI (n + 1)) (loc' := [(4, .int (nI (n + 1))), (3, .int ((gnS L M set w n) + ((payS L M n w) - (gi M 81 n)))), (0, .ref 76), (1, .int set), (2, .int (nI w))]) dM_gainOf_51 rfl (nI_inc n) (by decide) rfl ?_
        refine V_goto (tgt := 5) dM_gainOf_54 rfl ?_
        refine V.locs (loc' := [(4, .int (nI (n + 1))), (3, .int ((gnS L M set w n) + ((payS L M n w) - (gi M 81 n)))), (0, .ref 76), (1, .int set), (2, .int (nI w))]) [0, 1, 2, 3, 4] rfl ?_
        refine V_eqL (loc' := [(4, .int (nI (n + 1))), (3, .int (gnS L M set w (n + 1))), (0, .ref 76), (1, .int set), (2, .int (nI w))]) ?_ ?_
        · simp [gnS, sumI, hb]
        exact ihn
      · refine V_one ?_
        refine V_if_eq (tgt := 48) dM_gainOf_22 rfl (fun _ => ?_) (fun h => absurd h (by decide))
        refine V_iconst (v := 0) dM_gainOf_48 (by decide) ?_
        refine V_iadd dM_gainOf_49 ?_
        refine V_istore_n (loc' := [(3, .int ((gnS L M set w n) + 0)), (4, .int (nI n)), (0, .ref 76), (1, .int set), (2, .int (nI w))]) dM_gainOf_50 (by decide) rfl ?_
        refine V_iinc (v := nI (n + 1)) (loc' := [(4, .int (nI (n + 1))), (3, .int ((gnS L M set w n) + 0)), (0, .ref 76), (1, .int set), (2, .int (nI w))]) dM_gainOf_51 rfl (nI_inc n) (by decide) rfl ?_
        refine V_goto (tgt := 5) dM_gainOf_54 rfl ?_
        refine V.locs (loc' := [(4, .int (nI (n + 1))), (3, .int ((gnS L M set w n) + 0)), (0, .ref 76), (1, .int set), (2, .int (nI w))]) [0, 1, 2, 3, 4] rfl ?_
        refine V_eqL (loc' := [(4, .int (nI (n + 1))), (3, .int (gnS L M set w (n + 1))), (0, .ref 76), (1, .int set), (2, .int (nI w))]) ?_ ?_
        · simp [gnS, sumI, hb]
        exact ihn
  exact lp 0 (Nat.zero_le _)
theorem m_leastOf {l : Launch} {G : GT} {L : Nat → List Cl} {M σ : Hp} (hM : RM M σ) (hI : Inv L M) (hQ : GP L M σ (mE M) 0) (set : Int32) : MM l G mM_leastOf 2 0 0 [.ref 76, .int set] KA σ (PE (some (.int (lstS L M set))) KA σ) := by
  have hR := hM.1
  refine MM.of (loc := [(0, .ref 76), (1, .int set)]) (by decide +kernel) rfl (Nat.le_of_ble_eq_true rfl) ?_
  refine V_iconst (v := 0) dM_leastOf_0 (by decide) ?_
  refine V_istore_n (loc' := [(2, .int 0), (0, .ref 76), (1, .int set)]) dM_leastOf_1 (by decide) rfl ?_
  refine V_iconst (v := 0) dM_leastOf_2 (by decide) ?_
  refine V_istore_n (loc' := [(3, .int 0), (2, .int 0), (0, .ref 76), (1, .int set)]) dM_leastOf_3 (by decide) rfl ?_
  refine V.locs (loc' := [(3, .int 0), (2, .int 0), (0, .ref 76), (1, .int set)]) [0, 1, 2, 3] rfl ?_
  refine V_eqL (loc' := [(3, .int (nI 0)), (2, .int (minF (fun w => gnS L M set w (mE M)) 0)), (0, .ref 76), (1, .int set)]) ?_ ?_
  · first | rfl | simp
  skip
  have lp : ∀ n : Nat, n ≤ (mW M) → V l G mM_leastOf (rmd 2 0 0) (KA.length + 0) 0 4 [(3, .int (nI n)), (2, .int (minF (fun w => gnS L M set w (mE M)) n)), (0, .ref 76), (1, .int set)] [] KA σ (PE (some (.int (lstS L M set))) KA σ) := by
    refine lp_up (mW M) ?_ (fun n hn ihn => ?_)
    · skip
      refine V_iload_n dM_leastOf_4 rfl ?_
      refine V_aload_n dM_leastOf_5 rfl ?_
      refine V_getE (x := nI (mW M)) dM_leastOf_6 flM_7 k76 rfl ((mR hM rfl).trans (iW hI).1) ?_
      refine V_icmp_ge (tgt := 43) dM_leastOf_9 rfl (fun _ => ?_) (fun h => absurd h (not_not_intro (nI_le (Nat.le_refl _) (sm7 hI))))
      refine V_iload_n dM_leastOf_43 rfl ?_
      exact V_iret dM_leastOf_44 rfl rfl ⟨rfl, rfl, rfl⟩
    · skip
      refine V_iload_n dM_leastOf_4 rfl ?_
      refine V_aload_n dM_leastOf_5 rfl ?_
      refine V_getE (x := nI (mW M)) dM_leastOf_6 flM_7 k76 rfl ((mR hM rfl).trans (iW hI).1) ?_
      refine V_icmp_ge (tgt := 43) dM_leastOf_9 rfl (fun h => absurd h (nI_ge hn (sm7 hI))) (fun _ => ?_)
      refine V_aload_n dM_leastOf_12 rfl ?_
      refine V_iload_n dM_leastOf_13 rfl ?_
      refine V_iload_n dM_leastOf_14 rfl ?_
      refine V_callV (as := [.int set, .int (nI n)]) (rest := []) (bs' := 0) rfl dM_leastOf_15 cmM_gainOf cvM_gainOf mlM_333 (Or.inl ⟨_, _, _, _, _, rfl, k76, by decide, rfl⟩) rfl rfl (m_gainOf hM hI hQ set hn) (by decide) (Nat.le_refl _) (by decide) (Nat.le_of_ble_eq_true rfl) ?_
      rintro _ _ _ ⟨rfl, rfl, rfl⟩ -
      refine V_one ?_
      refine V_istore (loc' := [(4, .int (gnS L M set n (mE M))), (3, .int (nI n)), (2, .int (minF (fun w => gnS L M set w (mE M)) n)), (0, .ref 76), (1, .int set)]) dM_leastOf_18 (by decide) rfl ?_
      refine V_iload_n dM_leastOf_20 rfl ?_
      refine V_if_eq (tgt := 30) dM_leastOf_21 rfl (fun c21 => ?_) (fun c21 => ?_)
      · skip
        refine V_iload dM_leastOf_30 rfl ?_
        refine V_goto (tgt := 36) dM_leastOf_32 rfl ?_
        refine V_istore_n (loc' := [(2, .int (gnS L M set n (mE M))), (4, .int (gnS L M set n (mE M))), (3, .int (nI n)), (0, .ref 76), (1, .int set)]) dM_leastOf_36 (by decide) rfl ?_
        refine V_iinc (v := nI (n + 1)) (loc' := [(3, .int (nI (n + 1))), (2, .int (gnS L M set n (mE M))), (4, .int (gnS L M set n (mE M))), (0, .ref 76), (1, .int set)]) dM_leastOf_37 rfl (nI_inc n) (by decide) rfl ?_
        refine V_goto (tgt := 4) dM_leastOf_40 rfl ?_
        refine V.locs (loc' := [(3, .int (nI (n + 1))), (2, .int (gnS L M set n (mE M))), (0, .ref 76), (1, .int set)]) [0, 1, 3, 4] rfl ?_
        refine V_eqL (loc' := [(3, .int (nI (n + 1))), (2, .int (minF (fun w => gnS L M set w (mE M)) (n + 1))), (0, .ref 76), (1, .int set)]) ?_ ?_
        · have hz : nI n = 0 ↔ n = 0 := nI_eq (b := 0) (by have := lt7 hI hn; omega) (by decide)
          simp only [minF, minI]
          simp_all <;> (intro q; exact absurd q (Int32.not_lt.mpr c27))
        exact ihn
      · skip
        refine V_iload dM_leastOf_24 rfl ?_
        refine V_iload_n dM_leastOf_26 rfl ?_
        refine V_icmp_ge (tgt := 35) dM_leastOf_27 rfl (fun c27 => ?_) (fun c27 => ?_)
        · skip
          refine V_iload_n dM_leastOf_35 rfl ?_
          refine V_istore_n (loc' := [(2, .int (minF (fun w => gnS L M set w (mE M)) n)), (4, .int (gnS L M set n (mE M))), (3, .int (nI n)), (0, .ref 76), (1, .int set)]) dM_leastOf_36 (by decide) rfl ?_
          refine V_iinc (v := nI (n + 1)) (loc' := [(3, .int (nI (n + 1))), (2, .int (minF (fun w => gnS L M set w (mE M)) n)), (4, .int (gnS L M set n (mE M))), (0, .ref 76), (1, .int set)]) dM_leastOf_37 rfl (nI_inc n) (by decide) rfl ?_
          refine V_goto (tgt := 4) dM_leastOf_40 rfl ?_
          refine V.locs (loc' := [(3, .int (nI (n + 1))), (2, .int (minF (fun w => gnS L M set w (mE M)) n)), (0, .ref 76), (1, .int set)]) [0, 1, 3, 4] rfl ?_
          refine V_eqL (loc' := [(3, .int (nI (n + 1))), (2, .int (minF (fun w => gnS L M set w (mE M)) (n + 1))), (0, .ref 76), (1, .int set)]) ?_ ?_
          · have hz : nI n = 0 ↔ n = 0 := nI_eq (b := 0) (by have := lt7 hI hn; omega) (by decide)
            simp only [minF, minI]
            simp_all <;> (intro q; exact absurd q (Int32.not_lt.mpr c27))
          exact ihn
        · skip
          refine V_iload dM_leastOf_30 rfl ?_
          refine V_goto (tgt := 36) dM_leastOf_32 rfl ?_
          refine V_istore_n (loc' := [(2, .int (gnS L M set n (mE M))), (4, .int (gnS L M set n (mE M))), (3, .int (nI n)), (0, .ref 76), (1, .int set)]) dM_leastOf_36 (by decide) rfl ?_
          refine V_iinc (v := nI (n + 1)) (loc' := [(3, .int (nI (n + 1))), (2, .int (gnS L M set n (mE M))), (4, .int (gnS L M set n (mE M))), (0, .ref 76), (1, .int set)]) dM_leastOf_37 rfl (nI_inc n) (by decide) rfl ?_
          refine V_goto (tgt := 4) dM_leastOf_40 rfl ?_
          refine V.locs (loc' := [(3, .int (nI (n + 1))), (2, .int (gnS L M set n (mE M))), (0, .ref 76), (1, .int set)]) [0, 1, 3, 4] rfl ?_
          refine V_eqL (loc' := [(3, .int (nI (n + 1))), (2, .int (minF (fun w => gnS L M set w (mE M)) (n + 1))), (0, .ref 76), (1, .int set)]) ?_ ?_
          · have hz : nI n = 0 ↔ n = 0 := nI_eq (b := 0) (by have := lt7 hI hn; omega) (by decide)
            simp only [minF, minI]
            simp_all <;> (intro q; exact absurd q (Int32.not_lt.mpr c27))
          exact ihn
  exact lp 0 (Nat.zero_le _)
theorem m_mostOf {l : Launch} {G : GT} {L : Nat → List Cl} {M σ : Hp} (hM : RM M σ) (hI : Inv L M) (hQ : GP L M σ (mE M) 0) (set : Int32) : MM l G mM_mostOf 2 0 0 [.ref 76, .int set] KA σ (PE (some (.int (mstS L M set))) KA σ) := by
  have hR := hM.1
  refine MM.of (loc := [(0, .ref 76), (1, .int set)]) (by decide +kernel) rfl (Nat.le_of_ble_eq_true rfl) ?_
  refine V_iconst (v := 0) dM_mostOf_0 (by decide) ?_
  refine V_istore_n (loc' := [(2, .int 0), (0, .ref 76), (1, .int set)]) dM_mostOf_1 (by decide) rfl ?_
  refine V_iconst (v := 0) dM_mostOf_2 (by decide) ?_
  refine V_istore_n (loc' := [(3, .int 0), (2, .int 0), (0, .ref 76), (1, .int set)]) dM_mostOf_3 (by decide) rfl ?_
  refine V.locs (loc' := [(3, .int 0), (2, .int 0), (0, .ref 76), (1, .int set)]) [0, 1, 2, 3] rfl ?_
  refine V_eqL (loc' := [(3, .int (nI 0)), (2, .int (maxF (fun w => gnS L M set w (mE M)) 0)), (0, .ref 76), (1, .int set)]) ?_ ?_
  · first | rfl | simp
  skip
  have lp : ∀ n : Nat, n ≤ (mW M) → V l G mM_mostOf (rmd 2 0 0) (KA.length + 0) 0 4 [(3, .int (nI n)), (2, .int (maxF (fun w => gnS L M set w (mE M)) n)), (0, .ref 76), (1, .int set)] [] KA σ (PE (some (.int (mstS L M set))) KA σ) := by
    refine lp_up (mW M) ?_ (fun n hn ihn => ?_)
    · skip
      refine V_iload_n dM_mostOf_4 rfl ?_
      refine V_aload_n dM_mostOf_5 rfl ?_
      refine V_getE (x := nI (mW M)) dM_mostOf_6 flM_7 k76 rfl ((mR hM rfl).trans (iW hI).1) ?_
      refine V_icmp_ge (tgt := 43) dM_mostOf_9 rfl (fun _ => ?_) (fun h => absurd h (not_not_intro (nI_le (Nat.le_refl _) (sm7 hI))))
      refine V_iload_n dM_mostOf_43 rfl ?_
      exact V_iret dM_mostOf_44 rfl rfl ⟨rfl, rfl, rfl⟩
    · skip
      refine V_iload_n dM_mostOf_4 rfl ?_
      refine V_aload_n dM_mostOf_5 rfl ?_
      refine V_getE (x := nI (mW M)) dM_mostOf_6 flM_7 k76 rfl ((mR hM rfl).trans (iW hI).1) ?_
      refine V_icmp_ge (tgt := 43) dM_mostOf_9 rfl (fun h => absurd h (nI_ge hn (sm7 hI))) (fun _ => ?_)
      refine V_aload_n dM_mostOf_12 rfl ?_
      refine V_iload_n dM_mostOf_13 rfl ?_
      refine V_iload_n dM_mostOf_14 rfl ?_
      refine V_callV (as := [.int set, .int (nI n)]) (rest := []) (bs' := 0) rfl dM_mostOf_15 cmM_gainOf cvM_gainOf mlM_333 (Or.inl ⟨_, _, _, _, _, rfl, k76, by decide, rfl⟩) rfl rfl (m_gainOf hM hI hQ set hn) (by decide) (Nat.le_refl _) (by decide) (Nat.le_of_ble_eq_true rfl) ?_
      rintro _ _ _ ⟨rfl, rfl, rfl⟩ -
      refine V_one ?_
      refine V_istore (loc' := [(4, .int (gnS L M set n (mE M))), (3, .int (nI n)), (2, .int (maxF (fun w => gnS L M set w (mE M)) n)), (0, .ref 76), (1, .int set)]) dM_mostOf_18 (by decide) rfl ?_
      refine V_iload_n dM_mostOf_20 rfl ?_
      refine V_if_eq (tgt := 30) dM_mostOf_21 rfl (fun c21 => ?_) (fun c21 => ?_)
      · skip
        refine V_iload dM_mostOf_30 rfl ?_
        refine V_goto (tgt := 36) dM_mostOf_32 rfl ?_
        refine V_istore_n (loc' := [(2, .int (gnS L M set n (mE M))), (4, .int (gnS L M set n (mE M))), (3, .int (nI n)), (0, .ref 76), (1, .int set)]) dM_mostOf_36 (by decide) rfl ?_
        refine V_iinc (v := nI (n + 1)) (loc' := [(3, .int (nI (n + 1))), (2, .int (gnS L M set n (mE M))), (4, .int (gnS L M set n (mE M))), (0, .ref 76), (1, .int set)]) dM_mostOf_37 rfl (nI_inc n) (by decide) rfl ?_
        refine V_goto (tgt := 4) dM_mostOf_40 rfl ?_
        refine V.locs (loc' := [(3, .int (nI (n + 1))), (2, .int (gnS L M set n (mE M))), (0, .ref 76), (1, .int set)]) [0, 1, 3, 4] rfl ?_
        refine V_eqL (loc' := [(3, .int (nI (n + 1))), (2, .int (maxF (fun w => gnS L M set w (mE M)) (n + 1))), (0, .ref 76), (1, .int set)]) ?_ ?_
        · have hz : nI n = 0 ↔ n = 0 := nI_eq (b := 0) (by have := lt7 hI hn; omega) (by decide)
          simp only [maxF, maxI]
          simp_all <;> (intro q; exact absurd q (Int32.not_lt.mpr c27))
        exact ihn
      · skip
        refine V_iload dM_mostOf_24 rfl ?_
        refine V_iload_n dM_mostOf_26 rfl ?_
        refine V_icmp_le (tgt := 35) dM_mostOf_27 rfl (fun c27 => ?_) (fun c27 => ?_)
        · skip
          refine V_iload_n dM_mostOf_35 rfl ?_
          refine V_istore_n (loc' := [(2, .int (maxF (fun w => gnS L M set w (mE M)) n)), (4, .int (gnS L M set n (mE M))), (3, .int (nI n)), (0, .ref 76), (1, .int set)]) dM_mostOf_36 (by decide) rfl ?_
          refine V_iinc (v := nI (n + 1)) (loc' := [(3, .int (nI (n + 1))), (2, .int (maxF (fun w => gnS L M set w (mE M)) n)), (4, .int (gnS L M set n (mE M))), (0, .ref 76), (1, .int set)]) dM_mostOf_37 rfl (nI_inc n) (by decide) rfl ?_
          refine V_goto (tgt := 4) dM_mostOf_40 rfl ?_
          refine V.locs (loc' := [(3, .int (nI (n + 1))), (2, .int (maxF (fun w => gnS L M set w (mE M)) n)), (0, .ref 76), (1, .int set)]) [0, 1, 3, 4] rfl ?_
          refine V_eqL (loc' := [(3, .int (nI (n + 1))), (2, .int (maxF (fun w => gnS L M set w (mE M)) (n + 1))), (0, .ref 76), (1, .int set)]) ?_ ?_
          · have hz : nI n = 0 ↔ n = 0 := nI_eq (b := 0) (by have := lt7 hI hn; omega) (by decide)
            simp only [maxF, maxI]
            simp_all <;> (intro q; exact absurd q (Int32.not_lt.mpr c27))
          exact ihn
        · skip
          refine V_iload dM_mostOf_30 rfl ?_
          refine V_goto (tgt := 36) dM_mostOf_32 rfl ?_
          refine V_istore_n (loc' := [(2, .int (gnS L M set n (mE M))), (4, .int (gnS L M set n (mE M))), (3, .int (nI n)), (0, .ref 76), (1, .int set)]) dM_mostOf_36 (by decide) rfl ?_
          refine V_iinc (v := nI (n + 1)) (loc' := [(3, .int (nI (n + 1))), (2, .int (gnS L M set n (mE M))), (4, .int (gnS L M set n (mE M))), (0, .ref 76), (1, .int set)]) dM_mostOf_37 rfl (nI_inc n) (by decide) rfl ?_
          refine V_goto (tgt := 4) dM_mostOf_40 rfl ?_
          refine V.locs (loc' := [(3, .int (nI (n + 1))), (2, .int (gnS L M set n (mE M))), (0, .ref 76), (1, .int set)]) [0, 1, 3, 4] rfl ?_
          refine V_eqL (loc' := [(3, .int (nI (n + 1))), (2, .int (maxF (fun w => gnS L M set w (mE M)) (n + 1))), (0, .ref 76), (1, .int set)]) ?_ ?_
          · have hz : nI n = 0 ↔ n = 0 := nI_eq (b := 0) (by have := lt7 hI hn; omega) (by decide)
            simp only [maxF, maxI]
            simp_all <;> (intro q; exact absurd q (Int32.not_lt.mpr c27))
          exact ihn
  exact lp 0 (Nat.zero_le _)
