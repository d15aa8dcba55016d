/-! the stakes: gains -/
def GQ (L : Nat → List Cl) (M s : Hp) (e w : Nat) : Prop := ∀ a b : Nat, b < mW M → (a < e ∨ a = e ∧ b < w) → gi s 63 (6 * a + b) = payS L M a b - gi M 81 a
def GN (L : Nat → List Cl) (M s : Hp) : Prop := GQ L M s (mE M) 0
theorem GQ.fz {L : Nat → List Cl} {M s t : Hp} {e w : Nat} (h : GQ L M s e w) (g : Fz s t) : GQ L M t e w := fun a b hb q => (g.1 63 _ (by unfold scF; omega)).trans (h a b hb q)
theorem GQ.set {L : Nat → List Cl} {M s : Hp} {e w : Nat} (h : GQ L M s e w) (hI : Inv L M) (hw : w < mW M) : GQ L M (si s 63 (6 * e + w) (payS L M e w - gi M 81 e)) e (w + 1) := by
  intro a b hb q
  have h6 := lt7 hI hw
  have hb6 := lt7 hI hb
  by_cases hab : a = e ∧ b = w
  · obtain ⟨rfl, rfl⟩ := hab
    exact gi_eq
  · rw [gi_nj (by omega)]
    exact h a b hb (by omega)
theorem GQ.next {L : Nat → List Cl} {M s : Hp} {e : Nat} (h : GQ L M s e (mW M)) : GQ L M s (e + 1) 0 := fun a b hb q => h a b hb (by omega)
theorem GQ.zero {L : Nat → List Cl} {M s : Hp} : GQ L M s 0 0 := fun a b hb q => by omega
def PGN (L : Nat → List Cl) (M σ : Hp) : Option Value → List Kd → Hp → Prop := fun r k s => r = none ∧ KA = k ∧ Fy σ s ∧ GN L M s
theorem c_lookAgain {l : Launch} {G : GT} {L : Nat → List Cl} {M σ : Hp} (hC : RC L M σ) (hI : Inv L M) : MM l G mS_lookAgain 5 0 0 [.ref 62] KA σ (PGN L M σ) := by
  have hR := hC.1
  have hC0 := hC
  have hF : Fy σ σ := Fy.rfl
  refine MM.of (loc := [(0, .ref 62)]) (by decide +kernel) rfl (Nat.le_of_ble_eq_true rfl) ?_
  refine V_iconst (v := 0) dS_lookAgain_0 (by decide) ?_
  refine V_istore_n (loc' := [(1, .int 0), (0, .ref 62)]) dS_lookAgain_1 (by decide) rfl ?_
  refine V.locs (loc' := [(1, .int 0), (0, .ref 62)]) [0, 1] rfl ?_
  refine V_eqL (loc' := [(1, .int (nI 0)), (0, .ref 62)]) ?_ ?_
  · rfl
  skip
  have lp : ∀ n : Nat, n ≤ (mE M) → ∀ s : Hp, Fy σ s → GQ L M s n 0 → V l G mS_lookAgain (rmd 5 0 0) (KA.length + 0) 0 2 [(1, .int (nI n)), (0, .ref 62)] [] KA s (PGN L M σ) := by
    refine lp_up (mE M) ?_ (fun n hn ihn => ?_)
    · skip
      intro s hF hQ
      have hC := hF.rc hC0
      have hR := hC.1
      refine V_iload_n dS_lookAgain_2 rfl ?_
      refine V_aload_n dS_lookAgain_3 rfl ?_
      refine V_getR (a := 1) dS_lookAgain_4 flS_15 k62 rfl (r62_0 hR) ?_
      refine V_getE (x := nI (mE M)) dS_lookAgain_7 flS_23 k1 rfl (cE hC hI) ?_
      refine V_icmp_ge (tgt := 73) dS_lookAgain_10 rfl (fun _ => ?_) (fun h => absurd h (not_not_intro (nI_le (Nat.le_refl _) (sm9 hI))))
      exact V_ret dS_lookAgain_73 rfl rfl ⟨rfl, rfl, hF, hQ⟩
    · skip
      intro s hF hQ
      have hC := hF.rc hC0
      have hR := hC.1
      have lq : ∀ w : Nat, w ≤ (mW M) → ∀ s : Hp, Fy σ s → GQ L M s n w → V l G mS_lookAgain (rmd 5 0 0) (KA.length + 0) 0 25 [(3, .int (nI w)), (2, .ref (8 + 2 * n)), (1, .int (nI n)), (0, .ref 62)] [] KA s (PGN L M σ) := by
        refine lp_up (mW M) ?_ (fun w hw ihw => ?_)
        · skip
          intro s hF hQ
          have hC := hF.rc hC0
          have hR := hC.1
          refine V_iload_n dS_lookAgain_25 rfl ?_
          refine V_aload_n dS_lookAgain_26 rfl ?_
          refine V_getR (a := 1) dS_lookAgain_27 flS_15 k62 rfl (r62_0 hR) ?_
          refine V_getE (x := nI (mW M)) dS_lookAgain_30 flS_33 k1 rfl (cW hC hI) ?_
          refine V_icmp_ge (tgt := 67) dS_lookAgain_33 rfl (fun _ => ?_) (fun h => absurd h (not_not_intro (nI_le (Nat.le_refl _) (sm7 hI))))
          refine V_iinc (v := nI (n + 1)) (loc' := [(1, .int (nI (n + 1))), (3, .int (nI (mW M))), (2, .ref (8 + 2 * n)), (0, .ref 62)]) dS_lookAgain_67 rfl (nI_inc n) (by decide) rfl ?_
          refine V_goto (tgt := 2) dS_lookAgain_70 rfl ?_
          refine V.locs (loc' := [(1, .int (nI (n + 1))), (0, .ref 62)]) [0, 3] rfl ?_
          exact (ihn _ hF hQ.next)
        · skip
          intro s hF hQ
          have hC := hF.rc hC0
          have hR := hC.1
          refine V_iload_n dS_lookAgain_25 rfl ?_
          refine V_aload_n dS_lookAgain_26 rfl ?_
          refine V_getR (a := 1) dS_lookAgain_27 flS_15 k62 rfl (r62_0 hR) ?_
          refine V_getE (x := nI (mW M)) dS_lookAgain_30 flS_33 k1 rfl (cW hC hI) ?_
          refine V_icmp_ge (tgt := 67) dS_lookAgain_33 rfl (fun h => absurd h (nI_ge hw (sm7 hI))) (fun _ => ?_)
          refine V_aload_n dS_lookAgain_36 rfl ?_
          refine V_getR (a := 63) dS_lookAgain_37 flS_9 k62 rfl (r62_2 hR) ?_
          refine V_iload_n dS_lookAgain_40 rfl ?_
          refine V_bipush (v := 6) dS_lookAgain_41 (by decide) ?_
          refine V_imul dS_lookAgain_43 ?_
          refine V_iload_n dS_lookAgain_44 rfl ?_
          refine V_iadd dS_lookAgain_45 ?_
          refine V_aload_n dS_lookAgain_46 rfl ?_
          refine V_getR (a := 60) dS_lookAgain_47 flS_19 k62 rfl (r62_1 hR) ?_
          refine V_aload_n dS_lookAgain_50 rfl ?_
          refine V_iload_n dS_lookAgain_51 rfl ?_
          refine V_callV (as := [.ref (8 + 2 * n), .int (nI w)]) (rest := [.int (((nI n) * 6) + (nI w)), .ref 63]) (bs' := 0) rfl dS_lookAgain_52 cmP_payNow cvP_payNow mlS_36 (Or.inl ⟨_, _, _, _, _, rfl, k60, by decide, rfl⟩) rfl rfl (c_payNow hC hI hn hw) (by decide) (Nat.le_refl _) (by decide) (Nat.le_of_ble_eq_true rfl) ?_
          rintro _ _ s1 ⟨rfl, rfl, hF1⟩ -
          refine V_one ?_
          have hF := hF.trans hF1.fy
          have hC := hF.rc hC0
          have hR := hC.1
          have hQ := hQ.fz hF1
          refine V_aload_n dS_lookAgain_55 rfl ?_
          refine V_getE (x := gi M 81 n) dS_lookAgain_56 flS_42 (kE _ (lt9 hI hn)) rfl (eP hC (lt9 hI hn)) ?_
          refine V_isub dS_lookAgain_59 ?_
          refine V_iastN (j := 6 * n + w) dS_lookAgain_60 k63 (ix6 n w) (by have := lt9 hI hn; have := lt7 hI hw; omega) (by decide) ?_
          have hF : Fy σ (si s1 63 (6 * n + w) ((payS L M n w) - (gi M 81 n))) := hF.set (Or.inr rfl)
          have hC := hF.rc hC0
          have hR := hC.1
          have hQ := hQ.set hI hw
          refine V_iinc (v := nI (w + 1)) (loc' := [(3, .int (nI (w + 1))), (2, .ref (8 + 2 * n)), (1, .int (nI n)), (0, .ref 62)]) dS_lookAgain_61 rfl (nI_inc w) (by decide) rfl ?_
          refine V_goto (tgt := 25) dS_lookAgain_64 rfl ?_
          refine V.locs (loc' := [(3, .int (nI (w + 1))), (2, .ref (8 + 2 * n)), (1, .int (nI n)), (0, .ref 62)]) [0, 1, 2, 3] rfl ?_
          exact (ihw _ hF hQ)
      refine V_iload_n dS_lookAgain_2 rfl ?_
      refine V_aload_n dS_lookAgain_3 rfl ?_
      refine V_getR (a := 1) dS_lookAgain_4 flS_15 k62 rfl (r62_0 hR) ?_
      refine V_getE (x := nI (mE M)) dS_lookAgain_7 flS_23 k1 rfl (cE hC hI) ?_
      refine V_icmp_ge (tgt := 73) dS_lookAgain_10 rfl (fun h => absurd h (nI_ge hn (sm9 hI))) (fun _ => ?_)
      refine V_aload_n dS_lookAgain_13 rfl ?_
      refine V_getR (a := 1) dS_lookAgain_14 flS_15 k62 rfl (r62_0 hR) ?_
      refine V_getR (a := 3) dS_lookAgain_17 flS_29 k1 rfl (r1_3 hR) ?_
      refine V_iload_n dS_lookAgain_20 rfl ?_
      refine V_aaldN (j := n) (a := 8 + 2 * n) dS_lookAgain_21 k3 rfl (lt9 hI hn) (by decide) (rE hR (lt9 hI hn)) ?_
      refine V_astore_n (loc' := [(2, .ref (8 + 2 * n)), (1, .int (nI n)), (0, .ref 62)]) dS_lookAgain_22 (by decide) rfl ?_
      refine V_iconst (v := 0) dS_lookAgain_23 (by decide) ?_
      refine V_istore_n (loc' := [(3, .int 0), (2, .ref (8 + 2 * n)), (1, .int (nI n)), (0, .ref 62)]) dS_lookAgain_24 (by decide) rfl ?_
      refine V.locs (loc' := [(3, .int 0), (2, .ref (8 + 2 * n)), (1, .int (nI n)), (0, .ref 62)]) [0, 1, 2, 3] rfl ?_
      refine V_eqL (loc' := [(3, .int (nI 0)), (2, .ref (8 + 2 * n)), (1, .int (nI n)), (0, .ref 62)]) ?_ ?_
      · rfl
      exact (lq 0 (Nat.zero_le _) _ hF hQ)
  exact lp 0 (Nat.zero_le _) _ hF GQ.zero
def gnS (L : Nat → List Cl) (M : Hp) (set : Int32) (w n : Nat) : Int32 := sumI (fun e => if hasB set (nI e) then payS L M e w - gi M 81 e else 0) n
def minF (f : Nat → Int32) : Nat → Int32
  | 0 => 0
  | n + 1 => if n = 0 then f 0 else minI (minF f n) (f n)
def maxF (f : Nat → Int32) : Nat → Int32
  | 0 => 0
  | n + 1 => if n = 0 then f 0 else maxI (maxF f n) (f n)
def lstS (L : Nat → List Cl) (M : Hp) (set : Int32) : Int32 := minF (fun w => gnS L M set w (mE M)) (mW M)
def mstS (L : Nat → List Cl) (M : Hp) (set : Int32) : Int32 := maxF (fun w => gnS L M set w (mE M)) (mW M)
theorem sumI_0 {f : Nat → Int32} (h : ∀ k, f k = 0) : ∀ n, sumI f n = 0
  | 0 => rfl
  | n + 1 => by rw [sumI, sumI_0 h n, h]; rfl
theorem minF_0 {f : Nat → Int32} (h : ∀ k, f k = 0) : ∀ n, minF f n = 0
  | 0 => rfl
  | n + 1 => by
    rw [minF, minF_0 h n, h, h]
    split <;> rfl
theorem gi_gn {L : Nat → List Cl} {M s : Hp} {a w : Nat} (hQ : GN L M s) (ha : a < mE M) (hw : w < mW M) : gi s 63 (6 * a + w) = payS L M a w - gi M 81 a := hQ a w hw (Or.inl ha)
theorem c_gainOf {l : Launch} {G : GT} {L : Nat → List Cl} {M σ : Hp} (hC : RC L M σ) (hI : Inv L M) (hQ : GN L M σ) (set : Int32) {w : Nat} (hw : w < mW M) : MM l G mS_gainOf 1 0 0 [.ref 62, .int set, .int (nI w)] KA σ (PE (some (.int (gnS L M set w (mE M)))) KA σ) := by
  have hR := hC.1
  refine MM.of (loc := [(0, .ref 62), (1, .int set), (2, .int (nI w))]) (by decide +kernel) rfl (Nat.le_of_ble_eq_true rfl) ?_
  refine V_iconst (v := 0) dS_gainOf_0 (by decide) ?_
  refine V_istore_n (loc' := [(3, .int 0), (0, .ref 62), (1, .int set), (2, .int (nI w))]) dS_gainOf_1 (by decide) rfl ?_
  refine V_iconst (v := 0) dS_gainOf_2 (by decide) ?_
  refine V_istore (loc' := [(4, .int 0), (3, .int 0), (0, .ref 62), (1, .int set), (2, .int (nI w))]) dS_gainOf_3 (by decide) rfl ?_
  refine V.locs (loc' := [(4, .int 0), (3, .int 0), (0, .ref 62), (1, .int set), (2, .int (nI w))]) [0, 1, 2, 3, 4] rfl ?_
  refine V_eqL (loc' := [(4, .int (nI 0)), (3, .int (gnS L M set w 0)), (0, .ref 62), (1, .int set), (2, .int (nI w))]) ?_ ?_
  · first | rfl | simp
  skip
  have lp : ∀ n : Nat, n ≤ (mE M) → V l G mS_gainOf (rmd 1 0 0) (KA.length + 0) 0 5 [(4, .int (nI n)), (3, .int (gnS L M set w n)), (0, .ref 62), (1, .int set), (2, .int (nI w))] [] KA σ (PE (some (.int (gnS L M set w (mE M)))) KA σ) := by
    refine lp_up (mE M) ?_ (fun n hn ihn => ?_)
    · skip
      refine V_iload dS_gainOf_5 rfl ?_
      refine V_aload_n dS_gainOf_7 rfl ?_
      refine V_getR (a := 1) dS_gainOf_8 flS_15 k62 rfl (r62_0 hR) ?_
      refine V_getE (x := nI (mE M)) dS_gainOf_11 flS_23 k1 rfl (cE hC hI) ?_
      refine V_icmp_ge (tgt := 47) dS_gainOf_14 rfl (fun _ => ?_) (fun h => absurd h (not_not_intro (nI_le (Nat.le_refl _) (sm9 hI))))
      refine V_iload_n dS_gainOf_47 rfl ?_
      exact V_iret dS_gainOf_48 rfl rfl ⟨rfl, rfl, rfl⟩
    · skip
      refine V_iload dS_gainOf_5 rfl ?_
      refine V_aload_n dS_gainOf_7 rfl ?_
      refine V_getR (a := 1) dS_gainOf_8 flS_15 k62 rfl (r62_0 hR) ?_
      refine V_getE (x := nI (mE M)) dS_gainOf_11 flS_23 k1 rfl (cE hC hI) ?_
      refine V_icmp_ge (tgt := 47) dS_gainOf_14 rfl (fun h => absurd h (nI_ge hn (sm9 hI))) (fun _ => ?_)
      refine V_iload_n dS_gainOf_17 rfl ?_
      refine V_iload dS_gainOf_18 rfl ?_
      refine V_callSN (host := "GuessFair") (as := [.int set, .int (nI n)]) (rest := []) (bs' := 0) rfl dS_gainOf_20 cmG_hasBit stG_hasBit (by decide) rfl rfl (c_hasBit set (nI n)) (by decide) (Nat.le_refl _) (by decide) (Nat.le_of_ble_eq_true rfl) ?_
      rintro _ _ _ (⟨hb, rfl, rfl, rfl⟩ | ⟨hb, rfl, rfl, rfl⟩) -
      · refine V_one ?_
        refine V_if_eq (tgt := 41) dS_gainOf_23 rfl (fun h => absurd h (by decide)) (fun _ => ?_)
        refine V_iload_n dS_gainOf_26 rfl ?_
        refine V_aload_n dS_gainOf_27 rfl ?_
        refine V_getR (a := 63) dS_gainOf_28 flS_9 k62 rfl (r62_2 hR) ?_
        refine V_iload dS_gainOf_31 rfl ?_
        refine V_bipush (v := 6) dS_gainOf_33 (by decide) ?_
        refine V_imul dS_gainOf_35 ?_
        refine V_iload_n dS_gainOf_36 rfl ?_
        refine V_iadd dS_gainOf_37 ?_
        refine V_ialdN (j := 6 * n + w) dS_gainOf_38 k63 (ix6 n w) (by have := lt9 hI hn; have := lt7 hI hw; omega) (by decide) ?_
        refine V_topI (x' := payS L M n w - gi M 81 n) (gi_gn hQ hn hw) ?_
        refine V_iadd dS_gainOf_39 ?_
        refine V_istore_n (loc' := [(3, .int ((gnS L M set w n) + (payS L M n w - gi M 81 n))), (4, .int (nI n)), (0, .ref 62), (1, .int set), (2, .int (nI w))]) dS_gainOf_40 (by decide) rfl ?_
        refine V_iinc (v := nI (n + 1)) (loc' := [(4, .int (nI (n + 1))), (3, .int ((gnS L M set w n) + (payS L M n w - gi M 81 n))), (0, .ref 62), (1, .int set), (2, .int (nI w))]) dS_gainOf_41 rfl (nI_inc n) (by decide) rfl ?_
        refine V_goto (tgt := 5) dS_gainOf_44 rfl ?_
        refine V.locs (loc' := [(4, .int (nI (n + 1))), (3, .int ((gnS L M set w n) + (payS L M n w - gi M 81 n))), (0, .ref 62), (1, .int set), (2, .int (nI w))]) [0, 1, 2, 3, 4] rfl ?_
        refine V_eqL (loc' := [(4, .int (nI (n + 1))), (3, .int (gnS L M set w (n + 1))), (0, .ref 62), (1, .int set), (2, .int (nI w))]) ?_ ?_
        · simp [gnS, sumI, hb]
        exact ihn
      · refine V_one ?_
        refine V_if_eq (tgt := 41) dS_gainOf_23 rfl (fun _ => ?_) (fun h => absurd h (by decide))
        refine V_iinc (v := nI (n + 1)) (loc' := [(4, .int (nI (n + 1))), (3, .int (gnS L M set w n)), (0, .ref 62), (1, .int set), (2, .int (nI w))]) dS_gainOf_41 rfl (nI_inc n) (by decide) rfl ?_
        refine V_goto (tgt := 5) dS_gainOf_44 rfl ?_
        refine V.locs (loc' := [(4, .int (nI (n + 1))), (3, .int (gnS L M set w n)), (0, .ref 62), (1, .int set), (2, .int (nI w))]) [0, 1, 2, 3, 4] rfl ?_
        refine V_eqL (loc' := [(4, .int (nI (n + 1))), (3, .int (gnS L M set w (n + 1))), (0, .ref 62), (1, .int set), (2, .int (nI w))]) ?_ ?_
        · simp [gnS, sumI, hb]
        exact ihn
  exact lp 0 (Nat.zero_le _)
theorem c_leastOf1 {l : Launch} {G : GT} {L : Nat → List Cl} {M σ : Hp} (hC : RC L M σ) (hI : Inv L M) (hQ : GN L M σ) (set : Int32) (h1 : 1 ≤ mW M) : MM l G mS_leastOf 2 0 0 [.ref 62, .int set] KA σ (PE (some (.int (lstS L M set))) KA σ) := by
  have hR := hC.1
  refine MM.of (loc := [(0, .ref 62), (1, .int set)]) (by decide +kernel) rfl (Nat.le_of_ble_eq_true rfl) ?_
  refine V_aload_n dS_leastOf_0 rfl ?_
  refine V_getR (a := 1) dS_leastOf_1 flS_15 k62 rfl (r62_0 hR) ?_
  refine V_getE (x := nI (mW M)) dS_leastOf_4 flS_33 k1 rfl (cW hC hI) ?_
  refine V_if_ne (tgt := 12) dS_leastOf_7 rfl (fun _ => ?_) (fun h => absurd h (nI_ne0 (by omega) (sm7 hI)))
  refine V_aload_n dS_leastOf_12 rfl ?_
  refine V_iload_n dS_leastOf_13 rfl ?_
  refine V_iconst (v := 0) dS_leastOf_14 (by decide) ?_
  refine V_callV (as := [.int set, .int 0]) (rest := []) (bs' := 0) rfl dS_leastOf_15 cmS_gainOf cvS_gainOf mlS_51 (Or.inl ⟨_, _, _, _, _, rfl, k62, by decide, rfl⟩) rfl rfl (c_gainOf hC hI hQ set (w := 0) h1) (by decide) (Nat.le_refl _) (by decide) (Nat.le_of_ble_eq_true rfl) ?_
  rintro _ _ _ ⟨rfl, rfl, rfl⟩ -
  refine V_one ?_
  refine V_istore_n (loc' := [(2, .int (gnS L M set 0 (mE M))), (0, .ref 62), (1, .int set)]) dS_leastOf_18 (by decide) rfl ?_
  refine V_iconst (v := 1) dS_leastOf_19 (by decide) ?_
  refine V_istore_n (loc' := [(3, .int 1), (2, .int (gnS L M set 0 (mE M))), (0, .ref 62), (1, .int set)]) dS_leastOf_20 (by decide) rfl ?_
  refine V.locs (loc' := [(3, .int 1), (2, .int (gnS L M set 0 (mE M))), (0, .ref 62), (1, .int set)]) [0, 1, 2, 3] rfl ?_
  refine V_eqL (loc' := [(3, .int (nI 1)), (2, .int (minF (fun w => gnS L M set w (mE M)) 1)), (0, .ref 62), (1, .int set)]) ?_ ?_
  · rfl
  skip
  have lp : ∀ n : Nat, n ≤ mW M → 1 ≤ n → V l G mS_leastOf (rmd 2 0 0) (KA.length + 0) 0 21 [(3, .int (nI n)), (2, .int (minF (fun w => gnS L M set w (mE M)) n)), (0, .ref 62), (1, .int set)] [] KA σ (PE (some (.int (lstS L M set))) KA σ) := by
    refine lp_up (mW M) (fun _ => ?_) (fun n hn ih h1n => ?_)
    · skip
      refine V_iload_n dS_leastOf_21 rfl ?_
      refine V_aload_n dS_leastOf_22 rfl ?_
      refine V_getR (a := 1) dS_leastOf_23 flS_15 k62 rfl (r62_0 hR) ?_
      refine V_getE (x := nI (mW M)) dS_leastOf_26 flS_33 k1 rfl (cW hC hI) ?_
      refine V_icmp_ge (tgt := 49) dS_leastOf_29 rfl (fun _ => ?_) (fun h => absurd h (not_not_intro (nI_le (Nat.le_refl _) (sm7 hI))))
      refine V_iload_n dS_leastOf_49 rfl ?_
      exact V_iret dS_leastOf_50 rfl rfl ⟨rfl, rfl, rfl⟩
    · skip
      refine V_iload_n dS_leastOf_21 rfl ?_
      refine V_aload_n dS_leastOf_22 rfl ?_
      refine V_getR (a := 1) dS_leastOf_23 flS_15 k62 rfl (r62_0 hR) ?_
      refine V_getE (x := nI (mW M)) dS_leastOf_26 flS_33 k1 rfl (cW hC hI) ?_
      refine V_icmp_ge (tgt := 49) dS_leastOf_29 rfl (fun h => absurd h (nI_ge hn (sm7 hI))) (fun _ => ?_)
      refine V_iload_n dS_leastOf_32 rfl ?_
      refine V_aload_n dS_leastOf_33 rfl ?_
      refine V_iload_n dS_leastOf_34 rfl ?_
      refine V_iload_n dS_leastOf_35 rfl ?_
      refine V_callV (as := [.int set, .int (nI n)]) (rest := [.int (minF (fun w => gnS L M set w (mE M)) n)]) (bs' := 0) rfl dS_leastOf_36 cmS_gainOf cvS_gainOf mlS_51 (Or.inl ⟨_, _, _, _, _, rfl, k62, by decide, rfl⟩) rfl rfl (c_gainOf hC hI hQ set (w := n) hn) (by decide) (Nat.le_refl _) (by decide) (Nat.le_of_ble_eq_true rfl) ?_
      rintro _ _ _ ⟨rfl, rfl, rfl⟩ -
      refine V_one ?_
      refine V_min rfl dS_leastOf_39 mlS_55 (by decide) (Nat.le_of_ble_eq_true rfl) (by decide) ?_
      refine V_istore_n (loc' := [(2, .int (if (gnS L M set n (mE M)) < (minF (fun w => gnS L M set w (mE M)) n) then (gnS L M set n (mE M)) else (minF (fun w => gnS L M set w (mE M)) n))), (3, .int (nI n)), (0, .ref 62), (1, .int set)]) dS_leastOf_42 (by decide) rfl ?_
      refine V_iinc (v := nI (n + 1)) (loc' := [(3, .int (nI (n + 1))), (2, .int (if (gnS L M set n (mE M)) < (minF (fun w => gnS L M set w (mE M)) n) then (gnS L M set n (mE M)) else (minF (fun w => gnS L M set w (mE M)) n))), (0, .ref 62), (1, .int set)]) dS_leastOf_43 rfl (nI_inc n) (by decide) rfl ?_
      refine V_goto (tgt := 21) dS_leastOf_46 rfl ?_
      refine V.locs (loc' := [(3, .int (nI (n + 1))), (2, .int (if (gnS L M set n (mE M)) < (minF (fun w => gnS L M set w (mE M)) n) then (gnS L M set n (mE M)) else (minF (fun w => gnS L M set w (mE M)) n))), (0, .ref 62), (1, .int set)]) [0, 1, 2, 3] rfl ?_
      refine V_eqL (loc' := [(3, .int (nI (n + 1))), (2, .int (minF (fun w => gnS L M set w (mE M)) (n + 1))), (0, .ref 62), (1, .int set)]) ?_ ?_
      · have h0 : ¬ n = 0 := by omega
        simp only [minF, if_neg h0, minI]
      exact (ih (by omega))
  exact lp 1 h1 (Nat.le_refl _)
theorem c_leastOf0 {l : Launch} {G : GT} {L : Nat → List Cl} {M σ : Hp} (hC : RC L M σ) (hI : Inv L M) (hQ : GN L M σ) (set : Int32) (h1 : mW M = 0) : MM l G mS_leastOf 2 0 0 [.ref 62, .int set] KA σ (PE (some (.int (lstS L M set))) KA σ) := by
  have hR := hC.1
  refine MM.of (loc := [(0, .ref 62), (1, .int set)]) (by decide +kernel) rfl (Nat.le_of_ble_eq_true rfl) ?_
  refine V_aload_n dS_leastOf_0 rfl ?_
  refine V_getR (a := 1) dS_leastOf_1 flS_15 k62 rfl (r62_0 hR) ?_
  refine V_getE (x := nI (mW M)) dS_leastOf_4 flS_33 k1 rfl (cW hC hI) ?_
  refine V_if_ne (tgt := 12) dS_leastOf_7 rfl (fun h => absurd h (fun q => q (by rw [h1]; rfl))) (fun _ => ?_)
  refine V_iconst (v := 0) dS_leastOf_10 (by decide) ?_
  exact V_iret dS_leastOf_11 rfl rfl ⟨by rw [lstS, h1]; rfl, rfl, rfl⟩
theorem c_leastOf {l : Launch} {G : GT} {L : Nat → List Cl} {M σ : Hp} (hC : RC L M σ) (hI : Inv L M) (hQ : GN L M σ) (set : Int32) : MM l G mS_leastOf 2 0 0 [.ref 62, .int set] KA σ (PE (some (.int (lstS L M set))) KA σ) := by
  rcases Nat.eq_zero_or_pos (mW M) with h | h
  · exact c_leastOf0 hC hI hQ set h
  · exact c_leastOf1 hC hI hQ set h
theorem c_spanOf {l : Launch} {G : GT} {L : Nat → List Cl} {M σ : Hp} (hC : RC L M σ) (hI : Inv L M) (hQ : GN L M σ) (set : Int32) (h1 : 1 ≤ mW M) : MM l G mS_spanOf 3 0 0 [.ref 62, .int set] KA σ (PE (some (.int (mstS L M set - lstS L M set))) KA σ) := by
  have hR := hC.1
  refine MM.of (loc := [(0, .ref 62), (1, .int set)]) (by decide +kernel) rfl (Nat.le_of_ble_eq_true rfl) ?_
  refine V_aload_n dS_spanOf_0 rfl ?_
  refine V_iload_n dS_spanOf_1 rfl ?_
  refine V_iconst (v := 0) dS_spanOf_2 (by decide) ?_
  refine V_callV (as := [.int set, .int 0]) (rest := []) (bs' := 0) rfl dS_spanOf_3 cmS_gainOf cvS_gainOf mlS_51 (Or.inl ⟨_, _, _, _, _, rfl, k62, by decide, rfl⟩) rfl rfl (c_gainOf hC hI hQ set (w := 0) h1) (by decide) (Nat.le_refl _) (by decide) (Nat.le_of_ble_eq_true rfl) ?_
  rintro _ _ _ ⟨rfl, rfl, rfl⟩ -
  refine V_one ?_
  refine V_istore_n (loc' := [(2, .int (gnS L M set 0 (mE M))), (0, .ref 62), (1, .int set)]) dS_spanOf_6 (by decide) rfl ?_
  refine V_iconst (v := 1) dS_spanOf_7 (by decide) ?_
  refine V_istore_n (loc' := [(3, .int 1), (2, .int (gnS L M set 0 (mE M))), (0, .ref 62), (1, .int set)]) dS_spanOf_8 (by decide) rfl ?_
  refine V.locs (loc' := [(3, .int 1), (2, .int (gnS L M set 0 (mE M))), (0, .ref 62), (1, .int set)]) [0, 1, 2, 3] rfl ?_
  refine V_eqL (loc' := [(3, .int (nI 1)), (2, .int (maxF (fun w => gnS L M set w (mE M)) 1)), (0, .ref 62), (1, .int set)]) ?_ ?_
  · rfl
  skip
  have lp : ∀ n : Nat, n ≤ mW M → 1 ≤ n → V l G mS_spanOf (rmd 3 0 0) (KA.length + 0) 0 9 [(3, .int (nI n)), (2, .int (maxF (fun w => gnS L M set w (mE M)) n)), (0, .ref 62), (1, .int set)] [] KA σ (PE (some (.int (mstS L M set - lstS L M set))) KA σ) := by
    refine lp_up (mW M) (fun _ => ?_) (fun n hn ih h1n => ?_)
    · skip
      refine V_iload_n dS_spanOf_9 rfl ?_
      refine V_aload_n dS_spanOf_10 rfl ?_
      refine V_getR (a := 1) dS_spanOf_11 flS_15 k62 rfl (r62_0 hR) ?_
      refine V_getE (x := nI (mW M)) dS_spanOf_14 flS_33 k1 rfl (cW hC hI) ?_
      refine V_icmp_ge (tgt := 37) dS_spanOf_17 rfl (fun _ => ?_) (fun h => absurd h (not_not_intro (nI_le (Nat.le_refl _) (sm7 hI))))
      refine V_iload_n dS_spanOf_37 rfl ?_
      refine V_aload_n dS_spanOf_38 rfl ?_
      refine V_iload_n dS_spanOf_39 rfl ?_
      refine V_callV (as := [.int set]) (rest := [.int (maxF (fun w => gnS L M set w (mE M)) (mW M))]) (bs' := 0) rfl dS_spanOf_40 cmS_leastOf cvS_leastOf mlS_60 (Or.inl ⟨_, _, _, _, _, rfl, k62, by decide, rfl⟩) rfl rfl (c_leastOf hC hI hQ set) (by decide) (Nat.le_refl _) (by decide) (Nat.le_of_ble_eq_true rfl) ?_
      rintro _ _ _ ⟨rfl, rfl, rfl⟩ -
      refine V_one ?_
      refine V_isub dS_spanOf_43 ?_
      exact V_iret dS_spanOf_44 rfl rfl ⟨rfl, rfl, rfl⟩
    · skip
      refine V_iload_n dS_spanOf_9 rfl ?_
      refine V_aload_n dS_spanOf_10 rfl ?_
      refine V_getR (a := 1) dS_spanOf_11 flS_15 k62 rfl (r62_0 hR) ?_
      refine V_getE (x := nI (mW M)) dS_spanOf_14 flS_33 k1 rfl (cW hC hI) ?_
      refine V_icmp_ge (tgt := 37) dS_spanOf_17 rfl (fun h => absurd h (nI_ge hn (sm7 hI))) (fun _ => ?_)
      refine V_iload_n dS_spanOf_20 rfl ?_
      refine V_aload_n dS_spanOf_21 rfl ?_
      refine V_iload_n dS_spanOf_22 rfl ?_
      refine V_iload_n dS_spanOf_23 rfl ?_
      refine V_callV (as := [.int set, .int (nI n)]) (rest := [.int (maxF (fun w => gnS L M set w (mE M)) n)]) (bs' := 0) rfl dS_spanOf_24 cmS_gainOf cvS_gainOf mlS_51 (Or.inl ⟨_, _, _, _, _, rfl, k62, by decide, rfl⟩) rfl rfl (c_gainOf hC hI hQ set (w := n) hn) (by decide) (Nat.le_refl _) (by decide) (Nat.le_of_ble_eq_true rfl) ?_
      rintro _ _ _ ⟨rfl, rfl, rfl⟩ -
      refine V_one ?_
      refine V_max rfl dS_spanOf_27 mlS_74 (by decide) (Nat.le_of_ble_eq_true rfl) (by decide) ?_
      refine V_istore_n (loc' := [(2, .int (if (maxF (fun w => gnS L M set w (mE M)) n) < (gnS L M set n (mE M)) then (gnS L M set n (mE M)) else (maxF (fun w => gnS L M set w (mE M)) n))), (3, .int (nI n)), (0, .ref 62), (1, .int set)]) dS_spanOf_30 (by decide) rfl ?_
      refine V_iinc (v := nI (n + 1)) (loc' := [(3, .int (nI (n + 1))), (2, .int (if (maxF (fun w => gnS L M set w (mE M)) n) < (gnS L M set n (mE M)) then (gnS L M set n (mE M)) else (maxF (fun w => gnS L M set w (mE M)) n))), (0, .ref 62), (1, .int set)]) dS_spanOf_31 rfl (nI_inc n) (by decide) rfl ?_
      refine V_goto (tgt := 9) dS_spanOf_34 rfl ?_
      refine V.locs (loc' := [(3, .int (nI (n + 1))), (2, .int (if (maxF (fun w => gnS L M set w (mE M)) n) < (gnS L M set n (mE M)) then (gnS L M set n (mE M)) else (maxF (fun w => gnS L M set w (mE M)) n))), (0, .ref 62), (1, .int set)]) [0, 1, 2, 3] rfl ?_
      refine V_eqL (loc' := [(3, .int (nI (n + 1))), (2, .int (maxF (fun w => gnS L M set w (mE M)) (n + 1))), (0, .ref 62), (1, .int set)]) ?_ ?_
      · have h0 : ¬ n = 0 := by omega
        simp only [maxF, if_neg h0, maxI]
      exact (ih (by omega))
  exact lp 1 h1 (Nat.le_refl _)
theorem allE_n {L : Nat → List Cl} {M : Hp} (hI : Inv L M) : allE M = nI (2 ^ mE M - 1) :=
  (by decide +kernel : ∀ n, n < 9 → (1 : Int32) <<< (nI n &&& 31) - 1 = nI (2 ^ n - 1)) _ (iE hI).2
theorem pwE {L : Nat → List Cl} {M : Hp} (hI : Inv L M) : 2 ^ mE M ≤ 256 := (by decide : ∀ n : Nat, n < 9 → 2 ^ n ≤ 256) _ (iE hI).2
theorem c_safestSet {l : Launch} {G : GT} {L : Nat → List Cl} {M σ : Hp} (hC : RC L M σ) (hI : Inv L M) (hQ : GN L M σ) : MM l G mS_safestSet 3 0 0 [.ref 62] KA σ (PE (some (.int (nI (amx (fun k => lstS L M (nI k)) (2 ^ mE M))))) KA σ) := by
  have hR := hC.1
  refine MM.of (loc := [(0, .ref 62)]) (by decide +kernel) rfl (Nat.le_of_ble_eq_true rfl) ?_
  refine V_iconst (v := 0) dS_safestSet_0 (by decide) ?_
  refine V_istore_n (loc' := [(1, .int 0), (0, .ref 62)]) dS_safestSet_1 (by decide) rfl ?_
  refine V_aload_n dS_safestSet_2 rfl ?_
  refine V_iconst (v := 0) dS_safestSet_3 (by decide) ?_
  refine V_callV (as := [.int 0]) (rest := []) (bs' := 0) rfl dS_safestSet_4 cmS_leastOf cvS_leastOf mlS_60 (Or.inl ⟨_, _, _, _, _, rfl, k62, by decide, rfl⟩) rfl rfl (c_leastOf hC hI hQ 0) (by decide) (Nat.le_refl _) (by decide) (Nat.le_of_ble_eq_true rfl) ?_
  rintro _ _ _ ⟨rfl, rfl, rfl⟩ -
  refine V_one ?_
  refine V_istore_n (loc' := [(2, .int (lstS L M 0)), (1, .int 0), (0, .ref 62)]) dS_safestSet_7 (by decide) rfl ?_
  refine V_iconst (v := 1) dS_safestSet_8 (by decide) ?_
  refine V_istore_n (loc' := [(3, .int 1), (2, .int (lstS L M 0)), (1, .int 0), (0, .ref 62)]) dS_safestSet_9 (by decide) rfl ?_
  refine V.locs (loc' := [(3, .int 1), (2, .int (lstS L M 0)), (1, .int 0), (0, .ref 62)]) [0, 1, 2, 3] rfl ?_
  refine V_eqL (loc' := [(3, .int (nI 1)), (2, .int (lstS L M (nI (amx (fun k => lstS L M (nI k)) 1)))), (1, .int (nI (amx (fun k => lstS L M (nI k)) 1))), (0, .ref 62)]) ?_ ?_
  · rfl
  skip
  have lp : ∀ n : Nat, n ≤ 2 ^ mE M → 1 ≤ n → V l G mS_safestSet (rmd 3 0 0) (KA.length + 0) 0 10 [(3, .int (nI n)), (2, .int (lstS L M (nI (amx (fun k => lstS L M (nI k)) n)))), (1, .int (nI (amx (fun k => lstS L M (nI k)) n))), (0, .ref 62)] [] KA σ (PE (some (.int (nI (amx (fun k => lstS L M (nI k)) (2 ^ mE M))))) KA σ) := by
    refine lp_up (2 ^ mE M) (fun _ => ?_) (fun n hn ih h1n => ?_)
    · skip
      refine V_iload_n dS_safestSet_10 rfl ?_
      refine V_aload_n dS_safestSet_11 rfl ?_
      refine V_getR (a := 1) dS_safestSet_12 flS_15 k62 rfl (r62_0 hR) ?_
      refine V_callV (as := []) (rest := [.int (nI (2 ^ mE M))]) (bs' := 0) rfl dS_safestSet_15 cmF_allEnvelopes cvF_allEnvelopes mlS_64 (Or.inl ⟨_, _, _, _, _, rfl, k1, by decide, rfl⟩) rfl rfl (c_allEnvelopes hC hI) (by decide) (Nat.le_refl _) (by decide) (Nat.le_of_ble_eq_true rfl) ?_
      rintro _ _ _ ⟨rfl, rfl, rfl⟩ -
      refine V_one ?_
      refine V_topI (x' := nI (2 ^ mE M - 1)) (allE_n hI) ?_
      refine V_icmp_gt (tgt := 45) dS_safestSet_18 rfl (fun _ => ?_) (fun h => absurd h (not_not_intro (nI_lt (a := 2 ^ mE M - 1) (b := 2 ^ mE M) (by have := pw1 (mE M); omega) (by have := pwE hI; omega))))
      refine V_iload_n dS_safestSet_45 rfl ?_
      exact V_iret dS_safestSet_46 rfl rfl ⟨rfl, rfl, rfl⟩
    · skip
      refine V_iload_n dS_safestSet_10 rfl ?_
      refine V_aload_n dS_safestSet_11 rfl ?_
      refine V_getR (a := 1) dS_safestSet_12 flS_15 k62 rfl (r62_0 hR) ?_
      refine V_callV (as := []) (rest := [.int (nI n)]) (bs' := 0) rfl dS_safestSet_15 cmF_allEnvelopes cvF_allEnvelopes mlS_64 (Or.inl ⟨_, _, _, _, _, rfl, k1, by decide, rfl⟩) rfl rfl (c_allEnvelopes hC hI) (by decide) (Nat.le_refl _) (by decide) (Nat.le_of_ble_eq_true rfl) ?_
      rintro _ _ _ ⟨rfl, rfl, rfl⟩ -
      refine V_one ?_
      refine V_topI (x' := nI (2 ^ mE M - 1)) (allE_n hI) ?_
      refine V_icmp_gt (tgt := 45) dS_safestSet_18 rfl (fun h => absurd h (fun q => absurd ((nI_ltI (b := n) (by have := pwE hI; omega) (by have := pwE hI; omega)).mp q) (by omega))) (fun _ => ?_)
      refine V_aload_n dS_safestSet_21 rfl ?_
      refine V_iload_n dS_safestSet_22 rfl ?_
      refine V_callV (as := [.int (nI n)]) (rest := []) (bs' := 0) rfl dS_safestSet_23 cmS_leastOf cvS_leastOf mlS_60 (Or.inl ⟨_, _, _, _, _, rfl, k62, by decide, rfl⟩) rfl rfl (c_leastOf hC hI hQ (nI n)) (by decide) (Nat.le_refl _) (by decide) (Nat.le_of_ble_eq_true rfl) ?_
      rintro _ _ _ ⟨rfl, rfl, rfl⟩ -
      refine V_one ?_
      refine V_istore (loc' := [(4, .int (lstS L M (nI n))), (3, .int (nI n)), (2, .int (lstS L M (nI (amx (fun k => lstS L M (nI k)) n)))), (1, .int (nI (amx (fun k => lstS L M (nI k)) n))), (0, .ref 62)]) dS_safestSet_26 (by decide) rfl ?_
      refine V_iload dS_safestSet_28 rfl ?_
      refine V_iload_n dS_safestSet_30 rfl ?_
      refine V_icmp_le (tgt := 39) dS_safestSet_31 rfl (fun c31 => ?_) (fun c31 => ?_)
      · skip
        refine V_iinc (v := nI (n + 1)) (loc' := [(3, .int (nI (n + 1))), (4, .int (lstS L M (nI n))), (2, .int (lstS L M (nI (amx (fun k => lstS L M (nI k)) n)))), (1, .int (nI (amx (fun k => lstS L M (nI k)) n))), (0, .ref 62)]) dS_safestSet_39 rfl (nI_inc n) (by decide) rfl ?_
        refine V_goto (tgt := 10) dS_safestSet_42 rfl ?_
        refine V.locs (loc' := [(3, .int (nI (n + 1))), (2, .int (lstS L M (nI (amx (fun k => lstS L M (nI k)) n)))), (1, .int (nI (amx (fun k => lstS L M (nI k)) n))), (0, .ref 62)]) [0, 2, 3, 4] rfl ?_
        refine V_eqL (loc' := [(3, .int (nI (n + 1))), (2, .int (lstS L M (nI (amx (fun k => lstS L M (nI k)) (n + 1))))), (1, .int (nI (amx (fun k => lstS L M (nI k)) (n + 1)))), (0, .ref 62)]) ?_ ?_
        · have h0 : ¬ n = 0 := by omega
          first
          | simp only [amx, if_neg h0, if_pos (Int32.not_le.mp c31)]
          | simp only [amx, if_neg h0, if_neg (Int32.not_lt.mpr c31)]
        exact (ih (by omega))
      · skip
        refine V_iload dS_safestSet_34 rfl ?_
        refine V_istore_n (loc' := [(2, .int (lstS L M (nI n))), (4, .int (lstS L M (nI n))), (3, .int (nI n)), (1, .int (nI (amx (fun k => lstS L M (nI k)) n))), (0, .ref 62)]) dS_safestSet_36 (by decide) rfl ?_
        refine V_iload_n dS_safestSet_37 rfl ?_
        refine V_istore_n (loc' := [(1, .int (nI n)), (2, .int (lstS L M (nI n))), (4, .int (lstS L M (nI n))), (3, .int (nI n)), (0, .ref 62)]) dS_safestSet_38 (by decide) rfl ?_
        refine V_iinc (v := nI (n + 1)) (loc' := [(3, .int (nI (n + 1))), (1, .int (nI n)), (2, .int (lstS L M (nI n))), (4, .int (lstS L M (nI n))), (0, .ref 62)]) dS_safestSet_39 rfl (nI_inc n) (by decide) rfl ?_
        refine V_goto (tgt := 10) dS_safestSet_42 rfl ?_
        refine V.locs (loc' := [(3, .int (nI (n + 1))), (2, .int (lstS L M (nI n))), (1, .int (nI n)), (0, .ref 62)]) [0, 2, 1, 4] rfl ?_
        refine V_eqL (loc' := [(3, .int (nI (n + 1))), (2, .int (lstS L M (nI (amx (fun k => lstS L M (nI k)) (n + 1))))), (1, .int (nI (amx (fun k => lstS L M (nI k)) (n + 1)))), (0, .ref 62)]) ?_ ?_
        · have h0 : ¬ n = 0 := by omega
          first
          | simp only [amx, if_neg h0, if_pos (Int32.not_le.mp c31)]
          | simp only [amx, if_neg h0, if_neg (Int32.not_lt.mpr c31)]
        exact (ih (by omega))
  exact lp 1 (pw1 _) (Nat.le_refl _)
theorem c_sureSet {l : Launch} {G : GT} {L : Nat → List Cl} {M σ : Hp} (hC : RC L M σ) (hI : Inv L M) (hQ : GN L M σ) : MM l G mS_sureSet 3 0 0 [.ref 62] KA σ (PE (some (.int (if firstN (fun k => decide (1 ≤ k) && decide (¬ lstS L M (nI k) ≤ 0)) (2 ^ mE M) < 2 ^ mE M then nI (firstN (fun k => decide (1 ≤ k) && decide (¬ lstS L M (nI k) ≤ 0)) (2 ^ mE M)) else 0))) KA σ) := by
  have hR := hC.1
  refine MM.of (loc := [(0, .ref 62)]) (by decide +kernel) rfl (Nat.le_of_ble_eq_true rfl) ?_
  refine V_iconst (v := 1) dS_sureSet_0 (by decide) ?_
  refine V_istore_n (loc' := [(1, .int 1), (0, .ref 62)]) dS_sureSet_1 (by decide) rfl ?_
  refine V.locs (loc' := [(1, .int 1), (0, .ref 62)]) [0, 1] rfl ?_
  refine V_eqL (loc' := [(1, .int (nI 1)), (0, .ref 62)]) ?_ ?_
  · rfl
  skip
  have lp : ∀ n : Nat, n ≤ 2 ^ mE M → 1 ≤ n → firstN (fun k => decide (1 ≤ k) && decide (¬ lstS L M (nI k) ≤ 0)) n = n → V l G mS_sureSet (rmd 3 0 0) (KA.length + 0) 0 2 [(1, .int (nI n)), (0, .ref 62)] [] KA σ (PE (some (.int (if firstN (fun k => decide (1 ≤ k) && decide (¬ lstS L M (nI k) ≤ 0)) (2 ^ mE M) < 2 ^ mE M then nI (firstN (fun k => decide (1 ≤ k) && decide (¬ lstS L M (nI k) ≤ 0)) (2 ^ mE M)) else 0))) KA σ) := by
    refine lp_up (2 ^ mE M) (fun _ hN => ?_) (fun n hn ih h1n hN => ?_)
    · skip
      refine V_iload_n dS_sureSet_2 rfl ?_
      refine V_aload_n dS_sureSet_3 rfl ?_
      refine V_getR (a := 1) dS_sureSet_4 flS_15 k62 rfl (r62_0 hR) ?_
      refine V_callV (as := []) (rest := [.int (nI (2 ^ mE M))]) (bs' := 0) rfl dS_sureSet_7 cmF_allEnvelopes cvF_allEnvelopes mlS_64 (Or.inl ⟨_, _, _, _, _, rfl, k1, by decide, rfl⟩) rfl rfl (c_allEnvelopes hC hI) (by decide) (Nat.le_refl _) (by decide) (Nat.le_of_ble_eq_true rfl) ?_
      rintro _ _ _ ⟨rfl, rfl, rfl⟩ -
      refine V_one ?_
      refine V_topI (x' := nI (2 ^ mE M - 1)) (allE_n hI) ?_
      refine V_icmp_gt (tgt := 29) dS_sureSet_10 rfl (fun _ => ?_) (fun h => absurd h (not_not_intro (nI_lt (a := 2 ^ mE M - 1) (b := 2 ^ mE M) (by have := pw1 (mE M); omega) (by have := pwE hI; omega))))
      refine V_iconst (v := 0) dS_sureSet_29 (by decide) ?_
      exact V_iret dS_sureSet_30 rfl rfl ⟨by rw [hN, if_neg (by omega)], rfl, rfl⟩
    · skip
      refine V_iload_n dS_sureSet_2 rfl ?_
      refine V_aload_n dS_sureSet_3 rfl ?_
      refine V_getR (a := 1) dS_sureSet_4 flS_15 k62 rfl (r62_0 hR) ?_
      refine V_callV (as := []) (rest := [.int (nI n)]) (bs' := 0) rfl dS_sureSet_7 cmF_allEnvelopes cvF_allEnvelopes mlS_64 (Or.inl ⟨_, _, _, _, _, rfl, k1, by decide, rfl⟩) rfl rfl (c_allEnvelopes hC hI) (by decide) (Nat.le_refl _) (by decide) (Nat.le_of_ble_eq_true rfl) ?_
      rintro _ _ _ ⟨rfl, rfl, rfl⟩ -
      refine V_one ?_
      refine V_topI (x' := nI (2 ^ mE M - 1)) (allE_n hI) ?_
      refine V_icmp_gt (tgt := 29) dS_sureSet_10 rfl (fun h => absurd h (fun q => absurd ((nI_ltI (b := n) (by have := pwE hI; omega) (by have := pwE hI; omega)).mp q) (by omega))) (fun _ => ?_)
      refine V_aload_n dS_sureSet_13 rfl ?_
      refine V_iload_n dS_sureSet_14 rfl ?_
      refine V_callV (as := [.int (nI n)]) (rest := []) (bs' := 0) rfl dS_sureSet_15 cmS_leastOf cvS_leastOf mlS_60 (Or.inl ⟨_, _, _, _, _, rfl, k62, by decide, rfl⟩) rfl rfl (c_leastOf hC hI hQ (nI n)) (by decide) (Nat.le_refl _) (by decide) (Nat.le_of_ble_eq_true rfl) ?_
      rintro _ _ _ ⟨rfl, rfl, rfl⟩ -
      refine V_one ?_
      refine V_if_le (tgt := 23) dS_sureSet_18 rfl (fun c18 => ?_) (fun c18 => ?_)
      · skip
        refine V_iinc (v := nI (n + 1)) (loc' := [(1, .int (nI (n + 1))), (0, .ref 62)]) dS_sureSet_23 rfl (nI_inc n) (by decide) rfl ?_
        refine V_goto (tgt := 2) dS_sureSet_26 rfl ?_
        refine V.locs (loc' := [(1, .int (nI (n + 1))), (0, .ref 62)]) [0, 1] rfl ?_
        exact (ih (by omega) (firstN_s hN (by simp only [decide_eq_true h1n, Bool.true_and]; exact decide_eq_false (not_not_intro c18))))
      · skip
        refine V_iload_n dS_sureSet_21 rfl ?_
        exact V_iret dS_sureSet_22 rfl rfl ⟨by rw [firstN_t hN (by simp [h1n, c18]) _ hn, if_pos hn], rfl, rfl⟩
  exact lp 1 (pw1 _) (Nat.le_refl _) rfl
