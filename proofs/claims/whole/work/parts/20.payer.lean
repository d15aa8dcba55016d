/-! the payer's sums and choices -/
def wS (L : Nat → List Cl) (M : Hp) (e : Nat) (s : Int32) (d n : Nat) : Int32 := sumI (fun w => payI L M e w s d * gi M 77 w) n
def amx (f : Nat → Int32) : Nat → Nat
  | 0 => 0
  | n + 1 => if n = 0 then 0 else if f (amx f n) < f n then n else amx f n
def anyB (f : Nat → Bool) : Nat → Bool
  | 0 => false
  | n + 1 => anyB f n || f n
def firstN (f : Nat → Bool) : Nat → Nat
  | 0 => 0
  | n + 1 => if firstN f n < n then firstN f n else if f n = true then n else n + 1
theorem anyB_t {f : Nat → Bool} {k : Nat} (h : f k = true) : ∀ n, k < n → anyB f n = true
  | n + 1, hn => by
    rcases Nat.lt_or_ge k n with h1 | h1
    · rw [anyB, anyB_t h n h1, Bool.true_or]
    · rw [anyB, show n = k by omega, h, Bool.or_true]
theorem firstN_le {f : Nat → Bool} : ∀ n, firstN f n ≤ n
  | 0 => Nat.le_refl _
  | n + 1 => by
    unfold firstN
    have := firstN_le (f := f) n
    split
    · omega
    · split <;> omega
theorem firstN_s {f : Nat → Bool} {n : Nat} (h : firstN f n = n) (hf : f n = false) : firstN f (n + 1) = n + 1 := by
  unfold firstN
  rw [if_neg (by omega), if_neg (by rw [hf]; decide)]
theorem firstN_t {f : Nat → Bool} {k : Nat} (h0 : firstN f k = k) (h : f k = true) : ∀ n, k < n → firstN f n = k
  | n + 1, hn => by
    unfold firstN
    rcases Nat.lt_or_ge k n with h1 | h1
    · rw [firstN_t h0 h n h1, if_pos h1]
    · have e : n = k := by omega
      subst e
      rw [if_neg (by omega), if_pos h]
theorem allS_n {L : Nat → List Cl} {M : Hp} (hI : Inv L M) : allS M = nI (2 ^ mW M - 1) :=
  (by decide +kernel : ∀ n, n < 7 → (1 : Int32) <<< (nI n &&& 31) - 1 = nI (2 ^ n - 1)) _ (iW hI).2
theorem pw1 (n : Nat) : 1 ≤ 2 ^ n := Nat.pos_of_ne_zero (by simp)
theorem pwI {L : Nat → List Cl} {M : Hp} (hI : Inv L M) : 2 ^ mW M ≤ 64 := pw6 _ (iW hI).2
theorem c_sumIn {l : Launch} {G : GT} {L : Nat → List Cl} {M σ : Hp} (hC : RC L M σ) (hI : Inv L M) {w : Nat} (hw : w < mW M) : MM l G mP_sumIn 5 0 0 [.ref 60, .int (nI w)] KA σ (PX (some (.int (sumI (fun e => payS L M e w) (mE M)))) σ) := by
  have hR := hC.1
  have hC0 := hC
  have hF : Fz σ σ := Fz.rfl
  refine MM.of (loc := [(0, .ref 60), (1, .int (nI w))]) (by decide +kernel) rfl (Nat.le_of_ble_eq_true rfl) ?_
  refine V_iconst (v := 0) dP_sumIn_0 (by decide) ?_
  refine V_istore_n (loc' := [(2, .int 0), (0, .ref 60), (1, .int (nI w))]) dP_sumIn_1 (by decide) rfl ?_
  refine V_iconst (v := 0) dP_sumIn_2 (by decide) ?_
  refine V_istore_n (loc' := [(3, .int 0), (2, .int 0), (0, .ref 60), (1, .int (nI w))]) dP_sumIn_3 (by decide) rfl ?_
  refine V.locs (loc' := [(3, .int 0), (2, .int 0), (0, .ref 60), (1, .int (nI w))]) [0, 1, 2, 3] rfl ?_
  refine V_eqL (loc' := [(3, .int (nI 0)), (2, .int (sumI (fun e => payS L M e w) 0)), (0, .ref 60), (1, .int (nI w))]) ?_ ?_
  · first | rfl | simp
  skip
  have lp : ∀ n : Nat, n ≤ (mE M) → ∀ s : Hp, Fz σ s → V l G mP_sumIn (rmd 5 0 0) (KA.length + 0) 0 4 [(3, .int (nI n)), (2, .int (sumI (fun e => payS L M e w) n)), (0, .ref 60), (1, .int (nI w))] [] KA s (PX (some (.int (sumI (fun e => payS L M e w) (mE M)))) σ) := by
    refine lp_up (mE M) ?_ (fun n hn ihn => ?_)
    · skip
      intro s hF
      have hC := hF.rc hC0
      have hR := hC.1
      refine V_iload_n dP_sumIn_4 rfl ?_
      refine V_aload_n dP_sumIn_5 rfl ?_
      refine V_getR (a := 1) dP_sumIn_6 flP_15 k60 rfl (r60_0 hR) ?_
      refine V_getE (x := nI (mE M)) dP_sumIn_9 flP_93 k1 rfl (cE hC hI) ?_
      refine V_icmp_ge (tgt := 38) dP_sumIn_12 rfl (fun _ => ?_) (fun h => absurd h (not_not_intro (nI_le (Nat.le_refl _) (sm9 hI))))
      refine V_iload_n dP_sumIn_38 rfl ?_
      exact V_iret dP_sumIn_39 rfl rfl ⟨rfl, rfl, hF⟩
    · skip
      intro s hF
      have hC := hF.rc hC0
      have hR := hC.1
      refine V_iload_n dP_sumIn_4 rfl ?_
      refine V_aload_n dP_sumIn_5 rfl ?_
      refine V_getR (a := 1) dP_sumIn_6 flP_15 k60 rfl (r60_0 hR) ?_
      refine V_getE (x := nI (mE M)) dP_sumIn_9 flP_93 k1 rfl (cE hC hI) ?_
      refine V_icmp_ge (tgt := 38) dP_sumIn_12 rfl (fun h => absurd h (nI_ge hn (sm9 hI))) (fun _ => ?_)
      refine V_iload_n dP_sumIn_15 rfl ?_
      refine V_aload_n dP_sumIn_16 rfl ?_
      refine V_aload_n dP_sumIn_17 rfl ?_
      refine V_getR (a := 1) dP_sumIn_18 flP_15 k60 rfl (r60_0 hR) ?_
      refine V_getR (a := 3) dP_sumIn_21 flP_96 k1 rfl (r1_3 hR) ?_
      refine V_iload_n dP_sumIn_24 rfl ?_
      refine V_aaldN (j := n) (a := 8 + 2 * n) dP_sumIn_25 k3 rfl (lt9 hI hn) (by decide) (rE hR (lt9 hI hn)) ?_
      refine V_iload_n dP_sumIn_26 rfl ?_
      refine V_callV (as := [.ref (8 + 2 * n), .int (nI w)]) (rest := [.int (sumI (fun e => payS L M e w) n)]) (bs' := 0) rfl dP_sumIn_27 cmP_payNow cvP_payNow mlP_100 (Or.inl ⟨_, _, _, _, _, rfl, k60, by decide, rfl⟩) rfl rfl (c_payNow hC hI hn hw) (by decide) (Nat.le_refl _) (by decide) (Nat.le_of_ble_eq_true rfl) ?_
      rintro _ _ s1 ⟨rfl, rfl, hF1⟩ -
      refine V_one ?_
      have hF := hF.trans hF1
      have hC := hF.rc hC0
      have hR := hC.1
      refine V_iadd dP_sumIn_30 ?_
      refine V_istore_n (loc' := [(2, .int ((sumI (fun e => payS L M e w) n) + (payS L M n w))), (3, .int (nI n)), (0, .ref 60), (1, .int (nI w))]) dP_sumIn_31 (by decide) rfl ?_
      refine V_iinc (v := nI (n + 1)) (loc' := [(3, .int (nI (n + 1))), (2, .int ((sumI (fun e => payS L M e w) n) + (payS L M n w))), (0, .ref 60), (1, .int (nI w))]) dP_sumIn_32 rfl (nI_inc n) (by decide) rfl ?_
      refine V_goto (tgt := 4) dP_sumIn_35 rfl ?_
      refine V.locs (loc' := [(3, .int (nI (n + 1))), (2, .int ((sumI (fun e => payS L M e w) n) + (payS L M n w))), (0, .ref 60), (1, .int (nI w))]) [0, 1, 2, 3] rfl ?_
      refine V_eqL (loc' := [(3, .int (nI (n + 1))), (2, .int (sumI (fun e => payS L M e w) (n + 1))), (0, .ref 60), (1, .int (nI w))]) ?_ ?_
      · rfl
      exact (ihn _ hF)
  exact lp 0 (Nat.zero_le _) _ hF
theorem c_weighed {l : Launch} {G : GT} {L : Nat → List Cl} {M σ : Hp} (hC : RC L M σ) (hI : Inv L M) {e k d : Nat} (he : e < mE M) (hk : k < 64) : MM l G mP_weighed 4 0 0 [.ref 60, .ref (8 + 2 * e), .int (nI k), .int (nI d)] KA σ (PX (some (.int (wS L M e (nI k) d (mW M)))) σ) := by
  have hR := hC.1
  have hC0 := hC
  have hF : Fz σ σ := Fz.rfl
  refine MM.of (loc := [(0, .ref 60), (1, .ref (8 + 2 * e)), (2, .int (nI k)), (3, .int (nI d))]) (by decide +kernel) rfl (Nat.le_of_ble_eq_true rfl) ?_
  refine V_iconst (v := 0) dP_weighed_0 (by decide) ?_
  refine V_istore (loc' := [(4, .int 0), (0, .ref 60), (1, .ref (8 + 2 * e)), (2, .int (nI k)), (3, .int (nI d))]) dP_weighed_1 (by decide) rfl ?_
  refine V_iconst (v := 0) dP_weighed_3 (by decide) ?_
  refine V_istore (loc' := [(5, .int 0), (4, .int 0), (0, .ref 60), (1, .ref (8 + 2 * e)), (2, .int (nI k)), (3, .int (nI d))]) dP_weighed_4 (by decide) rfl ?_
  refine V.locs (loc' := [(5, .int 0), (4, .int 0), (0, .ref 60), (1, .ref (8 + 2 * e)), (2, .int (nI k)), (3, .int (nI d))]) [0, 1, 2, 3, 4, 5] rfl ?_
  refine V_eqL (loc' := [(5, .int (nI 0)), (4, .int (wS L M e (nI k) d 0)), (0, .ref 60), (1, .ref (8 + 2 * e)), (2, .int (nI k)), (3, .int (nI d))]) ?_ ?_
  · first | rfl | simp
  skip
  have lp : ∀ n : Nat, n ≤ (mW M) → ∀ s : Hp, Fz σ s → V l G mP_weighed (rmd 4 0 0) (KA.length + 0) 0 6 [(5, .int (nI n)), (4, .int (wS L M e (nI k) d n)), (0, .ref 60), (1, .ref (8 + 2 * e)), (2, .int (nI k)), (3, .int (nI d))] [] KA s (PX (some (.int (wS L M e (nI k) d (mW M)))) σ) := by
    refine lp_up (mW M) ?_ (fun n hn ihn => ?_)
    · skip
      intro s hF
      have hC := hF.rc hC0
      have hR := hC.1
      refine V_iload dP_weighed_6 rfl ?_
      refine V_aload_n dP_weighed_8 rfl ?_
      refine V_getR (a := 1) dP_weighed_9 flP_15 k60 rfl (r60_0 hR) ?_
      refine V_getE (x := nI (mW M)) dP_weighed_12 flP_104 k1 rfl (cW hC hI) ?_
      refine V_icmp_ge (tgt := 49) dP_weighed_15 rfl (fun _ => ?_) (fun h => absurd h (not_not_intro (nI_le (Nat.le_refl _) (sm7 hI))))
      refine V_iload dP_weighed_49 rfl ?_
      exact V_iret dP_weighed_51 rfl rfl ⟨rfl, rfl, hF⟩
    · skip
      intro s hF
      have hC := hF.rc hC0
      have hR := hC.1
      refine V_iload dP_weighed_6 rfl ?_
      refine V_aload_n dP_weighed_8 rfl ?_
      refine V_getR (a := 1) dP_weighed_9 flP_15 k60 rfl (r60_0 hR) ?_
      refine V_getE (x := nI (mW M)) dP_weighed_12 flP_104 k1 rfl (cW hC hI) ?_
      refine V_icmp_ge (tgt := 49) dP_weighed_15 rfl (fun h => absurd h (nI_ge hn (sm7 hI))) (fun _ => ?_)
      refine V_iload dP_weighed_18 rfl ?_
      refine V_aload_n dP_weighed_20 rfl ?_
      refine V_aload_n dP_weighed_21 rfl ?_
      refine V_iload dP_weighed_22 rfl ?_
      refine V_iload_n dP_weighed_24 rfl ?_
      refine V_iload_n dP_weighed_25 rfl ?_
      refine V_callV (as := [.ref (8 + 2 * e), .int (nI n), .int (nI k), .int (nI d)]) (rest := [.int (wS L M e (nI k) d n)]) (bs' := 0) rfl dP_weighed_26 cmP_payIf cvP_payIf mlP_34 (Or.inl ⟨_, _, _, _, _, rfl, k60, by decide, rfl⟩) rfl rfl (c_payIf (d := d) hC hI he hn hk) (by decide) (Nat.le_refl _) (by decide) (Nat.le_of_ble_eq_true rfl) ?_
      rintro _ _ s1 ⟨rfl, rfl, hF1⟩ -
      refine V_one ?_
      have hF := hF.trans hF1
      have hC := hF.rc hC0
      have hR := hC.1
      refine V_aload_n dP_weighed_29 rfl ?_
      refine V_getR (a := 1) dP_weighed_30 flP_15 k60 rfl (r60_0 hR) ?_
      refine V_getR (a := 2) dP_weighed_33 flP_53 k1 rfl (r1_1 hR) ?_
      refine V_iload dP_weighed_36 rfl ?_
      refine V_ialdN (j := n) dP_weighed_38 k2 rfl (lt7 hI hn) (by decide) ?_
      refine V_topI (x' := gi M 77 n) (eC hC (lt7 hI hn)) ?_
      refine V_imul dP_weighed_39 ?_
      refine V_iadd dP_weighed_40 ?_
      refine V_istore (loc' := [(4, .int ((wS L M e (nI k) d n) + ((payI L M e n (nI k) d) * (gi M 77 n)))), (5, .int (nI n)), (0, .ref 60), (1, .ref (8 + 2 * e)), (2, .int (nI k)), (3, .int (nI d))]) dP_weighed_41 (by decide) rfl ?_
      refine V_iinc (v := nI (n + 1)) (loc' := [(5, .int (nI (n + 1))), (4, .int ((wS L M e (nI k) d n) + ((payI L M e n (nI k) d) * (gi M 77 n)))), (0, .ref 60), (1, .ref (8 + 2 * e)), (2, .int (nI k)), (3, .int (nI d))]) dP_weighed_43 rfl (nI_inc n) (by decide) rfl ?_
      refine V_goto (tgt := 6) dP_weighed_46 rfl ?_
      refine V.locs (loc' := [(5, .int (nI (n + 1))), (4, .int ((wS L M e (nI k) d n) + ((payI L M e n (nI k) d) * (gi M 77 n)))), (0, .ref 60), (1, .ref (8 + 2 * e)), (2, .int (nI k)), (3, .int (nI d))]) [0, 1, 2, 3, 4, 5] rfl ?_
      refine V_eqL (loc' := [(5, .int (nI (n + 1))), (4, .int (wS L M e (nI k) d (n + 1))), (0, .ref 60), (1, .ref (8 + 2 * e)), (2, .int (nI k)), (3, .int (nI d))]) ?_ ?_
      · rfl
      exact (ihn _ hF)
  exact lp 0 (Nat.zero_le _) _ hF
theorem c_weighedNow {l : Launch} {G : GT} {L : Nat → List Cl} {M σ : Hp} (hC : RC L M σ) (hI : Inv L M) {e : Nat} (he : e < mE M) : MM l G mP_weighedNow 5 0 0 [.ref 60, .ref (8 + 2 * e)] KA σ (PX (some (.int (wS L M e (gi M 80 e) (mD M) (mW M)))) σ) := by
  have hR := hC.1
  have hC0 := hC
  have hF : Fz σ σ := Fz.rfl
  refine MM.of (loc := [(0, .ref 60), (1, .ref (8 + 2 * e))]) (by decide +kernel) rfl (Nat.le_of_ble_eq_true rfl) ?_
  refine V_aload_n dP_weighedNow_0 rfl ?_
  refine V_aload_n dP_weighedNow_1 rfl ?_
  refine V_aload_n dP_weighedNow_2 rfl ?_
  refine V_getE (x := nI (cN (gi M 80 e))) dP_weighedNow_3 flP_23 (kE _ (lt9 hI he)) rfl ((eS hC (lt9 hI he)).trans (sayN hI he).1) ?_
  refine V_aload_n dP_weighedNow_6 rfl ?_
  refine V_getR (a := 1) dP_weighedNow_7 flP_15 k60 rfl (r60_0 hR) ?_
  refine V_getE (x := nI (mD M)) dP_weighedNow_10 flP_29 k1 rfl (cD hC hI) ?_
  refine V_callV (as := [.ref (8 + 2 * e), .int (nI (cN (gi M 80 e))), .int (nI (mD M))]) (rest := []) (bs' := 0) rfl dP_weighedNow_13 cmP_weighed cvP_weighed mlP_107 (Or.inl ⟨_, _, _, _, _, rfl, k60, by decide, rfl⟩) rfl rfl (c_weighed (d := mD M) hC hI he (sayN hI he).2.2) (by decide) (Nat.le_refl _) (by decide) (Nat.le_of_ble_eq_true rfl) ?_
  rintro _ _ s1 ⟨rfl, rfl, hF1⟩ -
  refine V_one ?_
  have hF := hF.trans hF1
  have hC := hF.rc hC0
  have hR := hC.1
  exact V_iret dP_weighedNow_16 rfl rfl ⟨by rw [← (sayN hI he).1], rfl, hF⟩
theorem c_bestSaying {l : Launch} {G : GT} {L : Nat → List Cl} {M σ : Hp} (hC : RC L M σ) (hI : Inv L M) {e : Nat} (he : e < mE M) : MM l G mP_bestSaying 5 0 0 [.ref 60, .ref (8 + 2 * e)] KA σ (PX (some (.int (nI (amx (fun k => wS L M e (nI k) (mD M) (mW M)) (2 ^ mW M))))) σ) := by
  have hR := hC.1
  have hC0 := hC
  have hF : Fz σ σ := Fz.rfl
  refine MM.of (loc := [(0, .ref 60), (1, .ref (8 + 2 * e))]) (by decide +kernel) rfl (Nat.le_of_ble_eq_true rfl) ?_
  refine V_iconst (v := 0) dP_bestSaying_0 (by decide) ?_
  refine V_istore_n (loc' := [(2, .int 0), (0, .ref 60), (1, .ref (8 + 2 * e))]) dP_bestSaying_1 (by decide) rfl ?_
  refine V_aload_n dP_bestSaying_2 rfl ?_
  refine V_aload_n dP_bestSaying_3 rfl ?_
  refine V_iconst (v := 0) dP_bestSaying_4 (by decide) ?_
  refine V_aload_n dP_bestSaying_5 rfl ?_
  refine V_getR (a := 1) dP_bestSaying_6 flP_15 k60 rfl (r60_0 hR) ?_
  refine V_getE (x := nI (mD M)) dP_bestSaying_9 flP_29 k1 rfl (cD hC hI) ?_
  refine V_callV (as := [.ref (8 + 2 * e), .int 0, .int (nI (mD M))]) (rest := []) (bs' := 0) rfl dP_bestSaying_12 cmP_weighed cvP_weighed mlP_107 (Or.inl ⟨_, _, _, _, _, rfl, k60, by decide, rfl⟩) rfl rfl (c_weighed (d := mD M) hC hI he (by decide)) (by decide) (Nat.le_refl _) (by decide) (Nat.le_of_ble_eq_true rfl) ?_
  rintro _ _ s0 ⟨rfl, rfl, hF1⟩ -
  refine V_one ?_
  have hF := hF.trans hF1
  have hC := hF.rc hC0
  have hR := hC.1
  refine V_istore_n (loc' := [(3, .int (wS L M e (nI 0) (mD M) (mW M))), (2, .int 0), (0, .ref 60), (1, .ref (8 + 2 * e))]) dP_bestSaying_15 (by decide) rfl ?_
  refine V_iconst (v := 1) dP_bestSaying_16 (by decide) ?_
  refine V_istore (loc' := [(4, .int 1), (3, .int (wS L M e (nI 0) (mD M) (mW M))), (2, .int 0), (0, .ref 60), (1, .ref (8 + 2 * e))]) dP_bestSaying_17 (by decide) rfl ?_
  refine V.locs (loc' := [(4, .int 1), (3, .int (wS L M e (nI 0) (mD M) (mW M))), (2, .int 0), (0, .ref 60), (1, .ref (8 + 2 * e))]) [0, 1, 2, 3, 4] rfl ?_
  refine V_eqL (loc' := [(4, .int (nI 1)), (3, .int (wS L M e (nI (amx (fun k => wS L M e (nI k) (mD M) (mW M)) 1)) (mD M) (mW M))), (2, .int (nI (amx (fun k => wS L M e (nI k) (mD M) (mW M)) 1))), (0, .ref 60), (1, .ref (8 + 2 * e))]) ?_ ?_
  · rfl
  skip
  have lp : ∀ n : Nat, n ≤ 2 ^ mW M → 1 ≤ n → ∀ s : Hp, Fz σ s → V l G mP_bestSaying (rmd 5 0 0) (KA.length + 0) 0 19 [(4, .int (nI n)), (3, .int (wS L M e (nI (amx (fun k => wS L M e (nI k) (mD M) (mW M)) n)) (mD M) (mW M))), (2, .int (nI (amx (fun k => wS L M e (nI k) (mD M) (mW M)) n))), (0, .ref 60), (1, .ref (8 + 2 * e))] [] KA s (PX (some (.int (nI (amx (fun k => wS L M e (nI k) (mD M) (mW M)) (2 ^ mW M))))) σ) := by
    refine lp_up (2 ^ mW M) ?_ (fun n hn ihn => ?_)
    · skip
      intro h1n
      intro s hF
      have hC := hF.rc hC0
      have hR := hC.1
      refine V_iload dP_bestSaying_19 rfl ?_
      refine V_aload_n dP_bestSaying_21 rfl ?_
      refine V_getR (a := 1) dP_bestSaying_22 flP_15 k60 rfl (r60_0 hR) ?_
      refine V_callV (as := []) (rest := [.int (nI (2 ^ mW M))]) (bs' := 0) rfl dP_bestSaying_25 cmF_allWorlds cvF_allWorlds mlP_111 (Or.inl ⟨_, _, _, _, _, rfl, k1, by decide, rfl⟩) rfl rfl (c_allWorlds hC hI) (by decide) (Nat.le_refl _) (by decide) (Nat.le_of_ble_eq_true rfl) ?_
      rintro _ _ _ ⟨rfl, rfl, rfl⟩ -
      refine V_one ?_
      refine V_topI (x' := nI (2 ^ mW M - 1)) (allS_n hI) ?_
      refine V_icmp_gt (tgt := 65) dP_bestSaying_28 rfl (fun _ => ?_) (fun h => absurd h (not_not_intro (nI_lt (a := 2 ^ mW M - 1) (b := 2 ^ mW M) (by have := pw1 (mW M); omega) (by have := pwI hI; omega))))
      refine V_iload_n dP_bestSaying_65 rfl ?_
      exact V_iret dP_bestSaying_66 rfl rfl ⟨rfl, rfl, hF⟩
    · skip
      intro h1n
      intro s hF
      have hC := hF.rc hC0
      have hR := hC.1
      refine V_iload dP_bestSaying_19 rfl ?_
      refine V_aload_n dP_bestSaying_21 rfl ?_
      refine V_getR (a := 1) dP_bestSaying_22 flP_15 k60 rfl (r60_0 hR) ?_
      refine V_callV (as := []) (rest := [.int (nI n)]) (bs' := 0) rfl dP_bestSaying_25 cmF_allWorlds cvF_allWorlds mlP_111 (Or.inl ⟨_, _, _, _, _, rfl, k1, by decide, rfl⟩) rfl rfl (c_allWorlds hC hI) (by decide) (Nat.le_refl _) (by decide) (Nat.le_of_ble_eq_true rfl) ?_
      rintro _ _ _ ⟨rfl, rfl, rfl⟩ -
      refine V_one ?_
      refine V_topI (x' := nI (2 ^ mW M - 1)) (allS_n hI) ?_
      refine V_icmp_gt (tgt := 65) dP_bestSaying_28 rfl (fun h => absurd h (fun q => absurd ((nI_ltI (b := n) (by have := pwI hI; omega) (by have := pwI hI; omega)).mp q) (by omega))) (fun _ => ?_)
      refine V_aload_n dP_bestSaying_31 rfl ?_
      refine V_aload_n dP_bestSaying_32 rfl ?_
      refine V_iload dP_bestSaying_33 rfl ?_
      refine V_aload_n dP_bestSaying_35 rfl ?_
      refine V_getR (a := 1) dP_bestSaying_36 flP_15 k60 rfl (r60_0 hR) ?_
      refine V_getE (x := nI (mD M)) dP_bestSaying_39 flP_29 k1 rfl (cD hC hI) ?_
      refine V_callV (as := [.ref (8 + 2 * e), .int (nI n), .int (nI (mD M))]) (rest := []) (bs' := 0) rfl dP_bestSaying_42 cmP_weighed cvP_weighed mlP_107 (Or.inl ⟨_, _, _, _, _, rfl, k60, by decide, rfl⟩) rfl rfl (c_weighed (d := mD M) hC hI he (by have := pwI hI; omega)) (by decide) (Nat.le_refl _) (by decide) (Nat.le_of_ble_eq_true rfl) ?_
      rintro _ _ s1 ⟨rfl, rfl, hF1⟩ -
      refine V_one ?_
      have hF := hF.trans hF1
      have hC := hF.rc hC0
      have hR := hC.1
      refine V_istore (loc' := [(5, .int (wS L M e (nI n) (mD M) (mW M))), (4, .int (nI n)), (3, .int (wS L M e (nI (amx (fun k => wS L M e (nI k) (mD M) (mW M)) n)) (mD M) (mW M))), (2, .int (nI (amx (fun k => wS L M e (nI k) (mD M) (mW M)) n))), (0, .ref 60), (1, .ref (8 + 2 * e))]) dP_bestSaying_45 (by decide) rfl ?_
      refine V_iload dP_bestSaying_47 rfl ?_
      refine V_iload_n dP_bestSaying_49 rfl ?_
      refine V_icmp_le (tgt := 59) dP_bestSaying_50 rfl (fun c50 => ?_) (fun c50 => ?_)
      · skip
        refine V_iinc (v := nI (n + 1)) (loc' := [(4, .int (nI (n + 1))), (5, .int (wS L M e (nI n) (mD M) (mW M))), (3, .int (wS L M e (nI (amx (fun k => wS L M e (nI k) (mD M) (mW M)) n)) (mD M) (mW M))), (2, .int (nI (amx (fun k => wS L M e (nI k) (mD M) (mW M)) n))), (0, .ref 60), (1, .ref (8 + 2 * e))]) dP_bestSaying_59 rfl (nI_inc n) (by decide) rfl ?_
        refine V_goto (tgt := 19) dP_bestSaying_62 rfl ?_
        refine V.locs (loc' := [(4, .int (nI (n + 1))), (3, .int (wS L M e (nI (amx (fun k => wS L M e (nI k) (mD M) (mW M)) n)) (mD M) (mW M))), (2, .int (nI (amx (fun k => wS L M e (nI k) (mD M) (mW M)) n))), (0, .ref 60), (1, .ref (8 + 2 * e))]) [0, 2, 3, 4, 5] rfl ?_
        refine V_eqL (loc' := [(4, .int (nI (n + 1))), (3, .int (wS L M e (nI (amx (fun k => wS L M e (nI k) (mD M) (mW M)) (n + 1))) (mD M) (mW M))), (2, .int (nI (amx (fun k => wS L M e (nI k) (mD M) (mW M)) (n + 1)))), (0, .ref 60), (1, .ref (8 + 2 * e))]) ?_ ?_
        · have h0 : ¬ n = 0 := by omega
          first
          | simp only [amx, if_neg h0, if_pos (Int32.not_le.mp c50)]
          | simp only [amx, if_neg h0, if_neg (Int32.not_lt.mpr c50)]
        exact (ihn (by omega) _ hF)
      · skip
        refine V_iload dP_bestSaying_53 rfl ?_
        refine V_istore_n (loc' := [(3, .int (wS L M e (nI n) (mD M) (mW M))), (5, .int (wS L M e (nI n) (mD M) (mW M))), (4, .int (nI n)), (2, .int (nI (amx (fun k => wS L M e (nI k) (mD M) (mW M)) n))), (0, .ref 60), (1, .ref (8 + 2 * e))]) dP_bestSaying_55 (by decide) rfl ?_
        refine V_iload dP_bestSaying_56 rfl ?_
        refine V_istore_n (loc' := [(2, .int (nI n)), (3, .int (wS L M e (nI n) (mD M) (mW M))), (5, .int (wS L M e (nI n) (mD M) (mW M))), (4, .int (nI n)), (0, .ref 60), (1, .ref (8 + 2 * e))]) dP_bestSaying_58 (by decide) rfl ?_
        refine V_iinc (v := nI (n + 1)) (loc' := [(4, .int (nI (n + 1))), (2, .int (nI n)), (3, .int (wS L M e (nI n) (mD M) (mW M))), (5, .int (wS L M e (nI n) (mD M) (mW M))), (0, .ref 60), (1, .ref (8 + 2 * e))]) dP_bestSaying_59 rfl (nI_inc n) (by decide) rfl ?_
        refine V_goto (tgt := 19) dP_bestSaying_62 rfl ?_
        refine V.locs (loc' := [(4, .int (nI (n + 1))), (3, .int (wS L M e (nI n) (mD M) (mW M))), (2, .int (nI n)), (0, .ref 60), (1, .ref (8 + 2 * e))]) [0, 2, 1, 4, 5] rfl ?_
        refine V_eqL (loc' := [(4, .int (nI (n + 1))), (3, .int (wS L M e (nI (amx (fun k => wS L M e (nI k) (mD M) (mW M)) (n + 1))) (mD M) (mW M))), (2, .int (nI (amx (fun k => wS L M e (nI k) (mD M) (mW M)) (n + 1)))), (0, .ref 60), (1, .ref (8 + 2 * e))]) ?_ ?_
        · have h0 : ¬ n = 0 := by omega
          first
          | simp only [amx, if_neg h0, if_pos (Int32.not_le.mp c50)]
          | simp only [amx, if_neg h0, if_neg (Int32.not_lt.mpr c50)]
        exact (ihn (by omega) _ hF)
  exact lp 1 (pw1 _) (Nat.le_refl _)  _ hF
theorem c_bestWait {l : Launch} {G : GT} {L : Nat → List Cl} {M σ : Hp} (hC : RC L M σ) (hI : Inv L M) {e wt : Nat} (he : e < mE M) (hwt : wt < 2 ^ 30) : MM l G mP_bestWait 6 0 0 [.ref 60, .ref (8 + 2 * e), .int (nI wt)] KA σ (PX (some (.int (nI (amx (fun k => wS L M e (gi M 80 e) (mD M + k) (mW M)) (wt + 1))))) σ) := by
  have hR := hC.1
  have hC0 := hC
  have hF : Fz σ σ := Fz.rfl
  refine MM.of (loc := [(0, .ref 60), (1, .ref (8 + 2 * e)), (2, .int (nI wt))]) (by decide +kernel) rfl (Nat.le_of_ble_eq_true rfl) ?_
  refine V_iconst (v := 0) dP_bestWait_0 (by decide) ?_
  refine V_istore_n (loc' := [(3, .int 0), (0, .ref 60), (1, .ref (8 + 2 * e)), (2, .int (nI wt))]) dP_bestWait_1 (by decide) rfl ?_
  refine V_aload_n dP_bestWait_2 rfl ?_
  refine V_aload_n dP_bestWait_3 rfl ?_
  refine V_callV (as := [.ref (8 + 2 * e)]) (rest := []) (bs' := 0) rfl dP_bestWait_4 cmP_weighedNow cvP_weighedNow mlP_115 (Or.inl ⟨_, _, _, _, _, rfl, k60, by decide, rfl⟩) rfl rfl (c_weighedNow hC hI he) (by decide) (Nat.le_refl _) (by decide) (Nat.le_of_ble_eq_true rfl) ?_
  rintro _ _ s0 ⟨rfl, rfl, hF1⟩ -
  refine V_one ?_
  have hF := hF.trans hF1
  have hC := hF.rc hC0
  have hR := hC.1
  refine V_istore (loc' := [(4, .int (wS L M e (gi M 80 e) (mD M) (mW M))), (3, .int 0), (0, .ref 60), (1, .ref (8 + 2 * e)), (2, .int (nI wt))]) dP_bestWait_7 (by decide) rfl ?_
  refine V_iconst (v := 1) dP_bestWait_9 (by decide) ?_
  refine V_istore (loc' := [(5, .int 1), (4, .int (wS L M e (gi M 80 e) (mD M) (mW M))), (3, .int 0), (0, .ref 60), (1, .ref (8 + 2 * e)), (2, .int (nI wt))]) dP_bestWait_10 (by decide) rfl ?_
  refine V.locs (loc' := [(5, .int 1), (4, .int (wS L M e (gi M 80 e) (mD M) (mW M))), (3, .int 0), (0, .ref 60), (1, .ref (8 + 2 * e)), (2, .int (nI wt))]) [0, 1, 2, 3, 4, 5] rfl ?_
  refine V_eqL (loc' := [(5, .int (nI 1)), (4, .int (wS L M e (gi M 80 e) (mD M + amx (fun k => wS L M e (gi M 80 e) (mD M + k) (mW M)) 1) (mW M))), (3, .int (nI (amx (fun k => wS L M e (gi M 80 e) (mD M + k) (mW M)) 1))), (0, .ref 60), (1, .ref (8 + 2 * e)), (2, .int (nI wt))]) ?_ ?_
  · rfl
  skip
  have lp : ∀ n : Nat, n ≤ wt + 1 → 1 ≤ n → ∀ s : Hp, Fz σ s → V l G mP_bestWait (rmd 6 0 0) (KA.length + 0) 0 12 [(5, .int (nI n)), (4, .int (wS L M e (gi M 80 e) (mD M + amx (fun k => wS L M e (gi M 80 e) (mD M + k) (mW M)) n) (mW M))), (3, .int (nI (amx (fun k => wS L M e (gi M 80 e) (mD M + k) (mW M)) n))), (0, .ref 60), (1, .ref (8 + 2 * e)), (2, .int (nI wt))] [] KA s (PX (some (.int (nI (amx (fun k => wS L M e (gi M 80 e) (mD M + k) (mW M)) (wt + 1))))) σ) := by
    refine lp_up (wt + 1) ?_ (fun n hn ihn => ?_)
    · skip
      intro h1n
      intro s hF
      have hC := hF.rc hC0
      have hR := hC.1
      refine V_iload dP_bestWait_12 rfl ?_
      refine V_iload_n dP_bestWait_14 rfl ?_
      refine V_icmp_gt (tgt := 59) dP_bestWait_15 rfl (fun _ => ?_) (fun h => absurd h (not_not_intro (nI_lt (a := wt) (b := wt + 1) (by omega) (by omega))))
      refine V_iload_n dP_bestWait_59 rfl ?_
      exact V_iret dP_bestWait_60 rfl rfl ⟨rfl, rfl, hF⟩
    · skip
      intro h1n
      intro s hF
      have hC := hF.rc hC0
      have hR := hC.1
      refine V_iload dP_bestWait_12 rfl ?_
      refine V_iload_n dP_bestWait_14 rfl ?_
      refine V_icmp_gt (tgt := 59) dP_bestWait_15 rfl (fun h => absurd h (fun q => absurd ((nI_ltI (b := n) (by omega) (by omega)).mp q) (by omega))) (fun _ => ?_)
      refine V_aload_n dP_bestWait_18 rfl ?_
      refine V_aload_n dP_bestWait_19 rfl ?_
      refine V_aload_n dP_bestWait_20 rfl ?_
      refine V_getE (x := nI (cN (gi M 80 e))) dP_bestWait_21 flP_23 (kE _ (lt9 hI he)) rfl ((eS hC (lt9 hI he)).trans (sayN hI he).1) ?_
      refine V_aload_n dP_bestWait_24 rfl ?_
      refine V_getR (a := 1) dP_bestWait_25 flP_15 k60 rfl (r60_0 hR) ?_
      refine V_getE (x := nI (mD M)) dP_bestWait_28 flP_29 k1 rfl (cD hC hI) ?_
      refine V_iload dP_bestWait_31 rfl ?_
      refine V_iadd dP_bestWait_33 ?_
      refine V_topI (x' := nI (mD M + n)) (nI_add _ _) ?_
      refine V_callV (as := [.ref (8 + 2 * e), .int (nI (cN (gi M 80 e))), .int (nI (mD M + n))]) (rest := []) (bs' := 0) rfl dP_bestWait_34 cmP_weighed cvP_weighed mlP_107 (Or.inl ⟨_, _, _, _, _, rfl, k60, by decide, rfl⟩) rfl rfl (c_weighed (d := mD M + n) hC hI he (sayN hI he).2.2) (by decide) (Nat.le_refl _) (by decide) (Nat.le_of_ble_eq_true rfl) ?_
      rintro _ _ s1 ⟨rfl, rfl, hF1⟩ -
      refine V_one ?_
      have hF := hF.trans hF1
      have hC := hF.rc hC0
      have hR := hC.1
      refine V_topI (x' := wS L M e (gi M 80 e) (mD M + n) (mW M)) (by rw [← (sayN hI he).1]) ?_
      refine V_istore (loc' := [(6, .int (wS L M e (gi M 80 e) (mD M + n) (mW M))), (5, .int (nI n)), (4, .int (wS L M e (gi M 80 e) (mD M + amx (fun k => wS L M e (gi M 80 e) (mD M + k) (mW M)) n) (mW M))), (3, .int (nI (amx (fun k => wS L M e (gi M 80 e) (mD M + k) (mW M)) n))), (0, .ref 60), (1, .ref (8 + 2 * e)), (2, .int (nI wt))]) dP_bestWait_37 (by decide) rfl ?_
      refine V_iload dP_bestWait_39 rfl ?_
      refine V_iload dP_bestWait_41 rfl ?_
      refine V_icmp_le (tgt := 53) dP_bestWait_43 rfl (fun c43 => ?_) (fun c43 => ?_)
      · skip
        refine V_iinc (v := nI (n + 1)) (loc' := [(5, .int (nI (n + 1))), (6, .int (wS L M e (gi M 80 e) (mD M + n) (mW M))), (4, .int (wS L M e (gi M 80 e) (mD M + amx (fun k => wS L M e (gi M 80 e) (mD M + k) (mW M)) n) (mW M))), (3, .int (nI (amx (fun k => wS L M e (gi M 80 e) (mD M + k) (mW M)) n))), (0, .ref 60), (1, .ref (8 + 2 * e)), (2, .int (nI wt))]) dP_bestWait_53 rfl (nI_inc n) (by decide) rfl ?_
        refine V_goto (tgt := 12) dP_bestWait_56 rfl ?_
        refine V.locs (loc' := [(5, .int (nI (n + 1))), (4, .int (wS L M e (gi M 80 e) (mD M + amx (fun k => wS L M e (gi M 80 e) (mD M + k) (mW M)) n) (mW M))), (3, .int (nI (amx (fun k => wS L M e (gi M 80 e) (mD M + k) (mW M)) n))), (0, .ref 60), (1, .ref (8 + 2 * e)), (2, .int (nI wt))]) [0, 2, 3, 4, 5, 6] rfl ?_
        refine V_eqL (loc' := [(5, .int (nI (n + 1))), (4, .int (wS L M e (gi M 80 e) (mD M + amx (fun k => wS L M e (gi M 80 e) (mD M + k) (mW M)) (n + 1)) (mW M))), (3, .int (nI (amx (fun k => wS L M e (gi M 80 e) (mD M + k) (mW M)) (n + 1)))), (0, .ref 60), (1, .ref (8 + 2 * e)), (2, .int (nI wt))]) ?_ ?_
        · have h0 : ¬ n = 0 := by omega
          first
          | simp only [amx, if_neg h0, if_pos (Int32.not_le.mp c43)]
          | simp only [amx, if_neg h0, if_neg (Int32.not_lt.mpr c43)]
        exact (ihn (by omega) _ hF)
      · skip
        refine V_iload dP_bestWait_46 rfl ?_
        refine V_istore (loc' := [(4, .int (wS L M e (gi M 80 e) (mD M + n) (mW M))), (6, .int (wS L M e (gi M 80 e) (mD M + n) (mW M))), (5, .int (nI n)), (3, .int (nI (amx (fun k => wS L M e (gi M 80 e) (mD M + k) (mW M)) n))), (0, .ref 60), (1, .ref (8 + 2 * e)), (2, .int (nI wt))]) dP_bestWait_48 (by decide) rfl ?_
        refine V_iload dP_bestWait_50 rfl ?_
        refine V_istore_n (loc' := [(3, .int (nI n)), (4, .int (wS L M e (gi M 80 e) (mD M + n) (mW M))), (6, .int (wS L M e (gi M 80 e) (mD M + n) (mW M))), (5, .int (nI n)), (0, .ref 60), (1, .ref (8 + 2 * e)), (2, .int (nI wt))]) dP_bestWait_52 (by decide) rfl ?_
        refine V_iinc (v := nI (n + 1)) (loc' := [(5, .int (nI (n + 1))), (3, .int (nI n)), (4, .int (wS L M e (gi M 80 e) (mD M + n) (mW M))), (6, .int (wS L M e (gi M 80 e) (mD M + n) (mW M))), (0, .ref 60), (1, .ref (8 + 2 * e)), (2, .int (nI wt))]) dP_bestWait_53 rfl (nI_inc n) (by decide) rfl ?_
        refine V_goto (tgt := 12) dP_bestWait_56 rfl ?_
        refine V.locs (loc' := [(5, .int (nI (n + 1))), (4, .int (wS L M e (gi M 80 e) (mD M + n) (mW M))), (3, .int (nI n)), (0, .ref 60), (1, .ref (8 + 2 * e)), (2, .int (nI wt))]) [0, 2, 1, 4, 5, 6] rfl ?_
        refine V_eqL (loc' := [(5, .int (nI (n + 1))), (4, .int (wS L M e (gi M 80 e) (mD M + amx (fun k => wS L M e (gi M 80 e) (mD M + k) (mW M)) (n + 1)) (mW M))), (3, .int (nI (amx (fun k => wS L M e (gi M 80 e) (mD M + k) (mW M)) (n + 1)))), (0, .ref 60), (1, .ref (8 + 2 * e)), (2, .int (nI wt))]) ?_ ?_
        · have h0 : ¬ n = 0 := by omega
          first
          | simp only [amx, if_neg h0, if_pos (Int32.not_le.mp c43)]
          | simp only [amx, if_neg h0, if_neg (Int32.not_lt.mpr c43)]
        exact (ihn (by omega) _ hF)
  exact lp 1 (by omega) (Nat.le_refl _)  _ hF
def bmS (L : Nat → List Cl) (M : Hp) (n : Nat) : Int32 := orI (fun e => if gi M 81 e * chS M (allS M) (mW M) < wS L M e (gi M 80 e) (mD M) (mW M) then (1 : Int32) <<< (nI e &&& 31) else 0) n
theorem c_belowMean {l : Launch} {G : GT} {L : Nat → List Cl} {M σ : Hp} (hC : RC L M σ) (hI : Inv L M) : MM l G mP_belowMean 6 0 0 [.ref 60] KA σ (PX (some (.int (bmS L M (mE M)))) σ) := by
  have hR := hC.1
  have hC0 := hC
  have hF : Fz σ σ := Fz.rfl
  refine MM.of (loc := [(0, .ref 60)]) (by decide +kernel) rfl (Nat.le_of_ble_eq_true rfl) ?_
  refine V_iconst (v := 0) dP_belowMean_0 (by decide) ?_
  refine V_istore_n (loc' := [(1, .int 0), (0, .ref 60)]) dP_belowMean_1 (by decide) rfl ?_
  refine V_aload_n dP_belowMean_2 rfl ?_
  refine V_getR (a := 1) dP_belowMean_3 flP_15 k60 rfl (r60_0 hR) ?_
  refine V_aload_n dP_belowMean_6 rfl ?_
  refine V_getR (a := 1) dP_belowMean_7 flP_15 k60 rfl (r60_0 hR) ?_
  refine V_callV (as := []) (rest := [.ref 1]) (bs' := 0) rfl dP_belowMean_10 cmF_allWorlds cvF_allWorlds mlP_111 (Or.inl ⟨_, _, _, _, _, rfl, k1, by decide, rfl⟩) rfl rfl (c_allWorlds hC hI) (by decide) (Nat.le_refl _) (by decide) (Nat.le_of_ble_eq_true rfl) ?_
  rintro _ _ _ ⟨rfl, rfl, rfl⟩ -
  refine V_one ?_
  refine V_callV (as := [.int (allS M)]) (rest := []) (bs' := 0) rfl dP_belowMean_13 cmF_chancesOf cvF_chancesOf mlP_119 (Or.inl ⟨_, _, _, _, _, rfl, k1, by decide, rfl⟩) rfl rfl (c_chancesOf hC hI (allS M)) (by decide) (Nat.le_refl _) (by decide) (Nat.le_of_ble_eq_true rfl) ?_
  rintro _ _ _ ⟨rfl, rfl, rfl⟩ -
  refine V_one ?_
  refine V_istore_n (loc' := [(2, .int (chS M (allS M) (mW M))), (1, .int 0), (0, .ref 60)]) dP_belowMean_16 (by decide) rfl ?_
  refine V_iconst (v := 0) dP_belowMean_17 (by decide) ?_
  refine V_istore_n (loc' := [(3, .int 0), (2, .int (chS M (allS M) (mW M))), (1, .int 0), (0, .ref 60)]) dP_belowMean_18 (by decide) rfl ?_
  refine V.locs (loc' := [(3, .int 0), (2, .int (chS M (allS M) (mW M))), (1, .int 0), (0, .ref 60)]) [0, 1, 2, 3] rfl ?_
  refine V_eqL (loc' := [(3, .int (nI 0)), (2, .int (chS M (allS M) (mW M))), (1, .int (bmS L M 0)), (0, .ref 60)]) ?_ ?_
  · first | rfl | simp
  skip
  have lp : ∀ n : Nat, n ≤ (mE M) → ∀ s : Hp, Fz σ s → V l G mP_belowMean (rmd 6 0 0) (KA.length + 0) 0 19 [(3, .int (nI n)), (2, .int (chS M (allS M) (mW M))), (1, .int (bmS L M n)), (0, .ref 60)] [] KA s (PX (some (.int (bmS L M (mE M)))) σ) := by
    refine lp_up (mE M) ?_ (fun n hn ihn => ?_)
    · skip
      intro s hF
      have hC := hF.rc hC0
      have hR := hC.1
      refine V_iload_n dP_belowMean_19 rfl ?_
      refine V_aload_n dP_belowMean_20 rfl ?_
      refine V_getR (a := 1) dP_belowMean_21 flP_15 k60 rfl (r60_0 hR) ?_
      refine V_getE (x := nI (mE M)) dP_belowMean_24 flP_93 k1 rfl (cE hC hI) ?_
      refine V_icmp_ge (tgt := 69) dP_belowMean_27 rfl (fun _ => ?_) (fun h => absurd h (not_not_intro (nI_le (Nat.le_refl _) (sm9 hI))))
      refine V_iload_n dP_belowMean_69 rfl ?_
      exact V_iret dP_belowMean_70 rfl rfl ⟨rfl, rfl, hF⟩
    · skip
      intro s hF
      have hC := hF.rc hC0
      have hR := hC.1
      refine V_iload_n dP_belowMean_19 rfl ?_
      refine V_aload_n dP_belowMean_20 rfl ?_
      refine V_getR (a := 1) dP_belowMean_21 flP_15 k60 rfl (r60_0 hR) ?_
      refine V_getE (x := nI (mE M)) dP_belowMean_24 flP_93 k1 rfl (cE hC hI) ?_
      refine V_icmp_ge (tgt := 69) dP_belowMean_27 rfl (fun h => absurd h (nI_ge hn (sm9 hI))) (fun _ => ?_)
      refine V_aload_n dP_belowMean_30 rfl ?_
      refine V_getR (a := 1) dP_belowMean_31 flP_15 k60 rfl (r60_0 hR) ?_
      refine V_getR (a := 3) dP_belowMean_34 flP_96 k1 rfl (r1_3 hR) ?_
      refine V_iload_n dP_belowMean_37 rfl ?_
      refine V_aaldN (j := n) (a := 8 + 2 * n) dP_belowMean_38 k3 rfl (lt9 hI hn) (by decide) (rE hR (lt9 hI hn)) ?_
      refine V_astore (loc' := [(4, .ref (8 + 2 * n)), (3, .int (nI n)), (2, .int (chS M (allS M) (mW M))), (1, .int (bmS L M n)), (0, .ref 60)]) dP_belowMean_39 (by decide) rfl ?_
      refine V_aload dP_belowMean_41 rfl ?_
      refine V_getE (x := gi M 81 n) dP_belowMean_43 flP_122 (kE _ (lt9 hI hn)) rfl (eP hC (lt9 hI hn)) ?_
      refine V_iload_n dP_belowMean_46 rfl ?_
      refine V_imul dP_belowMean_47 ?_
      refine V_aload_n dP_belowMean_48 rfl ?_
      refine V_aload dP_belowMean_49 rfl ?_
      refine V_callV (as := [.ref (8 + 2 * n)]) (rest := [.int ((gi M 81 n) * (chS M (allS M) (mW M)))]) (bs' := 0) rfl dP_belowMean_51 cmP_weighedNow cvP_weighedNow mlP_115 (Or.inl ⟨_, _, _, _, _, rfl, k60, by decide, rfl⟩) rfl rfl (c_weighedNow hC hI hn) (by decide) (Nat.le_refl _) (by decide) (Nat.le_of_ble_eq_true rfl) ?_
      rintro _ _ s1 ⟨rfl, rfl, hF1⟩ -
      refine V_one ?_
      have hF := hF.trans hF1
      have hC := hF.rc hC0
      have hR := hC.1
      refine V_icmp_ge (tgt := 63) dP_belowMean_54 rfl (fun c54 => ?_) (fun c54 => ?_)
      · skip
        refine V_iinc (v := nI (n + 1)) (loc' := [(3, .int (nI (n + 1))), (4, .ref (8 + 2 * n)), (2, .int (chS M (allS M) (mW M))), (1, .int (bmS L M n)), (0, .ref 60)]) dP_belowMean_63 rfl (nI_inc n) (by decide) rfl ?_
        refine V_goto (tgt := 19) dP_belowMean_66 rfl ?_
        refine V.locs (loc' := [(3, .int (nI (n + 1))), (2, .int (chS M (allS M) (mW M))), (1, .int (bmS L M n)), (0, .ref 60)]) [0, 2, 3, 4] rfl ?_
        refine V_eqL (loc' := [(3, .int (nI (n + 1))), (2, .int (chS M (allS M) (mW M))), (1, .int (bmS L M (n + 1))), (0, .ref 60)]) ?_ ?_
        · first
          | simp only [bmS, orI, if_pos (Int32.not_le.mp c54)]
          | simp [bmS, orI, Int32.not_lt.mpr c54]
        exact (ihn _ hF)
      · skip
        refine V_iload_n dP_belowMean_57 rfl ?_
        refine V_iconst (v := 1) dP_belowMean_58 (by decide) ?_
        refine V_iload_n dP_belowMean_59 rfl ?_
        refine V_ishl dP_belowMean_60 ?_
        refine V_ior dP_belowMean_61 ?_
        refine V_istore_n (loc' := [(1, .int ((bmS L M n) ||| (1 <<< ((nI n) &&& 31)))), (4, .ref (8 + 2 * n)), (3, .int (nI n)), (2, .int (chS M (allS M) (mW M))), (0, .ref 60)]) dP_belowMean_62 (by decide) rfl ?_
        refine V_iinc (v := nI (n + 1)) (loc' := [(3, .int (nI (n + 1))), (1, .int ((bmS L M n) ||| (1 <<< ((nI n) &&& 31)))), (4, .ref (8 + 2 * n)), (2, .int (chS M (allS M) (mW M))), (0, .ref 60)]) dP_belowMean_63 rfl (nI_inc n) (by decide) rfl ?_
        refine V_goto (tgt := 19) dP_belowMean_66 rfl ?_
        refine V.locs (loc' := [(3, .int (nI (n + 1))), (2, .int (chS M (allS M) (mW M))), (1, .int ((bmS L M n) ||| (1 <<< ((nI n) &&& 31)))), (0, .ref 60)]) [0, 3, 1, 4] rfl ?_
        refine V_eqL (loc' := [(3, .int (nI (n + 1))), (2, .int (chS M (allS M) (mW M))), (1, .int (bmS L M (n + 1))), (0, .ref 60)]) ?_ ?_
        · first
          | simp only [bmS, orI, if_pos (Int32.not_le.mp c54)]
          | simp [bmS, orI, Int32.not_lt.mpr c54]
        exact (ihn _ hF)
  exact lp 0 (Nat.zero_le _) _ hF
def paS (L : Nat → List Cl) (M : Hp) (e : Nat) (x : Int32) (n : Nat) : Bool := anyB (fun w => decide (¬ payS L M e w < x)) n
def PZX (P : Prop) (σ : Hp) : Option Value → List Kd → Hp → Prop := fun r k s => (P ∧ r = some (.int 1) ∧ KA = k ∧ Fz σ s) ∨ (¬ P ∧ r = some (.int 0) ∧ KA = k ∧ Fz σ s)
theorem c_paysAtLeast {l : Launch} {G : GT} {L : Nat → List Cl} {M σ : Hp} (hC : RC L M σ) (hI : Inv L M) {e : Nat} (he : e < mE M) (x : Int32) : MM l G mP_paysAtLeast 5 0 0 [.ref 60, .ref (8 + 2 * e), .int x] KA σ (PZX (paS L M e x (mW M) = true) σ) := by
  have hR := hC.1
  have hC0 := hC
  have hF : Fz σ σ := Fz.rfl
  refine MM.of (loc := [(0, .ref 60), (1, .ref (8 + 2 * e)), (2, .int x)]) (by decide +kernel) rfl (Nat.le_of_ble_eq_true rfl) ?_
  refine V_iconst (v := 0) dP_paysAtLeast_0 (by decide) ?_
  refine V_istore_n (loc' := [(3, .int 0), (0, .ref 60), (1, .ref (8 + 2 * e)), (2, .int x)]) dP_paysAtLeast_1 (by decide) rfl ?_
  refine V.locs (loc' := [(3, .int 0), (0, .ref 60), (1, .ref (8 + 2 * e)), (2, .int x)]) [0, 1, 2, 3] rfl ?_
  refine V_eqL (loc' := [(3, .int (nI 0)), (0, .ref 60), (1, .ref (8 + 2 * e)), (2, .int x)]) ?_ ?_
  · rfl
  skip
  have lp : ∀ n : Nat, n ≤ (mW M) → paS L M e x n = false → ∀ s : Hp, Fz σ s → V l G mP_paysAtLeast (rmd 5 0 0) (KA.length + 0) 0 2 [(3, .int (nI n)), (0, .ref 60), (1, .ref (8 + 2 * e)), (2, .int x)] [] KA s (PZX (paS L M e x (mW M) = true) σ) := by
    refine lp_up (mW M) ?_ (fun n hn ihn => ?_)
    · skip
      intro hN
      intro s hF
      have hC := hF.rc hC0
      have hR := hC.1
      refine V_iload_n dP_paysAtLeast_2 rfl ?_
      refine V_aload_n dP_paysAtLeast_3 rfl ?_
      refine V_getR (a := 1) dP_paysAtLeast_4 flP_15 k60 rfl (r60_0 hR) ?_
      refine V_getE (x := nI (mW M)) dP_paysAtLeast_7 flP_104 k1 rfl (cW hC hI) ?_
      refine V_icmp_ge (tgt := 31) dP_paysAtLeast_10 rfl (fun _ => ?_) (fun h => absurd h (not_not_intro (nI_le (Nat.le_refl _) (sm7 hI))))
      refine V_iconst (v := 0) dP_paysAtLeast_31 (by decide) ?_
      exact V_zret dP_paysAtLeast_32 rfl rfl rfl (Or.inr ⟨by rw [hN]; decide, rfl, rfl, hF⟩)
    · skip
      intro hN
      intro s hF
      have hC := hF.rc hC0
      have hR := hC.1
      refine V_iload_n dP_paysAtLeast_2 rfl ?_
      refine V_aload_n dP_paysAtLeast_3 rfl ?_
      refine V_getR (a := 1) dP_paysAtLeast_4 flP_15 k60 rfl (r60_0 hR) ?_
      refine V_getE (x := nI (mW M)) dP_paysAtLeast_7 flP_104 k1 rfl (cW hC hI) ?_
      refine V_icmp_ge (tgt := 31) dP_paysAtLeast_10 rfl (fun h => absurd h (nI_ge hn (sm7 hI))) (fun _ => ?_)
      refine V_aload_n dP_paysAtLeast_13 rfl ?_
      refine V_aload_n dP_paysAtLeast_14 rfl ?_
      refine V_iload_n dP_paysAtLeast_15 rfl ?_
      refine V_callV (as := [.ref (8 + 2 * e), .int (nI n)]) (rest := []) (bs' := 0) rfl dP_paysAtLeast_16 cmP_payNow cvP_payNow mlP_100 (Or.inl ⟨_, _, _, _, _, rfl, k60, by decide, rfl⟩) rfl rfl (c_payNow hC hI he hn) (by decide) (Nat.le_refl _) (by decide) (Nat.le_of_ble_eq_true rfl) ?_
      rintro _ _ s1 ⟨rfl, rfl, hF1⟩ -
      refine V_one ?_
      have hF := hF.trans hF1
      have hC := hF.rc hC0
      have hR := hC.1
      refine V_iload_n dP_paysAtLeast_19 rfl ?_
      refine V_icmp_lt (tgt := 25) dP_paysAtLeast_20 rfl (fun c20 => ?_) (fun c20 => ?_)
      · skip
        refine V_iinc (v := nI (n + 1)) (loc' := [(3, .int (nI (n + 1))), (0, .ref 60), (1, .ref (8 + 2 * e)), (2, .int x)]) dP_paysAtLeast_25 rfl (nI_inc n) (by decide) rfl ?_
        refine V_goto (tgt := 2) dP_paysAtLeast_28 rfl ?_
        refine V.locs (loc' := [(3, .int (nI (n + 1))), (0, .ref 60), (1, .ref (8 + 2 * e)), (2, .int x)]) [0, 1, 2, 3] rfl ?_
        exact (ihn (by unfold paS anyB; rw [show anyB _ n = false from hN, Bool.false_or]; exact decide_eq_false (not_not_intro c20)) _ hF)
      · skip
        refine V_iconst (v := 1) dP_paysAtLeast_23 (by decide) ?_
        exact V_zret dP_paysAtLeast_24 rfl rfl rfl (Or.inl ⟨anyB_t (k := n) (decide_eq_true c20) _ hn, rfl, rfl, hF⟩)
  exact lp 0 (Nat.zero_le _) rfl  _ hF
def crS (L : Nat → List Cl) (M : Hp) (x : Int32) (n : Nat) : Int32 := sumI (fun e => if paS L M e x (mW M) = true then 1 else 0) n
theorem c_payingAtLeast {l : Launch} {G : GT} {L : Nat → List Cl} {M σ : Hp} (hC : RC L M σ) (hI : Inv L M) (x : Int32) : MM l G mP_payingAtLeast 6 0 0 [.ref 60, .int x] KA σ (PX (some (.int (crS L M x (mE M)))) σ) := by
  have hR := hC.1
  have hC0 := hC
  have hF : Fz σ σ := Fz.rfl
  refine MM.of (loc := [(0, .ref 60), (1, .int x)]) (by decide +kernel) rfl (Nat.le_of_ble_eq_true rfl) ?_
  refine V_iconst (v := 0) dP_payingAtLeast_0 (by decide) ?_
  refine V_istore_n (loc' := [(2, .int 0), (0, .ref 60), (1, .int x)]) dP_payingAtLeast_1 (by decide) rfl ?_
  refine V_iconst (v := 0) dP_payingAtLeast_2 (by decide) ?_
  refine V_istore_n (loc' := [(3, .int 0), (2, .int 0), (0, .ref 60), (1, .int x)]) dP_payingAtLeast_3 (by decide) rfl ?_
  refine V.locs (loc' := [(3, .int 0), (2, .int 0), (0, .ref 60), (1, .int x)]) [0, 1, 2, 3] rfl ?_
  refine V_eqL (loc' := [(3, .int (nI 0)), (2, .int (crS L M x 0)), (0, .ref 60), (1, .int x)]) ?_ ?_
  · first | rfl | simp
  skip
  have lp : ∀ n : Nat, n ≤ (mE M) → ∀ s : Hp, Fz σ s → V l G mP_payingAtLeast (rmd 6 0 0) (KA.length + 0) 0 4 [(3, .int (nI n)), (2, .int (crS L M x n)), (0, .ref 60), (1, .int x)] [] KA s (PX (some (.int (crS L M x (mE M)))) σ) := by
    refine lp_up (mE M) ?_ (fun n hn ihn => ?_)
    · skip
      intro s hF
      have hC := hF.rc hC0
      have hR := hC.1
      refine V_iload_n dP_payingAtLeast_4 rfl ?_
      refine V_aload_n dP_payingAtLeast_5 rfl ?_
      refine V_getR (a := 1) dP_payingAtLeast_6 flP_15 k60 rfl (r60_0 hR) ?_
      refine V_getE (x := nI (mE M)) dP_payingAtLeast_9 flP_93 k1 rfl (cE hC hI) ?_
      refine V_icmp_ge (tgt := 41) dP_payingAtLeast_12 rfl (fun _ => ?_) (fun h => absurd h (not_not_intro (nI_le (Nat.le_refl _) (sm9 hI))))
      refine V_iload_n dP_payingAtLeast_41 rfl ?_
      exact V_iret dP_payingAtLeast_42 rfl rfl ⟨rfl, rfl, hF⟩
    · skip
      intro s hF
      have hC := hF.rc hC0
      have hR := hC.1
      refine V_iload_n dP_payingAtLeast_4 rfl ?_
      refine V_aload_n dP_payingAtLeast_5 rfl ?_
      refine V_getR (a := 1) dP_payingAtLeast_6 flP_15 k60 rfl (r60_0 hR) ?_
      refine V_getE (x := nI (mE M)) dP_payingAtLeast_9 flP_93 k1 rfl (cE hC hI) ?_
      refine V_icmp_ge (tgt := 41) dP_payingAtLeast_12 rfl (fun h => absurd h (nI_ge hn (sm9 hI))) (fun _ => ?_)
      refine V_aload_n dP_payingAtLeast_15 rfl ?_
      refine V_aload_n dP_payingAtLeast_16 rfl ?_
      refine V_getR (a := 1) dP_payingAtLeast_17 flP_15 k60 rfl (r60_0 hR) ?_
      refine V_getR (a := 3) dP_payingAtLeast_20 flP_96 k1 rfl (r1_3 hR) ?_
      refine V_iload_n dP_payingAtLeast_23 rfl ?_
      refine V_aaldN (j := n) (a := 8 + 2 * n) dP_payingAtLeast_24 k3 rfl (lt9 hI hn) (by decide) (rE hR (lt9 hI hn)) ?_
      refine V_iload_n dP_payingAtLeast_25 rfl ?_
      refine V_callV (as := [.ref (8 + 2 * n), .int x]) (rest := []) (bs' := 0) rfl dP_payingAtLeast_26 cmP_paysAtLeast cvP_paysAtLeast mlP_125 (Or.inl ⟨_, _, _, _, _, rfl, k60, by decide, rfl⟩) rfl rfl (c_paysAtLeast hC hI hn x) (by decide) (Nat.le_refl _) (by decide) (Nat.le_of_ble_eq_true rfl) ?_
      rintro _ _ s1 (⟨hb, rfl, rfl, hF1⟩ | ⟨hb, rfl, rfl, hF1⟩) -
      · refine V_one ?_
        have hF := hF.trans hF1
        have hC := hF.rc hC0
        have hR := hC.1
        refine V_if_eq (tgt := 35) dP_payingAtLeast_29 rfl (fun h => absurd h (by decide)) (fun _ => ?_)
        refine V_iinc (v := (crS L M x n) + 1) (loc' := [(2, .int ((crS L M x n) + 1)), (3, .int (nI n)), (0, .ref 60), (1, .int x)]) dP_payingAtLeast_32 rfl (by rfl) (by decide) rfl ?_
        refine V_iinc (v := nI (n + 1)) (loc' := [(3, .int (nI (n + 1))), (2, .int ((crS L M x n) + 1)), (0, .ref 60), (1, .int x)]) dP_payingAtLeast_35 rfl (nI_inc n) (by decide) rfl ?_
        refine V_goto (tgt := 4) dP_payingAtLeast_38 rfl ?_
        refine V.locs (loc' := [(3, .int (nI (n + 1))), (2, .int ((crS L M x n) + 1)), (0, .ref 60), (1, .int x)]) [0, 1, 2, 3] rfl ?_
        refine V_eqL (loc' := [(3, .int (nI (n + 1))), (2, .int (crS L M x (n + 1))), (0, .ref 60), (1, .int x)]) ?_ ?_
        · simp [crS, sumI, hb]
        exact (ihn _ hF)
      · refine V_one ?_
        have hF := hF.trans hF1
        have hC := hF.rc hC0
        have hR := hC.1
        refine V_if_eq (tgt := 35) dP_payingAtLeast_29 rfl (fun _ => ?_) (fun h => absurd h (by decide))
        refine V_iinc (v := nI (n + 1)) (loc' := [(3, .int (nI (n + 1))), (2, .int (crS L M x n)), (0, .ref 60), (1, .int x)]) dP_payingAtLeast_35 rfl (nI_inc n) (by decide) rfl ?_
        refine V_goto (tgt := 4) dP_payingAtLeast_38 rfl ?_
        refine V.locs (loc' := [(3, .int (nI (n + 1))), (2, .int (crS L M x n)), (0, .ref 60), (1, .int x)]) [0, 1, 2, 3] rfl ?_
        refine V_eqL (loc' := [(3, .int (nI (n + 1))), (2, .int (crS L M x (n + 1))), (0, .ref 60), (1, .int x)]) ?_ ?_
        · simp [crS, sumI, hb]
        exact (ihn _ hF)
  exact lp 0 (Nat.zero_le _) _ hF
def mB (M : Hp) : Nat := cN (gi M 76 33)
def loB (L : Nat → List Cl) (M : Hp) (n : Nat) : Bool := decide (¬ payS L M (cN (gi M 97 n)) (cN (gi M 98 n)) = gi M 99 n)
theorem iB {L : Nat → List Cl} {M : Hp} (hI : Inv L M) : gi M 76 33 = nI (mB M) ∧ mB M < 9 := hI.2.1.2.2.2.2.2.2.1
theorem iBk {L : Nat → List Cl} {M : Hp} (hI : Inv L M) {n : Nat} (h : n < mB M) : (gi M 97 n = nI (cN (gi M 97 n)) ∧ cN (gi M 97 n) < mE M) ∧ (gi M 98 n = nI (cN (gi M 98 n)) ∧ cN (gi M 98 n) < mW M) ∧ isN (gi M 99 n) 10000 := hI.2.1.2.2.2.2.2.2.2.2.2.2 n h
theorem c_firstOtherwise {l : Launch} {G : GT} {L : Nat → List Cl} {M σ : Hp} (hC : RC L M σ) (hI : Inv L M) : MM l G mP_firstOtherwise 6 0 0 [.ref 60] KA σ (PX (some (.int (if firstN (loB L M) (mB M) < mB M then nI (firstN (loB L M) (mB M)) else -5))) σ) := by
  have hR := hC.1
  have hC0 := hC
  have hF : Fz σ σ := Fz.rfl
  refine MM.of (loc := [(0, .ref 60)]) (by decide +kernel) rfl (Nat.le_of_ble_eq_true rfl) ?_
  refine V_aload_n dP_firstOtherwise_0 rfl ?_
  refine V_getR (a := 1) dP_firstOtherwise_1 flP_15 k60 rfl (r60_0 hR) ?_
  refine V_getR (a := 6) dP_firstOtherwise_4 flP_129 k1 rfl (r1_8 hR) ?_
  refine V_astore_n (loc' := [(1, .ref 6), (0, .ref 60)]) dP_firstOtherwise_7 (by decide) rfl ?_
  refine V_iconst (v := 0) dP_firstOtherwise_8 (by decide) ?_
  refine V_istore_n (loc' := [(2, .int 0), (1, .ref 6), (0, .ref 60)]) dP_firstOtherwise_9 (by decide) rfl ?_
  refine V.locs (loc' := [(2, .int 0), (1, .ref 6), (0, .ref 60)]) [0, 1, 2] rfl ?_
  refine V_eqL (loc' := [(2, .int (nI 0)), (1, .ref 6), (0, .ref 60)]) ?_ ?_
  · rfl
  skip
  have lp : ∀ n : Nat, n ≤ (mB M) → firstN (loB L M) n = n → ∀ s : Hp, Fz σ s → V l G mP_firstOtherwise (rmd 6 0 0) (KA.length + 0) 0 10 [(2, .int (nI n)), (1, .ref 6), (0, .ref 60)] [] KA s (PX (some (.int (if firstN (loB L M) (mB M) < mB M then nI (firstN (loB L M) (mB M)) else -5))) σ) := by
    refine lp_up (mB M) ?_ (fun n hn ihn => ?_)
    · skip
      intro hN
      intro s hF
      have hC := hF.rc hC0
      have hR := hC.1
      refine V_iload_n dP_firstOtherwise_10 rfl ?_
      refine V_aload_n dP_firstOtherwise_11 rfl ?_
      refine V_getE (x := nI (mB M)) dP_firstOtherwise_12 flP_133 k6 rfl ((hC.2.1 6 0 76 33 rfl).trans (iB hI).1) ?_
      refine V_icmp_ge (tgt := 80) dP_firstOtherwise_15 rfl (fun _ => ?_) (fun h => absurd h (not_not_intro (nI_le (Nat.le_refl _) (by have := (iB hI).2; omega))))
      refine V_bipush (v := -5) dP_firstOtherwise_80 (by decide) ?_
      exact V_iret dP_firstOtherwise_82 rfl rfl ⟨by rw [hN, if_neg (by omega)], rfl, hF⟩
    · skip
      intro hN
      intro s hF
      have hC := hF.rc hC0
      have hR := hC.1
      refine V_iload_n dP_firstOtherwise_10 rfl ?_
      refine V_aload_n dP_firstOtherwise_11 rfl ?_
      refine V_getE (x := nI (mB M)) dP_firstOtherwise_12 flP_133 k6 rfl ((hC.2.1 6 0 76 33 rfl).trans (iB hI).1) ?_
      refine V_icmp_ge (tgt := 80) dP_firstOtherwise_15 rfl (fun h => absurd h (nI_ge hn (by have := (iB hI).2; omega))) (fun _ => ?_)
      have h8 : n < 8 := by have := (iB hI).2; omega
      refine V_aload_n dP_firstOtherwise_18 rfl ?_
      refine V_getR (a := 1) dP_firstOtherwise_19 flP_15 k60 rfl (r60_0 hR) ?_
      refine V_aload_n dP_firstOtherwise_22 rfl ?_
      refine V_iload_n dP_firstOtherwise_23 rfl ?_
      refine V_iconst (v := 0) dP_firstOtherwise_24 (by decide) ?_
      refine V_callV (as := [.int (nI n), .int 0]) (rest := [.ref 1]) (bs' := 0) rfl dP_firstOtherwise_25 cmW_cell cvW_cell mlP_138 (Or.inl ⟨_, _, _, _, _, rfl, k6, by decide, rfl⟩) rfl rfl (c_cell6 hR (n := n) (c := 0) (by have := (iB hI).2; omega) (by decide)) (by decide) (Nat.le_refl _) (by decide) (Nat.le_of_ble_eq_true rfl) ?_
      rintro _ _ _ ⟨rfl, rfl, rfl⟩ -
      refine V_one ?_
      refine V_topI (x' := nI (cN (gi M 97 n))) ((hC.2.1 _ _ _ _ (mpB n h8).1).trans (iBk hI hn).1.1) ?_
      refine V_callV (as := [.int (nI (cN (gi M 97 n)))]) (rest := []) (bs' := 0) rfl dP_firstOtherwise_28 cmF_find cvF_find mlP_141 (Or.inl ⟨_, _, _, _, _, rfl, k1, by decide, rfl⟩) rfl rfl (c_find1 hC hI (cN (gi M 97 n)) (iBk hI hn).1.2 rfl) (by decide) (Nat.le_refl _) (by decide) (Nat.le_of_ble_eq_true rfl) ?_
      rintro _ _ _ ⟨rfl, rfl, rfl⟩ -
      refine V_one ?_
      refine V_astore_n (loc' := [(3, .ref (8 + 2 * cN (gi M 97 n))), (2, .int (nI n)), (1, .ref 6), (0, .ref 60)]) dP_firstOtherwise_31 (by decide) rfl ?_
      refine V_aload_n dP_firstOtherwise_32 rfl ?_
      refine V_iload_n dP_firstOtherwise_33 rfl ?_
      refine V_iconst (v := 1) dP_firstOtherwise_34 (by decide) ?_
      refine V_callV (as := [.int (nI n), .int 1]) (rest := []) (bs' := 0) rfl dP_firstOtherwise_35 cmW_cell cvW_cell mlP_138 (Or.inl ⟨_, _, _, _, _, rfl, k6, by decide, rfl⟩) rfl rfl (c_cell6 hR (n := n) (c := 1) (by have := (iB hI).2; omega) (by decide)) (by decide) (Nat.le_refl _) (by decide) (Nat.le_of_ble_eq_true rfl) ?_
      rintro _ _ _ ⟨rfl, rfl, rfl⟩ -
      refine V_one ?_
      refine V_topI (x' := nI (cN (gi M 98 n))) ((hC.2.1 _ _ _ _ (mpB n h8).2.1).trans (iBk hI hn).2.1.1) ?_
      refine V_istore (loc' := [(4, .int (nI (cN (gi M 98 n)))), (3, .ref (8 + 2 * cN (gi M 97 n))), (2, .int (nI n)), (1, .ref 6), (0, .ref 60)]) dP_firstOtherwise_38 (by decide) rfl ?_
      refine V_aload_n dP_firstOtherwise_40 rfl ?_
      refine V_ifnull dP_firstOtherwise_41 ?_
      refine V_aload_n dP_firstOtherwise_44 rfl ?_
      refine V_getR (a := 1) dP_firstOtherwise_45 flP_15 k60 rfl (r60_0 hR) ?_
      refine V_iload dP_firstOtherwise_48 rfl ?_
      refine V_callV (as := [.int (nI (cN (gi M 98 n)))]) (rest := []) (bs' := 0) rfl dP_firstOtherwise_50 cmF_hasWorld cvF_hasWorld mlP_145 (Or.inl ⟨_, _, _, _, _, rfl, k1, by decide, rfl⟩) rfl rfl (c_hasWorld hC hI (nI (cN (gi M 98 n)))) (by decide) (Nat.le_refl _) (by decide) (Nat.le_of_ble_eq_true rfl) ?_
      rintro _ _ _ (⟨hb, rfl, rfl, rfl⟩ | ⟨hb, rfl, rfl, rfl⟩) -
      · refine V_one ?_
        refine V_if_eq (tgt := 74) dP_firstOtherwise_53 rfl (fun h => absurd h (by decide)) (fun _ => ?_)
        refine V_aload_n dP_firstOtherwise_56 rfl ?_
        refine V_aload_n dP_firstOtherwise_57 rfl ?_
        refine V_iload dP_firstOtherwise_58 rfl ?_
        refine V_callV (as := [.ref (8 + 2 * cN (gi M 97 n)), .int (nI (cN (gi M 98 n)))]) (rest := []) (bs' := 0) rfl dP_firstOtherwise_60 cmP_payNow cvP_payNow mlP_100 (Or.inl ⟨_, _, _, _, _, rfl, k60, by decide, rfl⟩) rfl rfl (c_payNow hC hI (iBk hI hn).1.2 (iBk hI hn).2.1.2) (by decide) (Nat.le_refl _) (by decide) (Nat.le_of_ble_eq_true rfl) ?_
        rintro _ _ s1 ⟨rfl, rfl, hF1⟩ -
        refine V_one ?_
        have hF := hF.trans hF1
        have hC := hF.rc hC0
        have hR := hC.1
        refine V_aload_n dP_firstOtherwise_63 rfl ?_
        refine V_iload_n dP_firstOtherwise_64 rfl ?_
        refine V_iconst (v := 2) dP_firstOtherwise_65 (by decide) ?_
        refine V_callV (as := [.int (nI n), .int 2]) (rest := [.int (payS L M (cN (gi M 97 n)) (cN (gi M 98 n)))]) (bs' := 0) rfl dP_firstOtherwise_66 cmW_cell cvW_cell mlP_138 (Or.inl ⟨_, _, _, _, _, rfl, k6, by decide, rfl⟩) rfl rfl (c_cell6 hR (n := n) (c := 2) (by have := (iB hI).2; omega) (by decide)) (by decide) (Nat.le_refl _) (by decide) (Nat.le_of_ble_eq_true rfl) ?_
        rintro _ _ _ ⟨rfl, rfl, rfl⟩ -
        refine V_one ?_
        refine V_topI (x' := gi M 99 n) (hC.2.1 _ _ _ _ (mpB n h8).2.2) ?_
        refine V_icmp_eq (tgt := 74) dP_firstOtherwise_69 rfl (fun c69 => ?_) (fun c69 => ?_)
        · skip
          refine V_iinc (v := nI (n + 1)) (loc' := [(2, .int (nI (n + 1))), (4, .int (nI (cN (gi M 98 n)))), (3, .ref (8 + 2 * cN (gi M 97 n))), (1, .ref 6), (0, .ref 60)]) dP_firstOtherwise_74 rfl (nI_inc n) (by decide) rfl ?_
          refine V_goto (tgt := 10) dP_firstOtherwise_77 rfl ?_
          refine V.locs (loc' := [(2, .int (nI (n + 1))), (1, .ref 6), (0, .ref 60)]) [0, 3, 4] rfl ?_
          exact (ihn (firstN_s hN (by first | exact decide_eq_false (not_not_intro c69) | exact absurd (rng_n (iBk hI hn).2.1.2 (sm7 hI)) hb)) _ hF)
        · skip
          refine V_iload_n dP_firstOtherwise_72 rfl ?_
          exact V_iret dP_firstOtherwise_73 rfl rfl ⟨by rw [firstN_t hN (decide_eq_true c69) _ hn, if_pos hn], rfl, hF⟩
      · refine V_one ?_
        refine V_if_eq (tgt := 74) dP_firstOtherwise_53 rfl (fun _ => ?_) (fun h => absurd h (by decide))
        refine V_iinc (v := nI (n + 1)) (loc' := [(2, .int (nI (n + 1))), (4, .int (nI (cN (gi M 98 n)))), (3, .ref (8 + 2 * cN (gi M 97 n))), (1, .ref 6), (0, .ref 60)]) dP_firstOtherwise_74 rfl (nI_inc n) (by decide) rfl ?_
        refine V_goto (tgt := 10) dP_firstOtherwise_77 rfl ?_
        refine V.locs (loc' := [(2, .int (nI (n + 1))), (1, .ref 6), (0, .ref 60)]) [0, 3, 4] rfl ?_
        exact (ihn (firstN_s hN (by first | exact decide_eq_false (not_not_intro c69) | exact absurd (rng_n (iBk hI hn).2.1.2 (sm7 hI)) hb)) _ hF)
  exact lp 0 (Nat.zero_le _) rfl  _ hF
