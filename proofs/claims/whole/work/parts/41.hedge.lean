/-! hedge -/
def inI (x : Int32) (a b : Int) : Prop := a ≤ x.toInt ∧ x.toInt ≤ b
theorem gn_b {L : Nat → List Cl} {M : Hp} (hI : Inv L M) (set : Int32) {w : Nat} (hw : w < mW M) : ∀ n, n ≤ mE M → inI (gnS L M set w n) (-100 * (n : Int)) (30000 * (n : Int))
  | 0, _ => by
    unfold gnS sumI inI
    decide
  | n + 1, hn => by
    have h8 := (iE hI).2
    have ih := gn_b hI set hw n (by omega)
    have hp := (pay_b hI (e := n) (by omega) hw).toInt (by decide)
    have hq := (isB.of (hI.2.1.2.2.2.2.2.2.2.2.1 n (show n < mE M by omega)).2.2.2.1 : isB (gi M 81 n) 99).toInt (by decide)
    have hd : inI (if hasB set (nI n) then payS L M n w - gi M 81 n else 0) (-100) 30000 := by
      split
      · unfold inI
        rw [sub_toInt (by omega) (by omega)]
        omega
      · unfold inI
        decide
    have e : gnS L M set w (n + 1) = gnS L M set w n + (if hasB set (nI n) then payS L M n w - gi M 81 n else 0) := rfl
    rw [e]
    unfold inI at *
    rw [add_toInt (by omega) (by omega)]
    push_cast
    omega
theorem minF_b {f : Nat → Int32} {a b : Int} (h0 : a ≤ 0 ∧ 0 ≤ b) : ∀ n, (∀ k, k < n → inI (f k) a b) → inI (minF f n) a b
  | 0, _ => by
    unfold minF inI
    exact h0
  | n + 1, h => by
    have ih := minF_b h0 n (fun k hk => h k (by omega))
    unfold minF
    split
    · next e => exact h 0 (by omega)
    · unfold minI
      split
      · exact h n (by omega)
      · exact ih
theorem maxF_b {f : Nat → Int32} {a b : Int} (h0 : a ≤ 0 ∧ 0 ≤ b) : ∀ n, (∀ k, k < n → inI (f k) a b) → inI (maxF f n) a b
  | 0, _ => by
    unfold maxF inI
    exact h0
  | n + 1, h => by
    have ih := maxF_b h0 n (fun k hk => h k (by omega))
    unfold maxF
    split
    · next e => exact h 0 (by omega)
    · unfold maxI
      split
      · exact h n (by omega)
      · exact ih
def prB (e o : Nat) : Int32 := ((1 : Int32) <<< (nI e &&& 31)) ||| ((1 : Int32) <<< (nI o &&& 31))
def spS (L : Nat → List Cl) (M : Hp) (e o : Nat) : Int32 := mstS L M (prB e o) - lstS L M (prB e o)
theorem sp_b {L : Nat → List Cl} {M : Hp} (hI : Inv L M) (e o : Nat) : spS L M e o < 2147483647 := by
  have h8 := (iE hI).2
  have hg : ∀ k, k < mW M → inI (gnS L M (prB e o) k (mE M)) (-1000) 300000 := fun k hk => by
    have := gn_b hI (prB e o) hk (mE M) (Nat.le_refl _)
    unfold inI at *
    omega
  have h1 : inI (mstS L M (prB e o)) (-1000) 300000 := maxF_b (by omega) _ hg
  have h2 : inI (lstS L M (prB e o)) (-1000) 300000 := minF_b (by omega) _ hg
  unfold inI at h1 h2
  rw [Int32.lt_iff_toInt_lt]
  unfold spS
  rw [sub_toInt (by omega) (by omega)]
  have e1 : (2147483647 : Int32).toInt = 2147483647 := rfl
  omega
def hdS (L : Nat → List Cl) (M : Hp) (q : Int32 × Int32) (e o : Nat) : Int32 × Int32 := if spS L M e o < q.2 then (10 * nI e + nI o, spS L M e o) else q
def hdIn (L : Nat → List Cl) (M : Hp) (e : Nat) (q : Int32 × Int32) : Nat → Int32 × Int32
  | 0 => q
  | o + 1 => if e < o then hdS L M (hdIn L M e q o) e o else hdIn L M e q o
def hdOut (L : Nat → List Cl) (M : Hp) : Nat → Int32 × Int32
  | 0 => (-5, 2147483647)
  | e + 1 => hdIn L M e (hdOut L M e) (mE M)
theorem hdIn_0 {L : Nat → List Cl} {M : Hp} {e : Nat} {q : Int32 × Int32} : ∀ o, o ≤ e + 1 → hdIn L M e q o = q
  | 0, _ => rfl
  | o + 1, h => by
    unfold hdIn
    rw [if_neg (by omega)]
    exact hdIn_0 o (by omega)
theorem hdIn_t {L : Nat → List Cl} {M : Hp} {e o : Nat} {q : Int32 × Int32} (h : e < o) (c : spS L M e o < (hdIn L M e q o).2) : hdIn L M e q (o + 1) = (10 * nI e + nI o, spS L M e o) := by
  show (if e < o then hdS L M (hdIn L M e q o) e o else hdIn L M e q o) = _
  rw [if_pos h]
  exact if_pos c
theorem hdIn_k {L : Nat → List Cl} {M : Hp} {e o : Nat} {q : Int32 × Int32} (h : e < o) (c : ¬ spS L M e o < (hdIn L M e q o).2) : hdIn L M e q (o + 1) = hdIn L M e q o := by
  show (if e < o then hdS L M (hdIn L M e q o) e o else hdIn L M e q o) = _
  rw [if_pos h]
  exact if_neg c
def HQ (q : Int32 × Int32) : Prop := q.1 < 0 → q.2 = 2147483647
theorem p10 {e o : Nat} (he : e < 8) (ho : o < 8) : ¬ (10 * nI e + nI o < 0) := by
  rw [show (10 : Int32) = nI 10 from rfl, pk_mul, nI_add]
  exact nI_pos (by omega)
theorem HQ_in {L : Nat → List Cl} {M : Hp} {e : Nat} {q : Int32 × Int32} (he : e < 8) (hq : HQ q) : ∀ o, o ≤ 8 → HQ (hdIn L M e q o)
  | 0, _ => hq
  | o + 1, h => by
    by_cases h1 : e < o
    · by_cases c : spS L M e o < (hdIn L M e q o).2
      · rw [hdIn_t h1 c]
        exact fun z => absurd z (p10 he (by omega))
      · rw [hdIn_k h1 c]
        exact HQ_in he hq o (by omega)
    · unfold hdIn
      rw [if_neg h1]
      exact HQ_in he hq o (by omega)
theorem HQ_out {L : Nat → List Cl} {M : Hp} (hI : Inv L M) : ∀ e, e ≤ mE M → HQ (hdOut L M e)
  | 0, _ => fun _ => rfl
  | e + 1, h => HQ_in (lt9 hI h) (HQ_out hI e (by omega)) _ (by have := (iE hI).2; omega)
/-- the second object's best so far -/
def mb (q : Int32 × Int32) : Int32 := if q.1 < 0 then 0 else q.2
def q_hedge (L : Nat → List Cl) (M : Hp) : Int32 × Hp := if mW M = 0 then (-5, M) else ((hdOut L M (mE M)).1, M)
theorem hd_few {L : Nat → List Cl} {M : Hp} (h : mE M < 2) : (hdOut L M (mE M)).1 = -5 := by
  have h1 : mE M = 0 ∨ mE M = 1 := by omega
  rcases h1 with e | e
  · rw [e]; rfl
  · rw [e]
    show (hdIn L M 0 (hdOut L M 0) (mE M)).1 = -5
    rw [e, hdIn_0 1 (by omega)]
    rfl
theorem hd_a {L : Nat → List Cl} {M : Hp} {e o : Nat} {q : Int32 × Int32} (he : e < 8) (ho : o < 8) (h : e < o) (c : spS L M e o < (hdIn L M e q o).2) : (hdIn L M e q (o + 1)).1 = 10 * nI e + nI o ∧ mb (hdIn L M e q (o + 1)) = spS L M e o := by
  rw [hdIn_t h c]
  exact ⟨rfl, if_neg (p10 he ho)⟩
theorem hd_b {L : Nat → List Cl} {M : Hp} (hI : Inv L M) {e o : Nat} {q : Int32 × Int32} (hq : HQ (hdIn L M e q o)) (c : (hdIn L M e q o).1 < 0) : spS L M e o < (hdIn L M e q o).2 := by
  rw [hq c]
  exact sp_b hI e o
theorem mb_n {q : Int32 × Int32} (h : ¬ q.1 < 0) : mb q = q.2 := if_neg h
theorem c_closestTwo {l : Launch} {G : GT} {L : Nat → List Cl} {M σ : Hp} (hC : RC L M σ) (hI : Inv L M) (hQ : GN L M σ) (h1 : 1 ≤ mW M) : MM l G mS_closestTwo 4 0 0 [.ref 62] KA σ (PE (some (.int (hdOut L M (mE M)).1)) KA σ) := by
  have hR := hC.1
  refine MM.of (loc := [(0, .ref 62)]) (by decide +kernel) rfl (Nat.le_of_ble_eq_true rfl) ?_
  have lp : ∀ n : Nat, n ≤ mE M → V l G mS_closestTwo (rmd 4 0 0) (KA.length + 0) 0 8 [(3, .int (nI n)), (2, .int ((hdOut L M n).2)), (1, .int ((hdOut L M n).1)), (0, .ref 62)] [] KA σ (PE (some (.int (hdOut L M (mE M)).1)) KA σ) := by
    refine lp_up (mE M) ?_ (fun n hn ih => ?_)
    · skip
      refine V_iload_n dS_closestTwo_8 rfl ?_
      refine V_aload_n dS_closestTwo_9 rfl ?_
      refine V_getR (a := 1) dS_closestTwo_10 flS_15 k62 rfl (r62_0 hR) ?_
      refine V_getE (x := nI (mE M)) dS_closestTwo_13 flS_23 k1 rfl (cE hC hI) ?_
      refine V_icmp_ge (tgt := 79) dS_closestTwo_16 rfl (fun _ => ?_) (fun h => absurd h (not_not_intro (nI_le (Nat.le_refl _) (sm9 hI))))
      refine V_iload_n dS_closestTwo_79 rfl ?_
      exact V_iret dS_closestTwo_80 rfl rfl ⟨rfl, rfl, rfl⟩
    · skip
      have lq : ∀ o : Nat, o ≤ mE M → n + 1 ≤ o → V l G mS_closestTwo (rmd 4 0 0) (KA.length + 0) 0 24 [(4, .int (nI o)), (3, .int (nI n)), (2, .int ((hdIn L M n (hdOut L M n) o).2)), (1, .int ((hdIn L M n (hdOut L M n) o).1)), (0, .ref 62)] [] KA σ (PE (some (.int (hdOut L M (mE M)).1)) KA σ) := by
        refine lp_up (mE M) (fun _ => ?_) (fun o ho io h2 => ?_)
        · skip
          refine V_iload dS_closestTwo_24 rfl ?_
          refine V_aload_n dS_closestTwo_26 rfl ?_
          refine V_getR (a := 1) dS_closestTwo_27 flS_15 k62 rfl (r62_0 hR) ?_
          refine V_getE (x := nI (mE M)) dS_closestTwo_30 flS_23 k1 rfl (cE hC hI) ?_
          refine V_icmp_ge (tgt := 73) dS_closestTwo_33 rfl (fun _ => ?_) (fun h => absurd h (not_not_intro (nI_le (Nat.le_refl _) (sm9 hI))))
          refine V_iinc (v := nI (n + 1)) (loc' := [(3, .int (nI (n + 1))), (4, .int (nI (mE M))), (2, .int ((hdIn L M n (hdOut L M n) (mE M)).2)), (1, .int ((hdIn L M n (hdOut L M n) (mE M)).1)), (0, .ref 62)]) dS_closestTwo_73 rfl (nI_inc n) (by decide) rfl ?_
          refine V_goto (tgt := 8) dS_closestTwo_76 rfl ?_
          refine V.locs (loc' := [(3, .int (nI (n + 1))), (2, .int ((hdIn L M n (hdOut L M n) (mE M)).2)), (1, .int ((hdIn L M n (hdOut L M n) (mE M)).1)), (0, .ref 62)]) [0, 2, 3, 4] rfl ?_
          refine V_eqL (loc' := [(3, .int (nI (n + 1))), (2, .int ((hdOut L M (n + 1)).2)), (1, .int ((hdOut L M (n + 1)).1)), (0, .ref 62)]) ?_ ?_
          · rfl
          exact ih
        · skip
          refine V_iload dS_closestTwo_24 rfl ?_
          refine V_aload_n dS_closestTwo_26 rfl ?_
          refine V_getR (a := 1) dS_closestTwo_27 flS_15 k62 rfl (r62_0 hR) ?_
          refine V_getE (x := nI (mE M)) dS_closestTwo_30 flS_23 k1 rfl (cE hC hI) ?_
          refine V_icmp_ge (tgt := 73) dS_closestTwo_33 rfl (fun h => absurd h (nI_ge ho (sm9 hI))) (fun _ => ?_)
          refine V_aload_n dS_closestTwo_36 rfl ?_
          refine V_iconst (v := 1) dS_closestTwo_37 (by decide) ?_
          refine V_iload_n dS_closestTwo_38 rfl ?_
          refine V_ishl dS_closestTwo_39 ?_
          refine V_iconst (v := 1) dS_closestTwo_40 (by decide) ?_
          refine V_iload dS_closestTwo_41 rfl ?_
          refine V_ishl dS_closestTwo_43 ?_
          refine V_ior dS_closestTwo_44 ?_
          refine V_callV (as := [.int ((1 <<< ((nI n) &&& 31)) ||| (1 <<< ((nI o) &&& 31)))]) (rest := []) (bs' := 0) rfl dS_closestTwo_45 cmS_spanOf cvS_spanOf mlS_71 (Or.inl ⟨_, _, _, _, _, rfl, k62, by decide, rfl⟩) rfl rfl (c_spanOf hC hI hQ ((1 <<< ((nI n) &&& 31)) ||| (1 <<< ((nI o) &&& 31))) h1) (by decide) (Nat.le_refl _) (by decide) (Nat.le_of_ble_eq_true rfl) ?_
          rintro _ _ _ ⟨rfl, rfl, rfl⟩ -
          refine V_one ?_
          refine V_istore (loc' := [(5, .int (spS L M n o)), (4, .int (nI o)), (3, .int (nI n)), (2, .int ((hdIn L M n (hdOut L M n) o).2)), (1, .int ((hdIn L M n (hdOut L M n) o).1)), (0, .ref 62)]) dS_closestTwo_48 (by decide) rfl ?_
          refine V_iload dS_closestTwo_50 rfl ?_
          refine V_iload_n dS_closestTwo_52 rfl ?_
          refine V_icmp_ge (tgt := 67) dS_closestTwo_53 rfl (fun c53 => ?_) (fun c53 => ?_)
          · skip
            refine V_iinc (v := nI (o + 1)) (loc' := [(4, .int (nI (o + 1))), (5, .int (spS L M n o)), (3, .int (nI n)), (2, .int ((hdIn L M n (hdOut L M n) o).2)), (1, .int ((hdIn L M n (hdOut L M n) o).1)), (0, .ref 62)]) dS_closestTwo_67 rfl (nI_inc o) (by decide) rfl ?_
            refine V_goto (tgt := 24) dS_closestTwo_70 rfl ?_
            refine V.locs (loc' := [(4, .int (nI (o + 1))), (3, .int (nI n)), (2, .int ((hdIn L M n (hdOut L M n) o).2)), (1, .int ((hdIn L M n (hdOut L M n) o).1)), (0, .ref 62)]) [0, 2, 3, 4, 5] rfl ?_
            refine V_eqL (loc' := [(4, .int (nI (o + 1))), (3, .int (nI n)), (2, .int ((hdIn L M n (hdOut L M n) (o + 1)).2)), (1, .int ((hdIn L M n (hdOut L M n) (o + 1)).1)), (0, .ref 62)]) ?_ ?_
            · first
              | (rw [hdIn_t (by omega) (Int32.not_le.mp c53)]; done)
              | (rw [hdIn_k (by omega) (Int32.not_lt.mpr c53)]; done)
            exact (io (by omega))
          · skip
            refine V_iload dS_closestTwo_56 rfl ?_
            refine V_istore_n (loc' := [(2, .int (spS L M n o)), (5, .int (spS L M n o)), (4, .int (nI o)), (3, .int (nI n)), (1, .int ((hdIn L M n (hdOut L M n) o).1)), (0, .ref 62)]) dS_closestTwo_58 (by decide) rfl ?_
            refine V_bipush (v := 10) dS_closestTwo_59 (by decide) ?_
            refine V_iload_n dS_closestTwo_61 rfl ?_
            refine V_imul dS_closestTwo_62 ?_
            refine V_iload dS_closestTwo_63 rfl ?_
            refine V_iadd dS_closestTwo_65 ?_
            refine V_istore_n (loc' := [(1, .int ((10 * (nI n)) + (nI o))), (2, .int (spS L M n o)), (5, .int (spS L M n o)), (4, .int (nI o)), (3, .int (nI n)), (0, .ref 62)]) dS_closestTwo_66 (by decide) rfl ?_
            refine V_iinc (v := nI (o + 1)) (loc' := [(4, .int (nI (o + 1))), (1, .int ((10 * (nI n)) + (nI o))), (2, .int (spS L M n o)), (5, .int (spS L M n o)), (3, .int (nI n)), (0, .ref 62)]) dS_closestTwo_67 rfl (nI_inc o) (by decide) rfl ?_
            refine V_goto (tgt := 24) dS_closestTwo_70 rfl ?_
            refine V.locs (loc' := [(4, .int (nI (o + 1))), (3, .int (nI n)), (2, .int (spS L M n o)), (1, .int ((10 * (nI n)) + (nI o))), (0, .ref 62)]) [0, 4, 2, 1, 5] rfl ?_
            refine V_eqL (loc' := [(4, .int (nI (o + 1))), (3, .int (nI n)), (2, .int ((hdIn L M n (hdOut L M n) (o + 1)).2)), (1, .int ((hdIn L M n (hdOut L M n) (o + 1)).1)), (0, .ref 62)]) ?_ ?_
            · first
              | (rw [hdIn_t (by omega) (Int32.not_le.mp c53)]; done)
              | (rw [hdIn_k (by omega) (Int32.not_lt.mpr c53)]; done)
            exact (io (by omega))
      refine V_iload_n dS_closestTwo_8 rfl ?_
      refine V_aload_n dS_closestTwo_9 rfl ?_
      refine V_getR (a := 1) dS_closestTwo_10 flS_15 k62 rfl (r62_0 hR) ?_
      refine V_getE (x := nI (mE M)) dS_closestTwo_13 flS_23 k1 rfl (cE hC hI) ?_
      refine V_icmp_ge (tgt := 79) dS_closestTwo_16 rfl (fun h => absurd h (nI_ge hn (sm9 hI))) (fun _ => ?_)
      refine V_iload_n dS_closestTwo_19 rfl ?_
      refine V_iconst (v := 1) dS_closestTwo_20 (by decide) ?_
      refine V_iadd dS_closestTwo_21 ?_
      refine V_topI (x' := nI (n + 1)) (nI_1 _) ?_
      refine V_istore (loc' := [(4, .int (nI (n + 1))), (3, .int (nI n)), (2, .int ((hdOut L M n).2)), (1, .int ((hdOut L M n).1)), (0, .ref 62)]) dS_closestTwo_22 (by decide) rfl ?_
      refine V.locs (loc' := [(4, .int (nI (n + 1))), (3, .int (nI n)), (2, .int ((hdOut L M n).2)), (1, .int ((hdOut L M n).1)), (0, .ref 62)]) [0, 1, 2, 3, 4] rfl ?_
      refine V_eqL (loc' := [(4, .int (nI (n + 1))), (3, .int (nI n)), (2, .int ((hdIn L M n (hdOut L M n) (n + 1)).2)), (1, .int ((hdIn L M n (hdOut L M n) (n + 1)).1)), (0, .ref 62)]) ?_ ?_
      · rw [hdIn_0 (n + 1) (Nat.le_refl _)]
      exact (lq (n + 1) hn (Nat.le_refl _))
  refine V_bipush (v := -5) dS_closestTwo_0 (by decide) ?_
  refine V_istore_n (loc' := [(1, .int (-5)), (0, .ref 62)]) dS_closestTwo_2 (by decide) rfl ?_
  refine V_ldc dS_closestTwo_3 kcS_70 ?_
  refine V_istore_n (loc' := [(2, .int 2147483647), (1, .int (-5)), (0, .ref 62)]) dS_closestTwo_5 (by decide) rfl ?_
  refine V_iconst (v := 0) dS_closestTwo_6 (by decide) ?_
  refine V_istore_n (loc' := [(3, .int 0), (2, .int 2147483647), (1, .int (-5)), (0, .ref 62)]) dS_closestTwo_7 (by decide) rfl ?_
  refine V.locs (loc' := [(3, .int 0), (2, .int 2147483647), (1, .int (-5)), (0, .ref 62)]) [0, 1, 2, 3] rfl ?_
  refine V_eqL (loc' := [(3, .int (nI 0)), (2, .int ((hdOut L M 0).2)), (1, .int ((hdOut L M 0).1)), (0, .ref 62)]) ?_ ?_
  · rfl
  exact lp 0 (Nat.zero_le _)
theorem g_hedge {l : Launch} {G : GT} {L : Nat → List Cl} {M σ : Hp} (hC : RC L M σ) (hI : Inv L M) : MM l G mG_hedge 6 0 0 [.ref 0] KA σ (PQ L σ (q_hedge L M)) := by
  have hR := hC.1
  have hC0 := hC
  have hS : Sm σ σ := Sm.rfl
  refine MM.of (loc := [(0, .ref 0)]) (by decide +kernel) rfl (Nat.le_of_ble_eq_true rfl) ?_
  refine V_aload_n dG_hedge_0 rfl ?_
  refine V_getR (a := 1) dG_hedge_1 flG_12 k0 rfl (r0_0 hR) ?_
  refine V_getE (x := nI (mE M)) dG_hedge_4 flG_164 k1 rfl (cE hC hI) ?_
  refine V_iconst (v := 2) dG_hedge_7 (by decide) ?_
  refine V_icmp_lt (tgt := 21) dG_hedge_8 rfl (fun c8 => ?_) (fun c8 => ?_)
  · skip
    refine V_bipush (v := -5) dG_hedge_21 (by decide) ?_
    refine V_iret dG_hedge_23 rfl rfl ?_
    have e : q_hedge L M = (-5, M) := by
      unfold q_hedge
      split
      · rfl
      · rw [hd_few ((nI_ltI (b := 2) (sm9 hI) (by decide)).mp c8)]
    rw [e]
    exact ⟨rfl, rfl, hC, hS⟩
  · skip
    refine V_aload_n dG_hedge_11 rfl ?_
    refine V_getR (a := 1) dG_hedge_12 flG_12 k0 rfl (r0_0 hR) ?_
    refine V_getE (x := nI (mW M)) dG_hedge_15 flG_79 k1 rfl (cW hC hI) ?_
    refine V_if_ne (tgt := 24) dG_hedge_18 rfl (fun c18 => ?_) (fun c18 => ?_)
    · skip
      have h18 : ¬ mW M = 0 := fun q => c18 (by rw [q]; rfl)
      refine V_aload_n dG_hedge_24 rfl ?_
      refine V_getR (a := 62) dG_hedge_25 flG_42 k0 rfl (r0_5 hR) ?_
      refine V_callV (as := []) (rest := []) (bs' := 0) rfl dG_hedge_28 cmS_lookAgain cvS_lookAgain mlG_168 (Or.inl ⟨_, _, _, _, _, rfl, k62, by decide, rfl⟩) rfl rfl (c_lookAgain hC hI) (by decide) (Nat.le_refl _) (by decide) (Nat.le_of_ble_eq_true rfl) ?_
      rintro _ _ s1 ⟨rfl, rfl, hF1, hQ⟩ -
      refine V_non ?_
      have hC := hF1.rc hC
      have hS := hS.trans hF1.sm
      have hR := hC.1
      refine V_aload_n dG_hedge_31 rfl ?_
      refine V_getR (a := 62) dG_hedge_32 flG_42 k0 rfl (r0_5 hR) ?_
      refine V_callV (as := []) (rest := []) (bs' := 0) rfl dG_hedge_35 cmS_closestTwo cvS_closestTwo mlG_209 (Or.inl ⟨_, _, _, _, _, rfl, k62, by decide, rfl⟩) rfl rfl (c_closestTwo hC hI hQ (Nat.pos_of_ne_zero h18)) (by decide) (Nat.le_refl _) (by decide) (Nat.le_of_ble_eq_true rfl) ?_
      rintro _ _ _ ⟨rfl, rfl, rfl⟩ -
      refine V_one ?_
      refine V_iret dG_hedge_38 rfl rfl ?_
      have e : q_hedge L M = ((hdOut L M (mE M)).1, M) := by
        skip
        first
        | (simp only [q_hedge, if_neg c8, if_neg h18]; done)
        | (simp [q_hedge, c8, h18]; done)
        | (simp_all [q_hedge]; done)
      rw [e]
      exact ⟨rfl, rfl, hC, hS⟩
    · skip
      have h18 : mW M = 0 := (nI_eq (b := 0) (sm7 hI) (by decide)).mp c18
      refine V_bipush (v := -5) dG_hedge_21 (by decide) ?_
      refine V_iret dG_hedge_23 rfl rfl ?_
      rw [show q_hedge L M = (-5, M) by simp only [q_hedge, if_pos h18]]
      exact ⟨rfl, rfl, hC, hS⟩
theorem m_hedge {l : Launch} {G : GT} {L : Nat → List Cl} {M σ : Hp} (hM : RM M σ) (hI : Inv L M) : MM l G mM_hedge 7 0 0 [.ref 76] KA σ (PM σ (q_hedge L M)) := by
  have hR := hM.1
  have hM0 := hM
  have hS : Sc σ σ := Sc.rfl
  refine MM.of (loc := [(0, .ref 76)]) (by decide +kernel) rfl (Nat.le_of_ble_eq_true rfl) ?_
  refine V_aload_n dM_hedge_0 rfl ?_
  refine V_getE (x := nI (mW M)) dM_hedge_1 flM_7 k76 rfl ((mR hM rfl).trans (iW hI).1) ?_
  refine V_if_ne (tgt := 10) dM_hedge_4 rfl (fun c4 => ?_) (fun c4 => ?_)
  · skip
    have h4 : ¬ mW M = 0 := fun q => c4 (by rw [q]; rfl)
    refine V_aload_n dM_hedge_10 rfl ?_
    refine V_callV (as := []) (rest := []) (bs' := 0) rfl dM_hedge_11 cmM_layPays cvM_layPays mlM_341 (Or.inl ⟨_, _, _, _, _, rfl, k76, by decide, rfl⟩) rfl rfl (m_layPays hM hI) (by decide) (Nat.le_refl _) (by decide) (Nat.le_of_ble_eq_true rfl) ?_
    rintro _ _ s1 ⟨rfl, rfl, hF1, hQ⟩ -
    refine V_non ?_
    have hM := hF1.rm hM
    have hS := hS.trans hF1.sc
    have hR := hM.1
    refine V_bipush (v := -5) dM_hedge_14 (by decide) ?_
    refine V_istore_n (loc' := [(1, .int (-5)), (0, .ref 76)]) dM_hedge_16 (by decide) rfl ?_
    refine V_iconst (v := 0) dM_hedge_17 (by decide) ?_
    refine V_istore_n (loc' := [(2, .int 0), (1, .int (-5)), (0, .ref 76)]) dM_hedge_18 (by decide) rfl ?_
    refine V_iconst (v := 0) dM_hedge_19 (by decide) ?_
    refine V_istore_n (loc' := [(3, .int 0), (2, .int 0), (1, .int (-5)), (0, .ref 76)]) dM_hedge_20 (by decide) rfl ?_
    refine V.locs (loc' := [(3, .int 0), (2, .int 0), (1, .int (-5)), (0, .ref 76)]) [0, 1, 2, 3] rfl ?_
    refine V_eqL (loc' := [(3, .int (nI 0)), (2, .int (mb (hdOut L M 0))), (1, .int ((hdOut L M 0).1)), (0, .ref 76)]) ?_ ?_
    · rfl
    have lp : ∀ n : Nat, n ≤ (mE M) → ∀ s : Hp, RM M s → Sc σ s → GP L M s (mE M) 0 → V l G mM_hedge (rmd 7 0 0) (KA.length + 0) 0 21 [(3, .int (nI n)), (2, .int (mb (hdOut L M n))), (1, .int ((hdOut L M n).1)), (0, .ref 76)] [] KA s (PM σ (q_hedge L M)) := by
      refine lp_up (mE M) ?_ (fun n hn ihn => ?_)
      · skip
        intro s hM hS hQ
        have hR := hM.1
        refine V_iload_n dM_hedge_21 rfl ?_
        refine V_aload_n dM_hedge_22 rfl ?_
        refine V_getE (x := nI (mE M)) dM_hedge_23 flM_13 k76 rfl ((mR hM rfl).trans (iE hI).1) ?_
        refine V_icmp_ge (tgt := 104) dM_hedge_26 rfl (fun _ => ?_) (fun h => absurd h (not_not_intro (nI_le (Nat.le_refl _) (sm9 hI))))
        refine V_iload_n dM_hedge_104 rfl ?_
        refine V_iret dM_hedge_105 rfl rfl ?_
        have e : q_hedge L M = ((hdOut L M (mE M)).1, M) := by
          skip
          first
          | (simp only [q_hedge, if_neg h4]; done)
          | (simp [q_hedge, h4]; done)
          | (simp_all [q_hedge]; done)
        rw [e]
        exact ⟨rfl, rfl, hM, hS⟩
      · skip
        intro s hM hS hQ
        have hR := hM.1
        have lq : ∀ o : Nat, o ≤ (mE M) → n + 1 ≤ o → ∀ s : Hp, RM M s → Sc σ s → GP L M s (mE M) 0 → V l G mM_hedge (rmd 7 0 0) (KA.length + 0) 0 34 [(4, .int (nI o)), (3, .int (nI n)), (2, .int (mb (hdIn L M n (hdOut L M n) o))), (1, .int ((hdIn L M n (hdOut L M n) o).1)), (0, .ref 76)] [] KA s (PM σ (q_hedge L M)) := by
          refine lp_up (mE M) ?_ (fun o ho iho => ?_)
          · skip
            intro h2
            intro s hM hS hQ
            have hR := hM.1
            refine V_iload dM_hedge_34 rfl ?_
            refine V_aload_n dM_hedge_36 rfl ?_
            refine V_getE (x := nI (mE M)) dM_hedge_37 flM_13 k76 rfl ((mR hM rfl).trans (iE hI).1) ?_
            refine V_icmp_ge (tgt := 98) dM_hedge_40 rfl (fun _ => ?_) (fun h => absurd h (not_not_intro (nI_le (Nat.le_refl _) (sm9 hI))))
            refine V_iinc (v := nI (n + 1)) (loc' := [(3, .int (nI (n + 1))), (4, .int (nI (mE M))), (2, .int (mb (hdIn L M n (hdOut L M n) (mE M)))), (1, .int ((hdIn L M n (hdOut L M n) (mE M)).1)), (0, .ref 76)]) dM_hedge_98 rfl (nI_inc n) (by decide) rfl ?_
            refine V_goto (tgt := 21) dM_hedge_101 rfl ?_
            refine V.locs (loc' := [(3, .int (nI (n + 1))), (2, .int (mb (hdIn L M n (hdOut L M n) (mE M)))), (1, .int ((hdIn L M n (hdOut L M n) (mE M)).1)), (0, .ref 76)]) [0, 2, 3, 4] rfl ?_
            refine V_eqL (loc' := [(3, .int (nI (n + 1))), (2, .int (mb (hdOut L M (n + 1)))), (1, .int ((hdOut L M (n + 1)).1)), (0, .ref 76)]) ?_ ?_
            · rfl
            exact (ihn _ hM hS hQ)
          · skip
            intro h2
            intro s hM hS hQ
            have hR := hM.1
            refine V_iload dM_hedge_34 rfl ?_
            refine V_aload_n dM_hedge_36 rfl ?_
            refine V_getE (x := nI (mE M)) dM_hedge_37 flM_13 k76 rfl ((mR hM rfl).trans (iE hI).1) ?_
            refine V_icmp_ge (tgt := 98) dM_hedge_40 rfl (fun h => absurd h (nI_ge ho (sm9 hI))) (fun _ => ?_)
            refine V_iconst (v := 1) dM_hedge_43 (by decide) ?_
            refine V_iload_n dM_hedge_44 rfl ?_
            refine V_ishl dM_hedge_45 ?_
            refine V_iconst (v := 1) dM_hedge_46 (by decide) ?_
            refine V_iload dM_hedge_47 rfl ?_
            refine V_ishl dM_hedge_49 ?_
            refine V_ior dM_hedge_50 ?_
            refine V_istore (loc' := [(5, .int ((1 <<< ((nI n) &&& 31)) ||| (1 <<< ((nI o) &&& 31)))), (4, .int (nI o)), (3, .int (nI n)), (2, .int (mb (hdIn L M n (hdOut L M n) o))), (1, .int ((hdIn L M n (hdOut L M n) o).1)), (0, .ref 76)]) dM_hedge_51 (by decide) rfl ?_
            refine V_aload_n dM_hedge_53 rfl ?_
            refine V_iload dM_hedge_54 rfl ?_
            refine V_callV (as := [.int ((1 <<< ((nI n) &&& 31)) ||| (1 <<< ((nI o) &&& 31)))]) (rest := []) (bs' := 0) rfl dM_hedge_56 cmM_mostOf cvM_mostOf mlM_350 (Or.inl ⟨_, _, _, _, _, rfl, k76, by decide, rfl⟩) rfl rfl (m_mostOf hM hI hQ ((1 <<< ((nI n) &&& 31)) ||| (1 <<< ((nI o) &&& 31)))) (by decide) (Nat.le_refl _) (by decide) (Nat.le_of_ble_eq_true rfl) ?_
            rintro _ _ _ ⟨rfl, rfl, rfl⟩ -
            refine V_one ?_
            refine V_aload_n dM_hedge_59 rfl ?_
            refine V_iload dM_hedge_60 rfl ?_
            refine V_callV (as := [.int ((1 <<< ((nI n) &&& 31)) ||| (1 <<< ((nI o) &&& 31)))]) (rest := [.int (mstS L M ((1 <<< ((nI n) &&& 31)) ||| (1 <<< ((nI o) &&& 31))))]) (bs' := 0) rfl dM_hedge_62 cmM_leastOf cvM_leastOf mlM_344 (Or.inl ⟨_, _, _, _, _, rfl, k76, by decide, rfl⟩) rfl rfl (m_leastOf hM hI hQ ((1 <<< ((nI n) &&& 31)) ||| (1 <<< ((nI o) &&& 31)))) (by decide) (Nat.le_refl _) (by decide) (Nat.le_of_ble_eq_true rfl) ?_
            rintro _ _ _ ⟨rfl, rfl, rfl⟩ -
            refine V_one ?_
            refine V_isub dM_hedge_65 ?_
            refine V_topI (x' := spS L M n o) rfl ?_
            refine V_istore (loc' := [(6, .int (spS L M n o)), (5, .int ((1 <<< ((nI n) &&& 31)) ||| (1 <<< ((nI o) &&& 31)))), (4, .int (nI o)), (3, .int (nI n)), (2, .int (mb (hdIn L M n (hdOut L M n) o))), (1, .int ((hdIn L M n (hdOut L M n) o).1)), (0, .ref 76)]) dM_hedge_66 (by decide) rfl ?_
            refine V_iload_n dM_hedge_68 rfl ?_
            refine V_if_lt (tgt := 81) dM_hedge_69 rfl (fun c69 => ?_) (fun c69 => ?_)
            · skip
              refine V_bipush (v := 10) dM_hedge_81 (by decide) ?_
              refine V_iload_n dM_hedge_83 rfl ?_
              refine V_imul dM_hedge_84 ?_
              refine V_iload dM_hedge_85 rfl ?_
              refine V_iadd dM_hedge_87 ?_
              refine V_istore_n (loc' := [(1, .int ((10 * (nI n)) + (nI o))), (6, .int (spS L M n o)), (5, .int ((1 <<< ((nI n) &&& 31)) ||| (1 <<< ((nI o) &&& 31)))), (4, .int (nI o)), (3, .int (nI n)), (2, .int (mb (hdIn L M n (hdOut L M n) o))), (0, .ref 76)]) dM_hedge_88 (by decide) rfl ?_
              refine V_iload dM_hedge_89 rfl ?_
              refine V_istore_n (loc' := [(2, .int (spS L M n o)), (1, .int ((10 * (nI n)) + (nI o))), (6, .int (spS L M n o)), (5, .int ((1 <<< ((nI n) &&& 31)) ||| (1 <<< ((nI o) &&& 31)))), (4, .int (nI o)), (3, .int (nI n)), (0, .ref 76)]) dM_hedge_91 (by decide) rfl ?_
              refine V_iinc (v := nI (o + 1)) (loc' := [(4, .int (nI (o + 1))), (2, .int (spS L M n o)), (1, .int ((10 * (nI n)) + (nI o))), (6, .int (spS L M n o)), (5, .int ((1 <<< ((nI n) &&& 31)) ||| (1 <<< ((nI o) &&& 31)))), (3, .int (nI n)), (0, .ref 76)]) dM_hedge_92 rfl (nI_inc o) (by decide) rfl ?_
              refine V_goto (tgt := 34) dM_hedge_95 rfl ?_
              refine V.locs (loc' := [(4, .int (nI (o + 1))), (3, .int (nI n)), (2, .int (spS L M n o)), (1, .int ((10 * (nI n)) + (nI o))), (0, .ref 76)]) [0, 5, 1, 2, 6] rfl ?_
              refine V_eqL (loc' := [(4, .int (nI (o + 1))), (3, .int (nI n)), (2, .int (mb (hdIn L M n (hdOut L M n) (o + 1)))), (1, .int ((hdIn L M n (hdOut L M n) (o + 1)).1)), (0, .ref 76)]) ?_ ?_
              · first
                | (rw [(hd_a (L := L) (M := M) (q := hdOut L M n) (lt9 hI hn) (lt9 hI ho) (by omega) (hd_b hI (HQ_in (lt9 hI hn) (HQ_out hI n (Nat.le_of_lt hn)) o (by have := (iE hI).2; omega)) c69)).1, (hd_a (L := L) (M := M) (q := hdOut L M n) (lt9 hI hn) (lt9 hI ho) (by omega) (hd_b hI (HQ_in (lt9 hI hn) (HQ_out hI n (Nat.le_of_lt hn)) o (by have := (iE hI).2; omega)) c69)).2]; done)
                | (rw [(hd_a (L := L) (M := M) (q := hdOut L M n) (lt9 hI hn) (lt9 hI ho) (by omega) (by rw [mb_n c69] at c75; exact c75)).1, (hd_a (L := L) (M := M) (q := hdOut L M n) (lt9 hI hn) (lt9 hI ho) (by omega) (by rw [mb_n c69] at c75; exact c75)).2]; done)
                | (rw [hdIn_k (by omega) (by rw [mb_n c69] at c75; exact c75)]; done)
              exact (iho (by omega) _ hM hS hQ)
            · skip
              refine V_iload dM_hedge_72 rfl ?_
              refine V_iload_n dM_hedge_74 rfl ?_
              refine V_icmp_lt (tgt := 81) dM_hedge_75 rfl (fun c75 => ?_) (fun c75 => ?_)
              · skip
                refine V_bipush (v := 10) dM_hedge_81 (by decide) ?_
                refine V_iload_n dM_hedge_83 rfl ?_
                refine V_imul dM_hedge_84 ?_
                refine V_iload dM_hedge_85 rfl ?_
                refine V_iadd dM_hedge_87 ?_
                refine V_istore_n (loc' := [(1, .int ((10 * (nI n)) + (nI o))), (6, .int (spS L M n o)), (5, .int ((1 <<< ((nI n) &&& 31)) ||| (1 <<< ((nI o) &&& 31)))), (4, .int (nI o)), (3, .int (nI n)), (2, .int (mb (hdIn L M n (hdOut L M n) o))), (0, .ref 76)]) dM_hedge_88 (by decide) rfl ?_
                refine V_iload dM_hedge_89 rfl ?_
                refine V_istore_n (loc' := [(2, .int (spS L M n o)), (1, .int ((10 * (nI n)) + (nI o))), (6, .int (spS L M n o)), (5, .int ((1 <<< ((nI n) &&& 31)) ||| (1 <<< ((nI o) &&& 31)))), (4, .int (nI o)), (3, .int (nI n)), (0, .ref 76)]) dM_hedge_91 (by decide) rfl ?_
                refine V_iinc (v := nI (o + 1)) (loc' := [(4, .int (nI (o + 1))), (2, .int (spS L M n o)), (1, .int ((10 * (nI n)) + (nI o))), (6, .int (spS L M n o)), (5, .int ((1 <<< ((nI n) &&& 31)) ||| (1 <<< ((nI o) &&& 31)))), (3, .int (nI n)), (0, .ref 76)]) dM_hedge_92 rfl (nI_inc o) (by decide) rfl ?_
                refine V_goto (tgt := 34) dM_hedge_95 rfl ?_
                refine V.locs (loc' := [(4, .int (nI (o + 1))), (3, .int (nI n)), (2, .int (spS L M n o)), (1, .int ((10 * (nI n)) + (nI o))), (0, .ref 76)]) [0, 5, 1, 2, 6] rfl ?_
                refine V_eqL (loc' := [(4, .int (nI (o + 1))), (3, .int (nI n)), (2, .int (mb (hdIn L M n (hdOut L M n) (o + 1)))), (1, .int ((hdIn L M n (hdOut L M n) (o + 1)).1)), (0, .ref 76)]) ?_ ?_
                · first
                  | (rw [(hd_a (L := L) (M := M) (q := hdOut L M n) (lt9 hI hn) (lt9 hI ho) (by omega) (hd_b hI (HQ_in (lt9 hI hn) (HQ_out hI n (Nat.le_of_lt hn)) o (by have := (iE hI).2; omega)) c69)).1, (hd_a (L := L) (M := M) (q := hdOut L M n) (lt9 hI hn) (lt9 hI ho) (by omega) (hd_b hI (HQ_in (lt9 hI hn) (HQ_out hI n (Nat.le_of_lt hn)) o (by have := (iE hI).2; omega)) c69)).2]; done)
                  | (rw [(hd_a (L := L) (M := M) (q := hdOut L M n) (lt9 hI hn) (lt9 hI ho) (by omega) (by rw [mb_n c69] at c75; exact c75)).1, (hd_a (L := L) (M := M) (q := hdOut L M n) (lt9 hI hn) (lt9 hI ho) (by omega) (by rw [mb_n c69] at c75; exact c75)).2]; done)
                  | (rw [hdIn_k (by omega) (by rw [mb_n c69] at c75; exact c75)]; done)
                exact (iho (by omega) _ hM hS hQ)
              · skip
                refine V_goto (tgt := 92) dM_hedge_78 rfl ?_
                refine V_iinc (v := nI (o + 1)) (loc' := [(4, .int (nI (o + 1))), (6, .int (spS L M n o)), (5, .int ((1 <<< ((nI n) &&& 31)) ||| (1 <<< ((nI o) &&& 31)))), (3, .int (nI n)), (2, .int (mb (hdIn L M n (hdOut L M n) o))), (1, .int ((hdIn L M n (hdOut L M n) o).1)), (0, .ref 76)]) dM_hedge_92 rfl (nI_inc o) (by decide) rfl ?_
                refine V_goto (tgt := 34) dM_hedge_95 rfl ?_
                refine V.locs (loc' := [(4, .int (nI (o + 1))), (3, .int (nI n)), (2, .int (mb (hdIn L M n (hdOut L M n) o))), (1, .int ((hdIn L M n (hdOut L M n) o).1)), (0, .ref 76)]) [0, 3, 4, 5, 6] rfl ?_
                refine V_eqL (loc' := [(4, .int (nI (o + 1))), (3, .int (nI n)), (2, .int (mb (hdIn L M n (hdOut L M n) (o + 1)))), (1, .int ((hdIn L M n (hdOut L M n) (o + 1)).1)), (0, .ref 76)]) ?_ ?_
                · first
                  | (rw [(hd_a (L := L) (M := M) (q := hdOut L M n) (lt9 hI hn) (lt9 hI ho) (by omega) (hd_b hI (HQ_in (lt9 hI hn) (HQ_out hI n (Nat.le_of_lt hn)) o (by have := (iE hI).2; omega)) c69)).1, (hd_a (L := L) (M := M) (q := hdOut L M n) (lt9 hI hn) (lt9 hI ho) (by omega) (hd_b hI (HQ_in (lt9 hI hn) (HQ_out hI n (Nat.le_of_lt hn)) o (by have := (iE hI).2; omega)) c69)).2]; done)
                  | (rw [(hd_a (L := L) (M := M) (q := hdOut L M n) (lt9 hI hn) (lt9 hI ho) (by omega) (by rw [mb_n c69] at c75; exact c75)).1, (hd_a (L := L) (M := M) (q := hdOut L M n) (lt9 hI hn) (lt9 hI ho) (by omega) (by rw [mb_n c69] at c75; exact c75)).2]; done)
                  | (rw [hdIn_k (by omega) (by rw [mb_n c69] at c75; exact c75)]; done)
                exact (iho (by omega) _ hM hS hQ)
        refine V_iload_n dM_hedge_21 rfl ?_
        refine V_aload_n dM_hedge_22 rfl ?_
        refine V_getE (x := nI (mE M)) dM_hedge_23 flM_13 k76 rfl ((mR hM rfl).trans (iE hI).1) ?_
        refine V_icmp_ge (tgt := 104) dM_hedge_26 rfl (fun h => absurd h (nI_ge hn (sm9 hI))) (fun _ => ?_)
        refine V_iload_n dM_hedge_29 rfl ?_
        refine V_iconst (v := 1) dM_hedge_30 (by decide) ?_
        refine V_iadd dM_hedge_31 ?_
        refine V_topI (x' := nI (n + 1)) (nI_1 _) ?_
        refine V_istore (loc' := [(4, .int (nI (n + 1))), (3, .int (nI n)), (2, .int (mb (hdOut L M n))), (1, .int ((hdOut L M n).1)), (0, .ref 76)]) dM_hedge_32 (by decide) rfl ?_
        refine V.locs (loc' := [(4, .int (nI (n + 1))), (3, .int (nI n)), (2, .int (mb (hdOut L M n))), (1, .int ((hdOut L M n).1)), (0, .ref 76)]) [0, 1, 2, 3, 4] rfl ?_
        refine V_eqL (loc' := [(4, .int (nI (n + 1))), (3, .int (nI n)), (2, .int (mb (hdIn L M n (hdOut L M n) (n + 1)))), (1, .int ((hdIn L M n (hdOut L M n) (n + 1)).1)), (0, .ref 76)]) ?_ ?_
        · rw [hdIn_0 (n + 1) (Nat.le_refl _)]
        exact (lq (n + 1) hn (Nat.le_refl _) _ hM hS hQ)
    exact lp 0 (Nat.zero_le _) _ hM hS hQ
  · skip
    have h4 : mW M = 0 := (nI_eq (b := 0) (sm7 hI) (by decide)).mp c4
    refine V_bipush (v := -5) dM_hedge_7 (by decide) ?_
    refine V_iret dM_hedge_9 rfl rfl ?_
    have e : q_hedge L M = ((-5), M) := by
      skip
      first
      | (simp only [q_hedge, if_pos h4]; done)
      | (simp [q_hedge, h4]; done)
      | (simp_all [q_hedge]; done)
    rw [e]
    exact ⟨rfl, rfl, hM, hS⟩
