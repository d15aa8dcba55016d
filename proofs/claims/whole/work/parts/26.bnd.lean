/-! how large the answers grow; shared divisors -/
def isB (x : Int32) (n : Nat) : Prop := ∃ k : Nat, k ≤ n ∧ x = nI k
theorem isB.mono {x : Int32} {n m : Nat} (h : isB x n) (hm : n ≤ m) : isB x m := by
  obtain ⟨k, h1, h2⟩ := h
  exact ⟨k, by omega, h2⟩
theorem isB.add {x y : Int32} {n m : Nat} (h : isB x n) (g : isB y m) : isB (x + y) (n + m) := by
  obtain ⟨k, h1, rfl⟩ := h
  obtain ⟨j, g1, rfl⟩ := g
  exact ⟨k + j, by omega, nI_add k j⟩
theorem isB.mul {x y : Int32} {n m : Nat} (h : isB x n) (g : isB y m) : isB (x * y) (n * m) := by
  obtain ⟨k, h1, rfl⟩ := h
  obtain ⟨j, g1, rfl⟩ := g
  exact ⟨k * j, Nat.mul_le_mul h1 g1, pk_mul k j⟩
theorem isB.of {x : Int32} {n : Nat} (h : isN x (n + 1)) : isB x n := ⟨cN x, Nat.le_of_lt_succ h.2, h.1⟩
theorem isB.zero {n : Nat} : isB 0 n := ⟨0, Nat.zero_le _, rfl⟩
theorem isB.toInt {x : Int32} {n : Nat} (h : isB x n) (hn : n < 2 ^ 31) : 0 ≤ x.toInt ∧ x.toInt ≤ n := by
  obtain ⟨k, h1, rfl⟩ := h
  rw [nI_toInt (by omega)]
  omega
theorem isB.ofInt {x : Int32} {n : Nat} (h0 : 0 ≤ x.toInt) (h1 : x.toInt ≤ n) : isB x n := by
  have : ¬ x < 0 := by
    rw [Int32.lt_iff_toInt_lt]
    show ¬ x.toInt < 0
    omega
  obtain ⟨j, hj, rfl⟩ := nI_of this
  rw [nI_toInt hj] at h1
  exact ⟨j, by omega, rfl⟩
theorem sumI_b {f : Nat → Int32} {m : Nat} : ∀ n, (∀ k, k < n → isB (f k) m) → isB (sumI f n) (n * m)
  | 0, _ => isB.zero
  | n + 1, h => by
    have h1 := (sumI_b n (fun k hk => h k (by omega))).add (h n (by omega))
    rw [Nat.succ_mul]
    exact h1
theorem add_toInt {x y : Int32} (hx : -100000000 ≤ x.toInt ∧ x.toInt ≤ 100000000) (hy : -100000000 ≤ y.toInt ∧ y.toInt ≤ 100000000) : (x + y).toInt = x.toInt + y.toInt := by
  rw [Int32.toInt_add]
  exact Int.bmod_eq_of_le (by omega) (by omega)
theorem sub_toInt {x y : Int32} (hx : -100000000 ≤ x.toInt ∧ x.toInt ≤ 100000000) (hy : -100000000 ≤ y.toInt ∧ y.toInt ≤ 100000000) : (x - y).toInt = x.toInt - y.toInt := by
  rw [Int32.toInt_sub]
  exact Int.bmod_eq_of_le (by omega) (by omega)
theorem maxI_b {x : Int32} {n : Nat} (h : x.toInt ≤ n) : isB (maxI 0 x) n := by
  unfold maxI
  split
  · next q =>
    rw [Int32.lt_iff_toInt_lt] at q
    have q2 : (0 : Int) < x.toInt := q
    exact isB.ofInt (by omega) h
  · exact isB.zero
theorem neg_toInt {n : Nat} (h : n < 1000) : (-(nI n)).toInt = -(n : Int) := by
  have := (by decide +kernel : ∀ n : Nat, n < 1000 → (-(nI n)).toInt = -(n : Int)) n h
  exact this
theorem term_b (F : Nat → Int32) (c : Cl) (h : c.2.1 < 100) : -100 ≤ (termL F c).toInt ∧ (termL F c).toInt ≤ 100 := by
  unfold termL
  split
  · decide
  · split
    · split
      · rw [nI_toInt (by omega)]; omega
      · rw [neg_toInt (by omega)]; omega
    · decide
theorem ext_b (F : Nat → Int32) : ∀ l : List Cl, (∀ c, c ∈ l → c.2.1 < 100) → l.length ≤ 1000 → -100 * (l.length : Int) ≤ (extL F l).toInt ∧ (extL F l).toInt ≤ 100 * (l.length : Int)
  | [], _, _ => by
    unfold extL
    decide
  | c :: l, h, hl => by
    have h1 := ext_b F l (fun d hd => h d (List.mem_cons_of_mem _ hd)) (by simp only [List.length_cons] at hl; omega)
    have h2 := term_b F c (h c (List.mem_cons_self ..))
    simp only [List.length_cons] at hl ⊢
    unfold extL
    rw [add_toInt (by omega) (by omega)]
    push_cast
    omega
theorem base_b : ∀ (l : List Cl) (b : Nat), (∀ c, c ∈ l → c.2.1 < 100) → b < 100 → baseL l b < 100
  | [], b, _, hb => hb
  | c :: l, b, h, hb => by
    unfold baseL
    refine base_b l _ (fun d hd => h d (List.mem_cons_of_mem _ hd)) ?_
    split
    · exact h c (List.mem_cons_self ..)
    · exact hb
theorem law_b {L : Nat → List Cl} {M : Hp} (hP : Pw L M) {f : Nat} (hf : f < cN (gi M 76 11)) : (∀ c, c ∈ L f → c.2.1 < 100) ∧ (L f).length ≤ 10 := by
  have h7 := hP.2.1.1.2
  obtain ⟨g1, g2, g3⟩ := hP.2.2 f (by omega) hf
  refine ⟨fun c hc => ?_, g2⟩
  obtain ⟨i, hi⟩ := List.mem_iff_getElem?.mp hc
  exact (g3 i c hi).2.2.2.1
theorem bs_b {L : Nat → List Cl} {M : Hp} (hP : Pw L M) (x : Int32) : isB (bsS L M x) 99 := by
  have h7 := hP.2.1.1.2
  unfold bsS
  split
  · next h =>
    obtain ⟨j, hj, rfl⟩ := rng_x h (by omega)
    rw [nI_cN (by omega)]
    have := base_b (L j) 10 (law_b hP hj).1 (by decide)
    exact ⟨_, by omega, rfl⟩
  · exact ⟨10, by decide, rfl⟩
theorem ex_b {L : Nat → List Cl} {M : Hp} (hP : Pw L M) (F : Nat → Int32) (x : Int32) : -1000 ≤ (exS L M F x).toInt ∧ (exS L M F x).toInt ≤ 1000 := by
  have h7 := hP.2.1.1.2
  unfold exS
  split
  · next h =>
    obtain ⟨j, hj, rfl⟩ := rng_x h (by omega)
    rw [nI_cN (by omega)]
    have h1 := law_b hP hj
    have := ext_b F (L j) h1.1 (by omega)
    omega
  · decide
theorem pc_b : ∀ k : Nat, k < 64 → ∃ j : Nat, j < 7 ∧ pcS (nI k) = nI j := by decide +kernel
theorem div_b {x y : Int32} {n m : Nat} (h : isB x n) (g : isB y m) (hn : n < 2 ^ 31) (hm : m < 2 ^ 31) : isB (x / y) n := by
  obtain ⟨k, h1, rfl⟩ := h
  obtain ⟨j, g1, rfl⟩ := g
  rcases Nat.eq_zero_or_pos j with rfl | h0
  · rw [nI_0, Int32.div_zero]
    exact isB.zero
  · rw [pk_div (by omega) h0 (by omega)]
    exact ⟨_, Nat.le_trans (Nat.div_le_self _ _) h1, rfl⟩
theorem gross_b {L : Nat → List Cl} {M : Hp} (hI : Inv L M) {e w k d : Nat} (he : e < mE M) (hw : w < mW M) (hk : k < 64) (hd : d < 20000) : isB (grossI L M e w (nI k) d) 25000 := by
  have hP := hI.pw
  obtain ⟨e1, e2, e3, e4, e5, e6, e7⟩ := hI.2.1.2.2.2.2.2.2.2.2.1 e he
  have hc := (hI.2.1.2.2.2.2.2.2.2.1 w hw).1
  have hb := bs_b hP (gi M 76 12)
  have hv : isB (gi M 79 e) 9 := isB.of e2
  have hg : isB (bsS L M (gi M 76 12) * gi M 79 e) 891 := hb.mul hv
  have hq : isB (pcS (nI k)) 6 := by
    obtain ⟨j, hj, hj2⟩ := pc_b _ hk
    exact ⟨j, by omega, hj2⟩
  have h4 : isB ((4 : Int32)) 4 := ⟨4, by decide, rfl⟩
  have hr : isB (gi M 83 (4 * e + d % 4)) 9 := isB.of (e7 (d % 4) (by omega))
  have hch : isB (gi M 77 w) 30 := isB.of hc
  have hca : isB (gi M 82 e) 9999 := isB.of e5
  unfold grossI
  simp only []
  generalize bsS L M (gi M 76 12) = b at *
  generalize b * gi M 79 e = g at *
  have hf : ∀ P : Prop, ∀ [Decidable P], isB (if P then g else 0) 891 := by
    intro P _
    split
    · exact hg
    · exact isB.zero
  have hp : ∀ P : Prop, ∀ [Decidable P], isB (if P then g / 2 else 0) 891 := by
    intro P _
    split
    · exact div_b hg (m := 2) ⟨2, by decide, rfl⟩ (by decide) (by decide)
    · exact isB.zero
  have hla : ∀ f, isB f 891 → isB (lateI M e f d) 11000 := by
    intro f hf
    unfold lateI
    apply maxI_b
    have a1 := hf.toInt (by decide)
    have a2 := hca.toInt (by decide)
    have a3 : (nI d).toInt = d := nI_toInt (by omega)
    have a4 : (nI d - gi M 82 e).toInt = d - (gi M 82 e).toInt := by
      rw [sub_toInt (by omega) (by omega), a3]
    rw [sub_toInt (by omega) (by omega), a4]
    omega
  have h4g : isB (4 * g) 3564 := h4.mul hg
  unfold grK
  split
  · split
    · exact hg.mono (by decide)
    · exact (hp _).mono (by decide)
  · split
    · split
      · exact (div_b h4g hq (by decide) (by decide)).mono (by decide)
      · exact isB.zero
    · split
      · exact (hla _ (hf _)).mono (by decide)
      · split
        · split
          · obtain ⟨k, k1, rfl⟩ := hg
            obtain ⟨c, c1, hc2⟩ := hch
            rw [hc2, show (30 : Int32) = nI 30 from rfl, nI_add, pk_sub (by omega)]
            exact ⟨_, by omega, rfl⟩
          · exact (hp _).mono (by decide)
        · split
          · split
            · exact (div_b h4g hq (by decide) (by decide)).mono (by decide)
            · exact hb.mono (by decide)
          · split
            · exact ((hla _ (hf _)).add hr).mono (by decide)
            · exact (hf _).mono (by decide)
theorem payI_b {L : Nat → List Cl} {M : Hp} (hI : Inv L M) {e w k d : Nat} (he : e < mE M) (hw : w < mW M) (hk : k < 64) (hd : d < 20000) : isB (payI L M e w (nI k) d) 30000 := by
  unfold payI
  have h1 := (gross_b hI he hw hk hd).toInt (by decide)
  have h2 := ex_b hI.pw (facI M e w (nI k) d) (gi M 76 12)
  apply maxI_b
  rw [add_toInt (by omega) (by omega)]
  omega
theorem pay_b {L : Nat → List Cl} {M : Hp} (hI : Inv L M) {e w : Nat} (he : e < mE M) (hw : w < mW M) : isB (payS L M e w) 30000 := by
  unfold payS
  rw [(sayN hI he).1]
  exact payI_b hI he hw (sayN hI he).2.2 (by have := (iD hI).2; omega)
theorem chance_b {L : Nat → List Cl} {M : Hp} (hI : Inv L M) {w : Nat} (hw : w < mW M) : isB (gi M 77 w) 30 := isB.of (hI.2.1.2.2.2.2.2.2.2.1 w hw).1
theorem wI_b {L : Nat → List Cl} {M : Hp} (hI : Inv L M) {e k d : Nat} (he : e < mE M) (hk : k < 64) (hd : d < 20000) : isB (wS L M e (nI k) d (mW M)) 5400000 :=
  (sumI_b (mW M) (fun w hw => (payI_b hI he hw hk hd).mul (chance_b hI hw))).mono (by have := (iW hI).2; omega)
theorem wS_b {L : Nat → List Cl} {M : Hp} (hI : Inv L M) {e : Nat} (he : e < mE M) : isB (wS L M e (gi M 80 e) (mD M) (mW M)) 5400000 := by
  rw [(sayN hI he).1]
  exact wI_b hI he (sayN hI he).2.2 (by have := (iD hI).2; omega)
theorem chS_b {L : Nat → List Cl} {M : Hp} (hI : Inv L M) (set : Int32) : isB (chS M set (mW M)) 180 := by
  refine (sumI_b (m := 30) (mW M) (fun w hw => ?_)).mono (by have := (iW hI).2; omega)
  split
  · exact chance_b hI hw
  · exact isB.zero
theorem sumI_pos {f : Nat → Int32} {m : Nat} : ∀ n, n * m < 2 ^ 31 → (∀ k, k < n → isB (f k) m) → (∃ k, k < n ∧ ¬ f k = 0) → ¬ sumI f n = 0
  | 0, _, _, h => by obtain ⟨k, hk, _⟩ := h; omega
  | n + 1, hm, hf, h => by
    intro q
    unfold sumI at q
    obtain ⟨a, a1, ha⟩ := sumI_b n (fun k hk => hf k (by omega))
    obtain ⟨b, b1, hb⟩ := hf n (by omega)
    rw [Nat.succ_mul] at hm
    rw [ha, hb, nI_add] at q
    have hz : a + b = 0 := by
      rcases Nat.eq_zero_or_pos (a + b) with h0 | h0
      · exact h0
      · exact absurd q (nI_ne0 h0 (by omega))
    obtain ⟨k, hk, hk2⟩ := h
    rcases Nat.lt_or_ge k n with h1 | h1
    · exact sumI_pos n (by omega) (fun k hk => hf k (by omega)) ⟨k, h1, hk2⟩ (by rw [ha, show a = 0 by omega]; rfl)
    · have e : k = n := by omega
      subst e
      exact hk2 (by rw [hb, show b = 0 by omega]; rfl)
theorem ch1 {L : Nat → List Cl} {M : Hp} (hI : Inv L M) {w : Nat} (hw : w < mW M) : ¬ gi M 77 w = 0 := by
  obtain ⟨h1, h2⟩ := hI.2.1.2.2.2.2.2.2.2.1 w hw
  have h3 : gi M 77 w = nI (cN (gi M 77 w)) := h1.1
  have h4 : 1 ≤ cN (gi M 77 w) := h2
  have h5 : cN (gi M 77 w) < 31 := h1.2
  rw [h3]
  exact nI_ne0 (by omega) (by omega)
theorem chS_pos {L : Nat → List Cl} {M : Hp} (hI : Inv L M) {set : Int32} {w : Nat} (hw : w < mW M) (hb : hasB set (nI w)) : ¬ chS M set (mW M) = 0 := by
  refine sumI_pos (m := 30) (mW M) (by have := (iW hI).2; omega) (fun k hk => ?_) ⟨w, hw, ?_⟩
  · split
    · exact chance_b hI hk
    · exact isB.zero
  · rw [if_pos hb]
    exact ch1 hI hw
theorem bt_all {L : Nat → List Cl} {M : Hp} (hI : Inv L M) {i : Nat} (hi : i < 32) : bt (allS M) i = decide (i < mW M) := by
  have h := (by decide +kernel : ∀ n, n < 7 → ∀ i, i < 32 → bt ((1 : Int32) <<< (nI n &&& 31) - 1) i = decide (i < n)) (mW M) (iW hI).2 i hi
  exact h
theorem bt_left {L : Nat → List Cl} {M : Hp} (hI : Inv L M) {i : Nat} (hi : i < 32) : ∀ (f : Nat → Int32) (n : Nat), bt (andI (allS M) f n) i = true → i < mW M
  | f, 0, h => by
    rw [andI, bt_all hI hi] at h
    exact of_decide_eq_true h
  | f, n + 1, h => by
    rw [andI, b_and, Bool.and_eq_true] at h
    exact bt_left hI hi f n h.1
theorem left_bit {L : Nat → List Cl} {M : Hp} (hI : Inv L M) (h : ¬ leftS M = 0) : ∃ w, w < mW M ∧ hasB (leftS M) (nI w) := by
  apply Classical.byContradiction
  intro q
  apply h
  apply b_ext
  intro i hi
  rw [b_0]
  cases hq : bt (leftS M) i with
  | false => rfl
  | true => exact absurd ⟨i, bt_left hI hi _ _ hq, (bit_iff _ hi).mpr hq⟩ q
theorem chS_0 {M : Hp} : ∀ n, n ≤ 31 → chS M 0 n = 0
  | 0, _ => rfl
  | n + 1, h => by
    have := chS_0 (M := M) n (by omega)
    unfold chS at this ⊢
    unfold sumI
    rw [this, if_neg (hasB0 (by omega))]
    rfl
/-- the greatest shared divisor; a fraction's part -/
def frS (a b : Nat) (x : Int32) : Int64 := if x = 0 then (nI (a / Nat.gcd a b)).toInt64 else (nI (b / Nat.gcd a b)).toInt64
theorem c_greatestShared {l : Launch} {G : GT} {σ : Hp} (a b : Nat) (ha : a < 2 ^ 30) (hb : b < 2 ^ 30) : MM l G mG_greatestShared 0 0 0 [.int (nI a), .int (nI b)] KA σ (PE (some (.int (nI (Nat.gcd a b)))) KA σ) := by
  refine MM.of (loc := [(0, .int (nI a)), (1, .int (nI b))]) (by decide +kernel) rfl (Nat.le_of_ble_eq_true rfl) ?_
  have lp : ∀ (n i x y : Nat), i + n ≤ 64 → y ≤ x → x < 2 ^ 30 → x * y < 2 ^ n → V l G mG_greatestShared (rmd 0 0 0) (KA.length + 0) 0 7 [(4, .int (nI i)), (3, .int (nI y)), (2, .int (nI x)), (0, .int (nI a)), (1, .int (nI b))] [] KA σ (PE (some (.int (nI (Nat.gcd x y)))) KA σ) := by
    intro n
    induction n with
    | zero =>
      intro i x y hi hyx hx hxy
      have hy : y = 0 := by
        rcases Nat.eq_zero_or_pos y with h | h
        · exact h
        · have : 1 ≤ x * y := Nat.mul_pos (by omega) h
          omega
      subst hy
      rw [Nat.gcd_zero_right]
      refine V_iload dG_greatestShared_7 rfl ?_
      refine V_bipush (v := 64) dG_greatestShared_9 (by decide) ?_
      refine V_icmp_ge (tgt := 34) dG_greatestShared_11 rfl (fun c11 => ?_) (fun c11 => ?_)
      · skip
        refine V_iload_n dG_greatestShared_34 rfl ?_
        exact V_iret dG_greatestShared_35 rfl rfl ⟨rfl, rfl, rfl⟩
      · skip
        refine V_iload_n dG_greatestShared_14 rfl ?_
        refine V_if_eq (tgt := 34) dG_greatestShared_15 rfl (fun _ => ?_) (fun h => absurd h (not_not_intro nI_0))
        refine V_iload_n dG_greatestShared_34 rfl ?_
        exact V_iret dG_greatestShared_35 rfl rfl ⟨rfl, rfl, rfl⟩
    | succ n ih =>
      intro i x y hi hyx hx hxy
      rcases Nat.eq_zero_or_pos y with h0 | h0
      · subst h0
        rw [Nat.gcd_zero_right]
        refine V_iload dG_greatestShared_7 rfl ?_
        refine V_bipush (v := 64) dG_greatestShared_9 (by decide) ?_
        refine V_icmp_ge (tgt := 34) dG_greatestShared_11 rfl (fun c11 => ?_) (fun c11 => ?_)
        · skip
          refine V_iload_n dG_greatestShared_34 rfl ?_
          exact V_iret dG_greatestShared_35 rfl rfl ⟨rfl, rfl, rfl⟩
        · skip
          refine V_iload_n dG_greatestShared_14 rfl ?_
          refine V_if_eq (tgt := 34) dG_greatestShared_15 rfl (fun _ => ?_) (fun h => absurd h (not_not_intro nI_0))
          refine V_iload_n dG_greatestShared_34 rfl ?_
          exact V_iret dG_greatestShared_35 rfl rfl ⟨rfl, rfl, rfl⟩
      · have hr := Nat.mod_lt x h0
        have hdm := Nat.div_add_mod x y
        have hq : 1 ≤ x / y := Nat.div_pos hyx h0
        have h2 : x % y + x % y ≤ x := by
          have : y * 1 ≤ y * (x / y) := Nat.mul_le_mul_left y hq
          omega
        have h3 : y * (x % y) < 2 ^ n := by
          have a1 := Nat.mul_le_mul_left y h2
          rw [Nat.mul_add, Nat.mul_comm y x] at a1
          rw [Nat.pow_succ] at hxy
          omega
        rw [Nat.gcd_comm x y, Nat.gcd_rec y x, Nat.gcd_comm (x % y) y]
        refine V_iload dG_greatestShared_7 rfl ?_
        refine V_bipush (v := 64) dG_greatestShared_9 (by decide) ?_
        refine V_icmp_ge (tgt := 34) dG_greatestShared_11 rfl (fun h => absurd h (nI_ge (a := i) (b := 64) (by omega) (by decide))) (fun _ => ?_)
        refine V_iload_n dG_greatestShared_14 rfl ?_
        refine V_if_eq (tgt := 34) dG_greatestShared_15 rfl (fun h => absurd h (nI_ne0 h0 (by omega))) (fun _ => ?_)
        refine V_iload_n dG_greatestShared_18 rfl ?_
        refine V_iload_n dG_greatestShared_19 rfl ?_
        refine V_irem dG_greatestShared_20 (nI_ne0 h0 (by omega)) ?_
        refine V_topI (x' := nI (x % y)) (pk_rem (by omega) h0 (by omega)) ?_
        refine V_istore (loc' := [(5, .int (nI (x % y))), (4, .int (nI i)), (3, .int (nI y)), (2, .int (nI x)), (0, .int (nI a)), (1, .int (nI b))]) dG_greatestShared_21 (by decide) rfl ?_
        refine V_iload_n dG_greatestShared_23 rfl ?_
        refine V_istore_n (loc' := [(2, .int (nI y)), (5, .int (nI (x % y))), (4, .int (nI i)), (3, .int (nI y)), (0, .int (nI a)), (1, .int (nI b))]) dG_greatestShared_24 (by decide) rfl ?_
        refine V_iload dG_greatestShared_25 rfl ?_
        refine V_istore_n (loc' := [(3, .int (nI (x % y))), (2, .int (nI y)), (5, .int (nI (x % y))), (4, .int (nI i)), (0, .int (nI a)), (1, .int (nI b))]) dG_greatestShared_27 (by decide) rfl ?_
        refine V_iinc (v := nI (i + 1)) (loc' := [(4, .int (nI (i + 1))), (3, .int (nI (x % y))), (2, .int (nI y)), (5, .int (nI (x % y))), (0, .int (nI a)), (1, .int (nI b))]) dG_greatestShared_28 rfl (nI_inc i) (by decide) rfl ?_
        refine V_goto (tgt := 7) dG_greatestShared_31 rfl ?_
        refine V.locs (loc' := [(4, .int (nI (i + 1))), (3, .int (nI (x % y))), (2, .int (nI y)), (0, .int (nI a)), (1, .int (nI b))]) [0, 1, 2, 4, 5] rfl ?_
        exact ih (i + 1) y (x % y) (by omega) (by omega) (by omega) h3
  rcases Nat.lt_or_ge a b with hab | hab
  · have h1 : a % b = a := Nat.mod_eq_of_lt hab
    rw [Nat.gcd_comm a b]
    refine V_iload_n dG_greatestShared_0 rfl ?_
    refine V_istore_n (loc' := [(2, .int (nI a)), (0, .int (nI a)), (1, .int (nI b))]) dG_greatestShared_1 (by decide) rfl ?_
    refine V_iload_n dG_greatestShared_2 rfl ?_
    refine V_istore_n (loc' := [(3, .int (nI b)), (2, .int (nI a)), (0, .int (nI a)), (1, .int (nI b))]) dG_greatestShared_3 (by decide) rfl ?_
    refine V_iconst (v := 0) dG_greatestShared_4 (by decide) ?_
    refine V_istore (loc' := [(4, .int 0), (3, .int (nI b)), (2, .int (nI a)), (0, .int (nI a)), (1, .int (nI b))]) dG_greatestShared_5 (by decide) rfl ?_
    skip
    refine V_iload dG_greatestShared_7 rfl ?_
    refine V_bipush (v := 64) dG_greatestShared_9 (by decide) ?_
    refine V_icmp_ge (tgt := 34) dG_greatestShared_11 rfl (fun h => absurd h (by decide)) (fun _ => ?_)
    refine V_iload_n dG_greatestShared_14 rfl ?_
    refine V_if_eq (tgt := 34) dG_greatestShared_15 rfl (fun h => absurd h (nI_ne0 (by omega) (by omega))) (fun _ => ?_)
    refine V_iload_n dG_greatestShared_18 rfl ?_
    refine V_iload_n dG_greatestShared_19 rfl ?_
    refine V_irem dG_greatestShared_20 (nI_ne0 (by omega) (by omega)) ?_
    refine V_topI (x' := nI a) ((pk_rem (by omega) (by omega) (by omega)).trans (by rw [h1])) ?_
    refine V_istore (loc' := [(5, .int (nI a)), (4, .int 0), (3, .int (nI b)), (2, .int (nI a)), (0, .int (nI a)), (1, .int (nI b))]) dG_greatestShared_21 (by decide) rfl ?_
    refine V_iload_n dG_greatestShared_23 rfl ?_
    refine V_istore_n (loc' := [(2, .int (nI b)), (5, .int (nI a)), (4, .int 0), (3, .int (nI b)), (0, .int (nI a)), (1, .int (nI b))]) dG_greatestShared_24 (by decide) rfl ?_
    refine V_iload dG_greatestShared_25 rfl ?_
    refine V_istore_n (loc' := [(3, .int (nI a)), (2, .int (nI b)), (5, .int (nI a)), (4, .int 0), (0, .int (nI a)), (1, .int (nI b))]) dG_greatestShared_27 (by decide) rfl ?_
    refine V_iinc (v := nI 1) (loc' := [(4, .int (nI 1)), (3, .int (nI a)), (2, .int (nI b)), (5, .int (nI a)), (0, .int (nI a)), (1, .int (nI b))]) dG_greatestShared_28 rfl rfl (by decide) rfl ?_
    refine V_goto (tgt := 7) dG_greatestShared_31 rfl ?_
    refine V.locs (loc' := [(4, .int (nI 1)), (3, .int (nI a)), (2, .int (nI b)), (0, .int (nI a)), (1, .int (nI b))]) [0, 1, 2, 4, 5] rfl ?_
    exact lp 62 1 b a (by omega) (by omega) (by omega) (by have : b * a ≤ 2 ^ 30 * 2 ^ 30 := Nat.mul_le_mul (by omega) (by omega); have : b * a < b * 2 ^ 30 := Nat.mul_lt_mul_of_pos_left (by omega) (by omega); have : b * 2 ^ 30 ≤ 2 ^ 30 * 2 ^ 30 := Nat.mul_le_mul_right _ (by omega); omega)
  · skip
    refine V_iload_n dG_greatestShared_0 rfl ?_
    refine V_istore_n (loc' := [(2, .int (nI a)), (0, .int (nI a)), (1, .int (nI b))]) dG_greatestShared_1 (by decide) rfl ?_
    refine V_iload_n dG_greatestShared_2 rfl ?_
    refine V_istore_n (loc' := [(3, .int (nI b)), (2, .int (nI a)), (0, .int (nI a)), (1, .int (nI b))]) dG_greatestShared_3 (by decide) rfl ?_
    refine V_iconst (v := 0) dG_greatestShared_4 (by decide) ?_
    refine V_istore (loc' := [(4, .int 0), (3, .int (nI b)), (2, .int (nI a)), (0, .int (nI a)), (1, .int (nI b))]) dG_greatestShared_5 (by decide) rfl ?_
    refine V.locs (loc' := [(4, .int 0), (3, .int (nI b)), (2, .int (nI a)), (0, .int (nI a)), (1, .int (nI b))]) [0, 1, 2, 3, 4] rfl ?_
    refine V_eqL (loc' := [(4, .int (nI 0)), (3, .int (nI b)), (2, .int (nI a)), (0, .int (nI a)), (1, .int (nI b))]) ?_ ?_
    · rfl
    exact lp 63 0 a b (by omega) hab (by omega) (by have : a * b ≤ 2 ^ 30 * 2 ^ 30 := Nat.mul_le_mul (by omega) (by omega); omega)
theorem m_divisor {l : Launch} {G : GT} {σ : Hp} (a b : Nat) (ha : a < 2 ^ 30) (hb : b < 2 ^ 30) : MM l G mM_divisor 0 0 0 [.ref 76, .int (nI a), .int (nI b)] KA σ (PE (some (.int (nI (Nat.gcd a b)))) KA σ) := by
  refine MM.of (loc := [(0, .ref 76), (1, .int (nI a)), (2, .int (nI b))]) (by decide +kernel) rfl (Nat.le_of_ble_eq_true rfl) ?_
  have lp : ∀ (n x y : Nat), y ≤ n → x < 2 ^ 30 → y < 2 ^ 30 → V l G mM_divisor (rmd 0 0 0) (KA.length + 0) 0 5 [(4, .int (nI y)), (3, .int (nI x)), (0, .ref 76), (1, .int (nI a)), (2, .int (nI b))] [] KA σ (PE (some (.int (nI (Nat.gcd x y)))) KA σ) := by
    intro n
    induction n with
    | zero =>
      intro x y hn hx hy
      obtain rfl : y = 0 := by omega
      rw [Nat.gcd_zero_right]
      refine V_iload dM_divisor_5 rfl ?_
      refine V_if_eq (tgt := 26) dM_divisor_7 rfl (fun _ => ?_) (fun h => absurd h (not_not_intro nI_0))
      refine V_iload_n dM_divisor_26 rfl ?_
      exact V_iret dM_divisor_27 rfl rfl ⟨rfl, rfl, rfl⟩
    | succ n ih =>
      intro x y hn hx hy
      rcases Nat.eq_zero_or_pos y with h0 | h0
      · subst h0
        rw [Nat.gcd_zero_right]
        refine V_iload dM_divisor_5 rfl ?_
        refine V_if_eq (tgt := 26) dM_divisor_7 rfl (fun _ => ?_) (fun h => absurd h (not_not_intro nI_0))
        refine V_iload_n dM_divisor_26 rfl ?_
        exact V_iret dM_divisor_27 rfl rfl ⟨rfl, rfl, rfl⟩
      · have hr := Nat.mod_lt x h0
        rw [Nat.gcd_comm x y, Nat.gcd_rec y x, Nat.gcd_comm (x % y) y]
        refine V_iload dM_divisor_5 rfl ?_
        refine V_if_eq (tgt := 26) dM_divisor_7 rfl (fun h => absurd h (nI_ne0 h0 (by omega))) (fun _ => ?_)
        refine V_iload_n dM_divisor_10 rfl ?_
        refine V_iload dM_divisor_11 rfl ?_
        refine V_irem dM_divisor_13 (nI_ne0 h0 (by omega)) ?_
        refine V_topI (x' := nI (x % y)) (pk_rem (by omega) h0 (by omega)) ?_
        refine V_istore (loc' := [(5, .int (nI (x % y))), (4, .int (nI y)), (3, .int (nI x)), (0, .ref 76), (1, .int (nI a)), (2, .int (nI b))]) dM_divisor_14 (by decide) rfl ?_
        refine V_iload dM_divisor_16 rfl ?_
        refine V_istore_n (loc' := [(3, .int (nI y)), (5, .int (nI (x % y))), (4, .int (nI y)), (0, .ref 76), (1, .int (nI a)), (2, .int (nI b))]) dM_divisor_18 (by decide) rfl ?_
        refine V_iload dM_divisor_19 rfl ?_
        refine V_istore (loc' := [(4, .int (nI (x % y))), (3, .int (nI y)), (5, .int (nI (x % y))), (0, .ref 76), (1, .int (nI a)), (2, .int (nI b))]) dM_divisor_21 (by decide) rfl ?_
        refine V_goto (tgt := 5) dM_divisor_23 rfl ?_
        refine V.locs (loc' := [(4, .int (nI (x % y))), (3, .int (nI y)), (0, .ref 76), (1, .int (nI a)), (2, .int (nI b))]) [0, 1, 3, 4, 5] rfl ?_
        exact ih y (x % y) (by omega) (by omega) (by omega)
  refine V_iload_n dM_divisor_0 rfl ?_
  refine V_istore_n (loc' := [(3, .int (nI a)), (0, .ref 76), (1, .int (nI a)), (2, .int (nI b))]) dM_divisor_1 (by decide) rfl ?_
  refine V_iload_n dM_divisor_2 rfl ?_
  refine V_istore (loc' := [(4, .int (nI b)), (3, .int (nI a)), (0, .ref 76), (1, .int (nI a)), (2, .int (nI b))]) dM_divisor_3 (by decide) rfl ?_
  refine V.locs (loc' := [(4, .int (nI b)), (3, .int (nI a)), (0, .ref 76), (1, .int (nI a)), (2, .int (nI b))]) [0, 1, 2, 3, 4] rfl ?_
  exact lp b a b (Nat.le_refl _) ha hb
