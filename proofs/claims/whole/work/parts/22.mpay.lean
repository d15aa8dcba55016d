/-! what an envelope pays: the second object -/
def scP (k : Nat) : Prop := k = 93
def Gz (σ s : Hp) : Prop := (∀ k j : Nat, ¬ scP k → gi s k j = gi σ k j) ∧ (∀ k j : Nat, gl s k j = gl σ k j) ∧ ∀ k j : Nat, gr s k j = gr σ k j
theorem Gz.rfl {σ : Hp} : Gz σ σ := ⟨fun _ _ _ => Eq.refl _, fun _ _ => Eq.refl _, fun _ _ => Eq.refl _⟩
theorem Gz.trans {σ s t : Hp} (h : Gz σ s) (g : Gz s t) : Gz σ t := ⟨fun k j hk => (g.1 k j hk).trans (h.1 k j hk), fun k j => (g.2.1 k j).trans (h.2.1 k j), fun k j => (g.2.2 k j).trans (h.2.2 k j)⟩
theorem Gz.set {σ s : Hp} (h : Gz σ s) {k j : Nat} {x : Int32} (hk : scP k) : Gz σ (si s k j x) := by
  refine ⟨fun a b ha => ?_, fun a b => (h.2.1 a b), fun a b => (h.2.2 a b)⟩
  rw [gi_ne (fun q => ha (by rw [q]; exact hk)), h.1 a b ha]
theorem Gz.rm {M σ s : Hp} (h : Gz σ s) (hM : RM M σ) : RM M s := by
  refine ⟨fun q hq => (h.2.2 _ _).trans (hM.1 q hq), fun k j hk => ⟨(h.1 k j (fun q => ?_)).trans (hM.2 k j hk).1, (h.2.1 k j).trans (hM.2 k j hk).2⟩⟩
  unfold scP at q
  subst q
  exact absurd hk (by simp [cnt])
theorem Gz.sc {σ s : Hp} (h : Gz σ s) : Sc σ s := fun k j hk => ⟨h.1 k j (by unfold scP; omega), h.2.1 k j⟩
theorem mR {M σ : Hp} (hM : RM M σ) {k j : Nat} (h : cnt k j = true) : gi σ k j = gi M k j := (hM.2 k j h).1
theorem mRl {M σ : Hp} (hM : RM M σ) {k j : Nat} (h : cnt k j = true) : gl σ k j = gl M k j := (hM.2 k j h).2
def QX (v : Option Value) (σ : Hp) : Option Value → List Kd → Hp → Prop := fun r k s => r = v ∧ KA = k ∧ Gz σ s
def QZ (P : Prop) (σ : Hp) : Option Value → List Kd → Hp → Prop := fun r k s => (P ∧ r = some (.int 1) ∧ KA = k ∧ Gz σ s) ∨ (¬ P ∧ r = some (.int 0) ∧ KA = k ∧ Gz σ s)
/-- what the pays rest on -/
def Pw (L : Nat → List Cl) (M : Hp) : Prop := (isN (gi M 76 0) 7 ∧ isN (gi M 76 1) 9 ∧ gi M 76 2 = nI (mD M)) ∧ (isN (gi M 76 11) 7 ∧ (gi M 76 12 = -1 ∨ (isN (gi M 76 12) 6 ∧ cN (gi M 76 12) < cN (gi M 76 11)))) ∧ RMl L M
def Ps (M : Hp) (e : Nat) : Prop := gi M 80 e = nI (cN (gi M 80 e)) ∧ cN (gi M 80 e) < 2 ^ mW M
theorem Inv.pw {L : Nat → List Cl} {M : Hp} (hI : Inv L M) : Pw L M := ⟨⟨hI.2.1.1, hI.2.1.2.1, (iD hI).1⟩, ⟨hI.1, hI.2.1.2.2.2.2.1⟩, hI.2.2.2.1⟩
theorem Inv.ps {L : Nat → List Cl} {M : Hp} (hI : Inv L M) {e : Nat} (he : e < mE M) : Ps M e := ⟨(sayN hI he).1, (sayN hI he).2.1⟩
theorem Pw.w {L : Nat → List Cl} {M : Hp} (h : Pw L M) : gi M 76 0 = nI (mW M) ∧ mW M < 7 := h.1.1
theorem Pw.e {L : Nat → List Cl} {M : Hp} (h : Pw L M) : gi M 76 1 = nI (mE M) ∧ mE M < 9 := h.1.2.1
theorem Ps.s64 {L : Nat → List Cl} {M : Hp} {e : Nat} (h : Ps M e) (hP : Pw L M) : cN (gi M 80 e) < 64 := Nat.lt_of_lt_of_le h.2 (pw6 _ hP.w.2)
/-- where the law's clauses lie -/
theorem Pw.law {L : Nat → List Cl} {M : Hp} (h : Pw L M) : gi M 76 12 = -1 ∨ ∃ f : Nat, f < 6 ∧ gi M 76 12 = nI f ∧ f < cN (gi M 76 11) ∧ gi M 85 f = nI (L f).length ∧ (L f).length ≤ 10 ∧ ∀ (i : Nat) (c : Cl), (L f)[i]? = some c → clOk M f i c := by
  rcases h.2.1.2 with h1 | ⟨h1, h2⟩
  · exact Or.inl h1
  · obtain ⟨g1, g2, g3⟩ := h.2.2 (cN (gi M 76 12)) h1.2 h2
    exact Or.inr ⟨_, h1.2, h1.1, h2, g1, g2, g3⟩
theorem onF : ∀ j : Nat, j < 64 → j ≠ 0 → nI j &&& (nI j - 1) = nI (j &&& (j - 1)) ∧ (j &&& (j - 1)) < j ∧ pcS (nI j) = 1 + pcS (nI (j &&& (j - 1))) := by decide +kernel
theorem m_ones {l : Launch} {G : GT} {σ : Hp} (x : Int32) (k : Nat) (hk : k < 64) (hx : x = nI k) : MM l G mM_ones 0 0 0 [.ref 76, .int x] KA σ (PE (some (.int (pcS x))) KA σ) := by
  refine MM.of (loc := [(0, .ref 76), (1, .int x)]) (by decide +kernel) rfl (Nat.le_of_ble_eq_true rfl) ?_
  have lp : ∀ n j : Nat, j ≤ n → j < 64 → ∀ c r : Int32, c + pcS (nI j) = r → V l G mM_ones (rmd 0 0 0) (KA.length + 0) 0 4 [(3, .int (nI j)), (2, .int c), (0, .ref 76), (1, .int x)] [] KA σ (PE (some (.int r)) KA σ) := by
    intro n
    induction n with
    | zero =>
      intro j hj _ c r hr
      obtain rfl : j = 0 := by omega
      refine V_iload_n dM_ones_4 rfl ?_
      refine V_if_eq (tgt := 20) dM_ones_5 rfl (fun _ => ?_) (fun h => absurd h (not_not_intro nI_0))
      refine V_iload_n dM_ones_20 rfl ?_
      exact V_iret dM_ones_21 rfl rfl ⟨by rw [← hr, nI_0, pc_0, Int32.add_zero], rfl, rfl⟩
    | succ n ih =>
      intro j hj h64 c r hr
      by_cases h0 : j = 0
      · subst h0
        refine V_iload_n dM_ones_4 rfl ?_
        refine V_if_eq (tgt := 20) dM_ones_5 rfl (fun _ => ?_) (fun h => absurd h (not_not_intro nI_0))
        refine V_iload_n dM_ones_20 rfl ?_
        exact V_iret dM_ones_21 rfl rfl ⟨by rw [← hr, nI_0, pc_0, Int32.add_zero], rfl, rfl⟩
      · obtain ⟨f1, f2, f3⟩ := onF j h64 h0
        refine V_iload_n dM_ones_4 rfl ?_
        refine V_if_eq (tgt := 20) dM_ones_5 rfl (fun h => absurd h (nI_ne0 (by omega) (by omega))) (fun _ => ?_)
        refine V_iinc (v := c + 1) (loc' := [(2, .int (c + 1)), (3, .int (nI j)), (0, .ref 76), (1, .int x)]) dM_ones_8 rfl (by rfl) (by decide) rfl ?_
        refine V_iload_n dM_ones_11 rfl ?_
        refine V_iload_n dM_ones_12 rfl ?_
        refine V_iconst (v := 1) dM_ones_13 (by decide) ?_
        refine V_isub dM_ones_14 ?_
        refine V_iand dM_ones_15 ?_
        refine V_topI (x' := nI (j &&& (j - 1))) f1 ?_
        refine V_istore_n (loc' := [(3, .int (nI (j &&& (j - 1)))), (2, .int (c + 1)), (0, .ref 76), (1, .int x)]) dM_ones_16 (by decide) rfl ?_
        refine V_goto (tgt := 4) dM_ones_17 rfl ?_
        refine V.locs (loc' := [(3, .int (nI (j &&& (j - 1)))), (2, .int (c + 1)), (0, .ref 76), (1, .int x)]) [0, 1, 2, 3] rfl ?_
        exact ih _ (by omega) (by omega) _ r (by rw [← hr, f3, ← Int32.add_assoc])
  refine V_iconst (v := 0) dM_ones_0 (by decide) ?_
  refine V_istore_n (loc' := [(2, .int 0), (0, .ref 76), (1, .int x)]) dM_ones_1 (by decide) rfl ?_
  refine V_iload_n dM_ones_2 rfl ?_
  refine V_istore_n (loc' := [(3, .int x), (2, .int 0), (0, .ref 76), (1, .int x)]) dM_ones_3 (by decide) rfl ?_
  refine V.locs (loc' := [(3, .int x), (2, .int 0), (0, .ref 76), (1, .int x)]) [0, 1, 2, 3] rfl ?_
  refine V_eqL (loc' := [(3, .int (nI k)), (2, .int 0), (0, .ref 76), (1, .int x)]) ?_ ?_
  · simp [hx]
  exact lp k k (Nat.le_refl _) hk 0 _ (by rw [Int32.zero_add, hx])
theorem m_begin0 {l : Launch} {G : GT} {M σ : Hp} (hM : RM M σ) (h : gi M 76 12 = -1) : MM l G mM_begin 0 0 0 [.ref 76] KA σ (PE (some (.int 0)) KA σ) := by
  have hR := hM.1
  refine MM.of (loc := [(0, .ref 76)]) (by decide +kernel) rfl (Nat.le_of_ble_eq_true rfl) ?_
  refine V_aload_n dM_begin_0 rfl ?_
  refine V_getE (x := (-1)) dM_begin_1 flM_47 k76 rfl ((mR hM rfl).trans h) ?_
  refine V_if_ge (tgt := 11) dM_begin_4 rfl (fun h => absurd h (by decide)) (fun _ => ?_)
  refine V_iconst (v := 0) dM_begin_7 (by decide) ?_
  refine V_goto (tgt := 18) dM_begin_8 rfl ?_
  exact V_iret dM_begin_18 rfl rfl ⟨rfl, rfl, rfl⟩
theorem m_behind0 {l : Launch} {G : GT} {M σ : Hp} (hM : RM M σ) (h : gi M 76 12 = -1) : MM l G mM_behind 0 0 0 [.ref 76] KA σ (PE (some (.int 0)) KA σ) := by
  have hR := hM.1
  refine MM.of (loc := [(0, .ref 76)]) (by decide +kernel) rfl (Nat.le_of_ble_eq_true rfl) ?_
  refine V_aload_n dM_behind_0 rfl ?_
  refine V_getE (x := (-1)) dM_behind_1 flM_47 k76 rfl ((mR hM rfl).trans h) ?_
  refine V_if_ge (tgt := 11) dM_behind_4 rfl (fun h => absurd h (by decide)) (fun _ => ?_)
  refine V_iconst (v := 0) dM_behind_7 (by decide) ?_
  refine V_goto (tgt := 28) dM_behind_8 rfl ?_
  exact V_iret dM_behind_28 rfl rfl ⟨rfl, rfl, rfl⟩
theorem m_begin1 {l : Launch} {G : GT} {M σ : Hp} (hM : RM M σ) {f : Nat} (hf6 : f < 6) (hf : gi M 76 12 = nI f) : MM l G mM_begin 0 0 0 [.ref 76] KA σ (PE (some (.int (nI (10 * f)))) KA σ) := by
  have hR := hM.1
  refine MM.of (loc := [(0, .ref 76)]) (by decide +kernel) rfl (Nat.le_of_ble_eq_true rfl) ?_
  refine V_aload_n dM_begin_0 rfl ?_
  refine V_getE (x := nI f) dM_begin_1 flM_47 k76 rfl ((mR hM rfl).trans hf) ?_
  refine V_if_ge (tgt := 11) dM_begin_4 rfl (fun _ => ?_) (fun h => absurd h (not_not_intro (nI_pos' (by omega))))
  refine V_bipush (v := 10) dM_begin_11 (by decide) ?_
  refine V_aload_n dM_begin_13 rfl ?_
  refine V_getE (x := nI f) dM_begin_14 flM_47 k76 rfl ((mR hM rfl).trans hf) ?_
  refine V_imul dM_begin_17 ?_
  refine V_topI (x' := nI (10 * f)) (by rw [show (10 : Int32) = nI 10 from rfl, pk_mul]) ?_
  exact V_iret dM_begin_18 rfl rfl ⟨rfl, rfl, rfl⟩
theorem m_behind1 {l : Launch} {G : GT} {M σ : Hp} (hM : RM M σ) {f n : Nat} (hf6 : f < 6) (hf : gi M 76 12 = nI f) (hn : gi M 85 f = nI n) : MM l G mM_behind 0 0 0 [.ref 76] KA σ (PE (some (.int (nI (10 * f + n)))) KA σ) := by
  have hR := hM.1
  refine MM.of (loc := [(0, .ref 76)]) (by decide +kernel) rfl (Nat.le_of_ble_eq_true rfl) ?_
  refine V_aload_n dM_behind_0 rfl ?_
  refine V_getE (x := nI f) dM_behind_1 flM_47 k76 rfl ((mR hM rfl).trans hf) ?_
  refine V_if_ge (tgt := 11) dM_behind_4 rfl (fun _ => ?_) (fun h => absurd h (not_not_intro (nI_pos' (by omega))))
  refine V_bipush (v := 10) dM_behind_11 (by decide) ?_
  refine V_aload_n dM_behind_13 rfl ?_
  refine V_getE (x := nI f) dM_behind_14 flM_47 k76 rfl ((mR hM rfl).trans hf) ?_
  refine V_imul dM_behind_17 ?_
  refine V_aload_n dM_behind_18 rfl ?_
  refine V_getR (a := 85) dM_behind_19 flM_62 k76 rfl (r76_17 hR) ?_
  refine V_aload_n dM_behind_22 rfl ?_
  refine V_getE (x := nI f) dM_behind_23 flM_47 k76 rfl ((mR hM rfl).trans hf) ?_
  refine V_ialdN (j := f) dM_behind_26 k85 rfl (by omega) (by decide) ?_
  refine V_topI (x' := nI n) ((mR hM rfl).trans hn) ?_
  refine V_iadd dM_behind_27 ?_
  refine V_topI (x' := nI (10 * f + n)) (by rw [show (10 : Int32) = nI 10 from rfl, pk_mul, nI_add]) ?_
  exact V_iret dM_behind_28 rfl rfl ⟨rfl, rfl, rfl⟩
theorem m_base {l : Launch} {G : GT} {L : Nat → List Cl} {M σ : Hp} (hM : RM M σ) (hP : Pw L M) : MM l G mM_base 1 0 0 [.ref 76] KA σ (PE (some (.int (bsS L M (gi M 76 12)))) KA σ) := by
  have hR := hM.1
  refine MM.of (loc := [(0, .ref 76)]) (by decide +kernel) rfl (Nat.le_of_ble_eq_true rfl) ?_
  rcases hP.law with h | ⟨f, hf6, hf, hfl, hn, hlen, hcl⟩
  · skip
    refine V_bipush (v := 10) dM_base_0 (by decide) ?_
    refine V_istore_n (loc' := [(1, .int 10), (0, .ref 76)]) dM_base_2 (by decide) rfl ?_
    refine V_aload_n dM_base_3 rfl ?_
    refine V_callV (as := []) (rest := []) (bs' := 0) rfl dM_base_4 cmM_begin cvM_begin mlM_270 (Or.inl ⟨_, _, _, _, _, rfl, k76, by decide, rfl⟩) rfl rfl (m_begin0 hM h) (by decide) (Nat.le_refl _) (by decide) (Nat.le_of_ble_eq_true rfl) ?_
    rintro _ _ _ ⟨rfl, rfl, rfl⟩ -
    refine V_one ?_
    refine V_istore_n (loc' := [(2, .int 0), (1, .int 10), (0, .ref 76)]) dM_base_7 (by decide) rfl ?_
    refine V_iload_n dM_base_8 rfl ?_
    refine V_aload_n dM_base_9 rfl ?_
    refine V_callV (as := []) (rest := [.int 0]) (bs' := 0) rfl dM_base_10 cmM_behind cvM_behind mlM_273 (Or.inl ⟨_, _, _, _, _, rfl, k76, by decide, rfl⟩) rfl rfl (m_behind0 hM h) (by decide) (Nat.le_refl _) (by decide) (Nat.le_of_ble_eq_true rfl) ?_
    rintro _ _ _ ⟨rfl, rfl, rfl⟩ -
    refine V_one ?_
    refine V_icmp_ge (tgt := 43) dM_base_13 rfl (fun _ => ?_) (fun h => absurd h (by decide))
    refine V_iload_n dM_base_43 rfl ?_
    exact V_iret dM_base_44 rfl rfl ⟨by rw [h, bsS, if_neg (fun q => absurd q.1 (by decide))], rfl, rfl⟩
  · have hl7 := hP.2.1.1.2
    have lp : ∀ (rest : List Cl) (i b : Nat), (∀ (j : Nat) (c : Cl), rest[j]? = some c → clOk M f (i + j) c) → i + rest.length = (L f).length → ∀ r : Nat, baseL rest b = r → V l G mM_base (rmd 1 0 0) (KA.length + 0) 0 8 [(2, .int (nI (10 * f + i))), (1, .int (nI b)), (0, .ref 76)] [] KA σ (PE (some (.int (nI r))) KA σ) := by
      intro rest
      induction rest with
      | nil =>
        intro i b _ hil r hr
        subst hr
        refine V_iload_n dM_base_8 rfl ?_
        refine V_aload_n dM_base_9 rfl ?_
        refine V_callV (as := []) (rest := [.int (nI (10 * f + i))]) (bs' := 0) rfl dM_base_10 cmM_behind cvM_behind mlM_273 (Or.inl ⟨_, _, _, _, _, rfl, k76, by decide, rfl⟩) rfl rfl (m_behind1 hM hf6 hf hn) (by decide) (Nat.le_refl _) (by decide) (Nat.le_of_ble_eq_true rfl) ?_
        rintro _ _ _ ⟨rfl, rfl, rfl⟩ -
        refine V_one ?_
        refine V_icmp_ge (tgt := 43) dM_base_13 rfl (fun _ => ?_) (fun h => absurd h (not_not_intro (nI_le (by simp at hil; omega) (by omega))))
        refine V_iload_n dM_base_43 rfl ?_
        exact V_iret dM_base_44 rfl rfl ⟨rfl, rfl, rfl⟩
      | cons c rest ih =>
        intro i b hok hil r hr
        have h0 := hok 0 c rfl
        rw [Nat.add_zero] at h0
        have hok2 : ∀ (j : Nat) (c : Cl), rest[j]? = some c → clOk M f (i + 1 + j) c := fun j c h => by
          have := hok (j + 1) c (by rw [List.getElem?_cons_succ]; exact h)
          rwa [show i + (j + 1) = i + 1 + j by omega] at this
        have hil2 : i + 1 + rest.length = (L f).length := by simp at hil; omega
        by_cases h2 : c.1 = 2
        · skip
          refine V_iload_n dM_base_8 rfl ?_
          refine V_aload_n dM_base_9 rfl ?_
          refine V_callV (as := []) (rest := [.int (nI (10 * f + i))]) (bs' := 0) rfl dM_base_10 cmM_behind cvM_behind mlM_273 (Or.inl ⟨_, _, _, _, _, rfl, k76, by decide, rfl⟩) rfl rfl (m_behind1 hM hf6 hf hn) (by decide) (Nat.le_refl _) (by decide) (Nat.le_of_ble_eq_true rfl) ?_
          rintro _ _ _ ⟨rfl, rfl, rfl⟩ -
          refine V_one ?_
          refine V_icmp_ge (tgt := 43) dM_base_13 rfl (fun h => absurd h (nI_ge (a := 10 * f + i) (b := 10 * f + (L f).length) (by omega) (by omega))) (fun _ => ?_)
          refine V_aload_n dM_base_16 rfl ?_
          refine V_getR (a := 86) dM_base_17 flM_65 k76 rfl (r76_18 hR) ?_
          refine V_iload_n dM_base_20 rfl ?_
          refine V_ialdN (j := 10 * f + i) dM_base_21 k86 rfl (by omega) (by decide) ?_
          refine V_topI (x' := 2) ((mR hM rfl).trans (by rw [h0.1, h2]; rfl)) ?_
          refine V_iconst (v := 2) dM_base_22 (by decide) ?_
          refine V_icmp_ne (tgt := 35) dM_base_23 rfl (fun h => absurd h (fun q => q rfl)) (fun _ => ?_)
          refine V_aload_n dM_base_26 rfl ?_
          refine V_getR (a := 87) dM_base_27 flM_68 k76 rfl (r76_19 hR) ?_
          refine V_iload_n dM_base_30 rfl ?_
          refine V_ialdN (j := 10 * f + i) dM_base_31 k87 rfl (by omega) (by decide) ?_
          refine V_topI (x' := nI c.2.1) ((mR hM rfl).trans h0.2.2.1) ?_
          refine V_goto (tgt := 36) dM_base_32 rfl ?_
          refine V_istore_n (loc' := [(1, .int (nI c.2.1)), (2, .int (nI (10 * f + i))), (0, .ref 76)]) dM_base_36 (by decide) rfl ?_
          refine V_iinc (v := nI ((10 * f + i) + 1)) (loc' := [(2, .int (nI ((10 * f + i) + 1))), (1, .int (nI c.2.1)), (0, .ref 76)]) dM_base_37 rfl (nI_inc (10 * f + i)) (by decide) rfl ?_
          refine V_goto (tgt := 8) dM_base_40 rfl ?_
          refine V.locs (loc' := [(2, .int (nI ((10 * f + i) + 1))), (1, .int (nI c.2.1)), (0, .ref 76)]) [0, 1, 2] rfl ?_
          exact ih (i + 1) c.2.1 hok2 hil2 r (by rw [← hr]; simp only [baseL]; simp [h2])
        · skip
          refine V_iload_n dM_base_8 rfl ?_
          refine V_aload_n dM_base_9 rfl ?_
          refine V_callV (as := []) (rest := [.int (nI (10 * f + i))]) (bs' := 0) rfl dM_base_10 cmM_behind cvM_behind mlM_273 (Or.inl ⟨_, _, _, _, _, rfl, k76, by decide, rfl⟩) rfl rfl (m_behind1 hM hf6 hf hn) (by decide) (Nat.le_refl _) (by decide) (Nat.le_of_ble_eq_true rfl) ?_
          rintro _ _ _ ⟨rfl, rfl, rfl⟩ -
          refine V_one ?_
          refine V_icmp_ge (tgt := 43) dM_base_13 rfl (fun h => absurd h (nI_ge (a := 10 * f + i) (b := 10 * f + (L f).length) (by omega) (by omega))) (fun _ => ?_)
          refine V_aload_n dM_base_16 rfl ?_
          refine V_getR (a := 86) dM_base_17 flM_65 k76 rfl (r76_18 hR) ?_
          refine V_iload_n dM_base_20 rfl ?_
          refine V_ialdN (j := 10 * f + i) dM_base_21 k86 rfl (by omega) (by decide) ?_
          refine V_topI (x' := nI c.1) ((mR hM rfl).trans h0.1) ?_
          refine V_iconst (v := 2) dM_base_22 (by decide) ?_
          refine V_icmp_ne (tgt := 35) dM_base_23 rfl (fun _ => ?_) (fun h => absurd h (fun q => h2 ((nI_eq (b := 2) (by have := h0.2.1; omega) (by decide)).mp q)))
          refine V_iload_n dM_base_35 rfl ?_
          refine V_istore_n (loc' := [(1, .int (nI b)), (2, .int (nI (10 * f + i))), (0, .ref 76)]) dM_base_36 (by decide) rfl ?_
          refine V_iinc (v := nI ((10 * f + i) + 1)) (loc' := [(2, .int (nI ((10 * f + i) + 1))), (1, .int (nI b)), (0, .ref 76)]) dM_base_37 rfl (nI_inc (10 * f + i)) (by decide) rfl ?_
          refine V_goto (tgt := 8) dM_base_40 rfl ?_
          refine V.locs (loc' := [(2, .int (nI ((10 * f + i) + 1))), (1, .int (nI b)), (0, .ref 76)]) [0, 1, 2] rfl ?_
          exact ih (i + 1) b hok2 hil2 r (by rw [← hr]; simp only [baseL]; simp [h2])
    refine V_bipush (v := 10) dM_base_0 (by decide) ?_
    refine V_istore_n (loc' := [(1, .int 10), (0, .ref 76)]) dM_base_2 (by decide) rfl ?_
    refine V_aload_n dM_base_3 rfl ?_
    refine V_callV (as := []) (rest := []) (bs' := 0) rfl dM_base_4 cmM_begin cvM_begin mlM_270 (Or.inl ⟨_, _, _, _, _, rfl, k76, by decide, rfl⟩) rfl rfl (m_begin1 hM hf6 hf) (by decide) (Nat.le_refl _) (by decide) (Nat.le_of_ble_eq_true rfl) ?_
    rintro _ _ _ ⟨rfl, rfl, rfl⟩ -
    refine V_one ?_
    refine V_istore_n (loc' := [(2, .int (nI (10 * f))), (1, .int 10), (0, .ref 76)]) dM_base_7 (by decide) rfl ?_
    refine V.locs (loc' := [(2, .int (nI (10 * f))), (1, .int 10), (0, .ref 76)]) [0, 1, 2] rfl ?_
    rw [hf, bsS, if_pos (rng_n hfl (by omega))]
    exact lp (L f) 0 10 (fun j c h => by rw [Nat.zero_add]; exact hcl j c h) (by omega) _ (by rw [nI_cN (by omega)])
theorem m_old {l : Launch} {G : GT} {L : Nat → List Cl} {M σ : Hp} (hM : RM M σ) (hP : Pw L M) {e : Nat} (he : e < 8) : MM l G mM_old 0 0 0 [.ref 76, .int (nI e)] KA σ (PE (some (.int (nI (mD M) - gi M 82 e))) KA σ) := by
  have hR := hM.1
  refine MM.of (loc := [(0, .ref 76), (1, .int (nI e))]) (by decide +kernel) rfl (Nat.le_of_ble_eq_true rfl) ?_
  refine V_aload_n dM_old_0 rfl ?_
  refine V_getE (x := nI (mD M)) dM_old_1 flM_16 k76 rfl ((mR hM rfl).trans hP.1.2.2) ?_
  refine V_aload_n dM_old_4 rfl ?_
  refine V_getR (a := 82) dM_old_5 flM_38 k76 rfl (r76_9 hR) ?_
  refine V_iload_n dM_old_8 rfl ?_
  refine V_ialdN (j := e) dM_old_9 k82 rfl (by omega) (by decide) ?_
  refine V_topI (x' := gi M 82 e) (mR hM rfl) ?_
  refine V_isub dM_old_10 ?_
  exact V_iret dM_old_11 rfl rfl ⟨rfl, rfl, rfl⟩
theorem mn9 {x : Int32} (h : ¬ x ≤ 99) : minI 99 x = 99 := if_neg (fun q => h (Int32.le_of_lt q))
theorem mn8 {x : Int32} (h : x ≤ 99) : minI 99 x = x := by
  unfold minI
  split
  · rfl
  · next q => exact Int32.le_antisymm (Int32.not_lt.mp q) h
theorem m_factOf {l : Launch} {G : GT} {L : Nat → List Cl} {M σ : Hp} (hM : RM M σ) (hP : Pw L M) {e w : Nat} (he : e < 8) (hw : w < 6) (hs : Ps M e) {q : Nat} (hq : q < 6) : MM l G mM_factOf 1 0 0 [.ref 76, .int (nI q), .int (nI e), .int (nI w)] KA σ (PE (some (.int (facI M e w (gi M 80 e) (mD M) q))) KA σ) := by
  have hR := hM.1
  refine MM.of (loc := [(0, .ref 76), (1, .int (nI q)), (2, .int (nI e)), (3, .int (nI w))]) (by decide +kernel) rfl (Nat.le_of_ble_eq_true rfl) ?_
  have hq6 : q = 0 ∨ q = 1 ∨ q = 2 ∨ q = 3 ∨ q = 4 ∨ q = 5 := by omega
  rcases hq6 with h | h | h | h | h | h <;> subst h
  · skip
    refine V_iload_n dM_factOf_0 rfl ?_
    refine V_tsC (tgt := 36) 0 rfl dM_factOf_1 (by decide) (by decide) rfl rfl ?_
    refine V_iload_n dM_factOf_36 rfl ?_
    exact V_iret dM_factOf_37 rfl rfl ⟨rfl, rfl, rfl⟩
  · skip
    refine V_iload_n dM_factOf_0 rfl ?_
    refine V_tsC (tgt := 38) 1 rfl dM_factOf_1 (by decide) (by decide) rfl rfl ?_
    refine V_aload_n dM_factOf_38 rfl ?_
    refine V_getR (a := 78) dM_factOf_39 flM_26 k76 rfl (r76_5 hR) ?_
    refine V_iload_n dM_factOf_42 rfl ?_
    refine V_ialdN (j := e) dM_factOf_43 k78 rfl (by omega) (by decide) ?_
    refine V_topI (x' := gi M 78 e) (mR hM rfl) ?_
    exact V_iret dM_factOf_44 rfl rfl ⟨rfl, rfl, rfl⟩
  · skip
    refine V_iload_n dM_factOf_0 rfl ?_
    refine V_tsC (tgt := 45) 2 rfl dM_factOf_1 (by decide) (by decide) rfl rfl ?_
    refine V_aload_n dM_factOf_45 rfl ?_
    refine V_aload_n dM_factOf_46 rfl ?_
    refine V_getR (a := 80) dM_factOf_47 flM_32 k76 rfl (r76_7 hR) ?_
    refine V_iload_n dM_factOf_50 rfl ?_
    refine V_ialdN (j := e) dM_factOf_51 k80 rfl (by omega) (by decide) ?_
    refine V_topI (x' := gi M 80 e) (mR hM rfl) ?_
    refine V_callV (as := [.int (gi M 80 e)]) (rest := []) (bs' := 0) rfl dM_factOf_52 cmM_ones cvM_ones mlM_276 (Or.inl ⟨_, _, _, _, _, rfl, k76, by decide, rfl⟩) rfl rfl (m_ones (gi M 80 e) _ (hs.s64 hP) hs.1) (by decide) (Nat.le_refl _) (by decide) (Nat.le_of_ble_eq_true rfl) ?_
    rintro _ _ _ ⟨rfl, rfl, rfl⟩ -
    refine V_one ?_
    exact V_iret dM_factOf_55 rfl rfl ⟨rfl, rfl, rfl⟩
  · skip
    refine V_iload_n dM_factOf_0 rfl ?_
    refine V_tsC (tgt := 56) 3 rfl dM_factOf_1 (by decide) (by decide) rfl rfl ?_
    refine V_iload_n dM_factOf_56 rfl ?_
    exact V_iret dM_factOf_57 rfl rfl ⟨rfl, rfl, rfl⟩
  · skip
    refine V_iload_n dM_factOf_0 rfl ?_
    refine V_tsC (tgt := 58) 4 rfl dM_factOf_1 (by decide) (by decide) rfl rfl ?_
    refine V_aload_n dM_factOf_58 rfl ?_
    refine V_getR (a := 77) dM_factOf_59 flM_22 k76 rfl (r76_4 hR) ?_
    refine V_iload_n dM_factOf_62 rfl ?_
    refine V_ialdN (j := w) dM_factOf_63 k77 rfl (by omega) (by decide) ?_
    refine V_topI (x' := gi M 77 w) (mR hM rfl) ?_
    exact V_iret dM_factOf_64 rfl rfl ⟨rfl, rfl, rfl⟩
  · skip
    refine V_iload_n dM_factOf_0 rfl ?_
    refine V_tsD (tgt := 65) dM_factOf_1 (by decide) rfl ?_
    refine V_aload_n dM_factOf_65 rfl ?_
    refine V_iload_n dM_factOf_66 rfl ?_
    refine V_callV (as := [.int (nI e)]) (rest := []) (bs' := 0) rfl dM_factOf_67 cmM_old cvM_old mlM_220 (Or.inl ⟨_, _, _, _, _, rfl, k76, by decide, rfl⟩) rfl rfl (m_old hM hP he) (by decide) (Nat.le_refl _) (by decide) (Nat.le_of_ble_eq_true rfl) ?_
    rintro _ _ _ ⟨rfl, rfl, rfl⟩ -
    refine V_one ?_
    refine V_bipush (v := 99) dM_factOf_70 (by decide) ?_
    refine V_icmp_le (tgt := 80) dM_factOf_72 rfl (fun c72 => ?_) (fun c72 => ?_)
    · skip
      refine V_aload_n dM_factOf_80 rfl ?_
      refine V_iload_n dM_factOf_81 rfl ?_
      refine V_callV (as := [.int (nI e)]) (rest := []) (bs' := 0) rfl dM_factOf_82 cmM_old cvM_old mlM_220 (Or.inl ⟨_, _, _, _, _, rfl, k76, by decide, rfl⟩) rfl rfl (m_old hM hP he) (by decide) (Nat.le_refl _) (by decide) (Nat.le_of_ble_eq_true rfl) ?_
      rintro _ _ _ ⟨rfl, rfl, rfl⟩ -
      refine V_one ?_
      exact V_iret dM_factOf_85 rfl rfl ⟨by rw [show facI M e w (gi M 80 e) (mD M) 5 = minI 99 (nI (mD M) - gi M 82 e) from rfl, mn8 c72], rfl, rfl⟩
    · skip
      refine V_bipush (v := 99) dM_factOf_75 (by decide) ?_
      refine V_goto (tgt := 85) dM_factOf_77 rfl ?_
      exact V_iret dM_factOf_85 rfl rfl ⟨by rw [show facI M e w (gi M 80 e) (mD M) 5 = minI 99 (nI (mD M) - gi M 82 e) from rfl, mn9 c72], rfl, rfl⟩
def bI (b : Bool) : Int32 := if b = true then 1 else 0
def Pl (s : Hp) (st : List Bool) : Prop := ∀ (i : Nat) (b : Bool), st[i]? = some b → gi s 93 (st.length - 1 - i) = bI b
theorem Pl.nil {s : Hp} : Pl s [] := fun i b h => by simp at h
theorem Pl.push {s : Hp} {st : List Bool} (h : Pl s st) (t : Bool) : Pl (si s 93 st.length (bI t)) (t :: st) := by
  intro i b hb
  cases i with
  | zero =>
    obtain rfl : t = b := Option.some.inj hb
    exact gi_eq
  | succ i =>
    rw [List.getElem?_cons_succ] at hb
    have hl := Rb_lt hb
    rw [List.length_cons, gi_nj (by omega), ← h i b hb]
    congr 1
    omega
theorem Pl.pop {s : Hp} {st : List Bool} {a : Bool} (h : Pl s (a :: st)) : Pl s st := by
  intro i b hb
  have hl := Rb_lt hb
  have := h (i + 1) b (by rw [List.getElem?_cons_succ]; exact hb)
  rw [List.length_cons, show st.length + 1 - 1 - (i + 1) = st.length - 1 - i by omega] at this
  exact this
theorem Pl.top {s : Hp} {st : List Bool} {a : Bool} (h : Pl s (a :: st)) : gi s 93 st.length = bI a := by
  have := h 0 a rfl
  simpa using this
def stepB (F : Nat → Int32) (op : Nat) (st : List Bool) : List Bool := (if op < 1800 then tst F op :: st else match op, st with
    | 30001, a :: st => (!a) :: st
    | 30002, a :: b :: st => (b && a) :: st
    | 30003, a :: b :: st => (b || a) :: st
    | _, st => st)
theorem runB_c {F : Nat → Int32} {op : Nat} {l : List Nat} {q : List Bool} : runB F (op :: l) q = runB F l (stepB F op q) := rfl
theorem stepB_t {F : Nat → Int32} {op : Nat} {st : List Bool} (h : op < 1800) : stepB F op st = tst F op :: st := if_pos h
theorem depB_t {m op d : Nat} {l : List Nat} (ho : op < 1800) (h : depB m (op :: l) d = true) : d < m ∧ depB m l (d + 1) = true := by
  unfold depB at h
  rw [if_pos ho, Bool.and_eq_true] at h
  exact ⟨of_decide_eq_true h.1, h.2⟩
theorem depB_n {m d : Nat} {l : List Nat} (h : depB m (30001 :: l) d = true) : 1 ≤ d ∧ depB m l d = true := by
  unfold depB at h
  rw [if_neg (by decide), if_pos rfl, Bool.and_eq_true] at h
  exact ⟨of_decide_eq_true h.1, h.2⟩
theorem depB_j {m op d : Nat} {l : List Nat} (ho : op = 30002 ∨ op = 30003) (h : depB m (op :: l) d = true) : 2 ≤ d ∧ depB m l (d - 1) = true := by
  unfold depB at h
  rw [if_neg (by omega), if_neg (by omega), Bool.and_eq_true, Bool.and_eq_true] at h
  exact ⟨of_decide_eq_true h.1.2, h.2⟩
theorem encR_p {op : Nat} (h : op < 1800) : encR op = nI (1000 * (op / 300) + 100 * (op / 100 % 3) + op % 100) := by
  unfold encR
  rw [if_neg (by omega), if_neg (by omega), if_neg (by omega)]
theorem nI_addm {x : Nat} : nI (x + 1) + Int32.ofInt (-1) = nI x := pk_m1 x
theorem m_holds {l : Launch} {G : GT} {L : Nat → List Cl} {M σ : Hp} (hM : RM M σ) (hP : Pw L M) {e w : Nat} (he : e < 8) (hw : w < 6) (hs : Ps M e) {f i : Nat} {c : Cl} (hf6 : f < 6) (hi : i < 10) (hk : clOk M f i c) (h2 : ¬ c.1 = 2) : MM l G mM_holds 2 0 0 [.ref 76, .int (nI (10 * f + i)), .int (nI e), .int (nI w)] KA σ (QZ (c.2.2 (facI M e w (gi M 80 e) (mD M)) = true) σ) := by
  have hR := hM.1
  have hM0 := hM
  have hF : Gz σ σ := Gz.rfl
  refine MM.of (loc := [(0, .ref 76), (1, .int (nI (10 * f + i))), (2, .int (nI e)), (3, .int (nI w))]) (by decide +kernel) rfl (Nat.le_of_ble_eq_true rfl) ?_
  obtain ⟨_, hc3, _, _, hk2⟩ := hk
  obtain ⟨ops, a, ha1, ha2, ha, hb, hops, hdep, hrun⟩ := hk2.resolve_left h2
  have lp : ∀ (rest : List Nat) (st : List Bool) (p : Nat) (s : Hp), Gz σ s → Pl s st → (∀ (j op : Nat), rest[j]? = some op → gi M 90 (p + j) = encR op ∧ (op < 1800 ∨ op = 30001 ∨ op = 30002 ∨ op = 30003)) → p + rest.length = a + ops.length → depB 100 rest st.length = true → st.length ≤ 100 → runB (facI M e w (gi M 80 e) (mD M)) rest st = [c.2.2 (facI M e w (gi M 80 e) (mD M))] → V l G mM_holds (rmd 2 0 0) (KA.length + 0) 0 11 [(5, .int (nI p)), (4, .int (nI st.length)), (0, .ref 76), (1, .int (nI (10 * f + i))), (2, .int (nI e)), (3, .int (nI w))] [] KA s (QZ (c.2.2 (facI M e w (gi M 80 e) (mD M)) = true) σ) := by
    intro rest
    induction rest with
    | nil =>
      intro st p s hF hPl _ hil _ _ hr
      have hM := hF.rm hM0
      have hR := hM.1
      obtain rfl : st = [c.2.2 (facI M e w (gi M 80 e) (mD M))] := hr
      have h0 := hPl.top
      rcases Bool.eq_false_or_eq_true (c.2.2 (facI M e w (gi M 80 e) (mD M))) with hv | hv
      · skip
        refine V_iload dM_holds_11 rfl ?_
        refine V_aload_n dM_holds_13 rfl ?_
        refine V_getR (a := 89) dM_holds_14 flM_74 k76 rfl (r76_21 hR) ?_
        refine V_iload_n dM_holds_17 rfl ?_
        refine V_ialdN (j := 10 * f + i) dM_holds_18 k89 rfl (by omega) (by decide) ?_
        refine V_topI (x' := nI (a + ops.length)) ((mR hM rfl).trans hb) ?_
        refine V_icmp_ge (tgt := 253) dM_holds_19 rfl (fun _ => ?_) (fun h => absurd h (not_not_intro (nI_le (by simp at hil; omega) (by omega))))
        refine V_aload_n dM_holds_253 rfl ?_
        refine V_getR (a := 93) dM_holds_254 flM_95 k76 rfl (r76_28 hR) ?_
        refine V_iconst (v := 0) dM_holds_257 (by decide) ?_
        refine V_zaldN (j := 0) dM_holds_258 k93 rfl (by decide) (by decide) ?_
        refine V_topI (x' := 1) (h0.trans (by rw [hv]; rfl)) ?_
        exact V_zret dM_holds_259 rfl rfl rfl (Or.inl ⟨by rw [hv], rfl, rfl, hF⟩)
      · skip
        refine V_iload dM_holds_11 rfl ?_
        refine V_aload_n dM_holds_13 rfl ?_
        refine V_getR (a := 89) dM_holds_14 flM_74 k76 rfl (r76_21 hR) ?_
        refine V_iload_n dM_holds_17 rfl ?_
        refine V_ialdN (j := 10 * f + i) dM_holds_18 k89 rfl (by omega) (by decide) ?_
        refine V_topI (x' := nI (a + ops.length)) ((mR hM rfl).trans hb) ?_
        refine V_icmp_ge (tgt := 253) dM_holds_19 rfl (fun _ => ?_) (fun h => absurd h (not_not_intro (nI_le (by simp at hil; omega) (by omega))))
        refine V_aload_n dM_holds_253 rfl ?_
        refine V_getR (a := 93) dM_holds_254 flM_95 k76 rfl (r76_28 hR) ?_
        refine V_iconst (v := 0) dM_holds_257 (by decide) ?_
        refine V_zaldN (j := 0) dM_holds_258 k93 rfl (by decide) (by decide) ?_
        refine V_topI (x' := 0) (h0.trans (by rw [hv]; rfl)) ?_
        exact V_zret dM_holds_259 rfl rfl rfl (Or.inr ⟨by rw [hv]; decide, rfl, rfl, hF⟩)
    | cons op rest ih =>
      intro st p s hF hPl hops hil hdep hst hr
      have hM := hF.rm hM0
      have hR := hM.1
      have h0 := hops 0 op rfl
      rw [Nat.add_zero] at h0
      have hops' : ∀ j op', rest[j]? = some op' → gi M 90 (p + 1 + j) = encR op' ∧ (op' < 1800 ∨ op' = 30001 ∨ op' = 30002 ∨ op' = 30003) := fun j op' h => by
        have := hops (j + 1) op' (by rw [List.getElem?_cons_succ]; exact h)
        rwa [show p + (j + 1) = p + 1 + j by omega] at this
      have hil' : p + 1 + rest.length = a + ops.length := by simp at hil; omega
      rw [runB_c] at hr
      rcases h0.2 with ho | ho | ho | ho
      · rw [stepB_t ho] at hr
        have hd := depB_t ho hdep
        have e3 : nI (1000 * (op / 300) + 100 * (op / 100 % 3) + op % 100) / 1000 = nI (op / 300) := by rw [show (1000 : Int32) = nI 1000 from rfl, pk_div (by omega) (by decide) (by decide)]; congr 1; omega
        have e1 : nI (1000 * (op / 300) + 100 * (op / 100 % 3) + op % 100) / 100 - nI (1000 * (op / 300) + 100 * (op / 100 % 3) + op % 100) / 100 / 10 * 10 = nI (op / 100 % 3) := by rw [show (100 : Int32) = nI 100 from rfl, show (10 : Int32) = nI 10 from rfl, pk_div (by omega) (by decide) (by decide), pk_rem (by omega) (by decide) (by decide)]; congr 1; omega
        have e0 : nI (1000 * (op / 300) + 100 * (op / 100 % 3) + op % 100) - nI (1000 * (op / 300) + 100 * (op / 100 % 3) + op % 100) / 100 * 100 = nI (op % 100) := by rw [show (100 : Int32) = nI 100 from rfl, pk_rem (by omega) (by decide) (by decide)]; congr 1; omega
        have z0 : (nI (op / 100 % 3) = 0) ↔ op / 100 % 3 = 0 := nI_eq (b := 0) (by omega) (by decide)
        have z1 : (nI (op / 100 % 3) = 1) ↔ op / 100 % 3 = 1 := nI_eq (b := 1) (by omega) (by decide)
        refine V_iload dM_holds_11 rfl ?_
        refine V_aload_n dM_holds_13 rfl ?_
        refine V_getR (a := 89) dM_holds_14 flM_74 k76 rfl (r76_21 hR) ?_
        refine V_iload_n dM_holds_17 rfl ?_
        refine V_ialdN (j := 10 * f + i) dM_holds_18 k89 rfl (by omega) (by decide) ?_
        refine V_topI (x' := nI (a + ops.length)) ((mR hM rfl).trans hb) ?_
        refine V_icmp_ge (tgt := 253) dM_holds_19 rfl (fun h => absurd h (nI_ge (a := p) (b := a + ops.length) (by simp at hil; omega) (by omega))) (fun _ => ?_)
        refine V_aload_n dM_holds_22 rfl ?_
        refine V_getR (a := 90) dM_holds_23 flM_77 k76 rfl (r76_22 hR) ?_
        refine V_iload dM_holds_26 rfl ?_
        refine V_ialdN (j := p) dM_holds_28 k90 rfl (by omega) (by decide) ?_
        refine V_topI (x' := nI (1000 * (op / 300) + 100 * (op / 100 % 3) + op % 100)) ((mR hM rfl).trans (h0.1.trans (encR_p ho))) ?_
        refine V_istore (loc' := [(6, .int (nI (1000 * (op / 300) + 100 * (op / 100 % 3) + op % 100))), (5, .int (nI p)), (4, .int (nI st.length)), (0, .ref 76), (1, .int (nI (10 * f + i))), (2, .int (nI e)), (3, .int (nI w))]) dM_holds_29 (by decide) rfl ?_
        refine V_iload dM_holds_31 rfl ?_
        refine V_bipush (v := -33) dM_holds_33 (by decide) ?_
        refine V_icmp_ne (tgt := 67) dM_holds_35 rfl (fun _ => ?_) (fun h => absurd h (fun q => absurd (q ▸ nI_pos' (n := 1000 * (op / 300) + 100 * (op / 100 % 3) + op % 100) (by omega)) (by decide)))
        refine V_iload dM_holds_67 rfl ?_
        refine V_if_ge (tgt := 151) dM_holds_69 rfl (fun _ => ?_) (fun h => absurd h (not_not_intro (nI_pos' (by omega))))
        refine V_aload_n dM_holds_151 rfl ?_
        refine V_iload dM_holds_152 rfl ?_
        refine V_sipush (v := 1000) dM_holds_154 (by decide) ?_
        refine V_idiv dM_holds_157 (by decide) ?_
        refine V_topI (x' := nI (op / 300)) e3 ?_
        refine V_iload_n dM_holds_158 rfl ?_
        refine V_iload_n dM_holds_159 rfl ?_
        refine V_callV (as := [.int (nI (op / 300)), .int (nI e), .int (nI w)]) (rest := []) (bs' := 0) rfl dM_holds_160 cmM_factOf cvM_factOf mlM_279 (Or.inl ⟨_, _, _, _, _, rfl, k76, by decide, rfl⟩) rfl rfl (m_factOf hM hP he hw hs (q := op / 300) (by omega)) (by decide) (Nat.le_refl _) (by decide) (Nat.le_of_ble_eq_true rfl) ?_
        rintro _ _ _ ⟨rfl, rfl, rfl⟩ -
        refine V_one ?_
        refine V_istore (loc' := [(7, .int (facI M e w (gi M 80 e) (mD M) (op / 300))), (6, .int (nI (1000 * (op / 300) + 100 * (op / 100 % 3) + op % 100))), (5, .int (nI p)), (4, .int (nI st.length)), (0, .ref 76), (1, .int (nI (10 * f + i))), (2, .int (nI e)), (3, .int (nI w))]) dM_holds_163 (by decide) rfl ?_
        refine V_iload dM_holds_165 rfl ?_
        refine V_bipush (v := 100) dM_holds_167 (by decide) ?_
        refine V_idiv dM_holds_169 (by decide) ?_
        refine V_bipush (v := 10) dM_holds_170 (by decide) ?_
        refine V_irem dM_holds_172 (by decide) ?_
        refine V_topI (x' := nI (op / 100 % 3)) e1 ?_
        refine V_istore (loc' := [(8, .int (nI (op / 100 % 3))), (7, .int (facI M e w (gi M 80 e) (mD M) (op / 300))), (6, .int (nI (1000 * (op / 300) + 100 * (op / 100 % 3) + op % 100))), (5, .int (nI p)), (4, .int (nI st.length)), (0, .ref 76), (1, .int (nI (10 * f + i))), (2, .int (nI e)), (3, .int (nI w))]) dM_holds_173 (by decide) rfl ?_
        refine V_aload_n dM_holds_175 rfl ?_
        refine V_getR (a := 93) dM_holds_176 flM_95 k76 rfl (r76_28 hR) ?_
        refine V_iload dM_holds_179 rfl ?_
        refine V_iload dM_holds_181 rfl ?_
        refine V_if_ne (tgt := 204) dM_holds_183 rfl (fun c183 => ?_) (fun c183 => ?_)
        · skip
          refine V_iload dM_holds_204 rfl ?_
          refine V_iconst (v := 1) dM_holds_206 (by decide) ?_
          refine V_icmp_ne (tgt := 228) dM_holds_207 rfl (fun c207 => ?_) (fun c207 => ?_)
          · skip
            refine V_iload dM_holds_228 rfl ?_
            refine V_iload dM_holds_230 rfl ?_
            refine V_bipush (v := 100) dM_holds_232 (by decide) ?_
            refine V_irem dM_holds_234 (by decide) ?_
            refine V_topI (x' := nI (op % 100)) e0 ?_
            refine V_icmp_le (tgt := 242) dM_holds_235 rfl (fun c235 => ?_) (fun c235 => ?_)
            · skip
              refine V_iconst (v := 0) dM_holds_242 (by decide) ?_
              refine V_zastN (j := st.length) dM_holds_243 k93 rfl (by omega) (by decide) (by decide) ?_
              skip
              refine V_iinc (v := nI (st.length + 1)) (loc' := [(4, .int (nI (st.length + 1))), (8, .int (nI (op / 100 % 3))), (7, .int (facI M e w (gi M 80 e) (mD M) (op / 300))), (6, .int (nI (1000 * (op / 300) + 100 * (op / 100 % 3) + op % 100))), (5, .int (nI p)), (0, .ref 76), (1, .int (nI (10 * f + i))), (2, .int (nI e)), (3, .int (nI w))]) dM_holds_244 rfl (nI_inc _) (by decide) rfl ?_
              refine V_iinc (v := nI (p + 1)) (loc' := [(5, .int (nI (p + 1))), (4, .int (nI (st.length + 1))), (8, .int (nI (op / 100 % 3))), (7, .int (facI M e w (gi M 80 e) (mD M) (op / 300))), (6, .int (nI (1000 * (op / 300) + 100 * (op / 100 % 3) + op % 100))), (0, .ref 76), (1, .int (nI (10 * f + i))), (2, .int (nI e)), (3, .int (nI w))]) dM_holds_247 rfl (nI_inc p) (by decide) rfl ?_
              refine V_goto (tgt := 11) dM_holds_250 rfl ?_
              have ht : tst (facI M e w (gi M 80 e) (mD M)) op = false := by
                unfold tst
                simp_all
              refine V.locs (loc' := [(5, .int (nI (p + 1))), (4, .int (nI (st.length + 1))), (0, .ref 76), (1, .int (nI (10 * f + i))), (2, .int (nI e)), (3, .int (nI w))]) [0, 1, 5, 6, 7, 8] rfl ?_
              exact ih (false :: st) (p + 1) _ (hF.set (by rfl)) (hPl.push false) hops' hil' hd.2 hd.1 (by rw [← hr, ht])
            · skip
              refine V_iconst (v := 1) dM_holds_238 (by decide) ?_
              refine V_goto (tgt := 243) dM_holds_239 rfl ?_
              refine V_zastN (j := st.length) dM_holds_243 k93 rfl (by omega) (by decide) (by decide) ?_
              skip
              refine V_iinc (v := nI (st.length + 1)) (loc' := [(4, .int (nI (st.length + 1))), (8, .int (nI (op / 100 % 3))), (7, .int (facI M e w (gi M 80 e) (mD M) (op / 300))), (6, .int (nI (1000 * (op / 300) + 100 * (op / 100 % 3) + op % 100))), (5, .int (nI p)), (0, .ref 76), (1, .int (nI (10 * f + i))), (2, .int (nI e)), (3, .int (nI w))]) dM_holds_244 rfl (nI_inc _) (by decide) rfl ?_
              refine V_iinc (v := nI (p + 1)) (loc' := [(5, .int (nI (p + 1))), (4, .int (nI (st.length + 1))), (8, .int (nI (op / 100 % 3))), (7, .int (facI M e w (gi M 80 e) (mD M) (op / 300))), (6, .int (nI (1000 * (op / 300) + 100 * (op / 100 % 3) + op % 100))), (0, .ref 76), (1, .int (nI (10 * f + i))), (2, .int (nI e)), (3, .int (nI w))]) dM_holds_247 rfl (nI_inc p) (by decide) rfl ?_
              refine V_goto (tgt := 11) dM_holds_250 rfl ?_
              have ht : tst (facI M e w (gi M 80 e) (mD M)) op = true := by
                unfold tst
                simp_all
              refine V.locs (loc' := [(5, .int (nI (p + 1))), (4, .int (nI (st.length + 1))), (0, .ref 76), (1, .int (nI (10 * f + i))), (2, .int (nI e)), (3, .int (nI w))]) [0, 1, 5, 6, 7, 8] rfl ?_
              exact ih (true :: st) (p + 1) _ (hF.set (by rfl)) (hPl.push true) hops' hil' hd.2 hd.1 (by rw [← hr, ht])
          · skip
            refine V_iload dM_holds_210 rfl ?_
            refine V_iload dM_holds_212 rfl ?_
            refine V_bipush (v := 100) dM_holds_214 (by decide) ?_
            refine V_irem dM_holds_216 (by decide) ?_
            refine V_topI (x' := nI (op % 100)) e0 ?_
            refine V_icmp_ne (tgt := 224) dM_holds_217 rfl (fun c217 => ?_) (fun c217 => ?_)
            · skip
              refine V_iconst (v := 0) dM_holds_224 (by decide) ?_
              refine V_goto (tgt := 243) dM_holds_225 rfl ?_
              refine V_zastN (j := st.length) dM_holds_243 k93 rfl (by omega) (by decide) (by decide) ?_
              skip
              refine V_iinc (v := nI (st.length + 1)) (loc' := [(4, .int (nI (st.length + 1))), (8, .int (nI (op / 100 % 3))), (7, .int (facI M e w (gi M 80 e) (mD M) (op / 300))), (6, .int (nI (1000 * (op / 300) + 100 * (op / 100 % 3) + op % 100))), (5, .int (nI p)), (0, .ref 76), (1, .int (nI (10 * f + i))), (2, .int (nI e)), (3, .int (nI w))]) dM_holds_244 rfl (nI_inc _) (by decide) rfl ?_
              refine V_iinc (v := nI (p + 1)) (loc' := [(5, .int (nI (p + 1))), (4, .int (nI (st.length + 1))), (8, .int (nI (op / 100 % 3))), (7, .int (facI M e w (gi M 80 e) (mD M) (op / 300))), (6, .int (nI (1000 * (op / 300) + 100 * (op / 100 % 3) + op % 100))), (0, .ref 76), (1, .int (nI (10 * f + i))), (2, .int (nI e)), (3, .int (nI w))]) dM_holds_247 rfl (nI_inc p) (by decide) rfl ?_
              refine V_goto (tgt := 11) dM_holds_250 rfl ?_
              have ht : tst (facI M e w (gi M 80 e) (mD M)) op = false := by
                unfold tst
                simp_all
              refine V.locs (loc' := [(5, .int (nI (p + 1))), (4, .int (nI (st.length + 1))), (0, .ref 76), (1, .int (nI (10 * f + i))), (2, .int (nI e)), (3, .int (nI w))]) [0, 1, 5, 6, 7, 8] rfl ?_
              exact ih (false :: st) (p + 1) _ (hF.set (by rfl)) (hPl.push false) hops' hil' hd.2 hd.1 (by rw [← hr, ht])
            · skip
              refine V_iconst (v := 1) dM_holds_220 (by decide) ?_
              refine V_goto (tgt := 243) dM_holds_221 rfl ?_
              refine V_zastN (j := st.length) dM_holds_243 k93 rfl (by omega) (by decide) (by decide) ?_
              skip
              refine V_iinc (v := nI (st.length + 1)) (loc' := [(4, .int (nI (st.length + 1))), (8, .int (nI (op / 100 % 3))), (7, .int (facI M e w (gi M 80 e) (mD M) (op / 300))), (6, .int (nI (1000 * (op / 300) + 100 * (op / 100 % 3) + op % 100))), (5, .int (nI p)), (0, .ref 76), (1, .int (nI (10 * f + i))), (2, .int (nI e)), (3, .int (nI w))]) dM_holds_244 rfl (nI_inc _) (by decide) rfl ?_
              refine V_iinc (v := nI (p + 1)) (loc' := [(5, .int (nI (p + 1))), (4, .int (nI (st.length + 1))), (8, .int (nI (op / 100 % 3))), (7, .int (facI M e w (gi M 80 e) (mD M) (op / 300))), (6, .int (nI (1000 * (op / 300) + 100 * (op / 100 % 3) + op % 100))), (0, .ref 76), (1, .int (nI (10 * f + i))), (2, .int (nI e)), (3, .int (nI w))]) dM_holds_247 rfl (nI_inc p) (by decide) rfl ?_
              refine V_goto (tgt := 11) dM_holds_250 rfl ?_
              have ht : tst (facI M e w (gi M 80 e) (mD M)) op = true := by
                unfold tst
                simp_all
              refine V.locs (loc' := [(5, .int (nI (p + 1))), (4, .int (nI (st.length + 1))), (0, .ref 76), (1, .int (nI (10 * f + i))), (2, .int (nI e)), (3, .int (nI w))]) [0, 1, 5, 6, 7, 8] rfl ?_
              exact ih (true :: st) (p + 1) _ (hF.set (by rfl)) (hPl.push true) hops' hil' hd.2 hd.1 (by rw [← hr, ht])
        · skip
          refine V_iload dM_holds_186 rfl ?_
          refine V_iload dM_holds_188 rfl ?_
          refine V_bipush (v := 100) dM_holds_190 (by decide) ?_
          refine V_irem dM_holds_192 (by decide) ?_
          refine V_topI (x' := nI (op % 100)) e0 ?_
          refine V_icmp_ge (tgt := 200) dM_holds_193 rfl (fun c193 => ?_) (fun c193 => ?_)
          · skip
            refine V_iconst (v := 0) dM_holds_200 (by decide) ?_
            refine V_goto (tgt := 243) dM_holds_201 rfl ?_
            refine V_zastN (j := st.length) dM_holds_243 k93 rfl (by omega) (by decide) (by decide) ?_
            skip
            refine V_iinc (v := nI (st.length + 1)) (loc' := [(4, .int (nI (st.length + 1))), (8, .int (nI (op / 100 % 3))), (7, .int (facI M e w (gi M 80 e) (mD M) (op / 300))), (6, .int (nI (1000 * (op / 300) + 100 * (op / 100 % 3) + op % 100))), (5, .int (nI p)), (0, .ref 76), (1, .int (nI (10 * f + i))), (2, .int (nI e)), (3, .int (nI w))]) dM_holds_244 rfl (nI_inc _) (by decide) rfl ?_
            refine V_iinc (v := nI (p + 1)) (loc' := [(5, .int (nI (p + 1))), (4, .int (nI (st.length + 1))), (8, .int (nI (op / 100 % 3))), (7, .int (facI M e w (gi M 80 e) (mD M) (op / 300))), (6, .int (nI (1000 * (op / 300) + 100 * (op / 100 % 3) + op % 100))), (0, .ref 76), (1, .int (nI (10 * f + i))), (2, .int (nI e)), (3, .int (nI w))]) dM_holds_247 rfl (nI_inc p) (by decide) rfl ?_
            refine V_goto (tgt := 11) dM_holds_250 rfl ?_
            have ht : tst (facI M e w (gi M 80 e) (mD M)) op = false := by
              unfold tst
              simp_all
            refine V.locs (loc' := [(5, .int (nI (p + 1))), (4, .int (nI (st.length + 1))), (0, .ref 76), (1, .int (nI (10 * f + i))), (2, .int (nI e)), (3, .int (nI w))]) [0, 1, 5, 6, 7, 8] rfl ?_
            exact ih (false :: st) (p + 1) _ (hF.set (by rfl)) (hPl.push false) hops' hil' hd.2 hd.1 (by rw [← hr, ht])
          · skip
            refine V_iconst (v := 1) dM_holds_196 (by decide) ?_
            refine V_goto (tgt := 243) dM_holds_197 rfl ?_
            refine V_zastN (j := st.length) dM_holds_243 k93 rfl (by omega) (by decide) (by decide) ?_
            skip
            refine V_iinc (v := nI (st.length + 1)) (loc' := [(4, .int (nI (st.length + 1))), (8, .int (nI (op / 100 % 3))), (7, .int (facI M e w (gi M 80 e) (mD M) (op / 300))), (6, .int (nI (1000 * (op / 300) + 100 * (op / 100 % 3) + op % 100))), (5, .int (nI p)), (0, .ref 76), (1, .int (nI (10 * f + i))), (2, .int (nI e)), (3, .int (nI w))]) dM_holds_244 rfl (nI_inc _) (by decide) rfl ?_
            refine V_iinc (v := nI (p + 1)) (loc' := [(5, .int (nI (p + 1))), (4, .int (nI (st.length + 1))), (8, .int (nI (op / 100 % 3))), (7, .int (facI M e w (gi M 80 e) (mD M) (op / 300))), (6, .int (nI (1000 * (op / 300) + 100 * (op / 100 % 3) + op % 100))), (0, .ref 76), (1, .int (nI (10 * f + i))), (2, .int (nI e)), (3, .int (nI w))]) dM_holds_247 rfl (nI_inc p) (by decide) rfl ?_
            refine V_goto (tgt := 11) dM_holds_250 rfl ?_
            have ht : tst (facI M e w (gi M 80 e) (mD M)) op = true := by
              unfold tst
              simp_all
            refine V.locs (loc' := [(5, .int (nI (p + 1))), (4, .int (nI (st.length + 1))), (0, .ref 76), (1, .int (nI (10 * f + i))), (2, .int (nI e)), (3, .int (nI w))]) [0, 1, 5, 6, 7, 8] rfl ?_
            exact ih (true :: st) (p + 1) _ (hF.set (by rfl)) (hPl.push true) hops' hil' hd.2 hd.1 (by rw [← hr, ht])
      · subst ho
        have hd := depB_n hdep
        obtain ⟨a0, st0, rfl⟩ : ∃ a0 st0, st = a0 :: st0 := by
          cases st with
          | nil => exact absurd hd.1 (by decide)
          | cons b0 st0 => exact ⟨_, _, rfl⟩
        have ht := hPl.top
        have hd2 : st0.length < 100 := by simp only [List.length_cons] at hst; omega
        rcases Bool.eq_false_or_eq_true a0 with hv | hv <;> subst hv
        · skip
          refine V_iload dM_holds_11 rfl ?_
          refine V_aload_n dM_holds_13 rfl ?_
          refine V_getR (a := 89) dM_holds_14 flM_74 k76 rfl (r76_21 hR) ?_
          refine V_iload_n dM_holds_17 rfl ?_
          refine V_ialdN (j := 10 * f + i) dM_holds_18 k89 rfl (by omega) (by decide) ?_
          refine V_topI (x' := nI (a + ops.length)) ((mR hM rfl).trans hb) ?_
          refine V_icmp_ge (tgt := 253) dM_holds_19 rfl (fun h => absurd h (nI_ge (a := p) (b := a + ops.length) (by simp at hil; omega) (by omega))) (fun _ => ?_)
          refine V_aload_n dM_holds_22 rfl ?_
          refine V_getR (a := 90) dM_holds_23 flM_77 k76 rfl (r76_22 hR) ?_
          refine V_iload dM_holds_26 rfl ?_
          refine V_ialdN (j := p) dM_holds_28 k90 rfl (by omega) (by decide) ?_
          refine V_topI (x' := (-33)) ((mR hM rfl).trans h0.1) ?_
          refine V_istore (loc' := [(6, .int (-33)), (5, .int (nI p)), (4, .int (nI (st0.length + 1))), (0, .ref 76), (1, .int (nI (10 * f + i))), (2, .int (nI e)), (3, .int (nI w))]) dM_holds_29 (by decide) rfl ?_
          refine V_iload dM_holds_31 rfl ?_
          refine V_bipush (v := -33) dM_holds_33 (by decide) ?_
          refine V_icmp_ne (tgt := 67) dM_holds_35 rfl (fun h => absurd h (by decide)) (fun _ => ?_)
          refine V_aload_n dM_holds_38 rfl ?_
          refine V_getR (a := 93) dM_holds_39 flM_95 k76 rfl (r76_28 hR) ?_
          refine V_iload dM_holds_42 rfl ?_
          refine V_iconst (v := 1) dM_holds_44 (by decide) ?_
          refine V_isub dM_holds_45 ?_
          refine V_aload_n dM_holds_46 rfl ?_
          refine V_getR (a := 93) dM_holds_47 flM_95 k76 rfl (r76_28 hR) ?_
          refine V_iload dM_holds_50 rfl ?_
          refine V_iconst (v := 1) dM_holds_52 (by decide) ?_
          refine V_isub dM_holds_53 ?_
          refine V_zaldN (j := st0.length) dM_holds_54 k93 (nI_pred _) (by omega) (by decide) ?_
          refine V_topI (x' := 1) ht ?_
          refine V_if_ne (tgt := 62) dM_holds_55 rfl (fun _ => ?_) (fun h => absurd h (by decide))
          refine V_iconst (v := 0) dM_holds_62 (by decide) ?_
          refine V_zastN (j := st0.length) dM_holds_63 k93 (nI_pred _) (by omega) (by decide) (by decide) ?_
          refine V_goto (tgt := 247) dM_holds_64 rfl ?_
          refine V_iinc (v := nI (p + 1)) (loc' := [(5, .int (nI (p + 1))), (6, .int (-33)), (4, .int (nI (st0.length + 1))), (0, .ref 76), (1, .int (nI (10 * f + i))), (2, .int (nI e)), (3, .int (nI w))]) dM_holds_247 rfl (nI_inc p) (by decide) rfl ?_
          refine V_goto (tgt := 11) dM_holds_250 rfl ?_
          refine V.locs (loc' := [(5, .int (nI (p + 1))), (4, .int (nI (st0.length + 1))), (0, .ref 76), (1, .int (nI (10 * f + i))), (2, .int (nI e)), (3, .int (nI w))]) [0, 2, 3, 4, 5, 6] rfl ?_
          exact ih (false :: st0) (p + 1) _ (hF.set (by rfl)) (hPl.pop.push false) hops' hil' hd.2 (by simp only [List.length_cons] at hst ⊢; omega) hr
        · skip
          refine V_iload dM_holds_11 rfl ?_
          refine V_aload_n dM_holds_13 rfl ?_
          refine V_getR (a := 89) dM_holds_14 flM_74 k76 rfl (r76_21 hR) ?_
          refine V_iload_n dM_holds_17 rfl ?_
          refine V_ialdN (j := 10 * f + i) dM_holds_18 k89 rfl (by omega) (by decide) ?_
          refine V_topI (x' := nI (a + ops.length)) ((mR hM rfl).trans hb) ?_
          refine V_icmp_ge (tgt := 253) dM_holds_19 rfl (fun h => absurd h (nI_ge (a := p) (b := a + ops.length) (by simp at hil; omega) (by omega))) (fun _ => ?_)
          refine V_aload_n dM_holds_22 rfl ?_
          refine V_getR (a := 90) dM_holds_23 flM_77 k76 rfl (r76_22 hR) ?_
          refine V_iload dM_holds_26 rfl ?_
          refine V_ialdN (j := p) dM_holds_28 k90 rfl (by omega) (by decide) ?_
          refine V_topI (x' := (-33)) ((mR hM rfl).trans h0.1) ?_
          refine V_istore (loc' := [(6, .int (-33)), (5, .int (nI p)), (4, .int (nI (st0.length + 1))), (0, .ref 76), (1, .int (nI (10 * f + i))), (2, .int (nI e)), (3, .int (nI w))]) dM_holds_29 (by decide) rfl ?_
          refine V_iload dM_holds_31 rfl ?_
          refine V_bipush (v := -33) dM_holds_33 (by decide) ?_
          refine V_icmp_ne (tgt := 67) dM_holds_35 rfl (fun h => absurd h (by decide)) (fun _ => ?_)
          refine V_aload_n dM_holds_38 rfl ?_
          refine V_getR (a := 93) dM_holds_39 flM_95 k76 rfl (r76_28 hR) ?_
          refine V_iload dM_holds_42 rfl ?_
          refine V_iconst (v := 1) dM_holds_44 (by decide) ?_
          refine V_isub dM_holds_45 ?_
          refine V_aload_n dM_holds_46 rfl ?_
          refine V_getR (a := 93) dM_holds_47 flM_95 k76 rfl (r76_28 hR) ?_
          refine V_iload dM_holds_50 rfl ?_
          refine V_iconst (v := 1) dM_holds_52 (by decide) ?_
          refine V_isub dM_holds_53 ?_
          refine V_zaldN (j := st0.length) dM_holds_54 k93 (nI_pred _) (by omega) (by decide) ?_
          refine V_topI (x' := 0) ht ?_
          refine V_if_ne (tgt := 62) dM_holds_55 rfl (fun h => absurd h (by decide)) (fun _ => ?_)
          refine V_iconst (v := 1) dM_holds_58 (by decide) ?_
          refine V_goto (tgt := 63) dM_holds_59 rfl ?_
          refine V_zastN (j := st0.length) dM_holds_63 k93 (nI_pred _) (by omega) (by decide) (by decide) ?_
          refine V_goto (tgt := 247) dM_holds_64 rfl ?_
          refine V_iinc (v := nI (p + 1)) (loc' := [(5, .int (nI (p + 1))), (6, .int (-33)), (4, .int (nI (st0.length + 1))), (0, .ref 76), (1, .int (nI (10 * f + i))), (2, .int (nI e)), (3, .int (nI w))]) dM_holds_247 rfl (nI_inc p) (by decide) rfl ?_
          refine V_goto (tgt := 11) dM_holds_250 rfl ?_
          refine V.locs (loc' := [(5, .int (nI (p + 1))), (4, .int (nI (st0.length + 1))), (0, .ref 76), (1, .int (nI (10 * f + i))), (2, .int (nI e)), (3, .int (nI w))]) [0, 2, 3, 4, 5, 6] rfl ?_
          exact ih (true :: st0) (p + 1) _ (hF.set (by rfl)) (hPl.pop.push true) hops' hil' hd.2 (by simp only [List.length_cons] at hst ⊢; omega) hr
      · subst ho
        have hd := depB_j (by decide) hdep
        obtain ⟨a0, b0, st0, rfl⟩ : ∃ a0 b0 st0, st = a0 :: b0 :: st0 := by
          match st with
          | [] => exact absurd hd.1 (by decide)
          | [a] => exact absurd hd.1 (by simp)
          | a :: b :: st0 => exact ⟨_, _, _, rfl⟩
        have ht := hPl.top
        have hu := hPl.pop.top
        have hd2 : st0.length + 1 < 100 := by simp only [List.length_cons] at hst; omega
        rcases Bool.eq_false_or_eq_true a0 with hv | hv <;> rcases Bool.eq_false_or_eq_true b0 with hv2 | hv2 <;> subst hv <;> subst hv2
        · skip
          refine V_iload dM_holds_11 rfl ?_
          refine V_aload_n dM_holds_13 rfl ?_
          refine V_getR (a := 89) dM_holds_14 flM_74 k76 rfl (r76_21 hR) ?_
          refine V_iload_n dM_holds_17 rfl ?_
          refine V_ialdN (j := 10 * f + i) dM_holds_18 k89 rfl (by omega) (by decide) ?_
          refine V_topI (x' := nI (a + ops.length)) ((mR hM rfl).trans hb) ?_
          refine V_icmp_ge (tgt := 253) dM_holds_19 rfl (fun h => absurd h (nI_ge (a := p) (b := a + ops.length) (by simp at hil; omega) (by omega))) (fun _ => ?_)
          refine V_aload_n dM_holds_22 rfl ?_
          refine V_getR (a := 90) dM_holds_23 flM_77 k76 rfl (r76_22 hR) ?_
          refine V_iload dM_holds_26 rfl ?_
          refine V_ialdN (j := p) dM_holds_28 k90 rfl (by omega) (by decide) ?_
          refine V_topI (x' := (-38)) ((mR hM rfl).trans h0.1) ?_
          refine V_istore (loc' := [(6, .int (-38)), (5, .int (nI p)), (4, .int (nI (st0.length + 2))), (0, .ref 76), (1, .int (nI (10 * f + i))), (2, .int (nI e)), (3, .int (nI w))]) dM_holds_29 (by decide) rfl ?_
          refine V_iload dM_holds_31 rfl ?_
          refine V_bipush (v := -33) dM_holds_33 (by decide) ?_
          refine V_icmp_ne (tgt := 67) dM_holds_35 rfl (fun _ => ?_) (fun h => absurd h (by decide))
          refine V_iload dM_holds_67 rfl ?_
          refine V_if_ge (tgt := 151) dM_holds_69 rfl (fun h => absurd h (by decide)) (fun _ => ?_)
          refine V_iinc (v := nI (st0.length + 1)) (loc' := [(4, .int (nI (st0.length + 1))), (6, .int (-38)), (5, .int (nI p)), (0, .ref 76), (1, .int (nI (10 * f + i))), (2, .int (nI e)), (3, .int (nI w))]) dM_holds_72 rfl (nI_addm) (by decide) rfl ?_
          refine V_aload_n dM_holds_75 rfl ?_
          refine V_getR (a := 93) dM_holds_76 flM_95 k76 rfl (r76_28 hR) ?_
          refine V_iload dM_holds_79 rfl ?_
          refine V_iconst (v := 1) dM_holds_81 (by decide) ?_
          refine V_isub dM_holds_82 ?_
          refine V_iload dM_holds_83 rfl ?_
          refine V_bipush (v := -38) dM_holds_85 (by decide) ?_
          refine V_icmp_ne (tgt := 120) dM_holds_87 rfl (fun h => absurd h (by decide)) (fun _ => ?_)
          refine V_aload_n dM_holds_90 rfl ?_
          refine V_getR (a := 93) dM_holds_91 flM_95 k76 rfl (r76_28 hR) ?_
          refine V_iload dM_holds_94 rfl ?_
          refine V_iconst (v := 1) dM_holds_96 (by decide) ?_
          refine V_isub dM_holds_97 ?_
          refine V_zaldN (j := st0.length) dM_holds_98 k93 (nI_pred _) (by omega) (by decide) ?_
          refine V_topI (x' := 1) hu ?_
          refine V_if_eq (tgt := 116) dM_holds_99 rfl (fun h => absurd h (by decide)) (fun _ => ?_)
          refine V_aload_n dM_holds_102 rfl ?_
          refine V_getR (a := 93) dM_holds_103 flM_95 k76 rfl (r76_28 hR) ?_
          refine V_iload dM_holds_106 rfl ?_
          refine V_zaldN (j := st0.length + 1) dM_holds_108 k93 rfl (by omega) (by decide) ?_
          refine V_topI (x' := 1) ht ?_
          refine V_if_eq (tgt := 116) dM_holds_109 rfl (fun h => absurd h (by decide)) (fun _ => ?_)
          refine V_iconst (v := 1) dM_holds_112 (by decide) ?_
          refine V_goto (tgt := 147) dM_holds_113 rfl ?_
          refine V_zastN (j := st0.length) dM_holds_147 k93 (nI_pred _) (by omega) (by decide) (by decide) ?_
          refine V_goto (tgt := 247) dM_holds_148 rfl ?_
          refine V_iinc (v := nI (p + 1)) (loc' := [(5, .int (nI (p + 1))), (4, .int (nI (st0.length + 1))), (6, .int (-38)), (0, .ref 76), (1, .int (nI (10 * f + i))), (2, .int (nI e)), (3, .int (nI w))]) dM_holds_247 rfl (nI_inc p) (by decide) rfl ?_
          refine V_goto (tgt := 11) dM_holds_250 rfl ?_
          refine V.locs (loc' := [(5, .int (nI (p + 1))), (4, .int (nI (st0.length + 1))), (0, .ref 76), (1, .int (nI (10 * f + i))), (2, .int (nI e)), (3, .int (nI w))]) [0, 1, 3, 4, 5, 6] rfl ?_
          exact ih (true :: st0) (p + 1) _ (hF.set (by rfl)) (hPl.pop.pop.push true) hops' hil' hd.2 (by simp only [List.length_cons] at hst ⊢; omega) hr
        · skip
          refine V_iload dM_holds_11 rfl ?_
          refine V_aload_n dM_holds_13 rfl ?_
          refine V_getR (a := 89) dM_holds_14 flM_74 k76 rfl (r76_21 hR) ?_
          refine V_iload_n dM_holds_17 rfl ?_
          refine V_ialdN (j := 10 * f + i) dM_holds_18 k89 rfl (by omega) (by decide) ?_
          refine V_topI (x' := nI (a + ops.length)) ((mR hM rfl).trans hb) ?_
          refine V_icmp_ge (tgt := 253) dM_holds_19 rfl (fun h => absurd h (nI_ge (a := p) (b := a + ops.length) (by simp at hil; omega) (by omega))) (fun _ => ?_)
          refine V_aload_n dM_holds_22 rfl ?_
          refine V_getR (a := 90) dM_holds_23 flM_77 k76 rfl (r76_22 hR) ?_
          refine V_iload dM_holds_26 rfl ?_
          refine V_ialdN (j := p) dM_holds_28 k90 rfl (by omega) (by decide) ?_
          refine V_topI (x' := (-38)) ((mR hM rfl).trans h0.1) ?_
          refine V_istore (loc' := [(6, .int (-38)), (5, .int (nI p)), (4, .int (nI (st0.length + 2))), (0, .ref 76), (1, .int (nI (10 * f + i))), (2, .int (nI e)), (3, .int (nI w))]) dM_holds_29 (by decide) rfl ?_
          refine V_iload dM_holds_31 rfl ?_
          refine V_bipush (v := -33) dM_holds_33 (by decide) ?_
          refine V_icmp_ne (tgt := 67) dM_holds_35 rfl (fun _ => ?_) (fun h => absurd h (by decide))
          refine V_iload dM_holds_67 rfl ?_
          refine V_if_ge (tgt := 151) dM_holds_69 rfl (fun h => absurd h (by decide)) (fun _ => ?_)
          refine V_iinc (v := nI (st0.length + 1)) (loc' := [(4, .int (nI (st0.length + 1))), (6, .int (-38)), (5, .int (nI p)), (0, .ref 76), (1, .int (nI (10 * f + i))), (2, .int (nI e)), (3, .int (nI w))]) dM_holds_72 rfl (nI_addm) (by decide) rfl ?_
          refine V_aload_n dM_holds_75 rfl ?_
          refine V_getR (a := 93) dM_holds_76 flM_95 k76 rfl (r76_28 hR) ?_
          refine V_iload dM_holds_79 rfl ?_
          refine V_iconst (v := 1) dM_holds_81 (by decide) ?_
          refine V_isub dM_holds_82 ?_
          refine V_iload dM_holds_83 rfl ?_
          refine V_bipush (v := -38) dM_holds_85 (by decide) ?_
          refine V_icmp_ne (tgt := 120) dM_holds_87 rfl (fun h => absurd h (by decide)) (fun _ => ?_)
          refine V_aload_n dM_holds_90 rfl ?_
          refine V_getR (a := 93) dM_holds_91 flM_95 k76 rfl (r76_28 hR) ?_
          refine V_iload dM_holds_94 rfl ?_
          refine V_iconst (v := 1) dM_holds_96 (by decide) ?_
          refine V_isub dM_holds_97 ?_
          refine V_zaldN (j := st0.length) dM_holds_98 k93 (nI_pred _) (by omega) (by decide) ?_
          refine V_topI (x' := 0) hu ?_
          refine V_if_eq (tgt := 116) dM_holds_99 rfl (fun _ => ?_) (fun h => absurd h (by decide))
          refine V_iconst (v := 0) dM_holds_116 (by decide) ?_
          refine V_goto (tgt := 147) dM_holds_117 rfl ?_
          refine V_zastN (j := st0.length) dM_holds_147 k93 (nI_pred _) (by omega) (by decide) (by decide) ?_
          refine V_goto (tgt := 247) dM_holds_148 rfl ?_
          refine V_iinc (v := nI (p + 1)) (loc' := [(5, .int (nI (p + 1))), (4, .int (nI (st0.length + 1))), (6, .int (-38)), (0, .ref 76), (1, .int (nI (10 * f + i))), (2, .int (nI e)), (3, .int (nI w))]) dM_holds_247 rfl (nI_inc p) (by decide) rfl ?_
          refine V_goto (tgt := 11) dM_holds_250 rfl ?_
          refine V.locs (loc' := [(5, .int (nI (p + 1))), (4, .int (nI (st0.length + 1))), (0, .ref 76), (1, .int (nI (10 * f + i))), (2, .int (nI e)), (3, .int (nI w))]) [0, 1, 3, 4, 5, 6] rfl ?_
          exact ih (false :: st0) (p + 1) _ (hF.set (by rfl)) (hPl.pop.pop.push false) hops' hil' hd.2 (by simp only [List.length_cons] at hst ⊢; omega) hr
        · skip
          refine V_iload dM_holds_11 rfl ?_
          refine V_aload_n dM_holds_13 rfl ?_
          refine V_getR (a := 89) dM_holds_14 flM_74 k76 rfl (r76_21 hR) ?_
          refine V_iload_n dM_holds_17 rfl ?_
          refine V_ialdN (j := 10 * f + i) dM_holds_18 k89 rfl (by omega) (by decide) ?_
          refine V_topI (x' := nI (a + ops.length)) ((mR hM rfl).trans hb) ?_
          refine V_icmp_ge (tgt := 253) dM_holds_19 rfl (fun h => absurd h (nI_ge (a := p) (b := a + ops.length) (by simp at hil; omega) (by omega))) (fun _ => ?_)
          refine V_aload_n dM_holds_22 rfl ?_
          refine V_getR (a := 90) dM_holds_23 flM_77 k76 rfl (r76_22 hR) ?_
          refine V_iload dM_holds_26 rfl ?_
          refine V_ialdN (j := p) dM_holds_28 k90 rfl (by omega) (by decide) ?_
          refine V_topI (x' := (-38)) ((mR hM rfl).trans h0.1) ?_
          refine V_istore (loc' := [(6, .int (-38)), (5, .int (nI p)), (4, .int (nI (st0.length + 2))), (0, .ref 76), (1, .int (nI (10 * f + i))), (2, .int (nI e)), (3, .int (nI w))]) dM_holds_29 (by decide) rfl ?_
          refine V_iload dM_holds_31 rfl ?_
          refine V_bipush (v := -33) dM_holds_33 (by decide) ?_
          refine V_icmp_ne (tgt := 67) dM_holds_35 rfl (fun _ => ?_) (fun h => absurd h (by decide))
          refine V_iload dM_holds_67 rfl ?_
          refine V_if_ge (tgt := 151) dM_holds_69 rfl (fun h => absurd h (by decide)) (fun _ => ?_)
          refine V_iinc (v := nI (st0.length + 1)) (loc' := [(4, .int (nI (st0.length + 1))), (6, .int (-38)), (5, .int (nI p)), (0, .ref 76), (1, .int (nI (10 * f + i))), (2, .int (nI e)), (3, .int (nI w))]) dM_holds_72 rfl (nI_addm) (by decide) rfl ?_
          refine V_aload_n dM_holds_75 rfl ?_
          refine V_getR (a := 93) dM_holds_76 flM_95 k76 rfl (r76_28 hR) ?_
          refine V_iload dM_holds_79 rfl ?_
          refine V_iconst (v := 1) dM_holds_81 (by decide) ?_
          refine V_isub dM_holds_82 ?_
          refine V_iload dM_holds_83 rfl ?_
          refine V_bipush (v := -38) dM_holds_85 (by decide) ?_
          refine V_icmp_ne (tgt := 120) dM_holds_87 rfl (fun h => absurd h (by decide)) (fun _ => ?_)
          refine V_aload_n dM_holds_90 rfl ?_
          refine V_getR (a := 93) dM_holds_91 flM_95 k76 rfl (r76_28 hR) ?_
          refine V_iload dM_holds_94 rfl ?_
          refine V_iconst (v := 1) dM_holds_96 (by decide) ?_
          refine V_isub dM_holds_97 ?_
          refine V_zaldN (j := st0.length) dM_holds_98 k93 (nI_pred _) (by omega) (by decide) ?_
          refine V_topI (x' := 1) hu ?_
          refine V_if_eq (tgt := 116) dM_holds_99 rfl (fun h => absurd h (by decide)) (fun _ => ?_)
          refine V_aload_n dM_holds_102 rfl ?_
          refine V_getR (a := 93) dM_holds_103 flM_95 k76 rfl (r76_28 hR) ?_
          refine V_iload dM_holds_106 rfl ?_
          refine V_zaldN (j := st0.length + 1) dM_holds_108 k93 rfl (by omega) (by decide) ?_
          refine V_topI (x' := 0) ht ?_
          refine V_if_eq (tgt := 116) dM_holds_109 rfl (fun _ => ?_) (fun h => absurd h (by decide))
          refine V_iconst (v := 0) dM_holds_116 (by decide) ?_
          refine V_goto (tgt := 147) dM_holds_117 rfl ?_
          refine V_zastN (j := st0.length) dM_holds_147 k93 (nI_pred _) (by omega) (by decide) (by decide) ?_
          refine V_goto (tgt := 247) dM_holds_148 rfl ?_
          refine V_iinc (v := nI (p + 1)) (loc' := [(5, .int (nI (p + 1))), (4, .int (nI (st0.length + 1))), (6, .int (-38)), (0, .ref 76), (1, .int (nI (10 * f + i))), (2, .int (nI e)), (3, .int (nI w))]) dM_holds_247 rfl (nI_inc p) (by decide) rfl ?_
          refine V_goto (tgt := 11) dM_holds_250 rfl ?_
          refine V.locs (loc' := [(5, .int (nI (p + 1))), (4, .int (nI (st0.length + 1))), (0, .ref 76), (1, .int (nI (10 * f + i))), (2, .int (nI e)), (3, .int (nI w))]) [0, 1, 3, 4, 5, 6] rfl ?_
          exact ih (false :: st0) (p + 1) _ (hF.set (by rfl)) (hPl.pop.pop.push false) hops' hil' hd.2 (by simp only [List.length_cons] at hst ⊢; omega) hr
        · skip
          refine V_iload dM_holds_11 rfl ?_
          refine V_aload_n dM_holds_13 rfl ?_
          refine V_getR (a := 89) dM_holds_14 flM_74 k76 rfl (r76_21 hR) ?_
          refine V_iload_n dM_holds_17 rfl ?_
          refine V_ialdN (j := 10 * f + i) dM_holds_18 k89 rfl (by omega) (by decide) ?_
          refine V_topI (x' := nI (a + ops.length)) ((mR hM rfl).trans hb) ?_
          refine V_icmp_ge (tgt := 253) dM_holds_19 rfl (fun h => absurd h (nI_ge (a := p) (b := a + ops.length) (by simp at hil; omega) (by omega))) (fun _ => ?_)
          refine V_aload_n dM_holds_22 rfl ?_
          refine V_getR (a := 90) dM_holds_23 flM_77 k76 rfl (r76_22 hR) ?_
          refine V_iload dM_holds_26 rfl ?_
          refine V_ialdN (j := p) dM_holds_28 k90 rfl (by omega) (by decide) ?_
          refine V_topI (x' := (-38)) ((mR hM rfl).trans h0.1) ?_
          refine V_istore (loc' := [(6, .int (-38)), (5, .int (nI p)), (4, .int (nI (st0.length + 2))), (0, .ref 76), (1, .int (nI (10 * f + i))), (2, .int (nI e)), (3, .int (nI w))]) dM_holds_29 (by decide) rfl ?_
          refine V_iload dM_holds_31 rfl ?_
          refine V_bipush (v := -33) dM_holds_33 (by decide) ?_
          refine V_icmp_ne (tgt := 67) dM_holds_35 rfl (fun _ => ?_) (fun h => absurd h (by decide))
          refine V_iload dM_holds_67 rfl ?_
          refine V_if_ge (tgt := 151) dM_holds_69 rfl (fun h => absurd h (by decide)) (fun _ => ?_)
          refine V_iinc (v := nI (st0.length + 1)) (loc' := [(4, .int (nI (st0.length + 1))), (6, .int (-38)), (5, .int (nI p)), (0, .ref 76), (1, .int (nI (10 * f + i))), (2, .int (nI e)), (3, .int (nI w))]) dM_holds_72 rfl (nI_addm) (by decide) rfl ?_
          refine V_aload_n dM_holds_75 rfl ?_
          refine V_getR (a := 93) dM_holds_76 flM_95 k76 rfl (r76_28 hR) ?_
          refine V_iload dM_holds_79 rfl ?_
          refine V_iconst (v := 1) dM_holds_81 (by decide) ?_
          refine V_isub dM_holds_82 ?_
          refine V_iload dM_holds_83 rfl ?_
          refine V_bipush (v := -38) dM_holds_85 (by decide) ?_
          refine V_icmp_ne (tgt := 120) dM_holds_87 rfl (fun h => absurd h (by decide)) (fun _ => ?_)
          refine V_aload_n dM_holds_90 rfl ?_
          refine V_getR (a := 93) dM_holds_91 flM_95 k76 rfl (r76_28 hR) ?_
          refine V_iload dM_holds_94 rfl ?_
          refine V_iconst (v := 1) dM_holds_96 (by decide) ?_
          refine V_isub dM_holds_97 ?_
          refine V_zaldN (j := st0.length) dM_holds_98 k93 (nI_pred _) (by omega) (by decide) ?_
          refine V_topI (x' := 0) hu ?_
          refine V_if_eq (tgt := 116) dM_holds_99 rfl (fun _ => ?_) (fun h => absurd h (by decide))
          refine V_iconst (v := 0) dM_holds_116 (by decide) ?_
          refine V_goto (tgt := 147) dM_holds_117 rfl ?_
          refine V_zastN (j := st0.length) dM_holds_147 k93 (nI_pred _) (by omega) (by decide) (by decide) ?_
          refine V_goto (tgt := 247) dM_holds_148 rfl ?_
          refine V_iinc (v := nI (p + 1)) (loc' := [(5, .int (nI (p + 1))), (4, .int (nI (st0.length + 1))), (6, .int (-38)), (0, .ref 76), (1, .int (nI (10 * f + i))), (2, .int (nI e)), (3, .int (nI w))]) dM_holds_247 rfl (nI_inc p) (by decide) rfl ?_
          refine V_goto (tgt := 11) dM_holds_250 rfl ?_
          refine V.locs (loc' := [(5, .int (nI (p + 1))), (4, .int (nI (st0.length + 1))), (0, .ref 76), (1, .int (nI (10 * f + i))), (2, .int (nI e)), (3, .int (nI w))]) [0, 1, 3, 4, 5, 6] rfl ?_
          exact ih (false :: st0) (p + 1) _ (hF.set (by rfl)) (hPl.pop.pop.push false) hops' hil' hd.2 (by simp only [List.length_cons] at hst ⊢; omega) hr
      · subst ho
        have hd := depB_j (by decide) hdep
        obtain ⟨a0, b0, st0, rfl⟩ : ∃ a0 b0 st0, st = a0 :: b0 :: st0 := by
          match st with
          | [] => exact absurd hd.1 (by decide)
          | [a] => exact absurd hd.1 (by simp)
          | a :: b :: st0 => exact ⟨_, _, _, rfl⟩
        have ht := hPl.top
        have hu := hPl.pop.top
        have hd2 : st0.length + 1 < 100 := by simp only [List.length_cons] at hst; omega
        rcases Bool.eq_false_or_eq_true a0 with hv | hv <;> rcases Bool.eq_false_or_eq_true b0 with hv2 | hv2 <;> subst hv <;> subst hv2
        · skip
          refine V_iload dM_holds_11 rfl ?_
          refine V_aload_n dM_holds_13 rfl ?_
          refine V_getR (a := 89) dM_holds_14 flM_74 k76 rfl (r76_21 hR) ?_
          refine V_iload_n dM_holds_17 rfl ?_
          refine V_ialdN (j := 10 * f + i) dM_holds_18 k89 rfl (by omega) (by decide) ?_
          refine V_topI (x' := nI (a + ops.length)) ((mR hM rfl).trans hb) ?_
          refine V_icmp_ge (tgt := 253) dM_holds_19 rfl (fun h => absurd h (nI_ge (a := p) (b := a + ops.length) (by simp at hil; omega) (by omega))) (fun _ => ?_)
          refine V_aload_n dM_holds_22 rfl ?_
          refine V_getR (a := 90) dM_holds_23 flM_77 k76 rfl (r76_22 hR) ?_
          refine V_iload dM_holds_26 rfl ?_
          refine V_ialdN (j := p) dM_holds_28 k90 rfl (by omega) (by decide) ?_
          refine V_topI (x' := (-124)) ((mR hM rfl).trans h0.1) ?_
          refine V_istore (loc' := [(6, .int (-124)), (5, .int (nI p)), (4, .int (nI (st0.length + 2))), (0, .ref 76), (1, .int (nI (10 * f + i))), (2, .int (nI e)), (3, .int (nI w))]) dM_holds_29 (by decide) rfl ?_
          refine V_iload dM_holds_31 rfl ?_
          refine V_bipush (v := -33) dM_holds_33 (by decide) ?_
          refine V_icmp_ne (tgt := 67) dM_holds_35 rfl (fun _ => ?_) (fun h => absurd h (by decide))
          refine V_iload dM_holds_67 rfl ?_
          refine V_if_ge (tgt := 151) dM_holds_69 rfl (fun h => absurd h (by decide)) (fun _ => ?_)
          refine V_iinc (v := nI (st0.length + 1)) (loc' := [(4, .int (nI (st0.length + 1))), (6, .int (-124)), (5, .int (nI p)), (0, .ref 76), (1, .int (nI (10 * f + i))), (2, .int (nI e)), (3, .int (nI w))]) dM_holds_72 rfl (nI_addm) (by decide) rfl ?_
          refine V_aload_n dM_holds_75 rfl ?_
          refine V_getR (a := 93) dM_holds_76 flM_95 k76 rfl (r76_28 hR) ?_
          refine V_iload dM_holds_79 rfl ?_
          refine V_iconst (v := 1) dM_holds_81 (by decide) ?_
          refine V_isub dM_holds_82 ?_
          refine V_iload dM_holds_83 rfl ?_
          refine V_bipush (v := -38) dM_holds_85 (by decide) ?_
          refine V_icmp_ne (tgt := 120) dM_holds_87 rfl (fun _ => ?_) (fun h => absurd h (by decide))
          refine V_aload_n dM_holds_120 rfl ?_
          refine V_getR (a := 93) dM_holds_121 flM_95 k76 rfl (r76_28 hR) ?_
          refine V_iload dM_holds_124 rfl ?_
          refine V_iconst (v := 1) dM_holds_126 (by decide) ?_
          refine V_isub dM_holds_127 ?_
          refine V_zaldN (j := st0.length) dM_holds_128 k93 (nI_pred _) (by omega) (by decide) ?_
          refine V_topI (x' := 1) hu ?_
          refine V_if_ne (tgt := 142) dM_holds_129 rfl (fun _ => ?_) (fun h => absurd h (by decide))
          refine V_iconst (v := 1) dM_holds_142 (by decide) ?_
          refine V_goto (tgt := 147) dM_holds_143 rfl ?_
          refine V_zastN (j := st0.length) dM_holds_147 k93 (nI_pred _) (by omega) (by decide) (by decide) ?_
          refine V_goto (tgt := 247) dM_holds_148 rfl ?_
          refine V_iinc (v := nI (p + 1)) (loc' := [(5, .int (nI (p + 1))), (4, .int (nI (st0.length + 1))), (6, .int (-124)), (0, .ref 76), (1, .int (nI (10 * f + i))), (2, .int (nI e)), (3, .int (nI w))]) dM_holds_247 rfl (nI_inc p) (by decide) rfl ?_
          refine V_goto (tgt := 11) dM_holds_250 rfl ?_
          refine V.locs (loc' := [(5, .int (nI (p + 1))), (4, .int (nI (st0.length + 1))), (0, .ref 76), (1, .int (nI (10 * f + i))), (2, .int (nI e)), (3, .int (nI w))]) [0, 1, 3, 4, 5, 6] rfl ?_
          exact ih (true :: st0) (p + 1) _ (hF.set (by rfl)) (hPl.pop.pop.push true) hops' hil' hd.2 (by simp only [List.length_cons] at hst ⊢; omega) hr
        · skip
          refine V_iload dM_holds_11 rfl ?_
          refine V_aload_n dM_holds_13 rfl ?_
          refine V_getR (a := 89) dM_holds_14 flM_74 k76 rfl (r76_21 hR) ?_
          refine V_iload_n dM_holds_17 rfl ?_
          refine V_ialdN (j := 10 * f + i) dM_holds_18 k89 rfl (by omega) (by decide) ?_
          refine V_topI (x' := nI (a + ops.length)) ((mR hM rfl).trans hb) ?_
          refine V_icmp_ge (tgt := 253) dM_holds_19 rfl (fun h => absurd h (nI_ge (a := p) (b := a + ops.length) (by simp at hil; omega) (by omega))) (fun _ => ?_)
          refine V_aload_n dM_holds_22 rfl ?_
          refine V_getR (a := 90) dM_holds_23 flM_77 k76 rfl (r76_22 hR) ?_
          refine V_iload dM_holds_26 rfl ?_
          refine V_ialdN (j := p) dM_holds_28 k90 rfl (by omega) (by decide) ?_
          refine V_topI (x' := (-124)) ((mR hM rfl).trans h0.1) ?_
          refine V_istore (loc' := [(6, .int (-124)), (5, .int (nI p)), (4, .int (nI (st0.length + 2))), (0, .ref 76), (1, .int (nI (10 * f + i))), (2, .int (nI e)), (3, .int (nI w))]) dM_holds_29 (by decide) rfl ?_
          refine V_iload dM_holds_31 rfl ?_
          refine V_bipush (v := -33) dM_holds_33 (by decide) ?_
          refine V_icmp_ne (tgt := 67) dM_holds_35 rfl (fun _ => ?_) (fun h => absurd h (by decide))
          refine V_iload dM_holds_67 rfl ?_
          refine V_if_ge (tgt := 151) dM_holds_69 rfl (fun h => absurd h (by decide)) (fun _ => ?_)
          refine V_iinc (v := nI (st0.length + 1)) (loc' := [(4, .int (nI (st0.length + 1))), (6, .int (-124)), (5, .int (nI p)), (0, .ref 76), (1, .int (nI (10 * f + i))), (2, .int (nI e)), (3, .int (nI w))]) dM_holds_72 rfl (nI_addm) (by decide) rfl ?_
          refine V_aload_n dM_holds_75 rfl ?_
          refine V_getR (a := 93) dM_holds_76 flM_95 k76 rfl (r76_28 hR) ?_
          refine V_iload dM_holds_79 rfl ?_
          refine V_iconst (v := 1) dM_holds_81 (by decide) ?_
          refine V_isub dM_holds_82 ?_
          refine V_iload dM_holds_83 rfl ?_
          refine V_bipush (v := -38) dM_holds_85 (by decide) ?_
          refine V_icmp_ne (tgt := 120) dM_holds_87 rfl (fun _ => ?_) (fun h => absurd h (by decide))
          refine V_aload_n dM_holds_120 rfl ?_
          refine V_getR (a := 93) dM_holds_121 flM_95 k76 rfl (r76_28 hR) ?_
          refine V_iload dM_holds_124 rfl ?_
          refine V_iconst (v := 1) dM_holds_126 (by decide) ?_
          refine V_isub dM_holds_127 ?_
          refine V_zaldN (j := st0.length) dM_holds_128 k93 (nI_pred _) (by omega) (by decide) ?_
          refine V_topI (x' := 0) hu ?_
          refine V_if_ne (tgt := 142) dM_holds_129 rfl (fun h => absurd h (by decide)) (fun _ => ?_)
          refine V_aload_n dM_holds_132 rfl ?_
          refine V_getR (a := 93) dM_holds_133 flM_95 k76 rfl (r76_28 hR) ?_
          refine V_iload dM_holds_136 rfl ?_
          refine V_zaldN (j := st0.length + 1) dM_holds_138 k93 rfl (by omega) (by decide) ?_
          refine V_topI (x' := 1) ht ?_
          refine V_if_eq (tgt := 146) dM_holds_139 rfl (fun h => absurd h (by decide)) (fun _ => ?_)
          refine V_iconst (v := 1) dM_holds_142 (by decide) ?_
          refine V_goto (tgt := 147) dM_holds_143 rfl ?_
          refine V_zastN (j := st0.length) dM_holds_147 k93 (nI_pred _) (by omega) (by decide) (by decide) ?_
          refine V_goto (tgt := 247) dM_holds_148 rfl ?_
          refine V_iinc (v := nI (p + 1)) (loc' := [(5, .int (nI (p + 1))), (4, .int (nI (st0.length + 1))), (6, .int (-124)), (0, .ref 76), (1, .int (nI (10 * f + i))), (2, .int (nI e)), (3, .int (nI w))]) dM_holds_247 rfl (nI_inc p) (by decide) rfl ?_
          refine V_goto (tgt := 11) dM_holds_250 rfl ?_
          refine V.locs (loc' := [(5, .int (nI (p + 1))), (4, .int (nI (st0.length + 1))), (0, .ref 76), (1, .int (nI (10 * f + i))), (2, .int (nI e)), (3, .int (nI w))]) [0, 1, 3, 4, 5, 6] rfl ?_
          exact ih (true :: st0) (p + 1) _ (hF.set (by rfl)) (hPl.pop.pop.push true) hops' hil' hd.2 (by simp only [List.length_cons] at hst ⊢; omega) hr
        · skip
          refine V_iload dM_holds_11 rfl ?_
          refine V_aload_n dM_holds_13 rfl ?_
          refine V_getR (a := 89) dM_holds_14 flM_74 k76 rfl (r76_21 hR) ?_
          refine V_iload_n dM_holds_17 rfl ?_
          refine V_ialdN (j := 10 * f + i) dM_holds_18 k89 rfl (by omega) (by decide) ?_
          refine V_topI (x' := nI (a + ops.length)) ((mR hM rfl).trans hb) ?_
          refine V_icmp_ge (tgt := 253) dM_holds_19 rfl (fun h => absurd h (nI_ge (a := p) (b := a + ops.length) (by simp at hil; omega) (by omega))) (fun _ => ?_)
          refine V_aload_n dM_holds_22 rfl ?_
          refine V_getR (a := 90) dM_holds_23 flM_77 k76 rfl (r76_22 hR) ?_
          refine V_iload dM_holds_26 rfl ?_
          refine V_ialdN (j := p) dM_holds_28 k90 rfl (by omega) (by decide) ?_
          refine V_topI (x' := (-124)) ((mR hM rfl).trans h0.1) ?_
          refine V_istore (loc' := [(6, .int (-124)), (5, .int (nI p)), (4, .int (nI (st0.length + 2))), (0, .ref 76), (1, .int (nI (10 * f + i))), (2, .int (nI e)), (3, .int (nI w))]) dM_holds_29 (by decide) rfl ?_
          refine V_iload dM_holds_31 rfl ?_
          refine V_bipush (v := -33) dM_holds_33 (by decide) ?_
          refine V_icmp_ne (tgt := 67) dM_holds_35 rfl (fun _ => ?_) (fun h => absurd h (by decide))
          refine V_iload dM_holds_67 rfl ?_
          refine V_if_ge (tgt := 151) dM_holds_69 rfl (fun h => absurd h (by decide)) (fun _ => ?_)
          refine V_iinc (v := nI (st0.length + 1)) (loc' := [(4, .int (nI (st0.length + 1))), (6, .int (-124)), (5, .int (nI p)), (0, .ref 76), (1, .int (nI (10 * f + i))), (2, .int (nI e)), (3, .int (nI w))]) dM_holds_72 rfl (nI_addm) (by decide) rfl ?_
          refine V_aload_n dM_holds_75 rfl ?_
          refine V_getR (a := 93) dM_holds_76 flM_95 k76 rfl (r76_28 hR) ?_
          refine V_iload dM_holds_79 rfl ?_
          refine V_iconst (v := 1) dM_holds_81 (by decide) ?_
          refine V_isub dM_holds_82 ?_
          refine V_iload dM_holds_83 rfl ?_
          refine V_bipush (v := -38) dM_holds_85 (by decide) ?_
          refine V_icmp_ne (tgt := 120) dM_holds_87 rfl (fun _ => ?_) (fun h => absurd h (by decide))
          refine V_aload_n dM_holds_120 rfl ?_
          refine V_getR (a := 93) dM_holds_121 flM_95 k76 rfl (r76_28 hR) ?_
          refine V_iload dM_holds_124 rfl ?_
          refine V_iconst (v := 1) dM_holds_126 (by decide) ?_
          refine V_isub dM_holds_127 ?_
          refine V_zaldN (j := st0.length) dM_holds_128 k93 (nI_pred _) (by omega) (by decide) ?_
          refine V_topI (x' := 1) hu ?_
          refine V_if_ne (tgt := 142) dM_holds_129 rfl (fun _ => ?_) (fun h => absurd h (by decide))
          refine V_iconst (v := 1) dM_holds_142 (by decide) ?_
          refine V_goto (tgt := 147) dM_holds_143 rfl ?_
          refine V_zastN (j := st0.length) dM_holds_147 k93 (nI_pred _) (by omega) (by decide) (by decide) ?_
          refine V_goto (tgt := 247) dM_holds_148 rfl ?_
          refine V_iinc (v := nI (p + 1)) (loc' := [(5, .int (nI (p + 1))), (4, .int (nI (st0.length + 1))), (6, .int (-124)), (0, .ref 76), (1, .int (nI (10 * f + i))), (2, .int (nI e)), (3, .int (nI w))]) dM_holds_247 rfl (nI_inc p) (by decide) rfl ?_
          refine V_goto (tgt := 11) dM_holds_250 rfl ?_
          refine V.locs (loc' := [(5, .int (nI (p + 1))), (4, .int (nI (st0.length + 1))), (0, .ref 76), (1, .int (nI (10 * f + i))), (2, .int (nI e)), (3, .int (nI w))]) [0, 1, 3, 4, 5, 6] rfl ?_
          exact ih (true :: st0) (p + 1) _ (hF.set (by rfl)) (hPl.pop.pop.push true) hops' hil' hd.2 (by simp only [List.length_cons] at hst ⊢; omega) hr
        · skip
          refine V_iload dM_holds_11 rfl ?_
          refine V_aload_n dM_holds_13 rfl ?_
          refine V_getR (a := 89) dM_holds_14 flM_74 k76 rfl (r76_21 hR) ?_
          refine V_iload_n dM_holds_17 rfl ?_
          refine V_ialdN (j := 10 * f + i) dM_holds_18 k89 rfl (by omega) (by decide) ?_
          refine V_topI (x' := nI (a + ops.length)) ((mR hM rfl).trans hb) ?_
          refine V_icmp_ge (tgt := 253) dM_holds_19 rfl (fun h => absurd h (nI_ge (a := p) (b := a + ops.length) (by simp at hil; omega) (by omega))) (fun _ => ?_)
          refine V_aload_n dM_holds_22 rfl ?_
          refine V_getR (a := 90) dM_holds_23 flM_77 k76 rfl (r76_22 hR) ?_
          refine V_iload dM_holds_26 rfl ?_
          refine V_ialdN (j := p) dM_holds_28 k90 rfl (by omega) (by decide) ?_
          refine V_topI (x' := (-124)) ((mR hM rfl).trans h0.1) ?_
          refine V_istore (loc' := [(6, .int (-124)), (5, .int (nI p)), (4, .int (nI (st0.length + 2))), (0, .ref 76), (1, .int (nI (10 * f + i))), (2, .int (nI e)), (3, .int (nI w))]) dM_holds_29 (by decide) rfl ?_
          refine V_iload dM_holds_31 rfl ?_
          refine V_bipush (v := -33) dM_holds_33 (by decide) ?_
          refine V_icmp_ne (tgt := 67) dM_holds_35 rfl (fun _ => ?_) (fun h => absurd h (by decide))
          refine V_iload dM_holds_67 rfl ?_
          refine V_if_ge (tgt := 151) dM_holds_69 rfl (fun h => absurd h (by decide)) (fun _ => ?_)
          refine V_iinc (v := nI (st0.length + 1)) (loc' := [(4, .int (nI (st0.length + 1))), (6, .int (-124)), (5, .int (nI p)), (0, .ref 76), (1, .int (nI (10 * f + i))), (2, .int (nI e)), (3, .int (nI w))]) dM_holds_72 rfl (nI_addm) (by decide) rfl ?_
          refine V_aload_n dM_holds_75 rfl ?_
          refine V_getR (a := 93) dM_holds_76 flM_95 k76 rfl (r76_28 hR) ?_
          refine V_iload dM_holds_79 rfl ?_
          refine V_iconst (v := 1) dM_holds_81 (by decide) ?_
          refine V_isub dM_holds_82 ?_
          refine V_iload dM_holds_83 rfl ?_
          refine V_bipush (v := -38) dM_holds_85 (by decide) ?_
          refine V_icmp_ne (tgt := 120) dM_holds_87 rfl (fun _ => ?_) (fun h => absurd h (by decide))
          refine V_aload_n dM_holds_120 rfl ?_
          refine V_getR (a := 93) dM_holds_121 flM_95 k76 rfl (r76_28 hR) ?_
          refine V_iload dM_holds_124 rfl ?_
          refine V_iconst (v := 1) dM_holds_126 (by decide) ?_
          refine V_isub dM_holds_127 ?_
          refine V_zaldN (j := st0.length) dM_holds_128 k93 (nI_pred _) (by omega) (by decide) ?_
          refine V_topI (x' := 0) hu ?_
          refine V_if_ne (tgt := 142) dM_holds_129 rfl (fun h => absurd h (by decide)) (fun _ => ?_)
          refine V_aload_n dM_holds_132 rfl ?_
          refine V_getR (a := 93) dM_holds_133 flM_95 k76 rfl (r76_28 hR) ?_
          refine V_iload dM_holds_136 rfl ?_
          refine V_zaldN (j := st0.length + 1) dM_holds_138 k93 rfl (by omega) (by decide) ?_
          refine V_topI (x' := 0) ht ?_
          refine V_if_eq (tgt := 146) dM_holds_139 rfl (fun _ => ?_) (fun h => absurd h (by decide))
          refine V_iconst (v := 0) dM_holds_146 (by decide) ?_
          refine V_zastN (j := st0.length) dM_holds_147 k93 (nI_pred _) (by omega) (by decide) (by decide) ?_
          refine V_goto (tgt := 247) dM_holds_148 rfl ?_
          refine V_iinc (v := nI (p + 1)) (loc' := [(5, .int (nI (p + 1))), (4, .int (nI (st0.length + 1))), (6, .int (-124)), (0, .ref 76), (1, .int (nI (10 * f + i))), (2, .int (nI e)), (3, .int (nI w))]) dM_holds_247 rfl (nI_inc p) (by decide) rfl ?_
          refine V_goto (tgt := 11) dM_holds_250 rfl ?_
          refine V.locs (loc' := [(5, .int (nI (p + 1))), (4, .int (nI (st0.length + 1))), (0, .ref 76), (1, .int (nI (10 * f + i))), (2, .int (nI e)), (3, .int (nI w))]) [0, 1, 3, 4, 5, 6] rfl ?_
          exact ih (false :: st0) (p + 1) _ (hF.set (by rfl)) (hPl.pop.pop.push false) hops' hil' hd.2 (by simp only [List.length_cons] at hst ⊢; omega) hr
  refine V_iconst (v := 0) dM_holds_0 (by decide) ?_
  refine V_istore (loc' := [(4, .int 0), (0, .ref 76), (1, .int (nI (10 * f + i))), (2, .int (nI e)), (3, .int (nI w))]) dM_holds_1 (by decide) rfl ?_
  refine V_aload_n dM_holds_3 rfl ?_
  refine V_getR (a := 88) dM_holds_4 flM_71 k76 rfl (r76_20 hR) ?_
  refine V_iload_n dM_holds_7 rfl ?_
  refine V_ialdN (j := 10 * f + i) dM_holds_8 k88 rfl (by omega) (by decide) ?_
  refine V_topI (x' := nI a) ((mR hM rfl).trans ha) ?_
  refine V_istore (loc' := [(5, .int (nI a)), (4, .int 0), (0, .ref 76), (1, .int (nI (10 * f + i))), (2, .int (nI e)), (3, .int (nI w))]) dM_holds_9 (by decide) rfl ?_
  refine V.locs (loc' := [(5, .int (nI a)), (4, .int 0), (0, .ref 76), (1, .int (nI (10 * f + i))), (2, .int (nI e)), (3, .int (nI w))]) [0, 1, 2, 3, 4, 5] rfl ?_
  exact lp ops [] a σ hF Pl.nil (fun j op h => hops j op h) rfl hdep (Nat.zero_le _) (hrun _)
