/-! the acts of the first object -/
def bodyL (r : Nat) (b : Int32) (M : Hp) : Hp := si (si M 112 r b) 76 57 (nI (r + 1))
def fA (σ : Hp) (K : Nat) (num v : Int32) : Prop := gi σ 64 2 = nI K ∧ gi σ 64 3 = num ∧ gi σ 64 4 = v
theorem fA.to {σ s : Hp} {K : Nat} {num v : Int32} (h : fA σ K num v) (g : ∀ j : Nat, ¬ j = 0 → gi s 64 j = gi σ 64 j) : fA s K num v := ⟨(g 2 (by decide)).trans h.1, (g 3 (by decide)).trans h.2.1, (g 4 (by decide)).trans h.2.2⟩
def PA (L : Nat → List Cl) (M' σ : Hp) (v : Option Value) : Option Value → List Kd → Hp → Prop := fun r k s => r = v ∧ KA = k ∧ RC L M' s ∧ Sm σ s ∧ ∀ j : Nat, ¬ j = 0 → gi s 64 j = gi σ 64 j
theorem c_begin {l : Launch} {G : GT} {L : Nat → List Cl} {M σ : Hp} (hC : RC L M σ) {r : Nat} (h20 : r < 20) (hr : gi M 76 57 = nI r) (b : Int32) : MM l G mA_begin 0 0 0 [.ref 64, .int b] KA σ (PA L (bodyL r b M) σ none) := by
  have hR := hC.1
  have hC0 := hC
  have hS : Sm σ σ := Sm.rfl
  have hA : ∀ j : Nat, ¬ j = 0 → gi σ 64 j = gi σ 64 j := fun _ _ => rfl
  refine MM.of (loc := [(0, .ref 64), (1, .int b)]) (by decide +kernel) rfl (Nat.le_of_ble_eq_true rfl) ?_
  refine V_aload_n dA_begin_0 rfl ?_
  refine V_getE (x := nI r) dA_begin_1 flA_15 k64 rfl ((hC.2.1 64 0 76 57 rfl).trans hr) ?_
  refine V_bipush (v := 20) dA_begin_4 (by decide) ?_
  refine V_icmp_ge (tgt := 19) dA_begin_6 rfl (fun h => absurd h (nI_ge (a := r) (b := 20) h20 (by decide))) (fun _ => ?_)
  refine V_aload_n dA_begin_9 rfl ?_
  refine V_getR (a := 65) dA_begin_10 flA_9 k64 rfl (r64_1 hR) ?_
  refine V_aload_n dA_begin_13 rfl ?_
  refine V_getE (x := nI r) dA_begin_14 flA_15 k64 rfl ((hC.2.1 64 0 76 57 rfl).trans hr) ?_
  refine V_iload_n dA_begin_17 rfl ?_
  refine V_iastN (j := r) dA_begin_18 k65 rfl h20 (by decide) ?_
  have hC := RC_set (k := 65) (j := r) (a := 112) (b := r) (x := b) hC (mpY _ h20) (by first | decide | omega)
  have hS := hS.set (k := 65) (j := r) (x := b) (by omega)
  have hR := hC.1
  have hA : ∀ j : Nat, ¬ j = 0 → gi (si σ 65 r b) 64 j = gi σ 64 j := fun j h => (gi_ne (by decide)).trans (hA j h)
  refine V_aload_n dA_begin_19 rfl ?_
  refine V_dup dA_begin_20 rfl ?_
  refine V_getE (x := nI r) dA_begin_21 flA_15 k64 rfl ((gi_ne (by decide)).trans ((hC0.2.1 64 0 76 57 rfl).trans hr)) ?_
  refine V_iconst (v := 1) dA_begin_24 (by decide) ?_
  refine V_iadd dA_begin_25 ?_
  refine V_topI (x' := nI (r + 1)) (nI_1 _) ?_
  refine V_putI dA_begin_26 flA_15 (fpA_0 _) (Or.inl rfl) k64 rfl ?_
  have hC := RC_set (k := 64) (j := 0) (a := 76) (b := 57) (x := nI (r + 1)) hC rfl (by first | decide | omega)
  have hS := hS.set (k := 64) (j := 0) (x := nI (r + 1)) (by omega)
  have hR := hC.1
  have hA : ∀ j : Nat, ¬ j = 0 → gi (si (si σ 65 r b) 64 0 (nI (r + 1))) 64 j = gi σ 64 j := fun j h => (gi_nj h).trans (hA j h)
  exact V_ret dA_begin_29 rfl rfl ⟨rfl, rfl, hC, hS, hA⟩
theorem c_bf_0_0 {l : Launch} {G : GT} {σ : Hp} : MM l G mA_bodyFrom 0 0 0 [.int 0, .int 0] KA σ (PE (some (.int 10)) KA σ) := by
  refine MM.of (loc := [(0, .int 0), (1, .int 0)]) (by decide +kernel) rfl (Nat.le_of_ble_eq_true rfl) ?_
  refine V_iload_n dA_bodyFrom_0 rfl ?_
  refine V_istore_n (loc' := [(2, .int 0), (0, .int 0), (1, .int 0)]) dA_bodyFrom_1 (by decide) rfl ?_
  refine V_iconst (v := 0) dA_bodyFrom_2 (by decide) ?_
  refine V_istore_n (loc' := [(3, .int 0), (2, .int 0), (0, .int 0), (1, .int 0)]) dA_bodyFrom_3 (by decide) rfl ?_
  refine V_iload_n dA_bodyFrom_4 rfl ?_
  refine V_gsAN rfl dA_bodyFrom_5 ?_
  refine V_tAl dA_bodyFrom_8 ?_
  refine V_icmp_ge (tgt := 73) dA_bodyFrom_9 rfl (fun h => absurd h (by decide)) (fun _ => ?_)
  refine V_iload_n dA_bodyFrom_12 rfl ?_
  refine V_if_lt (tgt := 73) dA_bodyFrom_13 rfl (fun h => absurd h (by decide)) (fun _ => ?_)
  refine V_iload_n dA_bodyFrom_16 rfl ?_
  refine V_gsAN rfl dA_bodyFrom_17 ?_
  refine V_tAl dA_bodyFrom_20 ?_
  refine V_icmp_ge (tgt := 73) dA_bodyFrom_21 rfl (fun h => absurd h (by decide)) (fun _ => ?_)
  refine V_iload_n dA_bodyFrom_24 rfl ?_
  refine V_iconst (v := 3) dA_bodyFrom_25 (by decide) ?_
  refine V_imul dA_bodyFrom_26 ?_
  refine V_topI (x' := 0) (by decide) ?_
  refine V_iload_n dA_bodyFrom_27 rfl ?_
  refine V_iadd dA_bodyFrom_28 ?_
  refine V_topI (x' := 0) (by decide) ?_
  refine V_istore (loc' := [(4, .int 0), (3, .int 0), (2, .int 0), (0, .int 0), (1, .int 0)]) dA_bodyFrom_29 (by decide) rfl ?_
  refine V_iload dA_bodyFrom_31 rfl ?_
  refine V_if_lt (tgt := 61) dA_bodyFrom_33 rfl (fun h => absurd h (by decide)) (fun _ => ?_)
  refine V_iload dA_bodyFrom_36 rfl ?_
  refine V_gsB rfl dA_bodyFrom_38 fwA_52 ?_
  refine V_tBl dA_bodyFrom_41 ?_
  refine V_icmp_ge (tgt := 61) dA_bodyFrom_42 rfl (fun h => absurd h (by decide)) (fun _ => ?_)
  refine V_gsB rfl dA_bodyFrom_45 fwA_52 ?_
  refine V_iload dA_bodyFrom_48 rfl ?_
  refine V_tB dA_bodyFrom_50 (vp_in_nI (n := 0) (N := 21) (by decide) (by decide)) ?_
  refine V_topI (x' := 10) (by decide) ?_
  refine V_if_eq (tgt := 61) dA_bodyFrom_51 rfl (fun h => absurd h (by decide)) (fun _ => ?_)
  refine V_gsB rfl dA_bodyFrom_54 fwA_52 ?_
  refine V_iload dA_bodyFrom_57 rfl ?_
  refine V_tB dA_bodyFrom_59 (vp_in_nI (n := 0) (N := 21) (by decide) (by decide)) ?_
  refine V_topI (x' := 10) (by decide) ?_
  exact V_iret dA_bodyFrom_60 rfl rfl ⟨rfl, rfl, rfl⟩
theorem c_bf_0_1 {l : Launch} {G : GT} {σ : Hp} : MM l G mA_bodyFrom 0 0 0 [.int 0, .int 1] KA σ (PE (some (.int 11)) KA σ) := by
  refine MM.of (loc := [(0, .int 0), (1, .int 1)]) (by decide +kernel) rfl (Nat.le_of_ble_eq_true rfl) ?_
  refine V_iload_n dA_bodyFrom_0 rfl ?_
  refine V_istore_n (loc' := [(2, .int 0), (0, .int 0), (1, .int 1)]) dA_bodyFrom_1 (by decide) rfl ?_
  refine V_iconst (v := 0) dA_bodyFrom_2 (by decide) ?_
  refine V_istore_n (loc' := [(3, .int 0), (2, .int 0), (0, .int 0), (1, .int 1)]) dA_bodyFrom_3 (by decide) rfl ?_
  refine V_iload_n dA_bodyFrom_4 rfl ?_
  refine V_gsAN rfl dA_bodyFrom_5 ?_
  refine V_tAl dA_bodyFrom_8 ?_
  refine V_icmp_ge (tgt := 73) dA_bodyFrom_9 rfl (fun h => absurd h (by decide)) (fun _ => ?_)
  refine V_iload_n dA_bodyFrom_12 rfl ?_
  refine V_if_lt (tgt := 73) dA_bodyFrom_13 rfl (fun h => absurd h (by decide)) (fun _ => ?_)
  refine V_iload_n dA_bodyFrom_16 rfl ?_
  refine V_gsAN rfl dA_bodyFrom_17 ?_
  refine V_tAl dA_bodyFrom_20 ?_
  refine V_icmp_ge (tgt := 73) dA_bodyFrom_21 rfl (fun h => absurd h (by decide)) (fun _ => ?_)
  refine V_iload_n dA_bodyFrom_24 rfl ?_
  refine V_iconst (v := 3) dA_bodyFrom_25 (by decide) ?_
  refine V_imul dA_bodyFrom_26 ?_
  refine V_topI (x' := 0) (by decide) ?_
  refine V_iload_n dA_bodyFrom_27 rfl ?_
  refine V_iadd dA_bodyFrom_28 ?_
  refine V_topI (x' := 1) (by decide) ?_
  refine V_istore (loc' := [(4, .int 1), (3, .int 0), (2, .int 0), (0, .int 0), (1, .int 1)]) dA_bodyFrom_29 (by decide) rfl ?_
  refine V_iload dA_bodyFrom_31 rfl ?_
  refine V_if_lt (tgt := 61) dA_bodyFrom_33 rfl (fun h => absurd h (by decide)) (fun _ => ?_)
  refine V_iload dA_bodyFrom_36 rfl ?_
  refine V_gsB rfl dA_bodyFrom_38 fwA_52 ?_
  refine V_tBl dA_bodyFrom_41 ?_
  refine V_icmp_ge (tgt := 61) dA_bodyFrom_42 rfl (fun h => absurd h (by decide)) (fun _ => ?_)
  refine V_gsB rfl dA_bodyFrom_45 fwA_52 ?_
  refine V_iload dA_bodyFrom_48 rfl ?_
  refine V_tB dA_bodyFrom_50 (vp_in_nI (n := 1) (N := 21) (by decide) (by decide)) ?_
  refine V_topI (x' := 11) (by decide) ?_
  refine V_if_eq (tgt := 61) dA_bodyFrom_51 rfl (fun h => absurd h (by decide)) (fun _ => ?_)
  refine V_gsB rfl dA_bodyFrom_54 fwA_52 ?_
  refine V_iload dA_bodyFrom_57 rfl ?_
  refine V_tB dA_bodyFrom_59 (vp_in_nI (n := 1) (N := 21) (by decide) (by decide)) ?_
  refine V_topI (x' := 11) (by decide) ?_
  exact V_iret dA_bodyFrom_60 rfl rfl ⟨rfl, rfl, rfl⟩
theorem c_bf_0_2 {l : Launch} {G : GT} {σ : Hp} : MM l G mA_bodyFrom 0 0 0 [.int 0, .int 2] KA σ (PE (some (.int 12)) KA σ) := by
  refine MM.of (loc := [(0, .int 0), (1, .int 2)]) (by decide +kernel) rfl (Nat.le_of_ble_eq_true rfl) ?_
  refine V_iload_n dA_bodyFrom_0 rfl ?_
  refine V_istore_n (loc' := [(2, .int 0), (0, .int 0), (1, .int 2)]) dA_bodyFrom_1 (by decide) rfl ?_
  refine V_iconst (v := 0) dA_bodyFrom_2 (by decide) ?_
  refine V_istore_n (loc' := [(3, .int 0), (2, .int 0), (0, .int 0), (1, .int 2)]) dA_bodyFrom_3 (by decide) rfl ?_
  refine V_iload_n dA_bodyFrom_4 rfl ?_
  refine V_gsAN rfl dA_bodyFrom_5 ?_
  refine V_tAl dA_bodyFrom_8 ?_
  refine V_icmp_ge (tgt := 73) dA_bodyFrom_9 rfl (fun h => absurd h (by decide)) (fun _ => ?_)
  refine V_iload_n dA_bodyFrom_12 rfl ?_
  refine V_if_lt (tgt := 73) dA_bodyFrom_13 rfl (fun h => absurd h (by decide)) (fun _ => ?_)
  refine V_iload_n dA_bodyFrom_16 rfl ?_
  refine V_gsAN rfl dA_bodyFrom_17 ?_
  refine V_tAl dA_bodyFrom_20 ?_
  refine V_icmp_ge (tgt := 73) dA_bodyFrom_21 rfl (fun h => absurd h (by decide)) (fun _ => ?_)
  refine V_iload_n dA_bodyFrom_24 rfl ?_
  refine V_iconst (v := 3) dA_bodyFrom_25 (by decide) ?_
  refine V_imul dA_bodyFrom_26 ?_
  refine V_topI (x' := 0) (by decide) ?_
  refine V_iload_n dA_bodyFrom_27 rfl ?_
  refine V_iadd dA_bodyFrom_28 ?_
  refine V_topI (x' := 2) (by decide) ?_
  refine V_istore (loc' := [(4, .int 2), (3, .int 0), (2, .int 0), (0, .int 0), (1, .int 2)]) dA_bodyFrom_29 (by decide) rfl ?_
  refine V_iload dA_bodyFrom_31 rfl ?_
  refine V_if_lt (tgt := 61) dA_bodyFrom_33 rfl (fun h => absurd h (by decide)) (fun _ => ?_)
  refine V_iload dA_bodyFrom_36 rfl ?_
  refine V_gsB rfl dA_bodyFrom_38 fwA_52 ?_
  refine V_tBl dA_bodyFrom_41 ?_
  refine V_icmp_ge (tgt := 61) dA_bodyFrom_42 rfl (fun h => absurd h (by decide)) (fun _ => ?_)
  refine V_gsB rfl dA_bodyFrom_45 fwA_52 ?_
  refine V_iload dA_bodyFrom_48 rfl ?_
  refine V_tB dA_bodyFrom_50 (vp_in_nI (n := 2) (N := 21) (by decide) (by decide)) ?_
  refine V_topI (x' := 12) (by decide) ?_
  refine V_if_eq (tgt := 61) dA_bodyFrom_51 rfl (fun h => absurd h (by decide)) (fun _ => ?_)
  refine V_gsB rfl dA_bodyFrom_54 fwA_52 ?_
  refine V_iload dA_bodyFrom_57 rfl ?_
  refine V_tB dA_bodyFrom_59 (vp_in_nI (n := 2) (N := 21) (by decide) (by decide)) ?_
  refine V_topI (x' := 12) (by decide) ?_
  exact V_iret dA_bodyFrom_60 rfl rfl ⟨rfl, rfl, rfl⟩
theorem c_bf_1_0 {l : Launch} {G : GT} {σ : Hp} : MM l G mA_bodyFrom 0 0 0 [.int 1, .int 0] KA σ (PE (some (.int 10)) KA σ) := by
  refine MM.of (loc := [(0, .int 1), (1, .int 0)]) (by decide +kernel) rfl (Nat.le_of_ble_eq_true rfl) ?_
  refine V_iload_n dA_bodyFrom_0 rfl ?_
  refine V_istore_n (loc' := [(2, .int 1), (0, .int 1), (1, .int 0)]) dA_bodyFrom_1 (by decide) rfl ?_
  refine V_iconst (v := 0) dA_bodyFrom_2 (by decide) ?_
  refine V_istore_n (loc' := [(3, .int 0), (2, .int 1), (0, .int 1), (1, .int 0)]) dA_bodyFrom_3 (by decide) rfl ?_
  refine V_iload_n dA_bodyFrom_4 rfl ?_
  refine V_gsAN rfl dA_bodyFrom_5 ?_
  refine V_tAl dA_bodyFrom_8 ?_
  refine V_icmp_ge (tgt := 73) dA_bodyFrom_9 rfl (fun h => absurd h (by decide)) (fun _ => ?_)
  refine V_iload_n dA_bodyFrom_12 rfl ?_
  refine V_if_lt (tgt := 73) dA_bodyFrom_13 rfl (fun h => absurd h (by decide)) (fun _ => ?_)
  refine V_iload_n dA_bodyFrom_16 rfl ?_
  refine V_gsAN rfl dA_bodyFrom_17 ?_
  refine V_tAl dA_bodyFrom_20 ?_
  refine V_icmp_ge (tgt := 73) dA_bodyFrom_21 rfl (fun h => absurd h (by decide)) (fun _ => ?_)
  refine V_iload_n dA_bodyFrom_24 rfl ?_
  refine V_iconst (v := 3) dA_bodyFrom_25 (by decide) ?_
  refine V_imul dA_bodyFrom_26 ?_
  refine V_topI (x' := 3) (by decide) ?_
  refine V_iload_n dA_bodyFrom_27 rfl ?_
  refine V_iadd dA_bodyFrom_28 ?_
  refine V_topI (x' := 3) (by decide) ?_
  refine V_istore (loc' := [(4, .int 3), (3, .int 0), (2, .int 1), (0, .int 1), (1, .int 0)]) dA_bodyFrom_29 (by decide) rfl ?_
  refine V_iload dA_bodyFrom_31 rfl ?_
  refine V_if_lt (tgt := 61) dA_bodyFrom_33 rfl (fun h => absurd h (by decide)) (fun _ => ?_)
  refine V_iload dA_bodyFrom_36 rfl ?_
  refine V_gsB rfl dA_bodyFrom_38 fwA_52 ?_
  refine V_tBl dA_bodyFrom_41 ?_
  refine V_icmp_ge (tgt := 61) dA_bodyFrom_42 rfl (fun h => absurd h (by decide)) (fun _ => ?_)
  refine V_gsB rfl dA_bodyFrom_45 fwA_52 ?_
  refine V_iload dA_bodyFrom_48 rfl ?_
  refine V_tB dA_bodyFrom_50 (vp_in_nI (n := 3) (N := 21) (by decide) (by decide)) ?_
  refine V_topI (x' := 0) (by decide) ?_
  refine V_if_eq (tgt := 61) dA_bodyFrom_51 rfl (fun _ => ?_) (fun h => absurd h (by decide))
  refine V_gsAN rfl dA_bodyFrom_61 ?_
  refine V_iload_n dA_bodyFrom_64 rfl ?_
  refine V_tA dA_bodyFrom_65 (vp_in_nI (n := 1) (N := 7) (by decide) (by decide)) ?_
  refine V_topI (x' := 0) (by decide) ?_
  refine V_istore_n (loc' := [(2, .int 0), (4, .int 3), (3, .int 0), (0, .int 1), (1, .int 0)]) dA_bodyFrom_66 (by decide) rfl ?_
  refine V_iinc (v := 1) (loc' := [(3, .int 1), (2, .int 0), (4, .int 3), (0, .int 1), (1, .int 0)]) dA_bodyFrom_67 rfl (by decide) (by decide) rfl ?_
  refine V_goto (tgt := 4) dA_bodyFrom_70 rfl ?_
  refine V_iload_n dA_bodyFrom_4 rfl ?_
  refine V_gsAN rfl dA_bodyFrom_5 ?_
  refine V_tAl dA_bodyFrom_8 ?_
  refine V_icmp_ge (tgt := 73) dA_bodyFrom_9 rfl (fun h => absurd h (by decide)) (fun _ => ?_)
  refine V_iload_n dA_bodyFrom_12 rfl ?_
  refine V_if_lt (tgt := 73) dA_bodyFrom_13 rfl (fun h => absurd h (by decide)) (fun _ => ?_)
  refine V_iload_n dA_bodyFrom_16 rfl ?_
  refine V_gsAN rfl dA_bodyFrom_17 ?_
  refine V_tAl dA_bodyFrom_20 ?_
  refine V_icmp_ge (tgt := 73) dA_bodyFrom_21 rfl (fun h => absurd h (by decide)) (fun _ => ?_)
  refine V_iload_n dA_bodyFrom_24 rfl ?_
  refine V_iconst (v := 3) dA_bodyFrom_25 (by decide) ?_
  refine V_imul dA_bodyFrom_26 ?_
  refine V_topI (x' := 0) (by decide) ?_
  refine V_iload_n dA_bodyFrom_27 rfl ?_
  refine V_iadd dA_bodyFrom_28 ?_
  refine V_topI (x' := 0) (by decide) ?_
  refine V_istore (loc' := [(4, .int 0), (3, .int 1), (2, .int 0), (0, .int 1), (1, .int 0)]) dA_bodyFrom_29 (by decide) rfl ?_
  refine V_iload dA_bodyFrom_31 rfl ?_
  refine V_if_lt (tgt := 61) dA_bodyFrom_33 rfl (fun h => absurd h (by decide)) (fun _ => ?_)
  refine V_iload dA_bodyFrom_36 rfl ?_
  refine V_gsB rfl dA_bodyFrom_38 fwA_52 ?_
  refine V_tBl dA_bodyFrom_41 ?_
  refine V_icmp_ge (tgt := 61) dA_bodyFrom_42 rfl (fun h => absurd h (by decide)) (fun _ => ?_)
  refine V_gsB rfl dA_bodyFrom_45 fwA_52 ?_
  refine V_iload dA_bodyFrom_48 rfl ?_
  refine V_tB dA_bodyFrom_50 (vp_in_nI (n := 0) (N := 21) (by decide) (by decide)) ?_
  refine V_topI (x' := 10) (by decide) ?_
  refine V_if_eq (tgt := 61) dA_bodyFrom_51 rfl (fun h => absurd h (by decide)) (fun _ => ?_)
  refine V_gsB rfl dA_bodyFrom_54 fwA_52 ?_
  refine V_iload dA_bodyFrom_57 rfl ?_
  refine V_tB dA_bodyFrom_59 (vp_in_nI (n := 0) (N := 21) (by decide) (by decide)) ?_
  refine V_topI (x' := 10) (by decide) ?_
  exact V_iret dA_bodyFrom_60 rfl rfl ⟨rfl, rfl, rfl⟩
theorem c_bf_1_1 {l : Launch} {G : GT} {σ : Hp} : MM l G mA_bodyFrom 0 0 0 [.int 1, .int 1] KA σ (PE (some (.int 20)) KA σ) := by
  refine MM.of (loc := [(0, .int 1), (1, .int 1)]) (by decide +kernel) rfl (Nat.le_of_ble_eq_true rfl) ?_
  refine V_iload_n dA_bodyFrom_0 rfl ?_
  refine V_istore_n (loc' := [(2, .int 1), (0, .int 1), (1, .int 1)]) dA_bodyFrom_1 (by decide) rfl ?_
  refine V_iconst (v := 0) dA_bodyFrom_2 (by decide) ?_
  refine V_istore_n (loc' := [(3, .int 0), (2, .int 1), (0, .int 1), (1, .int 1)]) dA_bodyFrom_3 (by decide) rfl ?_
  refine V_iload_n dA_bodyFrom_4 rfl ?_
  refine V_gsAN rfl dA_bodyFrom_5 ?_
  refine V_tAl dA_bodyFrom_8 ?_
  refine V_icmp_ge (tgt := 73) dA_bodyFrom_9 rfl (fun h => absurd h (by decide)) (fun _ => ?_)
  refine V_iload_n dA_bodyFrom_12 rfl ?_
  refine V_if_lt (tgt := 73) dA_bodyFrom_13 rfl (fun h => absurd h (by decide)) (fun _ => ?_)
  refine V_iload_n dA_bodyFrom_16 rfl ?_
  refine V_gsAN rfl dA_bodyFrom_17 ?_
  refine V_tAl dA_bodyFrom_20 ?_
  refine V_icmp_ge (tgt := 73) dA_bodyFrom_21 rfl (fun h => absurd h (by decide)) (fun _ => ?_)
  refine V_iload_n dA_bodyFrom_24 rfl ?_
  refine V_iconst (v := 3) dA_bodyFrom_25 (by decide) ?_
  refine V_imul dA_bodyFrom_26 ?_
  refine V_topI (x' := 3) (by decide) ?_
  refine V_iload_n dA_bodyFrom_27 rfl ?_
  refine V_iadd dA_bodyFrom_28 ?_
  refine V_topI (x' := 4) (by decide) ?_
  refine V_istore (loc' := [(4, .int 4), (3, .int 0), (2, .int 1), (0, .int 1), (1, .int 1)]) dA_bodyFrom_29 (by decide) rfl ?_
  refine V_iload dA_bodyFrom_31 rfl ?_
  refine V_if_lt (tgt := 61) dA_bodyFrom_33 rfl (fun h => absurd h (by decide)) (fun _ => ?_)
  refine V_iload dA_bodyFrom_36 rfl ?_
  refine V_gsB rfl dA_bodyFrom_38 fwA_52 ?_
  refine V_tBl dA_bodyFrom_41 ?_
  refine V_icmp_ge (tgt := 61) dA_bodyFrom_42 rfl (fun h => absurd h (by decide)) (fun _ => ?_)
  refine V_gsB rfl dA_bodyFrom_45 fwA_52 ?_
  refine V_iload dA_bodyFrom_48 rfl ?_
  refine V_tB dA_bodyFrom_50 (vp_in_nI (n := 4) (N := 21) (by decide) (by decide)) ?_
  refine V_topI (x' := 20) (by decide) ?_
  refine V_if_eq (tgt := 61) dA_bodyFrom_51 rfl (fun h => absurd h (by decide)) (fun _ => ?_)
  refine V_gsB rfl dA_bodyFrom_54 fwA_52 ?_
  refine V_iload dA_bodyFrom_57 rfl ?_
  refine V_tB dA_bodyFrom_59 (vp_in_nI (n := 4) (N := 21) (by decide) (by decide)) ?_
  refine V_topI (x' := 20) (by decide) ?_
  exact V_iret dA_bodyFrom_60 rfl rfl ⟨rfl, rfl, rfl⟩
theorem c_bf_1_2 {l : Launch} {G : GT} {σ : Hp} : MM l G mA_bodyFrom 0 0 0 [.int 1, .int 2] KA σ (PE (some (.int 12)) KA σ) := by
  refine MM.of (loc := [(0, .int 1), (1, .int 2)]) (by decide +kernel) rfl (Nat.le_of_ble_eq_true rfl) ?_
  refine V_iload_n dA_bodyFrom_0 rfl ?_
  refine V_istore_n (loc' := [(2, .int 1), (0, .int 1), (1, .int 2)]) dA_bodyFrom_1 (by decide) rfl ?_
  refine V_iconst (v := 0) dA_bodyFrom_2 (by decide) ?_
  refine V_istore_n (loc' := [(3, .int 0), (2, .int 1), (0, .int 1), (1, .int 2)]) dA_bodyFrom_3 (by decide) rfl ?_
  refine V_iload_n dA_bodyFrom_4 rfl ?_
  refine V_gsAN rfl dA_bodyFrom_5 ?_
  refine V_tAl dA_bodyFrom_8 ?_
  refine V_icmp_ge (tgt := 73) dA_bodyFrom_9 rfl (fun h => absurd h (by decide)) (fun _ => ?_)
  refine V_iload_n dA_bodyFrom_12 rfl ?_
  refine V_if_lt (tgt := 73) dA_bodyFrom_13 rfl (fun h => absurd h (by decide)) (fun _ => ?_)
  refine V_iload_n dA_bodyFrom_16 rfl ?_
  refine V_gsAN rfl dA_bodyFrom_17 ?_
  refine V_tAl dA_bodyFrom_20 ?_
  refine V_icmp_ge (tgt := 73) dA_bodyFrom_21 rfl (fun h => absurd h (by decide)) (fun _ => ?_)
  refine V_iload_n dA_bodyFrom_24 rfl ?_
  refine V_iconst (v := 3) dA_bodyFrom_25 (by decide) ?_
  refine V_imul dA_bodyFrom_26 ?_
  refine V_topI (x' := 3) (by decide) ?_
  refine V_iload_n dA_bodyFrom_27 rfl ?_
  refine V_iadd dA_bodyFrom_28 ?_
  refine V_topI (x' := 5) (by decide) ?_
  refine V_istore (loc' := [(4, .int 5), (3, .int 0), (2, .int 1), (0, .int 1), (1, .int 2)]) dA_bodyFrom_29 (by decide) rfl ?_
  refine V_iload dA_bodyFrom_31 rfl ?_
  refine V_if_lt (tgt := 61) dA_bodyFrom_33 rfl (fun h => absurd h (by decide)) (fun _ => ?_)
  refine V_iload dA_bodyFrom_36 rfl ?_
  refine V_gsB rfl dA_bodyFrom_38 fwA_52 ?_
  refine V_tBl dA_bodyFrom_41 ?_
  refine V_icmp_ge (tgt := 61) dA_bodyFrom_42 rfl (fun h => absurd h (by decide)) (fun _ => ?_)
  refine V_gsB rfl dA_bodyFrom_45 fwA_52 ?_
  refine V_iload dA_bodyFrom_48 rfl ?_
  refine V_tB dA_bodyFrom_50 (vp_in_nI (n := 5) (N := 21) (by decide) (by decide)) ?_
  refine V_topI (x' := 0) (by decide) ?_
  refine V_if_eq (tgt := 61) dA_bodyFrom_51 rfl (fun _ => ?_) (fun h => absurd h (by decide))
  refine V_gsAN rfl dA_bodyFrom_61 ?_
  refine V_iload_n dA_bodyFrom_64 rfl ?_
  refine V_tA dA_bodyFrom_65 (vp_in_nI (n := 1) (N := 7) (by decide) (by decide)) ?_
  refine V_topI (x' := 0) (by decide) ?_
  refine V_istore_n (loc' := [(2, .int 0), (4, .int 5), (3, .int 0), (0, .int 1), (1, .int 2)]) dA_bodyFrom_66 (by decide) rfl ?_
  refine V_iinc (v := 1) (loc' := [(3, .int 1), (2, .int 0), (4, .int 5), (0, .int 1), (1, .int 2)]) dA_bodyFrom_67 rfl (by decide) (by decide) rfl ?_
  refine V_goto (tgt := 4) dA_bodyFrom_70 rfl ?_
  refine V_iload_n dA_bodyFrom_4 rfl ?_
  refine V_gsAN rfl dA_bodyFrom_5 ?_
  refine V_tAl dA_bodyFrom_8 ?_
  refine V_icmp_ge (tgt := 73) dA_bodyFrom_9 rfl (fun h => absurd h (by decide)) (fun _ => ?_)
  refine V_iload_n dA_bodyFrom_12 rfl ?_
  refine V_if_lt (tgt := 73) dA_bodyFrom_13 rfl (fun h => absurd h (by decide)) (fun _ => ?_)
  refine V_iload_n dA_bodyFrom_16 rfl ?_
  refine V_gsAN rfl dA_bodyFrom_17 ?_
  refine V_tAl dA_bodyFrom_20 ?_
  refine V_icmp_ge (tgt := 73) dA_bodyFrom_21 rfl (fun h => absurd h (by decide)) (fun _ => ?_)
  refine V_iload_n dA_bodyFrom_24 rfl ?_
  refine V_iconst (v := 3) dA_bodyFrom_25 (by decide) ?_
  refine V_imul dA_bodyFrom_26 ?_
  refine V_topI (x' := 0) (by decide) ?_
  refine V_iload_n dA_bodyFrom_27 rfl ?_
  refine V_iadd dA_bodyFrom_28 ?_
  refine V_topI (x' := 2) (by decide) ?_
  refine V_istore (loc' := [(4, .int 2), (3, .int 1), (2, .int 0), (0, .int 1), (1, .int 2)]) dA_bodyFrom_29 (by decide) rfl ?_
  refine V_iload dA_bodyFrom_31 rfl ?_
  refine V_if_lt (tgt := 61) dA_bodyFrom_33 rfl (fun h => absurd h (by decide)) (fun _ => ?_)
  refine V_iload dA_bodyFrom_36 rfl ?_
  refine V_gsB rfl dA_bodyFrom_38 fwA_52 ?_
  refine V_tBl dA_bodyFrom_41 ?_
  refine V_icmp_ge (tgt := 61) dA_bodyFrom_42 rfl (fun h => absurd h (by decide)) (fun _ => ?_)
  refine V_gsB rfl dA_bodyFrom_45 fwA_52 ?_
  refine V_iload dA_bodyFrom_48 rfl ?_
  refine V_tB dA_bodyFrom_50 (vp_in_nI (n := 2) (N := 21) (by decide) (by decide)) ?_
  refine V_topI (x' := 12) (by decide) ?_
  refine V_if_eq (tgt := 61) dA_bodyFrom_51 rfl (fun h => absurd h (by decide)) (fun _ => ?_)
  refine V_gsB rfl dA_bodyFrom_54 fwA_52 ?_
  refine V_iload dA_bodyFrom_57 rfl ?_
  refine V_tB dA_bodyFrom_59 (vp_in_nI (n := 2) (N := 21) (by decide) (by decide)) ?_
  refine V_topI (x' := 12) (by decide) ?_
  exact V_iret dA_bodyFrom_60 rfl rfl ⟨rfl, rfl, rfl⟩
theorem c_bf_2_0 {l : Launch} {G : GT} {σ : Hp} : MM l G mA_bodyFrom 0 0 0 [.int 2, .int 0] KA σ (PE (some (.int 30)) KA σ) := by
  refine MM.of (loc := [(0, .int 2), (1, .int 0)]) (by decide +kernel) rfl (Nat.le_of_ble_eq_true rfl) ?_
  refine V_iload_n dA_bodyFrom_0 rfl ?_
  refine V_istore_n (loc' := [(2, .int 2), (0, .int 2), (1, .int 0)]) dA_bodyFrom_1 (by decide) rfl ?_
  refine V_iconst (v := 0) dA_bodyFrom_2 (by decide) ?_
  refine V_istore_n (loc' := [(3, .int 0), (2, .int 2), (0, .int 2), (1, .int 0)]) dA_bodyFrom_3 (by decide) rfl ?_
  refine V_iload_n dA_bodyFrom_4 rfl ?_
  refine V_gsAN rfl dA_bodyFrom_5 ?_
  refine V_tAl dA_bodyFrom_8 ?_
  refine V_icmp_ge (tgt := 73) dA_bodyFrom_9 rfl (fun h => absurd h (by decide)) (fun _ => ?_)
  refine V_iload_n dA_bodyFrom_12 rfl ?_
  refine V_if_lt (tgt := 73) dA_bodyFrom_13 rfl (fun h => absurd h (by decide)) (fun _ => ?_)
  refine V_iload_n dA_bodyFrom_16 rfl ?_
  refine V_gsAN rfl dA_bodyFrom_17 ?_
  refine V_tAl dA_bodyFrom_20 ?_
  refine V_icmp_ge (tgt := 73) dA_bodyFrom_21 rfl (fun h => absurd h (by decide)) (fun _ => ?_)
  refine V_iload_n dA_bodyFrom_24 rfl ?_
  refine V_iconst (v := 3) dA_bodyFrom_25 (by decide) ?_
  refine V_imul dA_bodyFrom_26 ?_
  refine V_topI (x' := 6) (by decide) ?_
  refine V_iload_n dA_bodyFrom_27 rfl ?_
  refine V_iadd dA_bodyFrom_28 ?_
  refine V_topI (x' := 6) (by decide) ?_
  refine V_istore (loc' := [(4, .int 6), (3, .int 0), (2, .int 2), (0, .int 2), (1, .int 0)]) dA_bodyFrom_29 (by decide) rfl ?_
  refine V_iload dA_bodyFrom_31 rfl ?_
  refine V_if_lt (tgt := 61) dA_bodyFrom_33 rfl (fun h => absurd h (by decide)) (fun _ => ?_)
  refine V_iload dA_bodyFrom_36 rfl ?_
  refine V_gsB rfl dA_bodyFrom_38 fwA_52 ?_
  refine V_tBl dA_bodyFrom_41 ?_
  refine V_icmp_ge (tgt := 61) dA_bodyFrom_42 rfl (fun h => absurd h (by decide)) (fun _ => ?_)
  refine V_gsB rfl dA_bodyFrom_45 fwA_52 ?_
  refine V_iload dA_bodyFrom_48 rfl ?_
  refine V_tB dA_bodyFrom_50 (vp_in_nI (n := 6) (N := 21) (by decide) (by decide)) ?_
  refine V_topI (x' := 30) (by decide) ?_
  refine V_if_eq (tgt := 61) dA_bodyFrom_51 rfl (fun h => absurd h (by decide)) (fun _ => ?_)
  refine V_gsB rfl dA_bodyFrom_54 fwA_52 ?_
  refine V_iload dA_bodyFrom_57 rfl ?_
  refine V_tB dA_bodyFrom_59 (vp_in_nI (n := 6) (N := 21) (by decide) (by decide)) ?_
  refine V_topI (x' := 30) (by decide) ?_
  exact V_iret dA_bodyFrom_60 rfl rfl ⟨rfl, rfl, rfl⟩
theorem c_bf_2_1 {l : Launch} {G : GT} {σ : Hp} : MM l G mA_bodyFrom 0 0 0 [.int 2, .int 1] KA σ (PE (some (.int 11)) KA σ) := by
  refine MM.of (loc := [(0, .int 2), (1, .int 1)]) (by decide +kernel) rfl (Nat.le_of_ble_eq_true rfl) ?_
  refine V_iload_n dA_bodyFrom_0 rfl ?_
  refine V_istore_n (loc' := [(2, .int 2), (0, .int 2), (1, .int 1)]) dA_bodyFrom_1 (by decide) rfl ?_
  refine V_iconst (v := 0) dA_bodyFrom_2 (by decide) ?_
  refine V_istore_n (loc' := [(3, .int 0), (2, .int 2), (0, .int 2), (1, .int 1)]) dA_bodyFrom_3 (by decide) rfl ?_
  refine V_iload_n dA_bodyFrom_4 rfl ?_
  refine V_gsAN rfl dA_bodyFrom_5 ?_
  refine V_tAl dA_bodyFrom_8 ?_
  refine V_icmp_ge (tgt := 73) dA_bodyFrom_9 rfl (fun h => absurd h (by decide)) (fun _ => ?_)
  refine V_iload_n dA_bodyFrom_12 rfl ?_
  refine V_if_lt (tgt := 73) dA_bodyFrom_13 rfl (fun h => absurd h (by decide)) (fun _ => ?_)
  refine V_iload_n dA_bodyFrom_16 rfl ?_
  refine V_gsAN rfl dA_bodyFrom_17 ?_
  refine V_tAl dA_bodyFrom_20 ?_
  refine V_icmp_ge (tgt := 73) dA_bodyFrom_21 rfl (fun h => absurd h (by decide)) (fun _ => ?_)
  refine V_iload_n dA_bodyFrom_24 rfl ?_
  refine V_iconst (v := 3) dA_bodyFrom_25 (by decide) ?_
  refine V_imul dA_bodyFrom_26 ?_
  refine V_topI (x' := 6) (by decide) ?_
  refine V_iload_n dA_bodyFrom_27 rfl ?_
  refine V_iadd dA_bodyFrom_28 ?_
  refine V_topI (x' := 7) (by decide) ?_
  refine V_istore (loc' := [(4, .int 7), (3, .int 0), (2, .int 2), (0, .int 2), (1, .int 1)]) dA_bodyFrom_29 (by decide) rfl ?_
  refine V_iload dA_bodyFrom_31 rfl ?_
  refine V_if_lt (tgt := 61) dA_bodyFrom_33 rfl (fun h => absurd h (by decide)) (fun _ => ?_)
  refine V_iload dA_bodyFrom_36 rfl ?_
  refine V_gsB rfl dA_bodyFrom_38 fwA_52 ?_
  refine V_tBl dA_bodyFrom_41 ?_
  refine V_icmp_ge (tgt := 61) dA_bodyFrom_42 rfl (fun h => absurd h (by decide)) (fun _ => ?_)
  refine V_gsB rfl dA_bodyFrom_45 fwA_52 ?_
  refine V_iload dA_bodyFrom_48 rfl ?_
  refine V_tB dA_bodyFrom_50 (vp_in_nI (n := 7) (N := 21) (by decide) (by decide)) ?_
  refine V_topI (x' := 0) (by decide) ?_
  refine V_if_eq (tgt := 61) dA_bodyFrom_51 rfl (fun _ => ?_) (fun h => absurd h (by decide))
  refine V_gsAN rfl dA_bodyFrom_61 ?_
  refine V_iload_n dA_bodyFrom_64 rfl ?_
  refine V_tA dA_bodyFrom_65 (vp_in_nI (n := 2) (N := 7) (by decide) (by decide)) ?_
  refine V_topI (x' := 0) (by decide) ?_
  refine V_istore_n (loc' := [(2, .int 0), (4, .int 7), (3, .int 0), (0, .int 2), (1, .int 1)]) dA_bodyFrom_66 (by decide) rfl ?_
  refine V_iinc (v := 1) (loc' := [(3, .int 1), (2, .int 0), (4, .int 7), (0, .int 2), (1, .int 1)]) dA_bodyFrom_67 rfl (by decide) (by decide) rfl ?_
  refine V_goto (tgt := 4) dA_bodyFrom_70 rfl ?_
  refine V_iload_n dA_bodyFrom_4 rfl ?_
  refine V_gsAN rfl dA_bodyFrom_5 ?_
  refine V_tAl dA_bodyFrom_8 ?_
  refine V_icmp_ge (tgt := 73) dA_bodyFrom_9 rfl (fun h => absurd h (by decide)) (fun _ => ?_)
  refine V_iload_n dA_bodyFrom_12 rfl ?_
  refine V_if_lt (tgt := 73) dA_bodyFrom_13 rfl (fun h => absurd h (by decide)) (fun _ => ?_)
  refine V_iload_n dA_bodyFrom_16 rfl ?_
  refine V_gsAN rfl dA_bodyFrom_17 ?_
  refine V_tAl dA_bodyFrom_20 ?_
  refine V_icmp_ge (tgt := 73) dA_bodyFrom_21 rfl (fun h => absurd h (by decide)) (fun _ => ?_)
  refine V_iload_n dA_bodyFrom_24 rfl ?_
  refine V_iconst (v := 3) dA_bodyFrom_25 (by decide) ?_
  refine V_imul dA_bodyFrom_26 ?_
  refine V_topI (x' := 0) (by decide) ?_
  refine V_iload_n dA_bodyFrom_27 rfl ?_
  refine V_iadd dA_bodyFrom_28 ?_
  refine V_topI (x' := 1) (by decide) ?_
  refine V_istore (loc' := [(4, .int 1), (3, .int 1), (2, .int 0), (0, .int 2), (1, .int 1)]) dA_bodyFrom_29 (by decide) rfl ?_
  refine V_iload dA_bodyFrom_31 rfl ?_
  refine V_if_lt (tgt := 61) dA_bodyFrom_33 rfl (fun h => absurd h (by decide)) (fun _ => ?_)
  refine V_iload dA_bodyFrom_36 rfl ?_
  refine V_gsB rfl dA_bodyFrom_38 fwA_52 ?_
  refine V_tBl dA_bodyFrom_41 ?_
  refine V_icmp_ge (tgt := 61) dA_bodyFrom_42 rfl (fun h => absurd h (by decide)) (fun _ => ?_)
  refine V_gsB rfl dA_bodyFrom_45 fwA_52 ?_
  refine V_iload dA_bodyFrom_48 rfl ?_
  refine V_tB dA_bodyFrom_50 (vp_in_nI (n := 1) (N := 21) (by decide) (by decide)) ?_
  refine V_topI (x' := 11) (by decide) ?_
  refine V_if_eq (tgt := 61) dA_bodyFrom_51 rfl (fun h => absurd h (by decide)) (fun _ => ?_)
  refine V_gsB rfl dA_bodyFrom_54 fwA_52 ?_
  refine V_iload dA_bodyFrom_57 rfl ?_
  refine V_tB dA_bodyFrom_59 (vp_in_nI (n := 1) (N := 21) (by decide) (by decide)) ?_
  refine V_topI (x' := 11) (by decide) ?_
  exact V_iret dA_bodyFrom_60 rfl rfl ⟨rfl, rfl, rfl⟩
theorem c_bf_2_2 {l : Launch} {G : GT} {σ : Hp} : MM l G mA_bodyFrom 0 0 0 [.int 2, .int 2] KA σ (PE (some (.int 12)) KA σ) := by
  refine MM.of (loc := [(0, .int 2), (1, .int 2)]) (by decide +kernel) rfl (Nat.le_of_ble_eq_true rfl) ?_
  refine V_iload_n dA_bodyFrom_0 rfl ?_
  refine V_istore_n (loc' := [(2, .int 2), (0, .int 2), (1, .int 2)]) dA_bodyFrom_1 (by decide) rfl ?_
  refine V_iconst (v := 0) dA_bodyFrom_2 (by decide) ?_
  refine V_istore_n (loc' := [(3, .int 0), (2, .int 2), (0, .int 2), (1, .int 2)]) dA_bodyFrom_3 (by decide) rfl ?_
  refine V_iload_n dA_bodyFrom_4 rfl ?_
  refine V_gsAN rfl dA_bodyFrom_5 ?_
  refine V_tAl dA_bodyFrom_8 ?_
  refine V_icmp_ge (tgt := 73) dA_bodyFrom_9 rfl (fun h => absurd h (by decide)) (fun _ => ?_)
  refine V_iload_n dA_bodyFrom_12 rfl ?_
  refine V_if_lt (tgt := 73) dA_bodyFrom_13 rfl (fun h => absurd h (by decide)) (fun _ => ?_)
  refine V_iload_n dA_bodyFrom_16 rfl ?_
  refine V_gsAN rfl dA_bodyFrom_17 ?_
  refine V_tAl dA_bodyFrom_20 ?_
  refine V_icmp_ge (tgt := 73) dA_bodyFrom_21 rfl (fun h => absurd h (by decide)) (fun _ => ?_)
  refine V_iload_n dA_bodyFrom_24 rfl ?_
  refine V_iconst (v := 3) dA_bodyFrom_25 (by decide) ?_
  refine V_imul dA_bodyFrom_26 ?_
  refine V_topI (x' := 6) (by decide) ?_
  refine V_iload_n dA_bodyFrom_27 rfl ?_
  refine V_iadd dA_bodyFrom_28 ?_
  refine V_topI (x' := 8) (by decide) ?_
  refine V_istore (loc' := [(4, .int 8), (3, .int 0), (2, .int 2), (0, .int 2), (1, .int 2)]) dA_bodyFrom_29 (by decide) rfl ?_
  refine V_iload dA_bodyFrom_31 rfl ?_
  refine V_if_lt (tgt := 61) dA_bodyFrom_33 rfl (fun h => absurd h (by decide)) (fun _ => ?_)
  refine V_iload dA_bodyFrom_36 rfl ?_
  refine V_gsB rfl dA_bodyFrom_38 fwA_52 ?_
  refine V_tBl dA_bodyFrom_41 ?_
  refine V_icmp_ge (tgt := 61) dA_bodyFrom_42 rfl (fun h => absurd h (by decide)) (fun _ => ?_)
  refine V_gsB rfl dA_bodyFrom_45 fwA_52 ?_
  refine V_iload dA_bodyFrom_48 rfl ?_
  refine V_tB dA_bodyFrom_50 (vp_in_nI (n := 8) (N := 21) (by decide) (by decide)) ?_
  refine V_topI (x' := 0) (by decide) ?_
  refine V_if_eq (tgt := 61) dA_bodyFrom_51 rfl (fun _ => ?_) (fun h => absurd h (by decide))
  refine V_gsAN rfl dA_bodyFrom_61 ?_
  refine V_iload_n dA_bodyFrom_64 rfl ?_
  refine V_tA dA_bodyFrom_65 (vp_in_nI (n := 2) (N := 7) (by decide) (by decide)) ?_
  refine V_topI (x' := 0) (by decide) ?_
  refine V_istore_n (loc' := [(2, .int 0), (4, .int 8), (3, .int 0), (0, .int 2), (1, .int 2)]) dA_bodyFrom_66 (by decide) rfl ?_
  refine V_iinc (v := 1) (loc' := [(3, .int 1), (2, .int 0), (4, .int 8), (0, .int 2), (1, .int 2)]) dA_bodyFrom_67 rfl (by decide) (by decide) rfl ?_
  refine V_goto (tgt := 4) dA_bodyFrom_70 rfl ?_
  refine V_iload_n dA_bodyFrom_4 rfl ?_
  refine V_gsAN rfl dA_bodyFrom_5 ?_
  refine V_tAl dA_bodyFrom_8 ?_
  refine V_icmp_ge (tgt := 73) dA_bodyFrom_9 rfl (fun h => absurd h (by decide)) (fun _ => ?_)
  refine V_iload_n dA_bodyFrom_12 rfl ?_
  refine V_if_lt (tgt := 73) dA_bodyFrom_13 rfl (fun h => absurd h (by decide)) (fun _ => ?_)
  refine V_iload_n dA_bodyFrom_16 rfl ?_
  refine V_gsAN rfl dA_bodyFrom_17 ?_
  refine V_tAl dA_bodyFrom_20 ?_
  refine V_icmp_ge (tgt := 73) dA_bodyFrom_21 rfl (fun h => absurd h (by decide)) (fun _ => ?_)
  refine V_iload_n dA_bodyFrom_24 rfl ?_
  refine V_iconst (v := 3) dA_bodyFrom_25 (by decide) ?_
  refine V_imul dA_bodyFrom_26 ?_
  refine V_topI (x' := 0) (by decide) ?_
  refine V_iload_n dA_bodyFrom_27 rfl ?_
  refine V_iadd dA_bodyFrom_28 ?_
  refine V_topI (x' := 2) (by decide) ?_
  refine V_istore (loc' := [(4, .int 2), (3, .int 1), (2, .int 0), (0, .int 2), (1, .int 2)]) dA_bodyFrom_29 (by decide) rfl ?_
  refine V_iload dA_bodyFrom_31 rfl ?_
  refine V_if_lt (tgt := 61) dA_bodyFrom_33 rfl (fun h => absurd h (by decide)) (fun _ => ?_)
  refine V_iload dA_bodyFrom_36 rfl ?_
  refine V_gsB rfl dA_bodyFrom_38 fwA_52 ?_
  refine V_tBl dA_bodyFrom_41 ?_
  refine V_icmp_ge (tgt := 61) dA_bodyFrom_42 rfl (fun h => absurd h (by decide)) (fun _ => ?_)
  refine V_gsB rfl dA_bodyFrom_45 fwA_52 ?_
  refine V_iload dA_bodyFrom_48 rfl ?_
  refine V_tB dA_bodyFrom_50 (vp_in_nI (n := 2) (N := 21) (by decide) (by decide)) ?_
  refine V_topI (x' := 12) (by decide) ?_
  refine V_if_eq (tgt := 61) dA_bodyFrom_51 rfl (fun h => absurd h (by decide)) (fun _ => ?_)
  refine V_gsB rfl dA_bodyFrom_54 fwA_52 ?_
  refine V_iload dA_bodyFrom_57 rfl ?_
  refine V_tB dA_bodyFrom_59 (vp_in_nI (n := 2) (N := 21) (by decide) (by decide)) ?_
  refine V_topI (x' := 12) (by decide) ?_
  exact V_iret dA_bodyFrom_60 rfl rfl ⟨rfl, rfl, rfl⟩
theorem c_bf_3_0 {l : Launch} {G : GT} {σ : Hp} : MM l G mA_bodyFrom 0 0 0 [.int 3, .int 0] KA σ (PE (some (.int 10)) KA σ) := by
  refine MM.of (loc := [(0, .int 3), (1, .int 0)]) (by decide +kernel) rfl (Nat.le_of_ble_eq_true rfl) ?_
  refine V_iload_n dA_bodyFrom_0 rfl ?_
  refine V_istore_n (loc' := [(2, .int 3), (0, .int 3), (1, .int 0)]) dA_bodyFrom_1 (by decide) rfl ?_
  refine V_iconst (v := 0) dA_bodyFrom_2 (by decide) ?_
  refine V_istore_n (loc' := [(3, .int 0), (2, .int 3), (0, .int 3), (1, .int 0)]) dA_bodyFrom_3 (by decide) rfl ?_
  refine V_iload_n dA_bodyFrom_4 rfl ?_
  refine V_gsAN rfl dA_bodyFrom_5 ?_
  refine V_tAl dA_bodyFrom_8 ?_
  refine V_icmp_ge (tgt := 73) dA_bodyFrom_9 rfl (fun h => absurd h (by decide)) (fun _ => ?_)
  refine V_iload_n dA_bodyFrom_12 rfl ?_
  refine V_if_lt (tgt := 73) dA_bodyFrom_13 rfl (fun h => absurd h (by decide)) (fun _ => ?_)
  refine V_iload_n dA_bodyFrom_16 rfl ?_
  refine V_gsAN rfl dA_bodyFrom_17 ?_
  refine V_tAl dA_bodyFrom_20 ?_
  refine V_icmp_ge (tgt := 73) dA_bodyFrom_21 rfl (fun h => absurd h (by decide)) (fun _ => ?_)
  refine V_iload_n dA_bodyFrom_24 rfl ?_
  refine V_iconst (v := 3) dA_bodyFrom_25 (by decide) ?_
  refine V_imul dA_bodyFrom_26 ?_
  refine V_topI (x' := 9) (by decide) ?_
  refine V_iload_n dA_bodyFrom_27 rfl ?_
  refine V_iadd dA_bodyFrom_28 ?_
  refine V_topI (x' := 9) (by decide) ?_
  refine V_istore (loc' := [(4, .int 9), (3, .int 0), (2, .int 3), (0, .int 3), (1, .int 0)]) dA_bodyFrom_29 (by decide) rfl ?_
  refine V_iload dA_bodyFrom_31 rfl ?_
  refine V_if_lt (tgt := 61) dA_bodyFrom_33 rfl (fun h => absurd h (by decide)) (fun _ => ?_)
  refine V_iload dA_bodyFrom_36 rfl ?_
  refine V_gsB rfl dA_bodyFrom_38 fwA_52 ?_
  refine V_tBl dA_bodyFrom_41 ?_
  refine V_icmp_ge (tgt := 61) dA_bodyFrom_42 rfl (fun h => absurd h (by decide)) (fun _ => ?_)
  refine V_gsB rfl dA_bodyFrom_45 fwA_52 ?_
  refine V_iload dA_bodyFrom_48 rfl ?_
  refine V_tB dA_bodyFrom_50 (vp_in_nI (n := 9) (N := 21) (by decide) (by decide)) ?_
  refine V_topI (x' := 0) (by decide) ?_
  refine V_if_eq (tgt := 61) dA_bodyFrom_51 rfl (fun _ => ?_) (fun h => absurd h (by decide))
  refine V_gsAN rfl dA_bodyFrom_61 ?_
  refine V_iload_n dA_bodyFrom_64 rfl ?_
  refine V_tA dA_bodyFrom_65 (vp_in_nI (n := 3) (N := 7) (by decide) (by decide)) ?_
  refine V_topI (x' := 0) (by decide) ?_
  refine V_istore_n (loc' := [(2, .int 0), (4, .int 9), (3, .int 0), (0, .int 3), (1, .int 0)]) dA_bodyFrom_66 (by decide) rfl ?_
  refine V_iinc (v := 1) (loc' := [(3, .int 1), (2, .int 0), (4, .int 9), (0, .int 3), (1, .int 0)]) dA_bodyFrom_67 rfl (by decide) (by decide) rfl ?_
  refine V_goto (tgt := 4) dA_bodyFrom_70 rfl ?_
  refine V_iload_n dA_bodyFrom_4 rfl ?_
  refine V_gsAN rfl dA_bodyFrom_5 ?_
  refine V_tAl dA_bodyFrom_8 ?_
  refine V_icmp_ge (tgt := 73) dA_bodyFrom_9 rfl (fun h => absurd h (by decide)) (fun _ => ?_)
  refine V_iload_n dA_bodyFrom_12 rfl ?_
  refine V_if_lt (tgt := 73) dA_bodyFrom_13 rfl (fun h => absurd h (by decide)) (fun _ => ?_)
  refine V_iload_n dA_bodyFrom_16 rfl ?_
  refine V_gsAN rfl dA_bodyFrom_17 ?_
  refine V_tAl dA_bodyFrom_20 ?_
  refine V_icmp_ge (tgt := 73) dA_bodyFrom_21 rfl (fun h => absurd h (by decide)) (fun _ => ?_)
  refine V_iload_n dA_bodyFrom_24 rfl ?_
  refine V_iconst (v := 3) dA_bodyFrom_25 (by decide) ?_
  refine V_imul dA_bodyFrom_26 ?_
  refine V_topI (x' := 0) (by decide) ?_
  refine V_iload_n dA_bodyFrom_27 rfl ?_
  refine V_iadd dA_bodyFrom_28 ?_
  refine V_topI (x' := 0) (by decide) ?_
  refine V_istore (loc' := [(4, .int 0), (3, .int 1), (2, .int 0), (0, .int 3), (1, .int 0)]) dA_bodyFrom_29 (by decide) rfl ?_
  refine V_iload dA_bodyFrom_31 rfl ?_
  refine V_if_lt (tgt := 61) dA_bodyFrom_33 rfl (fun h => absurd h (by decide)) (fun _ => ?_)
  refine V_iload dA_bodyFrom_36 rfl ?_
  refine V_gsB rfl dA_bodyFrom_38 fwA_52 ?_
  refine V_tBl dA_bodyFrom_41 ?_
  refine V_icmp_ge (tgt := 61) dA_bodyFrom_42 rfl (fun h => absurd h (by decide)) (fun _ => ?_)
  refine V_gsB rfl dA_bodyFrom_45 fwA_52 ?_
  refine V_iload dA_bodyFrom_48 rfl ?_
  refine V_tB dA_bodyFrom_50 (vp_in_nI (n := 0) (N := 21) (by decide) (by decide)) ?_
  refine V_topI (x' := 10) (by decide) ?_
  refine V_if_eq (tgt := 61) dA_bodyFrom_51 rfl (fun h => absurd h (by decide)) (fun _ => ?_)
  refine V_gsB rfl dA_bodyFrom_54 fwA_52 ?_
  refine V_iload dA_bodyFrom_57 rfl ?_
  refine V_tB dA_bodyFrom_59 (vp_in_nI (n := 0) (N := 21) (by decide) (by decide)) ?_
  refine V_topI (x' := 10) (by decide) ?_
  exact V_iret dA_bodyFrom_60 rfl rfl ⟨rfl, rfl, rfl⟩
theorem c_bf_3_1 {l : Launch} {G : GT} {σ : Hp} : MM l G mA_bodyFrom 0 0 0 [.int 3, .int 1] KA σ (PE (some (.int 11)) KA σ) := by
  refine MM.of (loc := [(0, .int 3), (1, .int 1)]) (by decide +kernel) rfl (Nat.le_of_ble_eq_true rfl) ?_
  refine V_iload_n dA_bodyFrom_0 rfl ?_
  refine V_istore_n (loc' := [(2, .int 3), (0, .int 3), (1, .int 1)]) dA_bodyFrom_1 (by decide) rfl ?_
  refine V_iconst (v := 0) dA_bodyFrom_2 (by decide) ?_
  refine V_istore_n (loc' := [(3, .int 0), (2, .int 3), (0, .int 3), (1, .int 1)]) dA_bodyFrom_3 (by decide) rfl ?_
  refine V_iload_n dA_bodyFrom_4 rfl ?_
  refine V_gsAN rfl dA_bodyFrom_5 ?_
  refine V_tAl dA_bodyFrom_8 ?_
  refine V_icmp_ge (tgt := 73) dA_bodyFrom_9 rfl (fun h => absurd h (by decide)) (fun _ => ?_)
  refine V_iload_n dA_bodyFrom_12 rfl ?_
  refine V_if_lt (tgt := 73) dA_bodyFrom_13 rfl (fun h => absurd h (by decide)) (fun _ => ?_)
  refine V_iload_n dA_bodyFrom_16 rfl ?_
  refine V_gsAN rfl dA_bodyFrom_17 ?_
  refine V_tAl dA_bodyFrom_20 ?_
  refine V_icmp_ge (tgt := 73) dA_bodyFrom_21 rfl (fun h => absurd h (by decide)) (fun _ => ?_)
  refine V_iload_n dA_bodyFrom_24 rfl ?_
  refine V_iconst (v := 3) dA_bodyFrom_25 (by decide) ?_
  refine V_imul dA_bodyFrom_26 ?_
  refine V_topI (x' := 9) (by decide) ?_
  refine V_iload_n dA_bodyFrom_27 rfl ?_
  refine V_iadd dA_bodyFrom_28 ?_
  refine V_topI (x' := 10) (by decide) ?_
  refine V_istore (loc' := [(4, .int 10), (3, .int 0), (2, .int 3), (0, .int 3), (1, .int 1)]) dA_bodyFrom_29 (by decide) rfl ?_
  refine V_iload dA_bodyFrom_31 rfl ?_
  refine V_if_lt (tgt := 61) dA_bodyFrom_33 rfl (fun h => absurd h (by decide)) (fun _ => ?_)
  refine V_iload dA_bodyFrom_36 rfl ?_
  refine V_gsB rfl dA_bodyFrom_38 fwA_52 ?_
  refine V_tBl dA_bodyFrom_41 ?_
  refine V_icmp_ge (tgt := 61) dA_bodyFrom_42 rfl (fun h => absurd h (by decide)) (fun _ => ?_)
  refine V_gsB rfl dA_bodyFrom_45 fwA_52 ?_
  refine V_iload dA_bodyFrom_48 rfl ?_
  refine V_tB dA_bodyFrom_50 (vp_in_nI (n := 10) (N := 21) (by decide) (by decide)) ?_
  refine V_topI (x' := 0) (by decide) ?_
  refine V_if_eq (tgt := 61) dA_bodyFrom_51 rfl (fun _ => ?_) (fun h => absurd h (by decide))
  refine V_gsAN rfl dA_bodyFrom_61 ?_
  refine V_iload_n dA_bodyFrom_64 rfl ?_
  refine V_tA dA_bodyFrom_65 (vp_in_nI (n := 3) (N := 7) (by decide) (by decide)) ?_
  refine V_topI (x' := 0) (by decide) ?_
  refine V_istore_n (loc' := [(2, .int 0), (4, .int 10), (3, .int 0), (0, .int 3), (1, .int 1)]) dA_bodyFrom_66 (by decide) rfl ?_
  refine V_iinc (v := 1) (loc' := [(3, .int 1), (2, .int 0), (4, .int 10), (0, .int 3), (1, .int 1)]) dA_bodyFrom_67 rfl (by decide) (by decide) rfl ?_
  refine V_goto (tgt := 4) dA_bodyFrom_70 rfl ?_
  refine V_iload_n dA_bodyFrom_4 rfl ?_
  refine V_gsAN rfl dA_bodyFrom_5 ?_
  refine V_tAl dA_bodyFrom_8 ?_
  refine V_icmp_ge (tgt := 73) dA_bodyFrom_9 rfl (fun h => absurd h (by decide)) (fun _ => ?_)
  refine V_iload_n dA_bodyFrom_12 rfl ?_
  refine V_if_lt (tgt := 73) dA_bodyFrom_13 rfl (fun h => absurd h (by decide)) (fun _ => ?_)
  refine V_iload_n dA_bodyFrom_16 rfl ?_
  refine V_gsAN rfl dA_bodyFrom_17 ?_
  refine V_tAl dA_bodyFrom_20 ?_
  refine V_icmp_ge (tgt := 73) dA_bodyFrom_21 rfl (fun h => absurd h (by decide)) (fun _ => ?_)
  refine V_iload_n dA_bodyFrom_24 rfl ?_
  refine V_iconst (v := 3) dA_bodyFrom_25 (by decide) ?_
  refine V_imul dA_bodyFrom_26 ?_
  refine V_topI (x' := 0) (by decide) ?_
  refine V_iload_n dA_bodyFrom_27 rfl ?_
  refine V_iadd dA_bodyFrom_28 ?_
  refine V_topI (x' := 1) (by decide) ?_
  refine V_istore (loc' := [(4, .int 1), (3, .int 1), (2, .int 0), (0, .int 3), (1, .int 1)]) dA_bodyFrom_29 (by decide) rfl ?_
  refine V_iload dA_bodyFrom_31 rfl ?_
  refine V_if_lt (tgt := 61) dA_bodyFrom_33 rfl (fun h => absurd h (by decide)) (fun _ => ?_)
  refine V_iload dA_bodyFrom_36 rfl ?_
  refine V_gsB rfl dA_bodyFrom_38 fwA_52 ?_
  refine V_tBl dA_bodyFrom_41 ?_
  refine V_icmp_ge (tgt := 61) dA_bodyFrom_42 rfl (fun h => absurd h (by decide)) (fun _ => ?_)
  refine V_gsB rfl dA_bodyFrom_45 fwA_52 ?_
  refine V_iload dA_bodyFrom_48 rfl ?_
  refine V_tB dA_bodyFrom_50 (vp_in_nI (n := 1) (N := 21) (by decide) (by decide)) ?_
  refine V_topI (x' := 11) (by decide) ?_
  refine V_if_eq (tgt := 61) dA_bodyFrom_51 rfl (fun h => absurd h (by decide)) (fun _ => ?_)
  refine V_gsB rfl dA_bodyFrom_54 fwA_52 ?_
  refine V_iload dA_bodyFrom_57 rfl ?_
  refine V_tB dA_bodyFrom_59 (vp_in_nI (n := 1) (N := 21) (by decide) (by decide)) ?_
  refine V_topI (x' := 11) (by decide) ?_
  exact V_iret dA_bodyFrom_60 rfl rfl ⟨rfl, rfl, rfl⟩
theorem c_bf_3_2 {l : Launch} {G : GT} {σ : Hp} : MM l G mA_bodyFrom 0 0 0 [.int 3, .int 2] KA σ (PE (some (.int 40)) KA σ) := by
  refine MM.of (loc := [(0, .int 3), (1, .int 2)]) (by decide +kernel) rfl (Nat.le_of_ble_eq_true rfl) ?_
  refine V_iload_n dA_bodyFrom_0 rfl ?_
  refine V_istore_n (loc' := [(2, .int 3), (0, .int 3), (1, .int 2)]) dA_bodyFrom_1 (by decide) rfl ?_
  refine V_iconst (v := 0) dA_bodyFrom_2 (by decide) ?_
  refine V_istore_n (loc' := [(3, .int 0), (2, .int 3), (0, .int 3), (1, .int 2)]) dA_bodyFrom_3 (by decide) rfl ?_
  refine V_iload_n dA_bodyFrom_4 rfl ?_
  refine V_gsAN rfl dA_bodyFrom_5 ?_
  refine V_tAl dA_bodyFrom_8 ?_
  refine V_icmp_ge (tgt := 73) dA_bodyFrom_9 rfl (fun h => absurd h (by decide)) (fun _ => ?_)
  refine V_iload_n dA_bodyFrom_12 rfl ?_
  refine V_if_lt (tgt := 73) dA_bodyFrom_13 rfl (fun h => absurd h (by decide)) (fun _ => ?_)
  refine V_iload_n dA_bodyFrom_16 rfl ?_
  refine V_gsAN rfl dA_bodyFrom_17 ?_
  refine V_tAl dA_bodyFrom_20 ?_
  refine V_icmp_ge (tgt := 73) dA_bodyFrom_21 rfl (fun h => absurd h (by decide)) (fun _ => ?_)
  refine V_iload_n dA_bodyFrom_24 rfl ?_
  refine V_iconst (v := 3) dA_bodyFrom_25 (by decide) ?_
  refine V_imul dA_bodyFrom_26 ?_
  refine V_topI (x' := 9) (by decide) ?_
  refine V_iload_n dA_bodyFrom_27 rfl ?_
  refine V_iadd dA_bodyFrom_28 ?_
  refine V_topI (x' := 11) (by decide) ?_
  refine V_istore (loc' := [(4, .int 11), (3, .int 0), (2, .int 3), (0, .int 3), (1, .int 2)]) dA_bodyFrom_29 (by decide) rfl ?_
  refine V_iload dA_bodyFrom_31 rfl ?_
  refine V_if_lt (tgt := 61) dA_bodyFrom_33 rfl (fun h => absurd h (by decide)) (fun _ => ?_)
  refine V_iload dA_bodyFrom_36 rfl ?_
  refine V_gsB rfl dA_bodyFrom_38 fwA_52 ?_
  refine V_tBl dA_bodyFrom_41 ?_
  refine V_icmp_ge (tgt := 61) dA_bodyFrom_42 rfl (fun h => absurd h (by decide)) (fun _ => ?_)
  refine V_gsB rfl dA_bodyFrom_45 fwA_52 ?_
  refine V_iload dA_bodyFrom_48 rfl ?_
  refine V_tB dA_bodyFrom_50 (vp_in_nI (n := 11) (N := 21) (by decide) (by decide)) ?_
  refine V_topI (x' := 40) (by decide) ?_
  refine V_if_eq (tgt := 61) dA_bodyFrom_51 rfl (fun h => absurd h (by decide)) (fun _ => ?_)
  refine V_gsB rfl dA_bodyFrom_54 fwA_52 ?_
  refine V_iload dA_bodyFrom_57 rfl ?_
  refine V_tB dA_bodyFrom_59 (vp_in_nI (n := 11) (N := 21) (by decide) (by decide)) ?_
  refine V_topI (x' := 40) (by decide) ?_
  exact V_iret dA_bodyFrom_60 rfl rfl ⟨rfl, rfl, rfl⟩
theorem c_bf_4_0 {l : Launch} {G : GT} {σ : Hp} : MM l G mA_bodyFrom 0 0 0 [.int 4, .int 0] KA σ (PE (some (.int 50)) KA σ) := by
  refine MM.of (loc := [(0, .int 4), (1, .int 0)]) (by decide +kernel) rfl (Nat.le_of_ble_eq_true rfl) ?_
  refine V_iload_n dA_bodyFrom_0 rfl ?_
  refine V_istore_n (loc' := [(2, .int 4), (0, .int 4), (1, .int 0)]) dA_bodyFrom_1 (by decide) rfl ?_
  refine V_iconst (v := 0) dA_bodyFrom_2 (by decide) ?_
  refine V_istore_n (loc' := [(3, .int 0), (2, .int 4), (0, .int 4), (1, .int 0)]) dA_bodyFrom_3 (by decide) rfl ?_
  refine V_iload_n dA_bodyFrom_4 rfl ?_
  refine V_gsAN rfl dA_bodyFrom_5 ?_
  refine V_tAl dA_bodyFrom_8 ?_
  refine V_icmp_ge (tgt := 73) dA_bodyFrom_9 rfl (fun h => absurd h (by decide)) (fun _ => ?_)
  refine V_iload_n dA_bodyFrom_12 rfl ?_
  refine V_if_lt (tgt := 73) dA_bodyFrom_13 rfl (fun h => absurd h (by decide)) (fun _ => ?_)
  refine V_iload_n dA_bodyFrom_16 rfl ?_
  refine V_gsAN rfl dA_bodyFrom_17 ?_
  refine V_tAl dA_bodyFrom_20 ?_
  refine V_icmp_ge (tgt := 73) dA_bodyFrom_21 rfl (fun h => absurd h (by decide)) (fun _ => ?_)
  refine V_iload_n dA_bodyFrom_24 rfl ?_
  refine V_iconst (v := 3) dA_bodyFrom_25 (by decide) ?_
  refine V_imul dA_bodyFrom_26 ?_
  refine V_topI (x' := 12) (by decide) ?_
  refine V_iload_n dA_bodyFrom_27 rfl ?_
  refine V_iadd dA_bodyFrom_28 ?_
  refine V_topI (x' := 12) (by decide) ?_
  refine V_istore (loc' := [(4, .int 12), (3, .int 0), (2, .int 4), (0, .int 4), (1, .int 0)]) dA_bodyFrom_29 (by decide) rfl ?_
  refine V_iload dA_bodyFrom_31 rfl ?_
  refine V_if_lt (tgt := 61) dA_bodyFrom_33 rfl (fun h => absurd h (by decide)) (fun _ => ?_)
  refine V_iload dA_bodyFrom_36 rfl ?_
  refine V_gsB rfl dA_bodyFrom_38 fwA_52 ?_
  refine V_tBl dA_bodyFrom_41 ?_
  refine V_icmp_ge (tgt := 61) dA_bodyFrom_42 rfl (fun h => absurd h (by decide)) (fun _ => ?_)
  refine V_gsB rfl dA_bodyFrom_45 fwA_52 ?_
  refine V_iload dA_bodyFrom_48 rfl ?_
  refine V_tB dA_bodyFrom_50 (vp_in_nI (n := 12) (N := 21) (by decide) (by decide)) ?_
  refine V_topI (x' := 50) (by decide) ?_
  refine V_if_eq (tgt := 61) dA_bodyFrom_51 rfl (fun h => absurd h (by decide)) (fun _ => ?_)
  refine V_gsB rfl dA_bodyFrom_54 fwA_52 ?_
  refine V_iload dA_bodyFrom_57 rfl ?_
  refine V_tB dA_bodyFrom_59 (vp_in_nI (n := 12) (N := 21) (by decide) (by decide)) ?_
  refine V_topI (x' := 50) (by decide) ?_
  exact V_iret dA_bodyFrom_60 rfl rfl ⟨rfl, rfl, rfl⟩
theorem c_bf_4_1 {l : Launch} {G : GT} {σ : Hp} : MM l G mA_bodyFrom 0 0 0 [.int 4, .int 1] KA σ (PE (some (.int 51)) KA σ) := by
  refine MM.of (loc := [(0, .int 4), (1, .int 1)]) (by decide +kernel) rfl (Nat.le_of_ble_eq_true rfl) ?_
  refine V_iload_n dA_bodyFrom_0 rfl ?_
  refine V_istore_n (loc' := [(2, .int 4), (0, .int 4), (1, .int 1)]) dA_bodyFrom_1 (by decide) rfl ?_
  refine V_iconst (v := 0) dA_bodyFrom_2 (by decide) ?_
  refine V_istore_n (loc' := [(3, .int 0), (2, .int 4), (0, .int 4), (1, .int 1)]) dA_bodyFrom_3 (by decide) rfl ?_
  refine V_iload_n dA_bodyFrom_4 rfl ?_
  refine V_gsAN rfl dA_bodyFrom_5 ?_
  refine V_tAl dA_bodyFrom_8 ?_
  refine V_icmp_ge (tgt := 73) dA_bodyFrom_9 rfl (fun h => absurd h (by decide)) (fun _ => ?_)
  refine V_iload_n dA_bodyFrom_12 rfl ?_
  refine V_if_lt (tgt := 73) dA_bodyFrom_13 rfl (fun h => absurd h (by decide)) (fun _ => ?_)
  refine V_iload_n dA_bodyFrom_16 rfl ?_
  refine V_gsAN rfl dA_bodyFrom_17 ?_
  refine V_tAl dA_bodyFrom_20 ?_
  refine V_icmp_ge (tgt := 73) dA_bodyFrom_21 rfl (fun h => absurd h (by decide)) (fun _ => ?_)
  refine V_iload_n dA_bodyFrom_24 rfl ?_
  refine V_iconst (v := 3) dA_bodyFrom_25 (by decide) ?_
  refine V_imul dA_bodyFrom_26 ?_
  refine V_topI (x' := 12) (by decide) ?_
  refine V_iload_n dA_bodyFrom_27 rfl ?_
  refine V_iadd dA_bodyFrom_28 ?_
  refine V_topI (x' := 13) (by decide) ?_
  refine V_istore (loc' := [(4, .int 13), (3, .int 0), (2, .int 4), (0, .int 4), (1, .int 1)]) dA_bodyFrom_29 (by decide) rfl ?_
  refine V_iload dA_bodyFrom_31 rfl ?_
  refine V_if_lt (tgt := 61) dA_bodyFrom_33 rfl (fun h => absurd h (by decide)) (fun _ => ?_)
  refine V_iload dA_bodyFrom_36 rfl ?_
  refine V_gsB rfl dA_bodyFrom_38 fwA_52 ?_
  refine V_tBl dA_bodyFrom_41 ?_
  refine V_icmp_ge (tgt := 61) dA_bodyFrom_42 rfl (fun h => absurd h (by decide)) (fun _ => ?_)
  refine V_gsB rfl dA_bodyFrom_45 fwA_52 ?_
  refine V_iload dA_bodyFrom_48 rfl ?_
  refine V_tB dA_bodyFrom_50 (vp_in_nI (n := 13) (N := 21) (by decide) (by decide)) ?_
  refine V_topI (x' := 51) (by decide) ?_
  refine V_if_eq (tgt := 61) dA_bodyFrom_51 rfl (fun h => absurd h (by decide)) (fun _ => ?_)
  refine V_gsB rfl dA_bodyFrom_54 fwA_52 ?_
  refine V_iload dA_bodyFrom_57 rfl ?_
  refine V_tB dA_bodyFrom_59 (vp_in_nI (n := 13) (N := 21) (by decide) (by decide)) ?_
  refine V_topI (x' := 51) (by decide) ?_
  exact V_iret dA_bodyFrom_60 rfl rfl ⟨rfl, rfl, rfl⟩
theorem c_bf_4_2 {l : Launch} {G : GT} {σ : Hp} : MM l G mA_bodyFrom 0 0 0 [.int 4, .int 2] KA σ (PE (some (.int 12)) KA σ) := by
  refine MM.of (loc := [(0, .int 4), (1, .int 2)]) (by decide +kernel) rfl (Nat.le_of_ble_eq_true rfl) ?_
  refine V_iload_n dA_bodyFrom_0 rfl ?_
  refine V_istore_n (loc' := [(2, .int 4), (0, .int 4), (1, .int 2)]) dA_bodyFrom_1 (by decide) rfl ?_
  refine V_iconst (v := 0) dA_bodyFrom_2 (by decide) ?_
  refine V_istore_n (loc' := [(3, .int 0), (2, .int 4), (0, .int 4), (1, .int 2)]) dA_bodyFrom_3 (by decide) rfl ?_
  refine V_iload_n dA_bodyFrom_4 rfl ?_
  refine V_gsAN rfl dA_bodyFrom_5 ?_
  refine V_tAl dA_bodyFrom_8 ?_
  refine V_icmp_ge (tgt := 73) dA_bodyFrom_9 rfl (fun h => absurd h (by decide)) (fun _ => ?_)
  refine V_iload_n dA_bodyFrom_12 rfl ?_
  refine V_if_lt (tgt := 73) dA_bodyFrom_13 rfl (fun h => absurd h (by decide)) (fun _ => ?_)
  refine V_iload_n dA_bodyFrom_16 rfl ?_
  refine V_gsAN rfl dA_bodyFrom_17 ?_
  refine V_tAl dA_bodyFrom_20 ?_
  refine V_icmp_ge (tgt := 73) dA_bodyFrom_21 rfl (fun h => absurd h (by decide)) (fun _ => ?_)
  refine V_iload_n dA_bodyFrom_24 rfl ?_
  refine V_iconst (v := 3) dA_bodyFrom_25 (by decide) ?_
  refine V_imul dA_bodyFrom_26 ?_
  refine V_topI (x' := 12) (by decide) ?_
  refine V_iload_n dA_bodyFrom_27 rfl ?_
  refine V_iadd dA_bodyFrom_28 ?_
  refine V_topI (x' := 14) (by decide) ?_
  refine V_istore (loc' := [(4, .int 14), (3, .int 0), (2, .int 4), (0, .int 4), (1, .int 2)]) dA_bodyFrom_29 (by decide) rfl ?_
  refine V_iload dA_bodyFrom_31 rfl ?_
  refine V_if_lt (tgt := 61) dA_bodyFrom_33 rfl (fun h => absurd h (by decide)) (fun _ => ?_)
  refine V_iload dA_bodyFrom_36 rfl ?_
  refine V_gsB rfl dA_bodyFrom_38 fwA_52 ?_
  refine V_tBl dA_bodyFrom_41 ?_
  refine V_icmp_ge (tgt := 61) dA_bodyFrom_42 rfl (fun h => absurd h (by decide)) (fun _ => ?_)
  refine V_gsB rfl dA_bodyFrom_45 fwA_52 ?_
  refine V_iload dA_bodyFrom_48 rfl ?_
  refine V_tB dA_bodyFrom_50 (vp_in_nI (n := 14) (N := 21) (by decide) (by decide)) ?_
  refine V_topI (x' := 0) (by decide) ?_
  refine V_if_eq (tgt := 61) dA_bodyFrom_51 rfl (fun _ => ?_) (fun h => absurd h (by decide))
  refine V_gsAN rfl dA_bodyFrom_61 ?_
  refine V_iload_n dA_bodyFrom_64 rfl ?_
  refine V_tA dA_bodyFrom_65 (vp_in_nI (n := 4) (N := 7) (by decide) (by decide)) ?_
  refine V_topI (x' := 1) (by decide) ?_
  refine V_istore_n (loc' := [(2, .int 1), (4, .int 14), (3, .int 0), (0, .int 4), (1, .int 2)]) dA_bodyFrom_66 (by decide) rfl ?_
  refine V_iinc (v := 1) (loc' := [(3, .int 1), (2, .int 1), (4, .int 14), (0, .int 4), (1, .int 2)]) dA_bodyFrom_67 rfl (by decide) (by decide) rfl ?_
  refine V_goto (tgt := 4) dA_bodyFrom_70 rfl ?_
  refine V_iload_n dA_bodyFrom_4 rfl ?_
  refine V_gsAN rfl dA_bodyFrom_5 ?_
  refine V_tAl dA_bodyFrom_8 ?_
  refine V_icmp_ge (tgt := 73) dA_bodyFrom_9 rfl (fun h => absurd h (by decide)) (fun _ => ?_)
  refine V_iload_n dA_bodyFrom_12 rfl ?_
  refine V_if_lt (tgt := 73) dA_bodyFrom_13 rfl (fun h => absurd h (by decide)) (fun _ => ?_)
  refine V_iload_n dA_bodyFrom_16 rfl ?_
  refine V_gsAN rfl dA_bodyFrom_17 ?_
  refine V_tAl dA_bodyFrom_20 ?_
  refine V_icmp_ge (tgt := 73) dA_bodyFrom_21 rfl (fun h => absurd h (by decide)) (fun _ => ?_)
  refine V_iload_n dA_bodyFrom_24 rfl ?_
  refine V_iconst (v := 3) dA_bodyFrom_25 (by decide) ?_
  refine V_imul dA_bodyFrom_26 ?_
  refine V_topI (x' := 3) (by decide) ?_
  refine V_iload_n dA_bodyFrom_27 rfl ?_
  refine V_iadd dA_bodyFrom_28 ?_
  refine V_topI (x' := 5) (by decide) ?_
  refine V_istore (loc' := [(4, .int 5), (3, .int 1), (2, .int 1), (0, .int 4), (1, .int 2)]) dA_bodyFrom_29 (by decide) rfl ?_
  refine V_iload dA_bodyFrom_31 rfl ?_
  refine V_if_lt (tgt := 61) dA_bodyFrom_33 rfl (fun h => absurd h (by decide)) (fun _ => ?_)
  refine V_iload dA_bodyFrom_36 rfl ?_
  refine V_gsB rfl dA_bodyFrom_38 fwA_52 ?_
  refine V_tBl dA_bodyFrom_41 ?_
  refine V_icmp_ge (tgt := 61) dA_bodyFrom_42 rfl (fun h => absurd h (by decide)) (fun _ => ?_)
  refine V_gsB rfl dA_bodyFrom_45 fwA_52 ?_
  refine V_iload dA_bodyFrom_48 rfl ?_
  refine V_tB dA_bodyFrom_50 (vp_in_nI (n := 5) (N := 21) (by decide) (by decide)) ?_
  refine V_topI (x' := 0) (by decide) ?_
  refine V_if_eq (tgt := 61) dA_bodyFrom_51 rfl (fun _ => ?_) (fun h => absurd h (by decide))
  refine V_gsAN rfl dA_bodyFrom_61 ?_
  refine V_iload_n dA_bodyFrom_64 rfl ?_
  refine V_tA dA_bodyFrom_65 (vp_in_nI (n := 1) (N := 7) (by decide) (by decide)) ?_
  refine V_topI (x' := 0) (by decide) ?_
  refine V_istore_n (loc' := [(2, .int 0), (4, .int 5), (3, .int 1), (0, .int 4), (1, .int 2)]) dA_bodyFrom_66 (by decide) rfl ?_
  refine V_iinc (v := 2) (loc' := [(3, .int 2), (2, .int 0), (4, .int 5), (0, .int 4), (1, .int 2)]) dA_bodyFrom_67 rfl (by decide) (by decide) rfl ?_
  refine V_goto (tgt := 4) dA_bodyFrom_70 rfl ?_
  refine V_iload_n dA_bodyFrom_4 rfl ?_
  refine V_gsAN rfl dA_bodyFrom_5 ?_
  refine V_tAl dA_bodyFrom_8 ?_
  refine V_icmp_ge (tgt := 73) dA_bodyFrom_9 rfl (fun h => absurd h (by decide)) (fun _ => ?_)
  refine V_iload_n dA_bodyFrom_12 rfl ?_
  refine V_if_lt (tgt := 73) dA_bodyFrom_13 rfl (fun h => absurd h (by decide)) (fun _ => ?_)
  refine V_iload_n dA_bodyFrom_16 rfl ?_
  refine V_gsAN rfl dA_bodyFrom_17 ?_
  refine V_tAl dA_bodyFrom_20 ?_
  refine V_icmp_ge (tgt := 73) dA_bodyFrom_21 rfl (fun h => absurd h (by decide)) (fun _ => ?_)
  refine V_iload_n dA_bodyFrom_24 rfl ?_
  refine V_iconst (v := 3) dA_bodyFrom_25 (by decide) ?_
  refine V_imul dA_bodyFrom_26 ?_
  refine V_topI (x' := 0) (by decide) ?_
  refine V_iload_n dA_bodyFrom_27 rfl ?_
  refine V_iadd dA_bodyFrom_28 ?_
  refine V_topI (x' := 2) (by decide) ?_
  refine V_istore (loc' := [(4, .int 2), (3, .int 2), (2, .int 0), (0, .int 4), (1, .int 2)]) dA_bodyFrom_29 (by decide) rfl ?_
  refine V_iload dA_bodyFrom_31 rfl ?_
  refine V_if_lt (tgt := 61) dA_bodyFrom_33 rfl (fun h => absurd h (by decide)) (fun _ => ?_)
  refine V_iload dA_bodyFrom_36 rfl ?_
  refine V_gsB rfl dA_bodyFrom_38 fwA_52 ?_
  refine V_tBl dA_bodyFrom_41 ?_
  refine V_icmp_ge (tgt := 61) dA_bodyFrom_42 rfl (fun h => absurd h (by decide)) (fun _ => ?_)
  refine V_gsB rfl dA_bodyFrom_45 fwA_52 ?_
  refine V_iload dA_bodyFrom_48 rfl ?_
  refine V_tB dA_bodyFrom_50 (vp_in_nI (n := 2) (N := 21) (by decide) (by decide)) ?_
  refine V_topI (x' := 12) (by decide) ?_
  refine V_if_eq (tgt := 61) dA_bodyFrom_51 rfl (fun h => absurd h (by decide)) (fun _ => ?_)
  refine V_gsB rfl dA_bodyFrom_54 fwA_52 ?_
  refine V_iload dA_bodyFrom_57 rfl ?_
  refine V_tB dA_bodyFrom_59 (vp_in_nI (n := 2) (N := 21) (by decide) (by decide)) ?_
  refine V_topI (x' := 12) (by decide) ?_
  exact V_iret dA_bodyFrom_60 rfl rfl ⟨rfl, rfl, rfl⟩
theorem c_bf_5_0 {l : Launch} {G : GT} {σ : Hp} : MM l G mA_bodyFrom 0 0 0 [.int 5, .int 0] KA σ (PE (some (.int 30)) KA σ) := by
  refine MM.of (loc := [(0, .int 5), (1, .int 0)]) (by decide +kernel) rfl (Nat.le_of_ble_eq_true rfl) ?_
  refine V_iload_n dA_bodyFrom_0 rfl ?_
  refine V_istore_n (loc' := [(2, .int 5), (0, .int 5), (1, .int 0)]) dA_bodyFrom_1 (by decide) rfl ?_
  refine V_iconst (v := 0) dA_bodyFrom_2 (by decide) ?_
  refine V_istore_n (loc' := [(3, .int 0), (2, .int 5), (0, .int 5), (1, .int 0)]) dA_bodyFrom_3 (by decide) rfl ?_
  refine V_iload_n dA_bodyFrom_4 rfl ?_
  refine V_gsAN rfl dA_bodyFrom_5 ?_
  refine V_tAl dA_bodyFrom_8 ?_
  refine V_icmp_ge (tgt := 73) dA_bodyFrom_9 rfl (fun h => absurd h (by decide)) (fun _ => ?_)
  refine V_iload_n dA_bodyFrom_12 rfl ?_
  refine V_if_lt (tgt := 73) dA_bodyFrom_13 rfl (fun h => absurd h (by decide)) (fun _ => ?_)
  refine V_iload_n dA_bodyFrom_16 rfl ?_
  refine V_gsAN rfl dA_bodyFrom_17 ?_
  refine V_tAl dA_bodyFrom_20 ?_
  refine V_icmp_ge (tgt := 73) dA_bodyFrom_21 rfl (fun h => absurd h (by decide)) (fun _ => ?_)
  refine V_iload_n dA_bodyFrom_24 rfl ?_
  refine V_iconst (v := 3) dA_bodyFrom_25 (by decide) ?_
  refine V_imul dA_bodyFrom_26 ?_
  refine V_topI (x' := 15) (by decide) ?_
  refine V_iload_n dA_bodyFrom_27 rfl ?_
  refine V_iadd dA_bodyFrom_28 ?_
  refine V_topI (x' := 15) (by decide) ?_
  refine V_istore (loc' := [(4, .int 15), (3, .int 0), (2, .int 5), (0, .int 5), (1, .int 0)]) dA_bodyFrom_29 (by decide) rfl ?_
  refine V_iload dA_bodyFrom_31 rfl ?_
  refine V_if_lt (tgt := 61) dA_bodyFrom_33 rfl (fun h => absurd h (by decide)) (fun _ => ?_)
  refine V_iload dA_bodyFrom_36 rfl ?_
  refine V_gsB rfl dA_bodyFrom_38 fwA_52 ?_
  refine V_tBl dA_bodyFrom_41 ?_
  refine V_icmp_ge (tgt := 61) dA_bodyFrom_42 rfl (fun h => absurd h (by decide)) (fun _ => ?_)
  refine V_gsB rfl dA_bodyFrom_45 fwA_52 ?_
  refine V_iload dA_bodyFrom_48 rfl ?_
  refine V_tB dA_bodyFrom_50 (vp_in_nI (n := 15) (N := 21) (by decide) (by decide)) ?_
  refine V_topI (x' := 0) (by decide) ?_
  refine V_if_eq (tgt := 61) dA_bodyFrom_51 rfl (fun _ => ?_) (fun h => absurd h (by decide))
  refine V_gsAN rfl dA_bodyFrom_61 ?_
  refine V_iload_n dA_bodyFrom_64 rfl ?_
  refine V_tA dA_bodyFrom_65 (vp_in_nI (n := 5) (N := 7) (by decide) (by decide)) ?_
  refine V_topI (x' := 2) (by decide) ?_
  refine V_istore_n (loc' := [(2, .int 2), (4, .int 15), (3, .int 0), (0, .int 5), (1, .int 0)]) dA_bodyFrom_66 (by decide) rfl ?_
  refine V_iinc (v := 1) (loc' := [(3, .int 1), (2, .int 2), (4, .int 15), (0, .int 5), (1, .int 0)]) dA_bodyFrom_67 rfl (by decide) (by decide) rfl ?_
  refine V_goto (tgt := 4) dA_bodyFrom_70 rfl ?_
  refine V_iload_n dA_bodyFrom_4 rfl ?_
  refine V_gsAN rfl dA_bodyFrom_5 ?_
  refine V_tAl dA_bodyFrom_8 ?_
  refine V_icmp_ge (tgt := 73) dA_bodyFrom_9 rfl (fun h => absurd h (by decide)) (fun _ => ?_)
  refine V_iload_n dA_bodyFrom_12 rfl ?_
  refine V_if_lt (tgt := 73) dA_bodyFrom_13 rfl (fun h => absurd h (by decide)) (fun _ => ?_)
  refine V_iload_n dA_bodyFrom_16 rfl ?_
  refine V_gsAN rfl dA_bodyFrom_17 ?_
  refine V_tAl dA_bodyFrom_20 ?_
  refine V_icmp_ge (tgt := 73) dA_bodyFrom_21 rfl (fun h => absurd h (by decide)) (fun _ => ?_)
  refine V_iload_n dA_bodyFrom_24 rfl ?_
  refine V_iconst (v := 3) dA_bodyFrom_25 (by decide) ?_
  refine V_imul dA_bodyFrom_26 ?_
  refine V_topI (x' := 6) (by decide) ?_
  refine V_iload_n dA_bodyFrom_27 rfl ?_
  refine V_iadd dA_bodyFrom_28 ?_
  refine V_topI (x' := 6) (by decide) ?_
  refine V_istore (loc' := [(4, .int 6), (3, .int 1), (2, .int 2), (0, .int 5), (1, .int 0)]) dA_bodyFrom_29 (by decide) rfl ?_
  refine V_iload dA_bodyFrom_31 rfl ?_
  refine V_if_lt (tgt := 61) dA_bodyFrom_33 rfl (fun h => absurd h (by decide)) (fun _ => ?_)
  refine V_iload dA_bodyFrom_36 rfl ?_
  refine V_gsB rfl dA_bodyFrom_38 fwA_52 ?_
  refine V_tBl dA_bodyFrom_41 ?_
  refine V_icmp_ge (tgt := 61) dA_bodyFrom_42 rfl (fun h => absurd h (by decide)) (fun _ => ?_)
  refine V_gsB rfl dA_bodyFrom_45 fwA_52 ?_
  refine V_iload dA_bodyFrom_48 rfl ?_
  refine V_tB dA_bodyFrom_50 (vp_in_nI (n := 6) (N := 21) (by decide) (by decide)) ?_
  refine V_topI (x' := 30) (by decide) ?_
  refine V_if_eq (tgt := 61) dA_bodyFrom_51 rfl (fun h => absurd h (by decide)) (fun _ => ?_)
  refine V_gsB rfl dA_bodyFrom_54 fwA_52 ?_
  refine V_iload dA_bodyFrom_57 rfl ?_
  refine V_tB dA_bodyFrom_59 (vp_in_nI (n := 6) (N := 21) (by decide) (by decide)) ?_
  refine V_topI (x' := 30) (by decide) ?_
  exact V_iret dA_bodyFrom_60 rfl rfl ⟨rfl, rfl, rfl⟩
theorem c_bf_5_1 {l : Launch} {G : GT} {σ : Hp} : MM l G mA_bodyFrom 0 0 0 [.int 5, .int 1] KA σ (PE (some (.int 11)) KA σ) := by
  refine MM.of (loc := [(0, .int 5), (1, .int 1)]) (by decide +kernel) rfl (Nat.le_of_ble_eq_true rfl) ?_
  refine V_iload_n dA_bodyFrom_0 rfl ?_
  refine V_istore_n (loc' := [(2, .int 5), (0, .int 5), (1, .int 1)]) dA_bodyFrom_1 (by decide) rfl ?_
  refine V_iconst (v := 0) dA_bodyFrom_2 (by decide) ?_
  refine V_istore_n (loc' := [(3, .int 0), (2, .int 5), (0, .int 5), (1, .int 1)]) dA_bodyFrom_3 (by decide) rfl ?_
  refine V_iload_n dA_bodyFrom_4 rfl ?_
  refine V_gsAN rfl dA_bodyFrom_5 ?_
  refine V_tAl dA_bodyFrom_8 ?_
  refine V_icmp_ge (tgt := 73) dA_bodyFrom_9 rfl (fun h => absurd h (by decide)) (fun _ => ?_)
  refine V_iload_n dA_bodyFrom_12 rfl ?_
  refine V_if_lt (tgt := 73) dA_bodyFrom_13 rfl (fun h => absurd h (by decide)) (fun _ => ?_)
  refine V_iload_n dA_bodyFrom_16 rfl ?_
  refine V_gsAN rfl dA_bodyFrom_17 ?_
  refine V_tAl dA_bodyFrom_20 ?_
  refine V_icmp_ge (tgt := 73) dA_bodyFrom_21 rfl (fun h => absurd h (by decide)) (fun _ => ?_)
  refine V_iload_n dA_bodyFrom_24 rfl ?_
  refine V_iconst (v := 3) dA_bodyFrom_25 (by decide) ?_
  refine V_imul dA_bodyFrom_26 ?_
  refine V_topI (x' := 15) (by decide) ?_
  refine V_iload_n dA_bodyFrom_27 rfl ?_
  refine V_iadd dA_bodyFrom_28 ?_
  refine V_topI (x' := 16) (by decide) ?_
  refine V_istore (loc' := [(4, .int 16), (3, .int 0), (2, .int 5), (0, .int 5), (1, .int 1)]) dA_bodyFrom_29 (by decide) rfl ?_
  refine V_iload dA_bodyFrom_31 rfl ?_
  refine V_if_lt (tgt := 61) dA_bodyFrom_33 rfl (fun h => absurd h (by decide)) (fun _ => ?_)
  refine V_iload dA_bodyFrom_36 rfl ?_
  refine V_gsB rfl dA_bodyFrom_38 fwA_52 ?_
  refine V_tBl dA_bodyFrom_41 ?_
  refine V_icmp_ge (tgt := 61) dA_bodyFrom_42 rfl (fun h => absurd h (by decide)) (fun _ => ?_)
  refine V_gsB rfl dA_bodyFrom_45 fwA_52 ?_
  refine V_iload dA_bodyFrom_48 rfl ?_
  refine V_tB dA_bodyFrom_50 (vp_in_nI (n := 16) (N := 21) (by decide) (by decide)) ?_
  refine V_topI (x' := 0) (by decide) ?_
  refine V_if_eq (tgt := 61) dA_bodyFrom_51 rfl (fun _ => ?_) (fun h => absurd h (by decide))
  refine V_gsAN rfl dA_bodyFrom_61 ?_
  refine V_iload_n dA_bodyFrom_64 rfl ?_
  refine V_tA dA_bodyFrom_65 (vp_in_nI (n := 5) (N := 7) (by decide) (by decide)) ?_
  refine V_topI (x' := 2) (by decide) ?_
  refine V_istore_n (loc' := [(2, .int 2), (4, .int 16), (3, .int 0), (0, .int 5), (1, .int 1)]) dA_bodyFrom_66 (by decide) rfl ?_
  refine V_iinc (v := 1) (loc' := [(3, .int 1), (2, .int 2), (4, .int 16), (0, .int 5), (1, .int 1)]) dA_bodyFrom_67 rfl (by decide) (by decide) rfl ?_
  refine V_goto (tgt := 4) dA_bodyFrom_70 rfl ?_
  refine V_iload_n dA_bodyFrom_4 rfl ?_
  refine V_gsAN rfl dA_bodyFrom_5 ?_
  refine V_tAl dA_bodyFrom_8 ?_
  refine V_icmp_ge (tgt := 73) dA_bodyFrom_9 rfl (fun h => absurd h (by decide)) (fun _ => ?_)
  refine V_iload_n dA_bodyFrom_12 rfl ?_
  refine V_if_lt (tgt := 73) dA_bodyFrom_13 rfl (fun h => absurd h (by decide)) (fun _ => ?_)
  refine V_iload_n dA_bodyFrom_16 rfl ?_
  refine V_gsAN rfl dA_bodyFrom_17 ?_
  refine V_tAl dA_bodyFrom_20 ?_
  refine V_icmp_ge (tgt := 73) dA_bodyFrom_21 rfl (fun h => absurd h (by decide)) (fun _ => ?_)
  refine V_iload_n dA_bodyFrom_24 rfl ?_
  refine V_iconst (v := 3) dA_bodyFrom_25 (by decide) ?_
  refine V_imul dA_bodyFrom_26 ?_
  refine V_topI (x' := 6) (by decide) ?_
  refine V_iload_n dA_bodyFrom_27 rfl ?_
  refine V_iadd dA_bodyFrom_28 ?_
  refine V_topI (x' := 7) (by decide) ?_
  refine V_istore (loc' := [(4, .int 7), (3, .int 1), (2, .int 2), (0, .int 5), (1, .int 1)]) dA_bodyFrom_29 (by decide) rfl ?_
  refine V_iload dA_bodyFrom_31 rfl ?_
  refine V_if_lt (tgt := 61) dA_bodyFrom_33 rfl (fun h => absurd h (by decide)) (fun _ => ?_)
  refine V_iload dA_bodyFrom_36 rfl ?_
  refine V_gsB rfl dA_bodyFrom_38 fwA_52 ?_
  refine V_tBl dA_bodyFrom_41 ?_
  refine V_icmp_ge (tgt := 61) dA_bodyFrom_42 rfl (fun h => absurd h (by decide)) (fun _ => ?_)
  refine V_gsB rfl dA_bodyFrom_45 fwA_52 ?_
  refine V_iload dA_bodyFrom_48 rfl ?_
  refine V_tB dA_bodyFrom_50 (vp_in_nI (n := 7) (N := 21) (by decide) (by decide)) ?_
  refine V_topI (x' := 0) (by decide) ?_
  refine V_if_eq (tgt := 61) dA_bodyFrom_51 rfl (fun _ => ?_) (fun h => absurd h (by decide))
  refine V_gsAN rfl dA_bodyFrom_61 ?_
  refine V_iload_n dA_bodyFrom_64 rfl ?_
  refine V_tA dA_bodyFrom_65 (vp_in_nI (n := 2) (N := 7) (by decide) (by decide)) ?_
  refine V_topI (x' := 0) (by decide) ?_
  refine V_istore_n (loc' := [(2, .int 0), (4, .int 7), (3, .int 1), (0, .int 5), (1, .int 1)]) dA_bodyFrom_66 (by decide) rfl ?_
  refine V_iinc (v := 2) (loc' := [(3, .int 2), (2, .int 0), (4, .int 7), (0, .int 5), (1, .int 1)]) dA_bodyFrom_67 rfl (by decide) (by decide) rfl ?_
  refine V_goto (tgt := 4) dA_bodyFrom_70 rfl ?_
  refine V_iload_n dA_bodyFrom_4 rfl ?_
  refine V_gsAN rfl dA_bodyFrom_5 ?_
  refine V_tAl dA_bodyFrom_8 ?_
  refine V_icmp_ge (tgt := 73) dA_bodyFrom_9 rfl (fun h => absurd h (by decide)) (fun _ => ?_)
  refine V_iload_n dA_bodyFrom_12 rfl ?_
  refine V_if_lt (tgt := 73) dA_bodyFrom_13 rfl (fun h => absurd h (by decide)) (fun _ => ?_)
  refine V_iload_n dA_bodyFrom_16 rfl ?_
  refine V_gsAN rfl dA_bodyFrom_17 ?_
  refine V_tAl dA_bodyFrom_20 ?_
  refine V_icmp_ge (tgt := 73) dA_bodyFrom_21 rfl (fun h => absurd h (by decide)) (fun _ => ?_)
  refine V_iload_n dA_bodyFrom_24 rfl ?_
  refine V_iconst (v := 3) dA_bodyFrom_25 (by decide) ?_
  refine V_imul dA_bodyFrom_26 ?_
  refine V_topI (x' := 0) (by decide) ?_
  refine V_iload_n dA_bodyFrom_27 rfl ?_
  refine V_iadd dA_bodyFrom_28 ?_
  refine V_topI (x' := 1) (by decide) ?_
  refine V_istore (loc' := [(4, .int 1), (3, .int 2), (2, .int 0), (0, .int 5), (1, .int 1)]) dA_bodyFrom_29 (by decide) rfl ?_
  refine V_iload dA_bodyFrom_31 rfl ?_
  refine V_if_lt (tgt := 61) dA_bodyFrom_33 rfl (fun h => absurd h (by decide)) (fun _ => ?_)
  refine V_iload dA_bodyFrom_36 rfl ?_
  refine V_gsB rfl dA_bodyFrom_38 fwA_52 ?_
  refine V_tBl dA_bodyFrom_41 ?_
  refine V_icmp_ge (tgt := 61) dA_bodyFrom_42 rfl (fun h => absurd h (by decide)) (fun _ => ?_)
  refine V_gsB rfl dA_bodyFrom_45 fwA_52 ?_
  refine V_iload dA_bodyFrom_48 rfl ?_
  refine V_tB dA_bodyFrom_50 (vp_in_nI (n := 1) (N := 21) (by decide) (by decide)) ?_
  refine V_topI (x' := 11) (by decide) ?_
  refine V_if_eq (tgt := 61) dA_bodyFrom_51 rfl (fun h => absurd h (by decide)) (fun _ => ?_)
  refine V_gsB rfl dA_bodyFrom_54 fwA_52 ?_
  refine V_iload dA_bodyFrom_57 rfl ?_
  refine V_tB dA_bodyFrom_59 (vp_in_nI (n := 1) (N := 21) (by decide) (by decide)) ?_
  refine V_topI (x' := 11) (by decide) ?_
  exact V_iret dA_bodyFrom_60 rfl rfl ⟨rfl, rfl, rfl⟩
theorem c_bf_5_2 {l : Launch} {G : GT} {σ : Hp} : MM l G mA_bodyFrom 0 0 0 [.int 5, .int 2] KA σ (PE (some (.int 60)) KA σ) := by
  refine MM.of (loc := [(0, .int 5), (1, .int 2)]) (by decide +kernel) rfl (Nat.le_of_ble_eq_true rfl) ?_
  refine V_iload_n dA_bodyFrom_0 rfl ?_
  refine V_istore_n (loc' := [(2, .int 5), (0, .int 5), (1, .int 2)]) dA_bodyFrom_1 (by decide) rfl ?_
  refine V_iconst (v := 0) dA_bodyFrom_2 (by decide) ?_
  refine V_istore_n (loc' := [(3, .int 0), (2, .int 5), (0, .int 5), (1, .int 2)]) dA_bodyFrom_3 (by decide) rfl ?_
  refine V_iload_n dA_bodyFrom_4 rfl ?_
  refine V_gsAN rfl dA_bodyFrom_5 ?_
  refine V_tAl dA_bodyFrom_8 ?_
  refine V_icmp_ge (tgt := 73) dA_bodyFrom_9 rfl (fun h => absurd h (by decide)) (fun _ => ?_)
  refine V_iload_n dA_bodyFrom_12 rfl ?_
  refine V_if_lt (tgt := 73) dA_bodyFrom_13 rfl (fun h => absurd h (by decide)) (fun _ => ?_)
  refine V_iload_n dA_bodyFrom_16 rfl ?_
  refine V_gsAN rfl dA_bodyFrom_17 ?_
  refine V_tAl dA_bodyFrom_20 ?_
  refine V_icmp_ge (tgt := 73) dA_bodyFrom_21 rfl (fun h => absurd h (by decide)) (fun _ => ?_)
  refine V_iload_n dA_bodyFrom_24 rfl ?_
  refine V_iconst (v := 3) dA_bodyFrom_25 (by decide) ?_
  refine V_imul dA_bodyFrom_26 ?_
  refine V_topI (x' := 15) (by decide) ?_
  refine V_iload_n dA_bodyFrom_27 rfl ?_
  refine V_iadd dA_bodyFrom_28 ?_
  refine V_topI (x' := 17) (by decide) ?_
  refine V_istore (loc' := [(4, .int 17), (3, .int 0), (2, .int 5), (0, .int 5), (1, .int 2)]) dA_bodyFrom_29 (by decide) rfl ?_
  refine V_iload dA_bodyFrom_31 rfl ?_
  refine V_if_lt (tgt := 61) dA_bodyFrom_33 rfl (fun h => absurd h (by decide)) (fun _ => ?_)
  refine V_iload dA_bodyFrom_36 rfl ?_
  refine V_gsB rfl dA_bodyFrom_38 fwA_52 ?_
  refine V_tBl dA_bodyFrom_41 ?_
  refine V_icmp_ge (tgt := 61) dA_bodyFrom_42 rfl (fun h => absurd h (by decide)) (fun _ => ?_)
  refine V_gsB rfl dA_bodyFrom_45 fwA_52 ?_
  refine V_iload dA_bodyFrom_48 rfl ?_
  refine V_tB dA_bodyFrom_50 (vp_in_nI (n := 17) (N := 21) (by decide) (by decide)) ?_
  refine V_topI (x' := 60) (by decide) ?_
  refine V_if_eq (tgt := 61) dA_bodyFrom_51 rfl (fun h => absurd h (by decide)) (fun _ => ?_)
  refine V_gsB rfl dA_bodyFrom_54 fwA_52 ?_
  refine V_iload dA_bodyFrom_57 rfl ?_
  refine V_tB dA_bodyFrom_59 (vp_in_nI (n := 17) (N := 21) (by decide) (by decide)) ?_
  refine V_topI (x' := 60) (by decide) ?_
  exact V_iret dA_bodyFrom_60 rfl rfl ⟨rfl, rfl, rfl⟩
theorem c_bf_6_0 {l : Launch} {G : GT} {σ : Hp} : MM l G mA_bodyFrom 0 0 0 [.int 6, .int 0] KA σ (PE (some (.int 71)) KA σ) := by
  refine MM.of (loc := [(0, .int 6), (1, .int 0)]) (by decide +kernel) rfl (Nat.le_of_ble_eq_true rfl) ?_
  refine V_iload_n dA_bodyFrom_0 rfl ?_
  refine V_istore_n (loc' := [(2, .int 6), (0, .int 6), (1, .int 0)]) dA_bodyFrom_1 (by decide) rfl ?_
  refine V_iconst (v := 0) dA_bodyFrom_2 (by decide) ?_
  refine V_istore_n (loc' := [(3, .int 0), (2, .int 6), (0, .int 6), (1, .int 0)]) dA_bodyFrom_3 (by decide) rfl ?_
  refine V_iload_n dA_bodyFrom_4 rfl ?_
  refine V_gsAN rfl dA_bodyFrom_5 ?_
  refine V_tAl dA_bodyFrom_8 ?_
  refine V_icmp_ge (tgt := 73) dA_bodyFrom_9 rfl (fun h => absurd h (by decide)) (fun _ => ?_)
  refine V_iload_n dA_bodyFrom_12 rfl ?_
  refine V_if_lt (tgt := 73) dA_bodyFrom_13 rfl (fun h => absurd h (by decide)) (fun _ => ?_)
  refine V_iload_n dA_bodyFrom_16 rfl ?_
  refine V_gsAN rfl dA_bodyFrom_17 ?_
  refine V_tAl dA_bodyFrom_20 ?_
  refine V_icmp_ge (tgt := 73) dA_bodyFrom_21 rfl (fun h => absurd h (by decide)) (fun _ => ?_)
  refine V_iload_n dA_bodyFrom_24 rfl ?_
  refine V_iconst (v := 3) dA_bodyFrom_25 (by decide) ?_
  refine V_imul dA_bodyFrom_26 ?_
  refine V_topI (x' := 18) (by decide) ?_
  refine V_iload_n dA_bodyFrom_27 rfl ?_
  refine V_iadd dA_bodyFrom_28 ?_
  refine V_topI (x' := 18) (by decide) ?_
  refine V_istore (loc' := [(4, .int 18), (3, .int 0), (2, .int 6), (0, .int 6), (1, .int 0)]) dA_bodyFrom_29 (by decide) rfl ?_
  refine V_iload dA_bodyFrom_31 rfl ?_
  refine V_if_lt (tgt := 61) dA_bodyFrom_33 rfl (fun h => absurd h (by decide)) (fun _ => ?_)
  refine V_iload dA_bodyFrom_36 rfl ?_
  refine V_gsB rfl dA_bodyFrom_38 fwA_52 ?_
  refine V_tBl dA_bodyFrom_41 ?_
  refine V_icmp_ge (tgt := 61) dA_bodyFrom_42 rfl (fun h => absurd h (by decide)) (fun _ => ?_)
  refine V_gsB rfl dA_bodyFrom_45 fwA_52 ?_
  refine V_iload dA_bodyFrom_48 rfl ?_
  refine V_tB dA_bodyFrom_50 (vp_in_nI (n := 18) (N := 21) (by decide) (by decide)) ?_
  refine V_topI (x' := 71) (by decide) ?_
  refine V_if_eq (tgt := 61) dA_bodyFrom_51 rfl (fun h => absurd h (by decide)) (fun _ => ?_)
  refine V_gsB rfl dA_bodyFrom_54 fwA_52 ?_
  refine V_iload dA_bodyFrom_57 rfl ?_
  refine V_tB dA_bodyFrom_59 (vp_in_nI (n := 18) (N := 21) (by decide) (by decide)) ?_
  refine V_topI (x' := 71) (by decide) ?_
  exact V_iret dA_bodyFrom_60 rfl rfl ⟨rfl, rfl, rfl⟩
theorem c_bf_6_1 {l : Launch} {G : GT} {σ : Hp} : MM l G mA_bodyFrom 0 0 0 [.int 6, .int 1] KA σ (PE (some (.int 70)) KA σ) := by
  refine MM.of (loc := [(0, .int 6), (1, .int 1)]) (by decide +kernel) rfl (Nat.le_of_ble_eq_true rfl) ?_
  refine V_iload_n dA_bodyFrom_0 rfl ?_
  refine V_istore_n (loc' := [(2, .int 6), (0, .int 6), (1, .int 1)]) dA_bodyFrom_1 (by decide) rfl ?_
  refine V_iconst (v := 0) dA_bodyFrom_2 (by decide) ?_
  refine V_istore_n (loc' := [(3, .int 0), (2, .int 6), (0, .int 6), (1, .int 1)]) dA_bodyFrom_3 (by decide) rfl ?_
  refine V_iload_n dA_bodyFrom_4 rfl ?_
  refine V_gsAN rfl dA_bodyFrom_5 ?_
  refine V_tAl dA_bodyFrom_8 ?_
  refine V_icmp_ge (tgt := 73) dA_bodyFrom_9 rfl (fun h => absurd h (by decide)) (fun _ => ?_)
  refine V_iload_n dA_bodyFrom_12 rfl ?_
  refine V_if_lt (tgt := 73) dA_bodyFrom_13 rfl (fun h => absurd h (by decide)) (fun _ => ?_)
  refine V_iload_n dA_bodyFrom_16 rfl ?_
  refine V_gsAN rfl dA_bodyFrom_17 ?_
  refine V_tAl dA_bodyFrom_20 ?_
  refine V_icmp_ge (tgt := 73) dA_bodyFrom_21 rfl (fun h => absurd h (by decide)) (fun _ => ?_)
  refine V_iload_n dA_bodyFrom_24 rfl ?_
  refine V_iconst (v := 3) dA_bodyFrom_25 (by decide) ?_
  refine V_imul dA_bodyFrom_26 ?_
  refine V_topI (x' := 18) (by decide) ?_
  refine V_iload_n dA_bodyFrom_27 rfl ?_
  refine V_iadd dA_bodyFrom_28 ?_
  refine V_topI (x' := 19) (by decide) ?_
  refine V_istore (loc' := [(4, .int 19), (3, .int 0), (2, .int 6), (0, .int 6), (1, .int 1)]) dA_bodyFrom_29 (by decide) rfl ?_
  refine V_iload dA_bodyFrom_31 rfl ?_
  refine V_if_lt (tgt := 61) dA_bodyFrom_33 rfl (fun h => absurd h (by decide)) (fun _ => ?_)
  refine V_iload dA_bodyFrom_36 rfl ?_
  refine V_gsB rfl dA_bodyFrom_38 fwA_52 ?_
  refine V_tBl dA_bodyFrom_41 ?_
  refine V_icmp_ge (tgt := 61) dA_bodyFrom_42 rfl (fun h => absurd h (by decide)) (fun _ => ?_)
  refine V_gsB rfl dA_bodyFrom_45 fwA_52 ?_
  refine V_iload dA_bodyFrom_48 rfl ?_
  refine V_tB dA_bodyFrom_50 (vp_in_nI (n := 19) (N := 21) (by decide) (by decide)) ?_
  refine V_topI (x' := 70) (by decide) ?_
  refine V_if_eq (tgt := 61) dA_bodyFrom_51 rfl (fun h => absurd h (by decide)) (fun _ => ?_)
  refine V_gsB rfl dA_bodyFrom_54 fwA_52 ?_
  refine V_iload dA_bodyFrom_57 rfl ?_
  refine V_tB dA_bodyFrom_59 (vp_in_nI (n := 19) (N := 21) (by decide) (by decide)) ?_
  refine V_topI (x' := 70) (by decide) ?_
  exact V_iret dA_bodyFrom_60 rfl rfl ⟨rfl, rfl, rfl⟩
theorem c_bf_6_2 {l : Launch} {G : GT} {σ : Hp} : MM l G mA_bodyFrom 0 0 0 [.int 6, .int 2] KA σ (PE (some (.int 40)) KA σ) := by
  refine MM.of (loc := [(0, .int 6), (1, .int 2)]) (by decide +kernel) rfl (Nat.le_of_ble_eq_true rfl) ?_
  refine V_iload_n dA_bodyFrom_0 rfl ?_
  refine V_istore_n (loc' := [(2, .int 6), (0, .int 6), (1, .int 2)]) dA_bodyFrom_1 (by decide) rfl ?_
  refine V_iconst (v := 0) dA_bodyFrom_2 (by decide) ?_
  refine V_istore_n (loc' := [(3, .int 0), (2, .int 6), (0, .int 6), (1, .int 2)]) dA_bodyFrom_3 (by decide) rfl ?_
  refine V_iload_n dA_bodyFrom_4 rfl ?_
  refine V_gsAN rfl dA_bodyFrom_5 ?_
  refine V_tAl dA_bodyFrom_8 ?_
  refine V_icmp_ge (tgt := 73) dA_bodyFrom_9 rfl (fun h => absurd h (by decide)) (fun _ => ?_)
  refine V_iload_n dA_bodyFrom_12 rfl ?_
  refine V_if_lt (tgt := 73) dA_bodyFrom_13 rfl (fun h => absurd h (by decide)) (fun _ => ?_)
  refine V_iload_n dA_bodyFrom_16 rfl ?_
  refine V_gsAN rfl dA_bodyFrom_17 ?_
  refine V_tAl dA_bodyFrom_20 ?_
  refine V_icmp_ge (tgt := 73) dA_bodyFrom_21 rfl (fun h => absurd h (by decide)) (fun _ => ?_)
  refine V_iload_n dA_bodyFrom_24 rfl ?_
  refine V_iconst (v := 3) dA_bodyFrom_25 (by decide) ?_
  refine V_imul dA_bodyFrom_26 ?_
  refine V_topI (x' := 18) (by decide) ?_
  refine V_iload_n dA_bodyFrom_27 rfl ?_
  refine V_iadd dA_bodyFrom_28 ?_
  refine V_topI (x' := 20) (by decide) ?_
  refine V_istore (loc' := [(4, .int 20), (3, .int 0), (2, .int 6), (0, .int 6), (1, .int 2)]) dA_bodyFrom_29 (by decide) rfl ?_
  refine V_iload dA_bodyFrom_31 rfl ?_
  refine V_if_lt (tgt := 61) dA_bodyFrom_33 rfl (fun h => absurd h (by decide)) (fun _ => ?_)
  refine V_iload dA_bodyFrom_36 rfl ?_
  refine V_gsB rfl dA_bodyFrom_38 fwA_52 ?_
  refine V_tBl dA_bodyFrom_41 ?_
  refine V_icmp_ge (tgt := 61) dA_bodyFrom_42 rfl (fun h => absurd h (by decide)) (fun _ => ?_)
  refine V_gsB rfl dA_bodyFrom_45 fwA_52 ?_
  refine V_iload dA_bodyFrom_48 rfl ?_
  refine V_tB dA_bodyFrom_50 (vp_in_nI (n := 20) (N := 21) (by decide) (by decide)) ?_
  refine V_topI (x' := 0) (by decide) ?_
  refine V_if_eq (tgt := 61) dA_bodyFrom_51 rfl (fun _ => ?_) (fun h => absurd h (by decide))
  refine V_gsAN rfl dA_bodyFrom_61 ?_
  refine V_iload_n dA_bodyFrom_64 rfl ?_
  refine V_tA dA_bodyFrom_65 (vp_in_nI (n := 6) (N := 7) (by decide) (by decide)) ?_
  refine V_topI (x' := 3) (by decide) ?_
  refine V_istore_n (loc' := [(2, .int 3), (4, .int 20), (3, .int 0), (0, .int 6), (1, .int 2)]) dA_bodyFrom_66 (by decide) rfl ?_
  refine V_iinc (v := 1) (loc' := [(3, .int 1), (2, .int 3), (4, .int 20), (0, .int 6), (1, .int 2)]) dA_bodyFrom_67 rfl (by decide) (by decide) rfl ?_
  refine V_goto (tgt := 4) dA_bodyFrom_70 rfl ?_
  refine V_iload_n dA_bodyFrom_4 rfl ?_
  refine V_gsAN rfl dA_bodyFrom_5 ?_
  refine V_tAl dA_bodyFrom_8 ?_
  refine V_icmp_ge (tgt := 73) dA_bodyFrom_9 rfl (fun h => absurd h (by decide)) (fun _ => ?_)
  refine V_iload_n dA_bodyFrom_12 rfl ?_
  refine V_if_lt (tgt := 73) dA_bodyFrom_13 rfl (fun h => absurd h (by decide)) (fun _ => ?_)
  refine V_iload_n dA_bodyFrom_16 rfl ?_
  refine V_gsAN rfl dA_bodyFrom_17 ?_
  refine V_tAl dA_bodyFrom_20 ?_
  refine V_icmp_ge (tgt := 73) dA_bodyFrom_21 rfl (fun h => absurd h (by decide)) (fun _ => ?_)
  refine V_iload_n dA_bodyFrom_24 rfl ?_
  refine V_iconst (v := 3) dA_bodyFrom_25 (by decide) ?_
  refine V_imul dA_bodyFrom_26 ?_
  refine V_topI (x' := 9) (by decide) ?_
  refine V_iload_n dA_bodyFrom_27 rfl ?_
  refine V_iadd dA_bodyFrom_28 ?_
  refine V_topI (x' := 11) (by decide) ?_
  refine V_istore (loc' := [(4, .int 11), (3, .int 1), (2, .int 3), (0, .int 6), (1, .int 2)]) dA_bodyFrom_29 (by decide) rfl ?_
  refine V_iload dA_bodyFrom_31 rfl ?_
  refine V_if_lt (tgt := 61) dA_bodyFrom_33 rfl (fun h => absurd h (by decide)) (fun _ => ?_)
  refine V_iload dA_bodyFrom_36 rfl ?_
  refine V_gsB rfl dA_bodyFrom_38 fwA_52 ?_
  refine V_tBl dA_bodyFrom_41 ?_
  refine V_icmp_ge (tgt := 61) dA_bodyFrom_42 rfl (fun h => absurd h (by decide)) (fun _ => ?_)
  refine V_gsB rfl dA_bodyFrom_45 fwA_52 ?_
  refine V_iload dA_bodyFrom_48 rfl ?_
  refine V_tB dA_bodyFrom_50 (vp_in_nI (n := 11) (N := 21) (by decide) (by decide)) ?_
  refine V_topI (x' := 40) (by decide) ?_
  refine V_if_eq (tgt := 61) dA_bodyFrom_51 rfl (fun h => absurd h (by decide)) (fun _ => ?_)
  refine V_gsB rfl dA_bodyFrom_54 fwA_52 ?_
  refine V_iload dA_bodyFrom_57 rfl ?_
  refine V_tB dA_bodyFrom_59 (vp_in_nI (n := 11) (N := 21) (by decide) (by decide)) ?_
  refine V_topI (x' := 40) (by decide) ?_
  exact V_iret dA_bodyFrom_60 rfl rfl ⟨rfl, rfl, rfl⟩
theorem c_thr_0_0_0_0 {l : Launch} {G : GT} {L : Nat → List Cl} {M σ : Hp} (hC : RC L M σ) {num v : Int32} (hf : fA σ 0 num v) (hr : gi M 76 57 = nI 1) (x : Int32) {dp : Nat} (hd : dp < 31) : MM l G mA_through 0 0 0 [.ref 64, .int 10, .int x, .int (nI dp)] KA σ (PA L M σ (some (.int (x + num)))) := by
  have hR := hC.1
  have hC0 := hC
  have hS : Sm σ σ := Sm.rfl
  have hA : ∀ j : Nat, ¬ j = 0 → gi σ 64 j = gi σ 64 j := fun _ _ => rfl
  have hf0 := hf
  refine MM.of (loc := [(0, .ref 64), (1, .int 10), (2, .int x), (3, .int (nI dp))]) (by decide +kernel) rfl (Nat.le_of_ble_eq_true rfl) ?_
  refine V_iload_n dA_through_0 rfl ?_
  refine V_lsw (tgt := 100) dA_through_1 (by decide) rfl rfl ?_
  refine V_iload_n dA_through_100 rfl ?_
  refine V_aload_n dA_through_101 rfl ?_
  refine V_getE (x := num) dA_through_102 flA_28 k64 rfl hf.2.1 ?_
  refine V_iadd dA_through_105 ?_
  exact V_iret dA_through_106 rfl rfl ⟨rfl, rfl, hC, hS, hA⟩
theorem c_run_0_0_0_0 {l : Launch} {G : GT} {L : Nat → List Cl} {M σ : Hp} (hC : RC L M σ) {num v : Int32} (hf : fA σ 0 num v) (hr : gi M 76 57 = nI 0) (x : Int32) {dp : Nat} (hd : dp < 30) : MM l G mA_run 1 0 0 [.ref 64, .int 0, .int 0, .int x, .int (nI dp)] KA σ (PA L (bodyL 0 10 M) σ (some (.int (x + num)))) := by
  have hR := hC.1
  have hC0 := hC
  have hS : Sm σ σ := Sm.rfl
  have hA : ∀ j : Nat, ¬ j = 0 → gi σ 64 j = gi σ 64 j := fun _ _ => rfl
  have hf0 := hf
  refine MM.of (loc := [(0, .ref 64), (1, .int 0), (2, .int 0), (3, .int x), (4, .int (nI dp))]) (by decide +kernel) rfl (Nat.le_of_ble_eq_true rfl) ?_
  refine V_iload dA_run_0 rfl ?_
  refine V_bipush (v := 40) dA_run_2 (by decide) ?_
  refine V_icmp_lt (tgt := 9) dA_run_4 rfl (fun _ => ?_) (fun h => absurd h (not_not_intro (nI_lt (a := dp) (b := 40) (by omega) (by decide))))
  refine V_iload_n dA_run_9 rfl ?_
  refine V_iload_n dA_run_10 rfl ?_
  refine V_callS (as := [.int 0, .int 0]) (rest := []) (bs' := 0) rfl dA_run_11 cmA_bodyFrom stA_bodyFrom mlA_37 rfl rfl c_bf_0_0 (by decide) (Nat.le_refl _) (by decide) (Nat.le_of_ble_eq_true rfl) ?_
  rintro _ _ _ ⟨rfl, rfl, rfl⟩ -
  refine V_one ?_
  refine V_istore (loc' := [(5, .int 10), (0, .ref 64), (1, .int 0), (2, .int 0), (3, .int x), (4, .int (nI dp))]) dA_run_14 (by decide) rfl ?_
  refine V_aload_n dA_run_16 rfl ?_
  refine V_iload dA_run_17 rfl ?_
  refine V_callV (as := [.int 10]) (rest := []) (bs' := 0) rfl dA_run_19 cmA_begin cvA_begin mlA_41 (Or.inl ⟨_, _, _, _, _, rfl, k64, by decide, rfl⟩) rfl rfl (c_begin hC (by decide) hr 10) (by decide) (Nat.le_refl _) (by decide) (Nat.le_of_ble_eq_true rfl) ?_
  rintro _ _ s1 ⟨rfl, rfl, hC, hS1, hA1⟩ -
  refine V_non ?_
  have hS := hS.trans hS1
  have hA : ∀ j : Nat, ¬ j = 0 → gi s1 64 j = gi σ 64 j := fun j h => (hA1 j h).trans (hA j h)
  have hf := hf0.to hA
  have hr : gi (bodyL 0 10 M) 76 57 = nI 1 := gi_eq
  refine V_aload_n dA_run_22 rfl ?_
  refine V_iload dA_run_23 rfl ?_
  refine V_iload_n dA_run_25 rfl ?_
  refine V_iload dA_run_26 rfl ?_
  refine V_iconst (v := 1) dA_run_28 (by decide) ?_
  refine V_iadd dA_run_29 ?_
  refine V_topI (x' := nI (dp + 1)) (nI_1 _) ?_
  refine V_callV (as := [.int 10, .int x, .int (nI (dp + 1))]) (rest := []) (bs' := 0) rfl dA_run_30 cmA_through cvA_through mlA_45 (Or.inl ⟨_, _, _, _, _, rfl, k64, by decide, rfl⟩) rfl rfl (c_thr_0_0_0_0 hC hf hr x (dp := dp + 1) (by omega)) (by decide) (Nat.le_refl _) (by decide) (Nat.le_of_ble_eq_true rfl) ?_
  rintro _ _ s2 ⟨rfl, rfl, hC, hS1, hA1⟩ -
  refine V_one ?_
  have hS := hS.trans hS1
  have hA : ∀ j : Nat, ¬ j = 0 → gi s2 64 j = gi σ 64 j := fun j h => (hA1 j h).trans (hA j h)
  exact V_iret dA_run_33 rfl rfl ⟨rfl, rfl, hC, hS, hA⟩
theorem c_thr_0_0_0_1 {l : Launch} {G : GT} {L : Nat → List Cl} {M σ : Hp} (hC : RC L M σ) {num v : Int32} (hf : fA σ 0 num v) (hr : gi M 76 57 = nI 2) (x : Int32) {dp : Nat} (hd : dp < 31) : MM l G mA_through 0 0 0 [.ref 64, .int 10, .int x, .int (nI dp)] KA σ (PA L M σ (some (.int (x + num)))) := by
  have hR := hC.1
  have hC0 := hC
  have hS : Sm σ σ := Sm.rfl
  have hA : ∀ j : Nat, ¬ j = 0 → gi σ 64 j = gi σ 64 j := fun _ _ => rfl
  have hf0 := hf
  refine MM.of (loc := [(0, .ref 64), (1, .int 10), (2, .int x), (3, .int (nI dp))]) (by decide +kernel) rfl (Nat.le_of_ble_eq_true rfl) ?_
  refine V_iload_n dA_through_0 rfl ?_
  refine V_lsw (tgt := 100) dA_through_1 (by decide) rfl rfl ?_
  refine V_iload_n dA_through_100 rfl ?_
  refine V_aload_n dA_through_101 rfl ?_
  refine V_getE (x := num) dA_through_102 flA_28 k64 rfl hf.2.1 ?_
  refine V_iadd dA_through_105 ?_
  exact V_iret dA_through_106 rfl rfl ⟨rfl, rfl, hC, hS, hA⟩
theorem c_run_0_0_0_1 {l : Launch} {G : GT} {L : Nat → List Cl} {M σ : Hp} (hC : RC L M σ) {num v : Int32} (hf : fA σ 0 num v) (hr : gi M 76 57 = nI 1) (x : Int32) {dp : Nat} (hd : dp < 30) : MM l G mA_run 1 0 0 [.ref 64, .int 0, .int 0, .int x, .int (nI dp)] KA σ (PA L (bodyL 1 10 M) σ (some (.int (x + num)))) := by
  have hR := hC.1
  have hC0 := hC
  have hS : Sm σ σ := Sm.rfl
  have hA : ∀ j : Nat, ¬ j = 0 → gi σ 64 j = gi σ 64 j := fun _ _ => rfl
  have hf0 := hf
  refine MM.of (loc := [(0, .ref 64), (1, .int 0), (2, .int 0), (3, .int x), (4, .int (nI dp))]) (by decide +kernel) rfl (Nat.le_of_ble_eq_true rfl) ?_
  refine V_iload dA_run_0 rfl ?_
  refine V_bipush (v := 40) dA_run_2 (by decide) ?_
  refine V_icmp_lt (tgt := 9) dA_run_4 rfl (fun _ => ?_) (fun h => absurd h (not_not_intro (nI_lt (a := dp) (b := 40) (by omega) (by decide))))
  refine V_iload_n dA_run_9 rfl ?_
  refine V_iload_n dA_run_10 rfl ?_
  refine V_callS (as := [.int 0, .int 0]) (rest := []) (bs' := 0) rfl dA_run_11 cmA_bodyFrom stA_bodyFrom mlA_37 rfl rfl c_bf_0_0 (by decide) (Nat.le_refl _) (by decide) (Nat.le_of_ble_eq_true rfl) ?_
  rintro _ _ _ ⟨rfl, rfl, rfl⟩ -
  refine V_one ?_
  refine V_istore (loc' := [(5, .int 10), (0, .ref 64), (1, .int 0), (2, .int 0), (3, .int x), (4, .int (nI dp))]) dA_run_14 (by decide) rfl ?_
  refine V_aload_n dA_run_16 rfl ?_
  refine V_iload dA_run_17 rfl ?_
  refine V_callV (as := [.int 10]) (rest := []) (bs' := 0) rfl dA_run_19 cmA_begin cvA_begin mlA_41 (Or.inl ⟨_, _, _, _, _, rfl, k64, by decide, rfl⟩) rfl rfl (c_begin hC (by decide) hr 10) (by decide) (Nat.le_refl _) (by decide) (Nat.le_of_ble_eq_true rfl) ?_
  rintro _ _ s1 ⟨rfl, rfl, hC, hS1, hA1⟩ -
  refine V_non ?_
  have hS := hS.trans hS1
  have hA : ∀ j : Nat, ¬ j = 0 → gi s1 64 j = gi σ 64 j := fun j h => (hA1 j h).trans (hA j h)
  have hf := hf0.to hA
  have hr : gi (bodyL 1 10 M) 76 57 = nI 2 := gi_eq
  refine V_aload_n dA_run_22 rfl ?_
  refine V_iload dA_run_23 rfl ?_
  refine V_iload_n dA_run_25 rfl ?_
  refine V_iload dA_run_26 rfl ?_
  refine V_iconst (v := 1) dA_run_28 (by decide) ?_
  refine V_iadd dA_run_29 ?_
  refine V_topI (x' := nI (dp + 1)) (nI_1 _) ?_
  refine V_callV (as := [.int 10, .int x, .int (nI (dp + 1))]) (rest := []) (bs' := 0) rfl dA_run_30 cmA_through cvA_through mlA_45 (Or.inl ⟨_, _, _, _, _, rfl, k64, by decide, rfl⟩) rfl rfl (c_thr_0_0_0_1 hC hf hr x (dp := dp + 1) (by omega)) (by decide) (Nat.le_refl _) (by decide) (Nat.le_of_ble_eq_true rfl) ?_
  rintro _ _ s2 ⟨rfl, rfl, hC, hS1, hA1⟩ -
  refine V_one ?_
  have hS := hS.trans hS1
  have hA : ∀ j : Nat, ¬ j = 0 → gi s2 64 j = gi σ 64 j := fun j h => (hA1 j h).trans (hA j h)
  exact V_iret dA_run_33 rfl rfl ⟨rfl, rfl, hC, hS, hA⟩
theorem c_thr_0_0_1_0 {l : Launch} {G : GT} {L : Nat → List Cl} {M σ : Hp} (hC : RC L M σ) {num v : Int32} (hf : fA σ 0 num v) (hr : gi M 76 57 = nI 1) (x : Int32) {dp : Nat} (hd : dp < 29) : MM l G mA_through 2 0 0 [.ref 64, .int 11, .int x, .int (nI dp)] KA σ (PA L (bodyL 1 10 M) σ (some (.int ((x + num) - v)))) := by
  have hR := hC.1
  have hC0 := hC
  have hS : Sm σ σ := Sm.rfl
  have hA : ∀ j : Nat, ¬ j = 0 → gi σ 64 j = gi σ 64 j := fun _ _ => rfl
  have hf0 := hf
  refine MM.of (loc := [(0, .ref 64), (1, .int 11), (2, .int x), (3, .int (nI dp))]) (by decide +kernel) rfl (Nat.le_of_ble_eq_true rfl) ?_
  refine V_iload_n dA_through_0 rfl ?_
  refine V_lsw (tgt := 107) dA_through_1 (by decide) rfl rfl ?_
  refine V_aload_n dA_through_107 rfl ?_
  refine V_aload_n dA_through_108 rfl ?_
  refine V_getE (x := 0) dA_through_109 flA_24 k64 rfl hf.1 ?_
  refine V_iconst (v := 0) dA_through_112 (by decide) ?_
  refine V_iload_n dA_through_113 rfl ?_
  refine V_iload_n dA_through_114 rfl ?_
  refine V_callV (as := [.int 0, .int 0, .int x, .int (nI dp)]) (rest := []) (bs' := 0) rfl dA_through_115 cmA_run cvA_run mlA_33 (Or.inl ⟨_, _, _, _, _, rfl, k64, by decide, rfl⟩) rfl rfl (c_run_0_0_0_1 hC hf hr x (dp := dp) (by omega)) (by decide) (Nat.le_refl _) (by decide) (Nat.le_of_ble_eq_true rfl) ?_
  rintro _ _ s115 ⟨rfl, rfl, hC, hS1, hA1⟩ -
  refine V_one ?_
  have hS := hS.trans hS1
  have hA : ∀ j : Nat, ¬ j = 0 → gi s115 64 j = gi σ 64 j := fun j h => (hA1 j h).trans (hA j h)
  have hf := hf0.to hA
  have hr : gi (bodyL 1 10 M) 76 57 = nI 2 := gi_eq
  have hR := hC.1
  refine V_aload_n dA_through_118 rfl ?_
  refine V_getE (x := v) dA_through_119 flA_32 k64 rfl hf.2.2 ?_
  refine V_isub dA_through_122 ?_
  exact V_iret dA_through_123 rfl rfl ⟨rfl, rfl, hC, hS, hA⟩
theorem c_run_0_0_1_0 {l : Launch} {G : GT} {L : Nat → List Cl} {M σ : Hp} (hC : RC L M σ) {num v : Int32} (hf : fA σ 0 num v) (hr : gi M 76 57 = nI 0) (x : Int32) {dp : Nat} (hd : dp < 28) : MM l G mA_run 3 0 0 [.ref 64, .int 0, .int 1, .int x, .int (nI dp)] KA σ (PA L (bodyL 1 10 (bodyL 0 11 M)) σ (some (.int ((x + num) - v)))) := by
  have hR := hC.1
  have hC0 := hC
  have hS : Sm σ σ := Sm.rfl
  have hA : ∀ j : Nat, ¬ j = 0 → gi σ 64 j = gi σ 64 j := fun _ _ => rfl
  have hf0 := hf
  refine MM.of (loc := [(0, .ref 64), (1, .int 0), (2, .int 1), (3, .int x), (4, .int (nI dp))]) (by decide +kernel) rfl (Nat.le_of_ble_eq_true rfl) ?_
  refine V_iload dA_run_0 rfl ?_
  refine V_bipush (v := 40) dA_run_2 (by decide) ?_
  refine V_icmp_lt (tgt := 9) dA_run_4 rfl (fun _ => ?_) (fun h => absurd h (not_not_intro (nI_lt (a := dp) (b := 40) (by omega) (by decide))))
  refine V_iload_n dA_run_9 rfl ?_
  refine V_iload_n dA_run_10 rfl ?_
  refine V_callS (as := [.int 0, .int 1]) (rest := []) (bs' := 0) rfl dA_run_11 cmA_bodyFrom stA_bodyFrom mlA_37 rfl rfl c_bf_0_1 (by decide) (Nat.le_refl _) (by decide) (Nat.le_of_ble_eq_true rfl) ?_
  rintro _ _ _ ⟨rfl, rfl, rfl⟩ -
  refine V_one ?_
  refine V_istore (loc' := [(5, .int 11), (0, .ref 64), (1, .int 0), (2, .int 1), (3, .int x), (4, .int (nI dp))]) dA_run_14 (by decide) rfl ?_
  refine V_aload_n dA_run_16 rfl ?_
  refine V_iload dA_run_17 rfl ?_
  refine V_callV (as := [.int 11]) (rest := []) (bs' := 0) rfl dA_run_19 cmA_begin cvA_begin mlA_41 (Or.inl ⟨_, _, _, _, _, rfl, k64, by decide, rfl⟩) rfl rfl (c_begin hC (by decide) hr 11) (by decide) (Nat.le_refl _) (by decide) (Nat.le_of_ble_eq_true rfl) ?_
  rintro _ _ s1 ⟨rfl, rfl, hC, hS1, hA1⟩ -
  refine V_non ?_
  have hS := hS.trans hS1
  have hA : ∀ j : Nat, ¬ j = 0 → gi s1 64 j = gi σ 64 j := fun j h => (hA1 j h).trans (hA j h)
  have hf := hf0.to hA
  have hr : gi (bodyL 0 11 M) 76 57 = nI 1 := gi_eq
  refine V_aload_n dA_run_22 rfl ?_
  refine V_iload dA_run_23 rfl ?_
  refine V_iload_n dA_run_25 rfl ?_
  refine V_iload dA_run_26 rfl ?_
  refine V_iconst (v := 1) dA_run_28 (by decide) ?_
  refine V_iadd dA_run_29 ?_
  refine V_topI (x' := nI (dp + 1)) (nI_1 _) ?_
  refine V_callV (as := [.int 11, .int x, .int (nI (dp + 1))]) (rest := []) (bs' := 0) rfl dA_run_30 cmA_through cvA_through mlA_45 (Or.inl ⟨_, _, _, _, _, rfl, k64, by decide, rfl⟩) rfl rfl (c_thr_0_0_1_0 hC hf hr x (dp := dp + 1) (by omega)) (by decide) (Nat.le_refl _) (by decide) (Nat.le_of_ble_eq_true rfl) ?_
  rintro _ _ s2 ⟨rfl, rfl, hC, hS1, hA1⟩ -
  refine V_one ?_
  have hS := hS.trans hS1
  have hA : ∀ j : Nat, ¬ j = 0 → gi s2 64 j = gi σ 64 j := fun j h => (hA1 j h).trans (hA j h)
  exact V_iret dA_run_33 rfl rfl ⟨rfl, rfl, hC, hS, hA⟩
theorem c_thr_0_0_0_2 {l : Launch} {G : GT} {L : Nat → List Cl} {M σ : Hp} (hC : RC L M σ) {num v : Int32} (hf : fA σ 0 num v) (hr : gi M 76 57 = nI 3) (x : Int32) {dp : Nat} (hd : dp < 31) : MM l G mA_through 0 0 0 [.ref 64, .int 10, .int x, .int (nI dp)] KA σ (PA L M σ (some (.int (x + num)))) := by
  have hR := hC.1
  have hC0 := hC
  have hS : Sm σ σ := Sm.rfl
  have hA : ∀ j : Nat, ¬ j = 0 → gi σ 64 j = gi σ 64 j := fun _ _ => rfl
  have hf0 := hf
  refine MM.of (loc := [(0, .ref 64), (1, .int 10), (2, .int x), (3, .int (nI dp))]) (by decide +kernel) rfl (Nat.le_of_ble_eq_true rfl) ?_
  refine V_iload_n dA_through_0 rfl ?_
  refine V_lsw (tgt := 100) dA_through_1 (by decide) rfl rfl ?_
  refine V_iload_n dA_through_100 rfl ?_
  refine V_aload_n dA_through_101 rfl ?_
  refine V_getE (x := num) dA_through_102 flA_28 k64 rfl hf.2.1 ?_
  refine V_iadd dA_through_105 ?_
  exact V_iret dA_through_106 rfl rfl ⟨rfl, rfl, hC, hS, hA⟩
theorem c_run_0_0_0_2 {l : Launch} {G : GT} {L : Nat → List Cl} {M σ : Hp} (hC : RC L M σ) {num v : Int32} (hf : fA σ 0 num v) (hr : gi M 76 57 = nI 2) (x : Int32) {dp : Nat} (hd : dp < 30) : MM l G mA_run 1 0 0 [.ref 64, .int 0, .int 0, .int x, .int (nI dp)] KA σ (PA L (bodyL 2 10 M) σ (some (.int (x + num)))) := by
  have hR := hC.1
  have hC0 := hC
  have hS : Sm σ σ := Sm.rfl
  have hA : ∀ j : Nat, ¬ j = 0 → gi σ 64 j = gi σ 64 j := fun _ _ => rfl
  have hf0 := hf
  refine MM.of (loc := [(0, .ref 64), (1, .int 0), (2, .int 0), (3, .int x), (4, .int (nI dp))]) (by decide +kernel) rfl (Nat.le_of_ble_eq_true rfl) ?_
  refine V_iload dA_run_0 rfl ?_
  refine V_bipush (v := 40) dA_run_2 (by decide) ?_
  refine V_icmp_lt (tgt := 9) dA_run_4 rfl (fun _ => ?_) (fun h => absurd h (not_not_intro (nI_lt (a := dp) (b := 40) (by omega) (by decide))))
  refine V_iload_n dA_run_9 rfl ?_
  refine V_iload_n dA_run_10 rfl ?_
  refine V_callS (as := [.int 0, .int 0]) (rest := []) (bs' := 0) rfl dA_run_11 cmA_bodyFrom stA_bodyFrom mlA_37 rfl rfl c_bf_0_0 (by decide) (Nat.le_refl _) (by decide) (Nat.le_of_ble_eq_true rfl) ?_
  rintro _ _ _ ⟨rfl, rfl, rfl⟩ -
  refine V_one ?_
  refine V_istore (loc' := [(5, .int 10), (0, .ref 64), (1, .int 0), (2, .int 0), (3, .int x), (4, .int (nI dp))]) dA_run_14 (by decide) rfl ?_
  refine V_aload_n dA_run_16 rfl ?_
  refine V_iload dA_run_17 rfl ?_
  refine V_callV (as := [.int 10]) (rest := []) (bs' := 0) rfl dA_run_19 cmA_begin cvA_begin mlA_41 (Or.inl ⟨_, _, _, _, _, rfl, k64, by decide, rfl⟩) rfl rfl (c_begin hC (by decide) hr 10) (by decide) (Nat.le_refl _) (by decide) (Nat.le_of_ble_eq_true rfl) ?_
  rintro _ _ s1 ⟨rfl, rfl, hC, hS1, hA1⟩ -
  refine V_non ?_
  have hS := hS.trans hS1
  have hA : ∀ j : Nat, ¬ j = 0 → gi s1 64 j = gi σ 64 j := fun j h => (hA1 j h).trans (hA j h)
  have hf := hf0.to hA
  have hr : gi (bodyL 2 10 M) 76 57 = nI 3 := gi_eq
  refine V_aload_n dA_run_22 rfl ?_
  refine V_iload dA_run_23 rfl ?_
  refine V_iload_n dA_run_25 rfl ?_
  refine V_iload dA_run_26 rfl ?_
  refine V_iconst (v := 1) dA_run_28 (by decide) ?_
  refine V_iadd dA_run_29 ?_
  refine V_topI (x' := nI (dp + 1)) (nI_1 _) ?_
  refine V_callV (as := [.int 10, .int x, .int (nI (dp + 1))]) (rest := []) (bs' := 0) rfl dA_run_30 cmA_through cvA_through mlA_45 (Or.inl ⟨_, _, _, _, _, rfl, k64, by decide, rfl⟩) rfl rfl (c_thr_0_0_0_2 hC hf hr x (dp := dp + 1) (by omega)) (by decide) (Nat.le_refl _) (by decide) (Nat.le_of_ble_eq_true rfl) ?_
  rintro _ _ s2 ⟨rfl, rfl, hC, hS1, hA1⟩ -
  refine V_one ?_
  have hS := hS.trans hS1
  have hA : ∀ j : Nat, ¬ j = 0 → gi s2 64 j = gi σ 64 j := fun j h => (hA1 j h).trans (hA j h)
  exact V_iret dA_run_33 rfl rfl ⟨rfl, rfl, hC, hS, hA⟩
theorem c_thr_0_0_1_1 {l : Launch} {G : GT} {L : Nat → List Cl} {M σ : Hp} (hC : RC L M σ) {num v : Int32} (hf : fA σ 0 num v) (hr : gi M 76 57 = nI 2) (x : Int32) {dp : Nat} (hd : dp < 29) : MM l G mA_through 2 0 0 [.ref 64, .int 11, .int x, .int (nI dp)] KA σ (PA L (bodyL 2 10 M) σ (some (.int ((x + num) - v)))) := by
  have hR := hC.1
  have hC0 := hC
  have hS : Sm σ σ := Sm.rfl
  have hA : ∀ j : Nat, ¬ j = 0 → gi σ 64 j = gi σ 64 j := fun _ _ => rfl
  have hf0 := hf
  refine MM.of (loc := [(0, .ref 64), (1, .int 11), (2, .int x), (3, .int (nI dp))]) (by decide +kernel) rfl (Nat.le_of_ble_eq_true rfl) ?_
  refine V_iload_n dA_through_0 rfl ?_
  refine V_lsw (tgt := 107) dA_through_1 (by decide) rfl rfl ?_
  refine V_aload_n dA_through_107 rfl ?_
  refine V_aload_n dA_through_108 rfl ?_
  refine V_getE (x := 0) dA_through_109 flA_24 k64 rfl hf.1 ?_
  refine V_iconst (v := 0) dA_through_112 (by decide) ?_
  refine V_iload_n dA_through_113 rfl ?_
  refine V_iload_n dA_through_114 rfl ?_
  refine V_callV (as := [.int 0, .int 0, .int x, .int (nI dp)]) (rest := []) (bs' := 0) rfl dA_through_115 cmA_run cvA_run mlA_33 (Or.inl ⟨_, _, _, _, _, rfl, k64, by decide, rfl⟩) rfl rfl (c_run_0_0_0_2 hC hf hr x (dp := dp) (by omega)) (by decide) (Nat.le_refl _) (by decide) (Nat.le_of_ble_eq_true rfl) ?_
  rintro _ _ s115 ⟨rfl, rfl, hC, hS1, hA1⟩ -
  refine V_one ?_
  have hS := hS.trans hS1
  have hA : ∀ j : Nat, ¬ j = 0 → gi s115 64 j = gi σ 64 j := fun j h => (hA1 j h).trans (hA j h)
  have hf := hf0.to hA
  have hr : gi (bodyL 2 10 M) 76 57 = nI 3 := gi_eq
  have hR := hC.1
  refine V_aload_n dA_through_118 rfl ?_
  refine V_getE (x := v) dA_through_119 flA_32 k64 rfl hf.2.2 ?_
  refine V_isub dA_through_122 ?_
  exact V_iret dA_through_123 rfl rfl ⟨rfl, rfl, hC, hS, hA⟩
theorem c_run_0_0_1_1 {l : Launch} {G : GT} {L : Nat → List Cl} {M σ : Hp} (hC : RC L M σ) {num v : Int32} (hf : fA σ 0 num v) (hr : gi M 76 57 = nI 1) (x : Int32) {dp : Nat} (hd : dp < 28) : MM l G mA_run 3 0 0 [.ref 64, .int 0, .int 1, .int x, .int (nI dp)] KA σ (PA L (bodyL 2 10 (bodyL 1 11 M)) σ (some (.int ((x + num) - v)))) := by
  have hR := hC.1
  have hC0 := hC
  have hS : Sm σ σ := Sm.rfl
  have hA : ∀ j : Nat, ¬ j = 0 → gi σ 64 j = gi σ 64 j := fun _ _ => rfl
  have hf0 := hf
  refine MM.of (loc := [(0, .ref 64), (1, .int 0), (2, .int 1), (3, .int x), (4, .int (nI dp))]) (by decide +kernel) rfl (Nat.le_of_ble_eq_true rfl) ?_
  refine V_iload dA_run_0 rfl ?_
  refine V_bipush (v := 40) dA_run_2 (by decide) ?_
  refine V_icmp_lt (tgt := 9) dA_run_4 rfl (fun _ => ?_) (fun h => absurd h (not_not_intro (nI_lt (a := dp) (b := 40) (by omega) (by decide))))
  refine V_iload_n dA_run_9 rfl ?_
  refine V_iload_n dA_run_10 rfl ?_
  refine V_callS (as := [.int 0, .int 1]) (rest := []) (bs' := 0) rfl dA_run_11 cmA_bodyFrom stA_bodyFrom mlA_37 rfl rfl c_bf_0_1 (by decide) (Nat.le_refl _) (by decide) (Nat.le_of_ble_eq_true rfl) ?_
  rintro _ _ _ ⟨rfl, rfl, rfl⟩ -
  refine V_one ?_
  refine V_istore (loc' := [(5, .int 11), (0, .ref 64), (1, .int 0), (2, .int 1), (3, .int x), (4, .int (nI dp))]) dA_run_14 (by decide) rfl ?_
  refine V_aload_n dA_run_16 rfl ?_
  refine V_iload dA_run_17 rfl ?_
  refine V_callV (as := [.int 11]) (rest := []) (bs' := 0) rfl dA_run_19 cmA_begin cvA_begin mlA_41 (Or.inl ⟨_, _, _, _, _, rfl, k64, by decide, rfl⟩) rfl rfl (c_begin hC (by decide) hr 11) (by decide) (Nat.le_refl _) (by decide) (Nat.le_of_ble_eq_true rfl) ?_
  rintro _ _ s1 ⟨rfl, rfl, hC, hS1, hA1⟩ -
  refine V_non ?_
  have hS := hS.trans hS1
  have hA : ∀ j : Nat, ¬ j = 0 → gi s1 64 j = gi σ 64 j := fun j h => (hA1 j h).trans (hA j h)
  have hf := hf0.to hA
  have hr : gi (bodyL 1 11 M) 76 57 = nI 2 := gi_eq
  refine V_aload_n dA_run_22 rfl ?_
  refine V_iload dA_run_23 rfl ?_
  refine V_iload_n dA_run_25 rfl ?_
  refine V_iload dA_run_26 rfl ?_
  refine V_iconst (v := 1) dA_run_28 (by decide) ?_
  refine V_iadd dA_run_29 ?_
  refine V_topI (x' := nI (dp + 1)) (nI_1 _) ?_
  refine V_callV (as := [.int 11, .int x, .int (nI (dp + 1))]) (rest := []) (bs' := 0) rfl dA_run_30 cmA_through cvA_through mlA_45 (Or.inl ⟨_, _, _, _, _, rfl, k64, by decide, rfl⟩) rfl rfl (c_thr_0_0_1_1 hC hf hr x (dp := dp + 1) (by omega)) (by decide) (Nat.le_refl _) (by decide) (Nat.le_of_ble_eq_true rfl) ?_
  rintro _ _ s2 ⟨rfl, rfl, hC, hS1, hA1⟩ -
  refine V_one ?_
  have hS := hS.trans hS1
  have hA : ∀ j : Nat, ¬ j = 0 → gi s2 64 j = gi σ 64 j := fun j h => (hA1 j h).trans (hA j h)
  exact V_iret dA_run_33 rfl rfl ⟨rfl, rfl, hC, hS, hA⟩
theorem c_thr_0_0_2_0 {l : Launch} {G : GT} {L : Nat → List Cl} {M σ : Hp} (hC : RC L M σ) {num v : Int32} (hf : fA σ 0 num v) (hr : gi M 76 57 = nI 1) (x : Int32) {dp : Nat} (hd : dp < 27) : MM l G mA_through 4 0 0 [.ref 64, .int 12, .int x, .int (nI dp)] KA σ (PA L (bodyL 2 10 (bodyL 1 11 M)) σ (some (.int (((x + num) - v) * 2)))) := by
  have hR := hC.1
  have hC0 := hC
  have hS : Sm σ σ := Sm.rfl
  have hA : ∀ j : Nat, ¬ j = 0 → gi σ 64 j = gi σ 64 j := fun _ _ => rfl
  have hf0 := hf
  refine MM.of (loc := [(0, .ref 64), (1, .int 12), (2, .int x), (3, .int (nI dp))]) (by decide +kernel) rfl (Nat.le_of_ble_eq_true rfl) ?_
  refine V_iload_n dA_through_0 rfl ?_
  refine V_lsw (tgt := 124) dA_through_1 (by decide) rfl rfl ?_
  refine V_aload_n dA_through_124 rfl ?_
  refine V_aload_n dA_through_125 rfl ?_
  refine V_getE (x := 0) dA_through_126 flA_24 k64 rfl hf.1 ?_
  refine V_iconst (v := 1) dA_through_129 (by decide) ?_
  refine V_iload_n dA_through_130 rfl ?_
  refine V_iload_n dA_through_131 rfl ?_
  refine V_callV (as := [.int 0, .int 1, .int x, .int (nI dp)]) (rest := []) (bs' := 0) rfl dA_through_132 cmA_run cvA_run mlA_33 (Or.inl ⟨_, _, _, _, _, rfl, k64, by decide, rfl⟩) rfl rfl (c_run_0_0_1_1 hC hf hr x (dp := dp) (by omega)) (by decide) (Nat.le_refl _) (by decide) (Nat.le_of_ble_eq_true rfl) ?_
  rintro _ _ s132 ⟨rfl, rfl, hC, hS1, hA1⟩ -
  refine V_one ?_
  have hS := hS.trans hS1
  have hA : ∀ j : Nat, ¬ j = 0 → gi s132 64 j = gi σ 64 j := fun j h => (hA1 j h).trans (hA j h)
  have hf := hf0.to hA
  have hr : gi (bodyL 2 10 (bodyL 1 11 M)) 76 57 = nI 3 := gi_eq
  have hR := hC.1
  refine V_iconst (v := 2) dA_through_135 (by decide) ?_
  refine V_imul dA_through_136 ?_
  exact V_iret dA_through_137 rfl rfl ⟨rfl, rfl, hC, hS, hA⟩
theorem c_run_0_0_2_0 {l : Launch} {G : GT} {L : Nat → List Cl} {M σ : Hp} (hC : RC L M σ) {num v : Int32} (hf : fA σ 0 num v) (hr : gi M 76 57 = nI 0) (x : Int32) {dp : Nat} (hd : dp < 26) : MM l G mA_run 5 0 0 [.ref 64, .int 0, .int 2, .int x, .int (nI dp)] KA σ (PA L (bodyL 2 10 (bodyL 1 11 (bodyL 0 12 M))) σ (some (.int (((x + num) - v) * 2)))) := by
  have hR := hC.1
  have hC0 := hC
  have hS : Sm σ σ := Sm.rfl
  have hA : ∀ j : Nat, ¬ j = 0 → gi σ 64 j = gi σ 64 j := fun _ _ => rfl
  have hf0 := hf
  refine MM.of (loc := [(0, .ref 64), (1, .int 0), (2, .int 2), (3, .int x), (4, .int (nI dp))]) (by decide +kernel) rfl (Nat.le_of_ble_eq_true rfl) ?_
  refine V_iload dA_run_0 rfl ?_
  refine V_bipush (v := 40) dA_run_2 (by decide) ?_
  refine V_icmp_lt (tgt := 9) dA_run_4 rfl (fun _ => ?_) (fun h => absurd h (not_not_intro (nI_lt (a := dp) (b := 40) (by omega) (by decide))))
  refine V_iload_n dA_run_9 rfl ?_
  refine V_iload_n dA_run_10 rfl ?_
  refine V_callS (as := [.int 0, .int 2]) (rest := []) (bs' := 0) rfl dA_run_11 cmA_bodyFrom stA_bodyFrom mlA_37 rfl rfl c_bf_0_2 (by decide) (Nat.le_refl _) (by decide) (Nat.le_of_ble_eq_true rfl) ?_
  rintro _ _ _ ⟨rfl, rfl, rfl⟩ -
  refine V_one ?_
  refine V_istore (loc' := [(5, .int 12), (0, .ref 64), (1, .int 0), (2, .int 2), (3, .int x), (4, .int (nI dp))]) dA_run_14 (by decide) rfl ?_
  refine V_aload_n dA_run_16 rfl ?_
  refine V_iload dA_run_17 rfl ?_
  refine V_callV (as := [.int 12]) (rest := []) (bs' := 0) rfl dA_run_19 cmA_begin cvA_begin mlA_41 (Or.inl ⟨_, _, _, _, _, rfl, k64, by decide, rfl⟩) rfl rfl (c_begin hC (by decide) hr 12) (by decide) (Nat.le_refl _) (by decide) (Nat.le_of_ble_eq_true rfl) ?_
  rintro _ _ s1 ⟨rfl, rfl, hC, hS1, hA1⟩ -
  refine V_non ?_
  have hS := hS.trans hS1
  have hA : ∀ j : Nat, ¬ j = 0 → gi s1 64 j = gi σ 64 j := fun j h => (hA1 j h).trans (hA j h)
  have hf := hf0.to hA
  have hr : gi (bodyL 0 12 M) 76 57 = nI 1 := gi_eq
  refine V_aload_n dA_run_22 rfl ?_
  refine V_iload dA_run_23 rfl ?_
  refine V_iload_n dA_run_25 rfl ?_
  refine V_iload dA_run_26 rfl ?_
  refine V_iconst (v := 1) dA_run_28 (by decide) ?_
  refine V_iadd dA_run_29 ?_
  refine V_topI (x' := nI (dp + 1)) (nI_1 _) ?_
  refine V_callV (as := [.int 12, .int x, .int (nI (dp + 1))]) (rest := []) (bs' := 0) rfl dA_run_30 cmA_through cvA_through mlA_45 (Or.inl ⟨_, _, _, _, _, rfl, k64, by decide, rfl⟩) rfl rfl (c_thr_0_0_2_0 hC hf hr x (dp := dp + 1) (by omega)) (by decide) (Nat.le_refl _) (by decide) (Nat.le_of_ble_eq_true rfl) ?_
  rintro _ _ s2 ⟨rfl, rfl, hC, hS1, hA1⟩ -
  refine V_one ?_
  have hS := hS.trans hS1
  have hA : ∀ j : Nat, ¬ j = 0 → gi s2 64 j = gi σ 64 j := fun j h => (hA1 j h).trans (hA j h)
  exact V_iret dA_run_33 rfl rfl ⟨rfl, rfl, hC, hS, hA⟩
theorem c_thr_1_1_0_0 {l : Launch} {G : GT} {L : Nat → List Cl} {M σ : Hp} (hC : RC L M σ) {num v : Int32} (hf : fA σ 1 num v) (hr : gi M 76 57 = nI 1) (x : Int32) {dp : Nat} (hd : dp < 31) : MM l G mA_through 0 0 0 [.ref 64, .int 10, .int x, .int (nI dp)] KA σ (PA L M σ (some (.int (x + num)))) := by
  have hR := hC.1
  have hC0 := hC
  have hS : Sm σ σ := Sm.rfl
  have hA : ∀ j : Nat, ¬ j = 0 → gi σ 64 j = gi σ 64 j := fun _ _ => rfl
  have hf0 := hf
  refine MM.of (loc := [(0, .ref 64), (1, .int 10), (2, .int x), (3, .int (nI dp))]) (by decide +kernel) rfl (Nat.le_of_ble_eq_true rfl) ?_
  refine V_iload_n dA_through_0 rfl ?_
  refine V_lsw (tgt := 100) dA_through_1 (by decide) rfl rfl ?_
  refine V_iload_n dA_through_100 rfl ?_
  refine V_aload_n dA_through_101 rfl ?_
  refine V_getE (x := num) dA_through_102 flA_28 k64 rfl hf.2.1 ?_
  refine V_iadd dA_through_105 ?_
  exact V_iret dA_through_106 rfl rfl ⟨rfl, rfl, hC, hS, hA⟩
theorem c_run_1_1_0_0 {l : Launch} {G : GT} {L : Nat → List Cl} {M σ : Hp} (hC : RC L M σ) {num v : Int32} (hf : fA σ 1 num v) (hr : gi M 76 57 = nI 0) (x : Int32) {dp : Nat} (hd : dp < 30) : MM l G mA_run 1 0 0 [.ref 64, .int 1, .int 0, .int x, .int (nI dp)] KA σ (PA L (bodyL 0 10 M) σ (some (.int (x + num)))) := by
  have hR := hC.1
  have hC0 := hC
  have hS : Sm σ σ := Sm.rfl
  have hA : ∀ j : Nat, ¬ j = 0 → gi σ 64 j = gi σ 64 j := fun _ _ => rfl
  have hf0 := hf
  refine MM.of (loc := [(0, .ref 64), (1, .int 1), (2, .int 0), (3, .int x), (4, .int (nI dp))]) (by decide +kernel) rfl (Nat.le_of_ble_eq_true rfl) ?_
  refine V_iload dA_run_0 rfl ?_
  refine V_bipush (v := 40) dA_run_2 (by decide) ?_
  refine V_icmp_lt (tgt := 9) dA_run_4 rfl (fun _ => ?_) (fun h => absurd h (not_not_intro (nI_lt (a := dp) (b := 40) (by omega) (by decide))))
  refine V_iload_n dA_run_9 rfl ?_
  refine V_iload_n dA_run_10 rfl ?_
  refine V_callS (as := [.int 1, .int 0]) (rest := []) (bs' := 0) rfl dA_run_11 cmA_bodyFrom stA_bodyFrom mlA_37 rfl rfl c_bf_1_0 (by decide) (Nat.le_refl _) (by decide) (Nat.le_of_ble_eq_true rfl) ?_
  rintro _ _ _ ⟨rfl, rfl, rfl⟩ -
  refine V_one ?_
  refine V_istore (loc' := [(5, .int 10), (0, .ref 64), (1, .int 1), (2, .int 0), (3, .int x), (4, .int (nI dp))]) dA_run_14 (by decide) rfl ?_
  refine V_aload_n dA_run_16 rfl ?_
  refine V_iload dA_run_17 rfl ?_
  refine V_callV (as := [.int 10]) (rest := []) (bs' := 0) rfl dA_run_19 cmA_begin cvA_begin mlA_41 (Or.inl ⟨_, _, _, _, _, rfl, k64, by decide, rfl⟩) rfl rfl (c_begin hC (by decide) hr 10) (by decide) (Nat.le_refl _) (by decide) (Nat.le_of_ble_eq_true rfl) ?_
  rintro _ _ s1 ⟨rfl, rfl, hC, hS1, hA1⟩ -
  refine V_non ?_
  have hS := hS.trans hS1
  have hA : ∀ j : Nat, ¬ j = 0 → gi s1 64 j = gi σ 64 j := fun j h => (hA1 j h).trans (hA j h)
  have hf := hf0.to hA
  have hr : gi (bodyL 0 10 M) 76 57 = nI 1 := gi_eq
  refine V_aload_n dA_run_22 rfl ?_
  refine V_iload dA_run_23 rfl ?_
  refine V_iload_n dA_run_25 rfl ?_
  refine V_iload dA_run_26 rfl ?_
  refine V_iconst (v := 1) dA_run_28 (by decide) ?_
  refine V_iadd dA_run_29 ?_
  refine V_topI (x' := nI (dp + 1)) (nI_1 _) ?_
  refine V_callV (as := [.int 10, .int x, .int (nI (dp + 1))]) (rest := []) (bs' := 0) rfl dA_run_30 cmA_through cvA_through mlA_45 (Or.inl ⟨_, _, _, _, _, rfl, k64, by decide, rfl⟩) rfl rfl (c_thr_1_1_0_0 hC hf hr x (dp := dp + 1) (by omega)) (by decide) (Nat.le_refl _) (by decide) (Nat.le_of_ble_eq_true rfl) ?_
  rintro _ _ s2 ⟨rfl, rfl, hC, hS1, hA1⟩ -
  refine V_one ?_
  have hS := hS.trans hS1
  have hA : ∀ j : Nat, ¬ j = 0 → gi s2 64 j = gi σ 64 j := fun j h => (hA1 j h).trans (hA j h)
  exact V_iret dA_run_33 rfl rfl ⟨rfl, rfl, hC, hS, hA⟩
theorem c_thr_1_1_0_2 {l : Launch} {G : GT} {L : Nat → List Cl} {M σ : Hp} (hC : RC L M σ) {num v : Int32} (hf : fA σ 1 num v) (hr : gi M 76 57 = nI 3) (x : Int32) {dp : Nat} (hd : dp < 31) : MM l G mA_through 0 0 0 [.ref 64, .int 10, .int x, .int (nI dp)] KA σ (PA L M σ (some (.int (x + num)))) := by
  have hR := hC.1
  have hC0 := hC
  have hS : Sm σ σ := Sm.rfl
  have hA : ∀ j : Nat, ¬ j = 0 → gi σ 64 j = gi σ 64 j := fun _ _ => rfl
  have hf0 := hf
  refine MM.of (loc := [(0, .ref 64), (1, .int 10), (2, .int x), (3, .int (nI dp))]) (by decide +kernel) rfl (Nat.le_of_ble_eq_true rfl) ?_
  refine V_iload_n dA_through_0 rfl ?_
  refine V_lsw (tgt := 100) dA_through_1 (by decide) rfl rfl ?_
  refine V_iload_n dA_through_100 rfl ?_
  refine V_aload_n dA_through_101 rfl ?_
  refine V_getE (x := num) dA_through_102 flA_28 k64 rfl hf.2.1 ?_
  refine V_iadd dA_through_105 ?_
  exact V_iret dA_through_106 rfl rfl ⟨rfl, rfl, hC, hS, hA⟩
theorem c_run_1_1_0_2 {l : Launch} {G : GT} {L : Nat → List Cl} {M σ : Hp} (hC : RC L M σ) {num v : Int32} (hf : fA σ 1 num v) (hr : gi M 76 57 = nI 2) (x : Int32) {dp : Nat} (hd : dp < 30) : MM l G mA_run 1 0 0 [.ref 64, .int 1, .int 0, .int x, .int (nI dp)] KA σ (PA L (bodyL 2 10 M) σ (some (.int (x + num)))) := by
  have hR := hC.1
  have hC0 := hC
  have hS : Sm σ σ := Sm.rfl
  have hA : ∀ j : Nat, ¬ j = 0 → gi σ 64 j = gi σ 64 j := fun _ _ => rfl
  have hf0 := hf
  refine MM.of (loc := [(0, .ref 64), (1, .int 1), (2, .int 0), (3, .int x), (4, .int (nI dp))]) (by decide +kernel) rfl (Nat.le_of_ble_eq_true rfl) ?_
  refine V_iload dA_run_0 rfl ?_
  refine V_bipush (v := 40) dA_run_2 (by decide) ?_
  refine V_icmp_lt (tgt := 9) dA_run_4 rfl (fun _ => ?_) (fun h => absurd h (not_not_intro (nI_lt (a := dp) (b := 40) (by omega) (by decide))))
  refine V_iload_n dA_run_9 rfl ?_
  refine V_iload_n dA_run_10 rfl ?_
  refine V_callS (as := [.int 1, .int 0]) (rest := []) (bs' := 0) rfl dA_run_11 cmA_bodyFrom stA_bodyFrom mlA_37 rfl rfl c_bf_1_0 (by decide) (Nat.le_refl _) (by decide) (Nat.le_of_ble_eq_true rfl) ?_
  rintro _ _ _ ⟨rfl, rfl, rfl⟩ -
  refine V_one ?_
  refine V_istore (loc' := [(5, .int 10), (0, .ref 64), (1, .int 1), (2, .int 0), (3, .int x), (4, .int (nI dp))]) dA_run_14 (by decide) rfl ?_
  refine V_aload_n dA_run_16 rfl ?_
  refine V_iload dA_run_17 rfl ?_
  refine V_callV (as := [.int 10]) (rest := []) (bs' := 0) rfl dA_run_19 cmA_begin cvA_begin mlA_41 (Or.inl ⟨_, _, _, _, _, rfl, k64, by decide, rfl⟩) rfl rfl (c_begin hC (by decide) hr 10) (by decide) (Nat.le_refl _) (by decide) (Nat.le_of_ble_eq_true rfl) ?_
  rintro _ _ s1 ⟨rfl, rfl, hC, hS1, hA1⟩ -
  refine V_non ?_
  have hS := hS.trans hS1
  have hA : ∀ j : Nat, ¬ j = 0 → gi s1 64 j = gi σ 64 j := fun j h => (hA1 j h).trans (hA j h)
  have hf := hf0.to hA
  have hr : gi (bodyL 2 10 M) 76 57 = nI 3 := gi_eq
  refine V_aload_n dA_run_22 rfl ?_
  refine V_iload dA_run_23 rfl ?_
  refine V_iload_n dA_run_25 rfl ?_
  refine V_iload dA_run_26 rfl ?_
  refine V_iconst (v := 1) dA_run_28 (by decide) ?_
  refine V_iadd dA_run_29 ?_
  refine V_topI (x' := nI (dp + 1)) (nI_1 _) ?_
  refine V_callV (as := [.int 10, .int x, .int (nI (dp + 1))]) (rest := []) (bs' := 0) rfl dA_run_30 cmA_through cvA_through mlA_45 (Or.inl ⟨_, _, _, _, _, rfl, k64, by decide, rfl⟩) rfl rfl (c_thr_1_1_0_2 hC hf hr x (dp := dp + 1) (by omega)) (by decide) (Nat.le_refl _) (by decide) (Nat.le_of_ble_eq_true rfl) ?_
  rintro _ _ s2 ⟨rfl, rfl, hC, hS1, hA1⟩ -
  refine V_one ?_
  have hS := hS.trans hS1
  have hA : ∀ j : Nat, ¬ j = 0 → gi s2 64 j = gi σ 64 j := fun j h => (hA1 j h).trans (hA j h)
  exact V_iret dA_run_33 rfl rfl ⟨rfl, rfl, hC, hS, hA⟩
theorem c_thr_1_0_1_1 {l : Launch} {G : GT} {L : Nat → List Cl} {M σ : Hp} (hC : RC L M σ) {num v : Int32} (hf : fA σ 1 num v) (hr : gi M 76 57 = nI 2) (x : Int32) {dp : Nat} (hd : dp < 29) : MM l G mA_through 2 0 0 [.ref 64, .int 11, .int x, .int (nI dp)] KA σ (PA L (bodyL 2 10 M) σ (some (.int ((x + num) - v)))) := by
  have hR := hC.1
  have hC0 := hC
  have hS : Sm σ σ := Sm.rfl
  have hA : ∀ j : Nat, ¬ j = 0 → gi σ 64 j = gi σ 64 j := fun _ _ => rfl
  have hf0 := hf
  refine MM.of (loc := [(0, .ref 64), (1, .int 11), (2, .int x), (3, .int (nI dp))]) (by decide +kernel) rfl (Nat.le_of_ble_eq_true rfl) ?_
  refine V_iload_n dA_through_0 rfl ?_
  refine V_lsw (tgt := 107) dA_through_1 (by decide) rfl rfl ?_
  refine V_aload_n dA_through_107 rfl ?_
  refine V_aload_n dA_through_108 rfl ?_
  refine V_getE (x := 1) dA_through_109 flA_24 k64 rfl hf.1 ?_
  refine V_iconst (v := 0) dA_through_112 (by decide) ?_
  refine V_iload_n dA_through_113 rfl ?_
  refine V_iload_n dA_through_114 rfl ?_
  refine V_callV (as := [.int 1, .int 0, .int x, .int (nI dp)]) (rest := []) (bs' := 0) rfl dA_through_115 cmA_run cvA_run mlA_33 (Or.inl ⟨_, _, _, _, _, rfl, k64, by decide, rfl⟩) rfl rfl (c_run_1_1_0_2 hC hf hr x (dp := dp) (by omega)) (by decide) (Nat.le_refl _) (by decide) (Nat.le_of_ble_eq_true rfl) ?_
  rintro _ _ s115 ⟨rfl, rfl, hC, hS1, hA1⟩ -
  refine V_one ?_
  have hS := hS.trans hS1
  have hA : ∀ j : Nat, ¬ j = 0 → gi s115 64 j = gi σ 64 j := fun j h => (hA1 j h).trans (hA j h)
  have hf := hf0.to hA
  have hr : gi (bodyL 2 10 M) 76 57 = nI 3 := gi_eq
  have hR := hC.1
  refine V_aload_n dA_through_118 rfl ?_
  refine V_getE (x := v) dA_through_119 flA_32 k64 rfl hf.2.2 ?_
  refine V_isub dA_through_122 ?_
  exact V_iret dA_through_123 rfl rfl ⟨rfl, rfl, hC, hS, hA⟩
theorem c_run_1_0_1_1 {l : Launch} {G : GT} {L : Nat → List Cl} {M σ : Hp} (hC : RC L M σ) {num v : Int32} (hf : fA σ 1 num v) (hr : gi M 76 57 = nI 1) (x : Int32) {dp : Nat} (hd : dp < 28) : MM l G mA_run 3 0 0 [.ref 64, .int 0, .int 1, .int x, .int (nI dp)] KA σ (PA L (bodyL 2 10 (bodyL 1 11 M)) σ (some (.int ((x + num) - v)))) := by
  have hR := hC.1
  have hC0 := hC
  have hS : Sm σ σ := Sm.rfl
  have hA : ∀ j : Nat, ¬ j = 0 → gi σ 64 j = gi σ 64 j := fun _ _ => rfl
  have hf0 := hf
  refine MM.of (loc := [(0, .ref 64), (1, .int 0), (2, .int 1), (3, .int x), (4, .int (nI dp))]) (by decide +kernel) rfl (Nat.le_of_ble_eq_true rfl) ?_
  refine V_iload dA_run_0 rfl ?_
  refine V_bipush (v := 40) dA_run_2 (by decide) ?_
  refine V_icmp_lt (tgt := 9) dA_run_4 rfl (fun _ => ?_) (fun h => absurd h (not_not_intro (nI_lt (a := dp) (b := 40) (by omega) (by decide))))
  refine V_iload_n dA_run_9 rfl ?_
  refine V_iload_n dA_run_10 rfl ?_
  refine V_callS (as := [.int 0, .int 1]) (rest := []) (bs' := 0) rfl dA_run_11 cmA_bodyFrom stA_bodyFrom mlA_37 rfl rfl c_bf_0_1 (by decide) (Nat.le_refl _) (by decide) (Nat.le_of_ble_eq_true rfl) ?_
  rintro _ _ _ ⟨rfl, rfl, rfl⟩ -
  refine V_one ?_
  refine V_istore (loc' := [(5, .int 11), (0, .ref 64), (1, .int 0), (2, .int 1), (3, .int x), (4, .int (nI dp))]) dA_run_14 (by decide) rfl ?_
  refine V_aload_n dA_run_16 rfl ?_
  refine V_iload dA_run_17 rfl ?_
  refine V_callV (as := [.int 11]) (rest := []) (bs' := 0) rfl dA_run_19 cmA_begin cvA_begin mlA_41 (Or.inl ⟨_, _, _, _, _, rfl, k64, by decide, rfl⟩) rfl rfl (c_begin hC (by decide) hr 11) (by decide) (Nat.le_refl _) (by decide) (Nat.le_of_ble_eq_true rfl) ?_
  rintro _ _ s1 ⟨rfl, rfl, hC, hS1, hA1⟩ -
  refine V_non ?_
  have hS := hS.trans hS1
  have hA : ∀ j : Nat, ¬ j = 0 → gi s1 64 j = gi σ 64 j := fun j h => (hA1 j h).trans (hA j h)
  have hf := hf0.to hA
  have hr : gi (bodyL 1 11 M) 76 57 = nI 2 := gi_eq
  refine V_aload_n dA_run_22 rfl ?_
  refine V_iload dA_run_23 rfl ?_
  refine V_iload_n dA_run_25 rfl ?_
  refine V_iload dA_run_26 rfl ?_
  refine V_iconst (v := 1) dA_run_28 (by decide) ?_
  refine V_iadd dA_run_29 ?_
  refine V_topI (x' := nI (dp + 1)) (nI_1 _) ?_
  refine V_callV (as := [.int 11, .int x, .int (nI (dp + 1))]) (rest := []) (bs' := 0) rfl dA_run_30 cmA_through cvA_through mlA_45 (Or.inl ⟨_, _, _, _, _, rfl, k64, by decide, rfl⟩) rfl rfl (c_thr_1_0_1_1 hC hf hr x (dp := dp + 1) (by omega)) (by decide) (Nat.le_refl _) (by decide) (Nat.le_of_ble_eq_true rfl) ?_
  rintro _ _ s2 ⟨rfl, rfl, hC, hS1, hA1⟩ -
  refine V_one ?_
  have hS := hS.trans hS1
  have hA : ∀ j : Nat, ¬ j = 0 → gi s2 64 j = gi σ 64 j := fun j h => (hA1 j h).trans (hA j h)
  exact V_iret dA_run_33 rfl rfl ⟨rfl, rfl, hC, hS, hA⟩
theorem c_thr_1_1_1_0 {l : Launch} {G : GT} {L : Nat → List Cl} {M σ : Hp} (hC : RC L M σ) {num v : Int32} (hf : fA σ 1 num v) (hr : gi M 76 57 = nI 1) (x : Int32) {dp : Nat} (hd : dp < 27) : MM l G mA_through 4 0 0 [.ref 64, .int 20, .int x, .int (nI dp)] KA σ (PA L (bodyL 2 10 (bodyL 1 11 M)) σ (some (.int (((x + num) - v) ^^^ 6)))) := by
  have hR := hC.1
  have hC0 := hC
  have hS : Sm σ σ := Sm.rfl
  have hA : ∀ j : Nat, ¬ j = 0 → gi σ 64 j = gi σ 64 j := fun _ _ => rfl
  have hf0 := hf
  refine MM.of (loc := [(0, .ref 64), (1, .int 20), (2, .int x), (3, .int (nI dp))]) (by decide +kernel) rfl (Nat.le_of_ble_eq_true rfl) ?_
  refine V_iload_n dA_through_0 rfl ?_
  refine V_lsw (tgt := 138) dA_through_1 (by decide) rfl rfl ?_
  refine V_aload_n dA_through_138 rfl ?_
  refine V_iconst (v := 0) dA_through_139 (by decide) ?_
  refine V_iconst (v := 1) dA_through_140 (by decide) ?_
  refine V_iload_n dA_through_141 rfl ?_
  refine V_iload_n dA_through_142 rfl ?_
  refine V_callV (as := [.int 0, .int 1, .int x, .int (nI dp)]) (rest := []) (bs' := 0) rfl dA_through_143 cmA_run cvA_run mlA_33 (Or.inl ⟨_, _, _, _, _, rfl, k64, by decide, rfl⟩) rfl rfl (c_run_1_0_1_1 hC hf hr x (dp := dp) (by omega)) (by decide) (Nat.le_refl _) (by decide) (Nat.le_of_ble_eq_true rfl) ?_
  rintro _ _ s143 ⟨rfl, rfl, hC, hS1, hA1⟩ -
  refine V_one ?_
  have hS := hS.trans hS1
  have hA : ∀ j : Nat, ¬ j = 0 → gi s143 64 j = gi σ 64 j := fun j h => (hA1 j h).trans (hA j h)
  have hf := hf0.to hA
  have hr : gi (bodyL 2 10 (bodyL 1 11 M)) 76 57 = nI 3 := gi_eq
  have hR := hC.1
  refine V_bipush (v := 6) dA_through_146 (by decide) ?_
  refine V_ixor dA_through_148 ?_
  exact V_iret dA_through_149 rfl rfl ⟨rfl, rfl, hC, hS, hA⟩
theorem c_run_1_1_1_0 {l : Launch} {G : GT} {L : Nat → List Cl} {M σ : Hp} (hC : RC L M σ) {num v : Int32} (hf : fA σ 1 num v) (hr : gi M 76 57 = nI 0) (x : Int32) {dp : Nat} (hd : dp < 26) : MM l G mA_run 5 0 0 [.ref 64, .int 1, .int 1, .int x, .int (nI dp)] KA σ (PA L (bodyL 2 10 (bodyL 1 11 (bodyL 0 20 M))) σ (some (.int (((x + num) - v) ^^^ 6)))) := by
  have hR := hC.1
  have hC0 := hC
  have hS : Sm σ σ := Sm.rfl
  have hA : ∀ j : Nat, ¬ j = 0 → gi σ 64 j = gi σ 64 j := fun _ _ => rfl
  have hf0 := hf
  refine MM.of (loc := [(0, .ref 64), (1, .int 1), (2, .int 1), (3, .int x), (4, .int (nI dp))]) (by decide +kernel) rfl (Nat.le_of_ble_eq_true rfl) ?_
  refine V_iload dA_run_0 rfl ?_
  refine V_bipush (v := 40) dA_run_2 (by decide) ?_
  refine V_icmp_lt (tgt := 9) dA_run_4 rfl (fun _ => ?_) (fun h => absurd h (not_not_intro (nI_lt (a := dp) (b := 40) (by omega) (by decide))))
  refine V_iload_n dA_run_9 rfl ?_
  refine V_iload_n dA_run_10 rfl ?_
  refine V_callS (as := [.int 1, .int 1]) (rest := []) (bs' := 0) rfl dA_run_11 cmA_bodyFrom stA_bodyFrom mlA_37 rfl rfl c_bf_1_1 (by decide) (Nat.le_refl _) (by decide) (Nat.le_of_ble_eq_true rfl) ?_
  rintro _ _ _ ⟨rfl, rfl, rfl⟩ -
  refine V_one ?_
  refine V_istore (loc' := [(5, .int 20), (0, .ref 64), (1, .int 1), (2, .int 1), (3, .int x), (4, .int (nI dp))]) dA_run_14 (by decide) rfl ?_
  refine V_aload_n dA_run_16 rfl ?_
  refine V_iload dA_run_17 rfl ?_
  refine V_callV (as := [.int 20]) (rest := []) (bs' := 0) rfl dA_run_19 cmA_begin cvA_begin mlA_41 (Or.inl ⟨_, _, _, _, _, rfl, k64, by decide, rfl⟩) rfl rfl (c_begin hC (by decide) hr 20) (by decide) (Nat.le_refl _) (by decide) (Nat.le_of_ble_eq_true rfl) ?_
  rintro _ _ s1 ⟨rfl, rfl, hC, hS1, hA1⟩ -
  refine V_non ?_
  have hS := hS.trans hS1
  have hA : ∀ j : Nat, ¬ j = 0 → gi s1 64 j = gi σ 64 j := fun j h => (hA1 j h).trans (hA j h)
  have hf := hf0.to hA
  have hr : gi (bodyL 0 20 M) 76 57 = nI 1 := gi_eq
  refine V_aload_n dA_run_22 rfl ?_
  refine V_iload dA_run_23 rfl ?_
  refine V_iload_n dA_run_25 rfl ?_
  refine V_iload dA_run_26 rfl ?_
  refine V_iconst (v := 1) dA_run_28 (by decide) ?_
  refine V_iadd dA_run_29 ?_
  refine V_topI (x' := nI (dp + 1)) (nI_1 _) ?_
  refine V_callV (as := [.int 20, .int x, .int (nI (dp + 1))]) (rest := []) (bs' := 0) rfl dA_run_30 cmA_through cvA_through mlA_45 (Or.inl ⟨_, _, _, _, _, rfl, k64, by decide, rfl⟩) rfl rfl (c_thr_1_1_1_0 hC hf hr x (dp := dp + 1) (by omega)) (by decide) (Nat.le_refl _) (by decide) (Nat.le_of_ble_eq_true rfl) ?_
  rintro _ _ s2 ⟨rfl, rfl, hC, hS1, hA1⟩ -
  refine V_one ?_
  have hS := hS.trans hS1
  have hA : ∀ j : Nat, ¬ j = 0 → gi s2 64 j = gi σ 64 j := fun j h => (hA1 j h).trans (hA j h)
  exact V_iret dA_run_33 rfl rfl ⟨rfl, rfl, hC, hS, hA⟩
theorem c_thr_1_1_0_3 {l : Launch} {G : GT} {L : Nat → List Cl} {M σ : Hp} (hC : RC L M σ) {num v : Int32} (hf : fA σ 1 num v) (hr : gi M 76 57 = nI 4) (x : Int32) {dp : Nat} (hd : dp < 31) : MM l G mA_through 0 0 0 [.ref 64, .int 10, .int x, .int (nI dp)] KA σ (PA L M σ (some (.int (x + num)))) := by
  have hR := hC.1
  have hC0 := hC
  have hS : Sm σ σ := Sm.rfl
  have hA : ∀ j : Nat, ¬ j = 0 → gi σ 64 j = gi σ 64 j := fun _ _ => rfl
  have hf0 := hf
  refine MM.of (loc := [(0, .ref 64), (1, .int 10), (2, .int x), (3, .int (nI dp))]) (by decide +kernel) rfl (Nat.le_of_ble_eq_true rfl) ?_
  refine V_iload_n dA_through_0 rfl ?_
  refine V_lsw (tgt := 100) dA_through_1 (by decide) rfl rfl ?_
  refine V_iload_n dA_through_100 rfl ?_
  refine V_aload_n dA_through_101 rfl ?_
  refine V_getE (x := num) dA_through_102 flA_28 k64 rfl hf.2.1 ?_
  refine V_iadd dA_through_105 ?_
  exact V_iret dA_through_106 rfl rfl ⟨rfl, rfl, hC, hS, hA⟩
theorem c_run_1_1_0_3 {l : Launch} {G : GT} {L : Nat → List Cl} {M σ : Hp} (hC : RC L M σ) {num v : Int32} (hf : fA σ 1 num v) (hr : gi M 76 57 = nI 3) (x : Int32) {dp : Nat} (hd : dp < 30) : MM l G mA_run 1 0 0 [.ref 64, .int 1, .int 0, .int x, .int (nI dp)] KA σ (PA L (bodyL 3 10 M) σ (some (.int (x + num)))) := by
  have hR := hC.1
  have hC0 := hC
  have hS : Sm σ σ := Sm.rfl
  have hA : ∀ j : Nat, ¬ j = 0 → gi σ 64 j = gi σ 64 j := fun _ _ => rfl
  have hf0 := hf
  refine MM.of (loc := [(0, .ref 64), (1, .int 1), (2, .int 0), (3, .int x), (4, .int (nI dp))]) (by decide +kernel) rfl (Nat.le_of_ble_eq_true rfl) ?_
  refine V_iload dA_run_0 rfl ?_
  refine V_bipush (v := 40) dA_run_2 (by decide) ?_
  refine V_icmp_lt (tgt := 9) dA_run_4 rfl (fun _ => ?_) (fun h => absurd h (not_not_intro (nI_lt (a := dp) (b := 40) (by omega) (by decide))))
  refine V_iload_n dA_run_9 rfl ?_
  refine V_iload_n dA_run_10 rfl ?_
  refine V_callS (as := [.int 1, .int 0]) (rest := []) (bs' := 0) rfl dA_run_11 cmA_bodyFrom stA_bodyFrom mlA_37 rfl rfl c_bf_1_0 (by decide) (Nat.le_refl _) (by decide) (Nat.le_of_ble_eq_true rfl) ?_
  rintro _ _ _ ⟨rfl, rfl, rfl⟩ -
  refine V_one ?_
  refine V_istore (loc' := [(5, .int 10), (0, .ref 64), (1, .int 1), (2, .int 0), (3, .int x), (4, .int (nI dp))]) dA_run_14 (by decide) rfl ?_
  refine V_aload_n dA_run_16 rfl ?_
  refine V_iload dA_run_17 rfl ?_
  refine V_callV (as := [.int 10]) (rest := []) (bs' := 0) rfl dA_run_19 cmA_begin cvA_begin mlA_41 (Or.inl ⟨_, _, _, _, _, rfl, k64, by decide, rfl⟩) rfl rfl (c_begin hC (by decide) hr 10) (by decide) (Nat.le_refl _) (by decide) (Nat.le_of_ble_eq_true rfl) ?_
  rintro _ _ s1 ⟨rfl, rfl, hC, hS1, hA1⟩ -
  refine V_non ?_
  have hS := hS.trans hS1
  have hA : ∀ j : Nat, ¬ j = 0 → gi s1 64 j = gi σ 64 j := fun j h => (hA1 j h).trans (hA j h)
  have hf := hf0.to hA
  have hr : gi (bodyL 3 10 M) 76 57 = nI 4 := gi_eq
  refine V_aload_n dA_run_22 rfl ?_
  refine V_iload dA_run_23 rfl ?_
  refine V_iload_n dA_run_25 rfl ?_
  refine V_iload dA_run_26 rfl ?_
  refine V_iconst (v := 1) dA_run_28 (by decide) ?_
  refine V_iadd dA_run_29 ?_
  refine V_topI (x' := nI (dp + 1)) (nI_1 _) ?_
  refine V_callV (as := [.int 10, .int x, .int (nI (dp + 1))]) (rest := []) (bs' := 0) rfl dA_run_30 cmA_through cvA_through mlA_45 (Or.inl ⟨_, _, _, _, _, rfl, k64, by decide, rfl⟩) rfl rfl (c_thr_1_1_0_3 hC hf hr x (dp := dp + 1) (by omega)) (by decide) (Nat.le_refl _) (by decide) (Nat.le_of_ble_eq_true rfl) ?_
  rintro _ _ s2 ⟨rfl, rfl, hC, hS1, hA1⟩ -
  refine V_one ?_
  have hS := hS.trans hS1
  have hA : ∀ j : Nat, ¬ j = 0 → gi s2 64 j = gi σ 64 j := fun j h => (hA1 j h).trans (hA j h)
  exact V_iret dA_run_33 rfl rfl ⟨rfl, rfl, hC, hS, hA⟩
theorem c_thr_1_0_1_2 {l : Launch} {G : GT} {L : Nat → List Cl} {M σ : Hp} (hC : RC L M σ) {num v : Int32} (hf : fA σ 1 num v) (hr : gi M 76 57 = nI 3) (x : Int32) {dp : Nat} (hd : dp < 29) : MM l G mA_through 2 0 0 [.ref 64, .int 11, .int x, .int (nI dp)] KA σ (PA L (bodyL 3 10 M) σ (some (.int ((x + num) - v)))) := by
  have hR := hC.1
  have hC0 := hC
  have hS : Sm σ σ := Sm.rfl
  have hA : ∀ j : Nat, ¬ j = 0 → gi σ 64 j = gi σ 64 j := fun _ _ => rfl
  have hf0 := hf
  refine MM.of (loc := [(0, .ref 64), (1, .int 11), (2, .int x), (3, .int (nI dp))]) (by decide +kernel) rfl (Nat.le_of_ble_eq_true rfl) ?_
  refine V_iload_n dA_through_0 rfl ?_
  refine V_lsw (tgt := 107) dA_through_1 (by decide) rfl rfl ?_
  refine V_aload_n dA_through_107 rfl ?_
  refine V_aload_n dA_through_108 rfl ?_
  refine V_getE (x := 1) dA_through_109 flA_24 k64 rfl hf.1 ?_
  refine V_iconst (v := 0) dA_through_112 (by decide) ?_
  refine V_iload_n dA_through_113 rfl ?_
  refine V_iload_n dA_through_114 rfl ?_
  refine V_callV (as := [.int 1, .int 0, .int x, .int (nI dp)]) (rest := []) (bs' := 0) rfl dA_through_115 cmA_run cvA_run mlA_33 (Or.inl ⟨_, _, _, _, _, rfl, k64, by decide, rfl⟩) rfl rfl (c_run_1_1_0_3 hC hf hr x (dp := dp) (by omega)) (by decide) (Nat.le_refl _) (by decide) (Nat.le_of_ble_eq_true rfl) ?_
  rintro _ _ s115 ⟨rfl, rfl, hC, hS1, hA1⟩ -
  refine V_one ?_
  have hS := hS.trans hS1
  have hA : ∀ j : Nat, ¬ j = 0 → gi s115 64 j = gi σ 64 j := fun j h => (hA1 j h).trans (hA j h)
  have hf := hf0.to hA
  have hr : gi (bodyL 3 10 M) 76 57 = nI 4 := gi_eq
  have hR := hC.1
  refine V_aload_n dA_through_118 rfl ?_
  refine V_getE (x := v) dA_through_119 flA_32 k64 rfl hf.2.2 ?_
  refine V_isub dA_through_122 ?_
  exact V_iret dA_through_123 rfl rfl ⟨rfl, rfl, hC, hS, hA⟩
theorem c_run_1_0_1_2 {l : Launch} {G : GT} {L : Nat → List Cl} {M σ : Hp} (hC : RC L M σ) {num v : Int32} (hf : fA σ 1 num v) (hr : gi M 76 57 = nI 2) (x : Int32) {dp : Nat} (hd : dp < 28) : MM l G mA_run 3 0 0 [.ref 64, .int 0, .int 1, .int x, .int (nI dp)] KA σ (PA L (bodyL 3 10 (bodyL 2 11 M)) σ (some (.int ((x + num) - v)))) := by
  have hR := hC.1
  have hC0 := hC
  have hS : Sm σ σ := Sm.rfl
  have hA : ∀ j : Nat, ¬ j = 0 → gi σ 64 j = gi σ 64 j := fun _ _ => rfl
  have hf0 := hf
  refine MM.of (loc := [(0, .ref 64), (1, .int 0), (2, .int 1), (3, .int x), (4, .int (nI dp))]) (by decide +kernel) rfl (Nat.le_of_ble_eq_true rfl) ?_
  refine V_iload dA_run_0 rfl ?_
  refine V_bipush (v := 40) dA_run_2 (by decide) ?_
  refine V_icmp_lt (tgt := 9) dA_run_4 rfl (fun _ => ?_) (fun h => absurd h (not_not_intro (nI_lt (a := dp) (b := 40) (by omega) (by decide))))
  refine V_iload_n dA_run_9 rfl ?_
  refine V_iload_n dA_run_10 rfl ?_
  refine V_callS (as := [.int 0, .int 1]) (rest := []) (bs' := 0) rfl dA_run_11 cmA_bodyFrom stA_bodyFrom mlA_37 rfl rfl c_bf_0_1 (by decide) (Nat.le_refl _) (by decide) (Nat.le_of_ble_eq_true rfl) ?_
  rintro _ _ _ ⟨rfl, rfl, rfl⟩ -
  refine V_one ?_
  refine V_istore (loc' := [(5, .int 11), (0, .ref 64), (1, .int 0), (2, .int 1), (3, .int x), (4, .int (nI dp))]) dA_run_14 (by decide) rfl ?_
  refine V_aload_n dA_run_16 rfl ?_
  refine V_iload dA_run_17 rfl ?_
  refine V_callV (as := [.int 11]) (rest := []) (bs' := 0) rfl dA_run_19 cmA_begin cvA_begin mlA_41 (Or.inl ⟨_, _, _, _, _, rfl, k64, by decide, rfl⟩) rfl rfl (c_begin hC (by decide) hr 11) (by decide) (Nat.le_refl _) (by decide) (Nat.le_of_ble_eq_true rfl) ?_
  rintro _ _ s1 ⟨rfl, rfl, hC, hS1, hA1⟩ -
  refine V_non ?_
  have hS := hS.trans hS1
  have hA : ∀ j : Nat, ¬ j = 0 → gi s1 64 j = gi σ 64 j := fun j h => (hA1 j h).trans (hA j h)
  have hf := hf0.to hA
  have hr : gi (bodyL 2 11 M) 76 57 = nI 3 := gi_eq
  refine V_aload_n dA_run_22 rfl ?_
  refine V_iload dA_run_23 rfl ?_
  refine V_iload_n dA_run_25 rfl ?_
  refine V_iload dA_run_26 rfl ?_
  refine V_iconst (v := 1) dA_run_28 (by decide) ?_
  refine V_iadd dA_run_29 ?_
  refine V_topI (x' := nI (dp + 1)) (nI_1 _) ?_
  refine V_callV (as := [.int 11, .int x, .int (nI (dp + 1))]) (rest := []) (bs' := 0) rfl dA_run_30 cmA_through cvA_through mlA_45 (Or.inl ⟨_, _, _, _, _, rfl, k64, by decide, rfl⟩) rfl rfl (c_thr_1_0_1_2 hC hf hr x (dp := dp + 1) (by omega)) (by decide) (Nat.le_refl _) (by decide) (Nat.le_of_ble_eq_true rfl) ?_
  rintro _ _ s2 ⟨rfl, rfl, hC, hS1, hA1⟩ -
  refine V_one ?_
  have hS := hS.trans hS1
  have hA : ∀ j : Nat, ¬ j = 0 → gi s2 64 j = gi σ 64 j := fun j h => (hA1 j h).trans (hA j h)
  exact V_iret dA_run_33 rfl rfl ⟨rfl, rfl, hC, hS, hA⟩
theorem c_thr_1_1_1_1 {l : Launch} {G : GT} {L : Nat → List Cl} {M σ : Hp} (hC : RC L M σ) {num v : Int32} (hf : fA σ 1 num v) (hr : gi M 76 57 = nI 2) (x : Int32) {dp : Nat} (hd : dp < 27) : MM l G mA_through 4 0 0 [.ref 64, .int 20, .int x, .int (nI dp)] KA σ (PA L (bodyL 3 10 (bodyL 2 11 M)) σ (some (.int (((x + num) - v) ^^^ 6)))) := by
  have hR := hC.1
  have hC0 := hC
  have hS : Sm σ σ := Sm.rfl
  have hA : ∀ j : Nat, ¬ j = 0 → gi σ 64 j = gi σ 64 j := fun _ _ => rfl
  have hf0 := hf
  refine MM.of (loc := [(0, .ref 64), (1, .int 20), (2, .int x), (3, .int (nI dp))]) (by decide +kernel) rfl (Nat.le_of_ble_eq_true rfl) ?_
  refine V_iload_n dA_through_0 rfl ?_
  refine V_lsw (tgt := 138) dA_through_1 (by decide) rfl rfl ?_
  refine V_aload_n dA_through_138 rfl ?_
  refine V_iconst (v := 0) dA_through_139 (by decide) ?_
  refine V_iconst (v := 1) dA_through_140 (by decide) ?_
  refine V_iload_n dA_through_141 rfl ?_
  refine V_iload_n dA_through_142 rfl ?_
  refine V_callV (as := [.int 0, .int 1, .int x, .int (nI dp)]) (rest := []) (bs' := 0) rfl dA_through_143 cmA_run cvA_run mlA_33 (Or.inl ⟨_, _, _, _, _, rfl, k64, by decide, rfl⟩) rfl rfl (c_run_1_0_1_2 hC hf hr x (dp := dp) (by omega)) (by decide) (Nat.le_refl _) (by decide) (Nat.le_of_ble_eq_true rfl) ?_
  rintro _ _ s143 ⟨rfl, rfl, hC, hS1, hA1⟩ -
  refine V_one ?_
  have hS := hS.trans hS1
  have hA : ∀ j : Nat, ¬ j = 0 → gi s143 64 j = gi σ 64 j := fun j h => (hA1 j h).trans (hA j h)
  have hf := hf0.to hA
  have hr : gi (bodyL 3 10 (bodyL 2 11 M)) 76 57 = nI 4 := gi_eq
  have hR := hC.1
  refine V_bipush (v := 6) dA_through_146 (by decide) ?_
  refine V_ixor dA_through_148 ?_
  exact V_iret dA_through_149 rfl rfl ⟨rfl, rfl, hC, hS, hA⟩
theorem c_run_1_1_1_1 {l : Launch} {G : GT} {L : Nat → List Cl} {M σ : Hp} (hC : RC L M σ) {num v : Int32} (hf : fA σ 1 num v) (hr : gi M 76 57 = nI 1) (x : Int32) {dp : Nat} (hd : dp < 26) : MM l G mA_run 5 0 0 [.ref 64, .int 1, .int 1, .int x, .int (nI dp)] KA σ (PA L (bodyL 3 10 (bodyL 2 11 (bodyL 1 20 M))) σ (some (.int (((x + num) - v) ^^^ 6)))) := by
  have hR := hC.1
  have hC0 := hC
  have hS : Sm σ σ := Sm.rfl
  have hA : ∀ j : Nat, ¬ j = 0 → gi σ 64 j = gi σ 64 j := fun _ _ => rfl
  have hf0 := hf
  refine MM.of (loc := [(0, .ref 64), (1, .int 1), (2, .int 1), (3, .int x), (4, .int (nI dp))]) (by decide +kernel) rfl (Nat.le_of_ble_eq_true rfl) ?_
  refine V_iload dA_run_0 rfl ?_
  refine V_bipush (v := 40) dA_run_2 (by decide) ?_
  refine V_icmp_lt (tgt := 9) dA_run_4 rfl (fun _ => ?_) (fun h => absurd h (not_not_intro (nI_lt (a := dp) (b := 40) (by omega) (by decide))))
  refine V_iload_n dA_run_9 rfl ?_
  refine V_iload_n dA_run_10 rfl ?_
  refine V_callS (as := [.int 1, .int 1]) (rest := []) (bs' := 0) rfl dA_run_11 cmA_bodyFrom stA_bodyFrom mlA_37 rfl rfl c_bf_1_1 (by decide) (Nat.le_refl _) (by decide) (Nat.le_of_ble_eq_true rfl) ?_
  rintro _ _ _ ⟨rfl, rfl, rfl⟩ -
  refine V_one ?_
  refine V_istore (loc' := [(5, .int 20), (0, .ref 64), (1, .int 1), (2, .int 1), (3, .int x), (4, .int (nI dp))]) dA_run_14 (by decide) rfl ?_
  refine V_aload_n dA_run_16 rfl ?_
  refine V_iload dA_run_17 rfl ?_
  refine V_callV (as := [.int 20]) (rest := []) (bs' := 0) rfl dA_run_19 cmA_begin cvA_begin mlA_41 (Or.inl ⟨_, _, _, _, _, rfl, k64, by decide, rfl⟩) rfl rfl (c_begin hC (by decide) hr 20) (by decide) (Nat.le_refl _) (by decide) (Nat.le_of_ble_eq_true rfl) ?_
  rintro _ _ s1 ⟨rfl, rfl, hC, hS1, hA1⟩ -
  refine V_non ?_
  have hS := hS.trans hS1
  have hA : ∀ j : Nat, ¬ j = 0 → gi s1 64 j = gi σ 64 j := fun j h => (hA1 j h).trans (hA j h)
  have hf := hf0.to hA
  have hr : gi (bodyL 1 20 M) 76 57 = nI 2 := gi_eq
  refine V_aload_n dA_run_22 rfl ?_
  refine V_iload dA_run_23 rfl ?_
  refine V_iload_n dA_run_25 rfl ?_
  refine V_iload dA_run_26 rfl ?_
  refine V_iconst (v := 1) dA_run_28 (by decide) ?_
  refine V_iadd dA_run_29 ?_
  refine V_topI (x' := nI (dp + 1)) (nI_1 _) ?_
  refine V_callV (as := [.int 20, .int x, .int (nI (dp + 1))]) (rest := []) (bs' := 0) rfl dA_run_30 cmA_through cvA_through mlA_45 (Or.inl ⟨_, _, _, _, _, rfl, k64, by decide, rfl⟩) rfl rfl (c_thr_1_1_1_1 hC hf hr x (dp := dp + 1) (by omega)) (by decide) (Nat.le_refl _) (by decide) (Nat.le_of_ble_eq_true rfl) ?_
  rintro _ _ s2 ⟨rfl, rfl, hC, hS1, hA1⟩ -
  refine V_one ?_
  have hS := hS.trans hS1
  have hA : ∀ j : Nat, ¬ j = 0 → gi s2 64 j = gi σ 64 j := fun j h => (hA1 j h).trans (hA j h)
  exact V_iret dA_run_33 rfl rfl ⟨rfl, rfl, hC, hS, hA⟩
theorem c_thr_1_1_2_0 {l : Launch} {G : GT} {L : Nat → List Cl} {M σ : Hp} (hC : RC L M σ) {num v : Int32} (hf : fA σ 1 num v) (hr : gi M 76 57 = nI 1) (x : Int32) {dp : Nat} (hd : dp < 25) : MM l G mA_through 6 0 0 [.ref 64, .int 12, .int x, .int (nI dp)] KA σ (PA L (bodyL 3 10 (bodyL 2 11 (bodyL 1 20 M))) σ (some (.int ((((x + num) - v) ^^^ 6) * 2)))) := by
  have hR := hC.1
  have hC0 := hC
  have hS : Sm σ σ := Sm.rfl
  have hA : ∀ j : Nat, ¬ j = 0 → gi σ 64 j = gi σ 64 j := fun _ _ => rfl
  have hf0 := hf
  refine MM.of (loc := [(0, .ref 64), (1, .int 12), (2, .int x), (3, .int (nI dp))]) (by decide +kernel) rfl (Nat.le_of_ble_eq_true rfl) ?_
  refine V_iload_n dA_through_0 rfl ?_
  refine V_lsw (tgt := 124) dA_through_1 (by decide) rfl rfl ?_
  refine V_aload_n dA_through_124 rfl ?_
  refine V_aload_n dA_through_125 rfl ?_
  refine V_getE (x := 1) dA_through_126 flA_24 k64 rfl hf.1 ?_
  refine V_iconst (v := 1) dA_through_129 (by decide) ?_
  refine V_iload_n dA_through_130 rfl ?_
  refine V_iload_n dA_through_131 rfl ?_
  refine V_callV (as := [.int 1, .int 1, .int x, .int (nI dp)]) (rest := []) (bs' := 0) rfl dA_through_132 cmA_run cvA_run mlA_33 (Or.inl ⟨_, _, _, _, _, rfl, k64, by decide, rfl⟩) rfl rfl (c_run_1_1_1_1 hC hf hr x (dp := dp) (by omega)) (by decide) (Nat.le_refl _) (by decide) (Nat.le_of_ble_eq_true rfl) ?_
  rintro _ _ s132 ⟨rfl, rfl, hC, hS1, hA1⟩ -
  refine V_one ?_
  have hS := hS.trans hS1
  have hA : ∀ j : Nat, ¬ j = 0 → gi s132 64 j = gi σ 64 j := fun j h => (hA1 j h).trans (hA j h)
  have hf := hf0.to hA
  have hr : gi (bodyL 3 10 (bodyL 2 11 (bodyL 1 20 M))) 76 57 = nI 4 := gi_eq
  have hR := hC.1
  refine V_iconst (v := 2) dA_through_135 (by decide) ?_
  refine V_imul dA_through_136 ?_
  exact V_iret dA_through_137 rfl rfl ⟨rfl, rfl, hC, hS, hA⟩
theorem c_run_1_1_2_0 {l : Launch} {G : GT} {L : Nat → List Cl} {M σ : Hp} (hC : RC L M σ) {num v : Int32} (hf : fA σ 1 num v) (hr : gi M 76 57 = nI 0) (x : Int32) {dp : Nat} (hd : dp < 24) : MM l G mA_run 7 0 0 [.ref 64, .int 1, .int 2, .int x, .int (nI dp)] KA σ (PA L (bodyL 3 10 (bodyL 2 11 (bodyL 1 20 (bodyL 0 12 M)))) σ (some (.int ((((x + num) - v) ^^^ 6) * 2)))) := by
  have hR := hC.1
  have hC0 := hC
  have hS : Sm σ σ := Sm.rfl
  have hA : ∀ j : Nat, ¬ j = 0 → gi σ 64 j = gi σ 64 j := fun _ _ => rfl
  have hf0 := hf
  refine MM.of (loc := [(0, .ref 64), (1, .int 1), (2, .int 2), (3, .int x), (4, .int (nI dp))]) (by decide +kernel) rfl (Nat.le_of_ble_eq_true rfl) ?_
  refine V_iload dA_run_0 rfl ?_
  refine V_bipush (v := 40) dA_run_2 (by decide) ?_
  refine V_icmp_lt (tgt := 9) dA_run_4 rfl (fun _ => ?_) (fun h => absurd h (not_not_intro (nI_lt (a := dp) (b := 40) (by omega) (by decide))))
  refine V_iload_n dA_run_9 rfl ?_
  refine V_iload_n dA_run_10 rfl ?_
  refine V_callS (as := [.int 1, .int 2]) (rest := []) (bs' := 0) rfl dA_run_11 cmA_bodyFrom stA_bodyFrom mlA_37 rfl rfl c_bf_1_2 (by decide) (Nat.le_refl _) (by decide) (Nat.le_of_ble_eq_true rfl) ?_
  rintro _ _ _ ⟨rfl, rfl, rfl⟩ -
  refine V_one ?_
  refine V_istore (loc' := [(5, .int 12), (0, .ref 64), (1, .int 1), (2, .int 2), (3, .int x), (4, .int (nI dp))]) dA_run_14 (by decide) rfl ?_
  refine V_aload_n dA_run_16 rfl ?_
  refine V_iload dA_run_17 rfl ?_
  refine V_callV (as := [.int 12]) (rest := []) (bs' := 0) rfl dA_run_19 cmA_begin cvA_begin mlA_41 (Or.inl ⟨_, _, _, _, _, rfl, k64, by decide, rfl⟩) rfl rfl (c_begin hC (by decide) hr 12) (by decide) (Nat.le_refl _) (by decide) (Nat.le_of_ble_eq_true rfl) ?_
  rintro _ _ s1 ⟨rfl, rfl, hC, hS1, hA1⟩ -
  refine V_non ?_
  have hS := hS.trans hS1
  have hA : ∀ j : Nat, ¬ j = 0 → gi s1 64 j = gi σ 64 j := fun j h => (hA1 j h).trans (hA j h)
  have hf := hf0.to hA
  have hr : gi (bodyL 0 12 M) 76 57 = nI 1 := gi_eq
  refine V_aload_n dA_run_22 rfl ?_
  refine V_iload dA_run_23 rfl ?_
  refine V_iload_n dA_run_25 rfl ?_
  refine V_iload dA_run_26 rfl ?_
  refine V_iconst (v := 1) dA_run_28 (by decide) ?_
  refine V_iadd dA_run_29 ?_
  refine V_topI (x' := nI (dp + 1)) (nI_1 _) ?_
  refine V_callV (as := [.int 12, .int x, .int (nI (dp + 1))]) (rest := []) (bs' := 0) rfl dA_run_30 cmA_through cvA_through mlA_45 (Or.inl ⟨_, _, _, _, _, rfl, k64, by decide, rfl⟩) rfl rfl (c_thr_1_1_2_0 hC hf hr x (dp := dp + 1) (by omega)) (by decide) (Nat.le_refl _) (by decide) (Nat.le_of_ble_eq_true rfl) ?_
  rintro _ _ s2 ⟨rfl, rfl, hC, hS1, hA1⟩ -
  refine V_one ?_
  have hS := hS.trans hS1
  have hA : ∀ j : Nat, ¬ j = 0 → gi s2 64 j = gi σ 64 j := fun j h => (hA1 j h).trans (hA j h)
  exact V_iret dA_run_33 rfl rfl ⟨rfl, rfl, hC, hS, hA⟩
theorem c_thr_2_0_0_1 {l : Launch} {G : GT} {L : Nat → List Cl} {M σ : Hp} (hC : RC L M σ) {num v : Int32} (hf : fA σ 2 num v) (hr : gi M 76 57 = nI 2) (x : Int32) {dp : Nat} (hd : dp < 31) : MM l G mA_through 0 0 0 [.ref 64, .int 10, .int x, .int (nI dp)] KA σ (PA L M σ (some (.int (x + num)))) := by
  have hR := hC.1
  have hC0 := hC
  have hS : Sm σ σ := Sm.rfl
  have hA : ∀ j : Nat, ¬ j = 0 → gi σ 64 j = gi σ 64 j := fun _ _ => rfl
  have hf0 := hf
  refine MM.of (loc := [(0, .ref 64), (1, .int 10), (2, .int x), (3, .int (nI dp))]) (by decide +kernel) rfl (Nat.le_of_ble_eq_true rfl) ?_
  refine V_iload_n dA_through_0 rfl ?_
  refine V_lsw (tgt := 100) dA_through_1 (by decide) rfl rfl ?_
  refine V_iload_n dA_through_100 rfl ?_
  refine V_aload_n dA_through_101 rfl ?_
  refine V_getE (x := num) dA_through_102 flA_28 k64 rfl hf.2.1 ?_
  refine V_iadd dA_through_105 ?_
  exact V_iret dA_through_106 rfl rfl ⟨rfl, rfl, hC, hS, hA⟩
theorem c_run_2_0_0_1 {l : Launch} {G : GT} {L : Nat → List Cl} {M σ : Hp} (hC : RC L M σ) {num v : Int32} (hf : fA σ 2 num v) (hr : gi M 76 57 = nI 1) (x : Int32) {dp : Nat} (hd : dp < 30) : MM l G mA_run 1 0 0 [.ref 64, .int 0, .int 0, .int x, .int (nI dp)] KA σ (PA L (bodyL 1 10 M) σ (some (.int (x + num)))) := by
  have hR := hC.1
  have hC0 := hC
  have hS : Sm σ σ := Sm.rfl
  have hA : ∀ j : Nat, ¬ j = 0 → gi σ 64 j = gi σ 64 j := fun _ _ => rfl
  have hf0 := hf
  refine MM.of (loc := [(0, .ref 64), (1, .int 0), (2, .int 0), (3, .int x), (4, .int (nI dp))]) (by decide +kernel) rfl (Nat.le_of_ble_eq_true rfl) ?_
  refine V_iload dA_run_0 rfl ?_
  refine V_bipush (v := 40) dA_run_2 (by decide) ?_
  refine V_icmp_lt (tgt := 9) dA_run_4 rfl (fun _ => ?_) (fun h => absurd h (not_not_intro (nI_lt (a := dp) (b := 40) (by omega) (by decide))))
  refine V_iload_n dA_run_9 rfl ?_
  refine V_iload_n dA_run_10 rfl ?_
  refine V_callS (as := [.int 0, .int 0]) (rest := []) (bs' := 0) rfl dA_run_11 cmA_bodyFrom stA_bodyFrom mlA_37 rfl rfl c_bf_0_0 (by decide) (Nat.le_refl _) (by decide) (Nat.le_of_ble_eq_true rfl) ?_
  rintro _ _ _ ⟨rfl, rfl, rfl⟩ -
  refine V_one ?_
  refine V_istore (loc' := [(5, .int 10), (0, .ref 64), (1, .int 0), (2, .int 0), (3, .int x), (4, .int (nI dp))]) dA_run_14 (by decide) rfl ?_
  refine V_aload_n dA_run_16 rfl ?_
  refine V_iload dA_run_17 rfl ?_
  refine V_callV (as := [.int 10]) (rest := []) (bs' := 0) rfl dA_run_19 cmA_begin cvA_begin mlA_41 (Or.inl ⟨_, _, _, _, _, rfl, k64, by decide, rfl⟩) rfl rfl (c_begin hC (by decide) hr 10) (by decide) (Nat.le_refl _) (by decide) (Nat.le_of_ble_eq_true rfl) ?_
  rintro _ _ s1 ⟨rfl, rfl, hC, hS1, hA1⟩ -
  refine V_non ?_
  have hS := hS.trans hS1
  have hA : ∀ j : Nat, ¬ j = 0 → gi s1 64 j = gi σ 64 j := fun j h => (hA1 j h).trans (hA j h)
  have hf := hf0.to hA
  have hr : gi (bodyL 1 10 M) 76 57 = nI 2 := gi_eq
  refine V_aload_n dA_run_22 rfl ?_
  refine V_iload dA_run_23 rfl ?_
  refine V_iload_n dA_run_25 rfl ?_
  refine V_iload dA_run_26 rfl ?_
  refine V_iconst (v := 1) dA_run_28 (by decide) ?_
  refine V_iadd dA_run_29 ?_
  refine V_topI (x' := nI (dp + 1)) (nI_1 _) ?_
  refine V_callV (as := [.int 10, .int x, .int (nI (dp + 1))]) (rest := []) (bs' := 0) rfl dA_run_30 cmA_through cvA_through mlA_45 (Or.inl ⟨_, _, _, _, _, rfl, k64, by decide, rfl⟩) rfl rfl (c_thr_2_0_0_1 hC hf hr x (dp := dp + 1) (by omega)) (by decide) (Nat.le_refl _) (by decide) (Nat.le_of_ble_eq_true rfl) ?_
  rintro _ _ s2 ⟨rfl, rfl, hC, hS1, hA1⟩ -
  refine V_one ?_
  have hS := hS.trans hS1
  have hA : ∀ j : Nat, ¬ j = 0 → gi s2 64 j = gi σ 64 j := fun j h => (hA1 j h).trans (hA j h)
  exact V_iret dA_run_33 rfl rfl ⟨rfl, rfl, hC, hS, hA⟩
theorem c_thr_2_2_0_0 {l : Launch} {G : GT} {L : Nat → List Cl} {M σ : Hp} (hC : RC L M σ) {num v : Int32} (hf : fA σ 2 num v) (hr : gi M 76 57 = nI 1) (x : Int32) {dp : Nat} (hd : dp < 29) : MM l G mA_through 2 0 0 [.ref 64, .int 30, .int x, .int (nI dp)] KA σ (PA L (bodyL 1 10 M) σ (some (.int ((x * 3) + num)))) := by
  have hR := hC.1
  have hC0 := hC
  have hS : Sm σ σ := Sm.rfl
  have hA : ∀ j : Nat, ¬ j = 0 → gi σ 64 j = gi σ 64 j := fun _ _ => rfl
  have hf0 := hf
  refine MM.of (loc := [(0, .ref 64), (1, .int 30), (2, .int x), (3, .int (nI dp))]) (by decide +kernel) rfl (Nat.le_of_ble_eq_true rfl) ?_
  refine V_iload_n dA_through_0 rfl ?_
  refine V_lsw (tgt := 150) dA_through_1 (by decide) rfl rfl ?_
  refine V_aload_n dA_through_150 rfl ?_
  refine V_iconst (v := 0) dA_through_151 (by decide) ?_
  refine V_iconst (v := 0) dA_through_152 (by decide) ?_
  refine V_iload_n dA_through_153 rfl ?_
  refine V_iconst (v := 3) dA_through_154 (by decide) ?_
  refine V_imul dA_through_155 ?_
  refine V_iload_n dA_through_156 rfl ?_
  refine V_callV (as := [.int 0, .int 0, .int (x * 3), .int (nI dp)]) (rest := []) (bs' := 0) rfl dA_through_157 cmA_run cvA_run mlA_33 (Or.inl ⟨_, _, _, _, _, rfl, k64, by decide, rfl⟩) rfl rfl (c_run_2_0_0_1 hC hf hr (x * 3) (dp := dp) (by omega)) (by decide) (Nat.le_refl _) (by decide) (Nat.le_of_ble_eq_true rfl) ?_
  rintro _ _ s157 ⟨rfl, rfl, hC, hS1, hA1⟩ -
  refine V_one ?_
  have hS := hS.trans hS1
  have hA : ∀ j : Nat, ¬ j = 0 → gi s157 64 j = gi σ 64 j := fun j h => (hA1 j h).trans (hA j h)
  have hf := hf0.to hA
  have hr : gi (bodyL 1 10 M) 76 57 = nI 2 := gi_eq
  have hR := hC.1
  exact V_iret dA_through_160 rfl rfl ⟨rfl, rfl, hC, hS, hA⟩
theorem c_run_2_2_0_0 {l : Launch} {G : GT} {L : Nat → List Cl} {M σ : Hp} (hC : RC L M σ) {num v : Int32} (hf : fA σ 2 num v) (hr : gi M 76 57 = nI 0) (x : Int32) {dp : Nat} (hd : dp < 28) : MM l G mA_run 3 0 0 [.ref 64, .int 2, .int 0, .int x, .int (nI dp)] KA σ (PA L (bodyL 1 10 (bodyL 0 30 M)) σ (some (.int ((x * 3) + num)))) := by
  have hR := hC.1
  have hC0 := hC
  have hS : Sm σ σ := Sm.rfl
  have hA : ∀ j : Nat, ¬ j = 0 → gi σ 64 j = gi σ 64 j := fun _ _ => rfl
  have hf0 := hf
  refine MM.of (loc := [(0, .ref 64), (1, .int 2), (2, .int 0), (3, .int x), (4, .int (nI dp))]) (by decide +kernel) rfl (Nat.le_of_ble_eq_true rfl) ?_
  refine V_iload dA_run_0 rfl ?_
  refine V_bipush (v := 40) dA_run_2 (by decide) ?_
  refine V_icmp_lt (tgt := 9) dA_run_4 rfl (fun _ => ?_) (fun h => absurd h (not_not_intro (nI_lt (a := dp) (b := 40) (by omega) (by decide))))
  refine V_iload_n dA_run_9 rfl ?_
  refine V_iload_n dA_run_10 rfl ?_
  refine V_callS (as := [.int 2, .int 0]) (rest := []) (bs' := 0) rfl dA_run_11 cmA_bodyFrom stA_bodyFrom mlA_37 rfl rfl c_bf_2_0 (by decide) (Nat.le_refl _) (by decide) (Nat.le_of_ble_eq_true rfl) ?_
  rintro _ _ _ ⟨rfl, rfl, rfl⟩ -
  refine V_one ?_
  refine V_istore (loc' := [(5, .int 30), (0, .ref 64), (1, .int 2), (2, .int 0), (3, .int x), (4, .int (nI dp))]) dA_run_14 (by decide) rfl ?_
  refine V_aload_n dA_run_16 rfl ?_
  refine V_iload dA_run_17 rfl ?_
  refine V_callV (as := [.int 30]) (rest := []) (bs' := 0) rfl dA_run_19 cmA_begin cvA_begin mlA_41 (Or.inl ⟨_, _, _, _, _, rfl, k64, by decide, rfl⟩) rfl rfl (c_begin hC (by decide) hr 30) (by decide) (Nat.le_refl _) (by decide) (Nat.le_of_ble_eq_true rfl) ?_
  rintro _ _ s1 ⟨rfl, rfl, hC, hS1, hA1⟩ -
  refine V_non ?_
  have hS := hS.trans hS1
  have hA : ∀ j : Nat, ¬ j = 0 → gi s1 64 j = gi σ 64 j := fun j h => (hA1 j h).trans (hA j h)
  have hf := hf0.to hA
  have hr : gi (bodyL 0 30 M) 76 57 = nI 1 := gi_eq
  refine V_aload_n dA_run_22 rfl ?_
  refine V_iload dA_run_23 rfl ?_
  refine V_iload_n dA_run_25 rfl ?_
  refine V_iload dA_run_26 rfl ?_
  refine V_iconst (v := 1) dA_run_28 (by decide) ?_
  refine V_iadd dA_run_29 ?_
  refine V_topI (x' := nI (dp + 1)) (nI_1 _) ?_
  refine V_callV (as := [.int 30, .int x, .int (nI (dp + 1))]) (rest := []) (bs' := 0) rfl dA_run_30 cmA_through cvA_through mlA_45 (Or.inl ⟨_, _, _, _, _, rfl, k64, by decide, rfl⟩) rfl rfl (c_thr_2_2_0_0 hC hf hr x (dp := dp + 1) (by omega)) (by decide) (Nat.le_refl _) (by decide) (Nat.le_of_ble_eq_true rfl) ?_
  rintro _ _ s2 ⟨rfl, rfl, hC, hS1, hA1⟩ -
  refine V_one ?_
  have hS := hS.trans hS1
  have hA : ∀ j : Nat, ¬ j = 0 → gi s2 64 j = gi σ 64 j := fun j h => (hA1 j h).trans (hA j h)
  exact V_iret dA_run_33 rfl rfl ⟨rfl, rfl, hC, hS, hA⟩
theorem c_thr_2_0_0_2 {l : Launch} {G : GT} {L : Nat → List Cl} {M σ : Hp} (hC : RC L M σ) {num v : Int32} (hf : fA σ 2 num v) (hr : gi M 76 57 = nI 3) (x : Int32) {dp : Nat} (hd : dp < 31) : MM l G mA_through 0 0 0 [.ref 64, .int 10, .int x, .int (nI dp)] KA σ (PA L M σ (some (.int (x + num)))) := by
  have hR := hC.1
  have hC0 := hC
  have hS : Sm σ σ := Sm.rfl
  have hA : ∀ j : Nat, ¬ j = 0 → gi σ 64 j = gi σ 64 j := fun _ _ => rfl
  have hf0 := hf
  refine MM.of (loc := [(0, .ref 64), (1, .int 10), (2, .int x), (3, .int (nI dp))]) (by decide +kernel) rfl (Nat.le_of_ble_eq_true rfl) ?_
  refine V_iload_n dA_through_0 rfl ?_
  refine V_lsw (tgt := 100) dA_through_1 (by decide) rfl rfl ?_
  refine V_iload_n dA_through_100 rfl ?_
  refine V_aload_n dA_through_101 rfl ?_
  refine V_getE (x := num) dA_through_102 flA_28 k64 rfl hf.2.1 ?_
  refine V_iadd dA_through_105 ?_
  exact V_iret dA_through_106 rfl rfl ⟨rfl, rfl, hC, hS, hA⟩
theorem c_run_2_0_0_2 {l : Launch} {G : GT} {L : Nat → List Cl} {M σ : Hp} (hC : RC L M σ) {num v : Int32} (hf : fA σ 2 num v) (hr : gi M 76 57 = nI 2) (x : Int32) {dp : Nat} (hd : dp < 30) : MM l G mA_run 1 0 0 [.ref 64, .int 0, .int 0, .int x, .int (nI dp)] KA σ (PA L (bodyL 2 10 M) σ (some (.int (x + num)))) := by
  have hR := hC.1
  have hC0 := hC
  have hS : Sm σ σ := Sm.rfl
  have hA : ∀ j : Nat, ¬ j = 0 → gi σ 64 j = gi σ 64 j := fun _ _ => rfl
  have hf0 := hf
  refine MM.of (loc := [(0, .ref 64), (1, .int 0), (2, .int 0), (3, .int x), (4, .int (nI dp))]) (by decide +kernel) rfl (Nat.le_of_ble_eq_true rfl) ?_
  refine V_iload dA_run_0 rfl ?_
  refine V_bipush (v := 40) dA_run_2 (by decide) ?_
  refine V_icmp_lt (tgt := 9) dA_run_4 rfl (fun _ => ?_) (fun h => absurd h (not_not_intro (nI_lt (a := dp) (b := 40) (by omega) (by decide))))
  refine V_iload_n dA_run_9 rfl ?_
  refine V_iload_n dA_run_10 rfl ?_
  refine V_callS (as := [.int 0, .int 0]) (rest := []) (bs' := 0) rfl dA_run_11 cmA_bodyFrom stA_bodyFrom mlA_37 rfl rfl c_bf_0_0 (by decide) (Nat.le_refl _) (by decide) (Nat.le_of_ble_eq_true rfl) ?_
  rintro _ _ _ ⟨rfl, rfl, rfl⟩ -
  refine V_one ?_
  refine V_istore (loc' := [(5, .int 10), (0, .ref 64), (1, .int 0), (2, .int 0), (3, .int x), (4, .int (nI dp))]) dA_run_14 (by decide) rfl ?_
  refine V_aload_n dA_run_16 rfl ?_
  refine V_iload dA_run_17 rfl ?_
  refine V_callV (as := [.int 10]) (rest := []) (bs' := 0) rfl dA_run_19 cmA_begin cvA_begin mlA_41 (Or.inl ⟨_, _, _, _, _, rfl, k64, by decide, rfl⟩) rfl rfl (c_begin hC (by decide) hr 10) (by decide) (Nat.le_refl _) (by decide) (Nat.le_of_ble_eq_true rfl) ?_
  rintro _ _ s1 ⟨rfl, rfl, hC, hS1, hA1⟩ -
  refine V_non ?_
  have hS := hS.trans hS1
  have hA : ∀ j : Nat, ¬ j = 0 → gi s1 64 j = gi σ 64 j := fun j h => (hA1 j h).trans (hA j h)
  have hf := hf0.to hA
  have hr : gi (bodyL 2 10 M) 76 57 = nI 3 := gi_eq
  refine V_aload_n dA_run_22 rfl ?_
  refine V_iload dA_run_23 rfl ?_
  refine V_iload_n dA_run_25 rfl ?_
  refine V_iload dA_run_26 rfl ?_
  refine V_iconst (v := 1) dA_run_28 (by decide) ?_
  refine V_iadd dA_run_29 ?_
  refine V_topI (x' := nI (dp + 1)) (nI_1 _) ?_
  refine V_callV (as := [.int 10, .int x, .int (nI (dp + 1))]) (rest := []) (bs' := 0) rfl dA_run_30 cmA_through cvA_through mlA_45 (Or.inl ⟨_, _, _, _, _, rfl, k64, by decide, rfl⟩) rfl rfl (c_thr_2_0_0_2 hC hf hr x (dp := dp + 1) (by omega)) (by decide) (Nat.le_refl _) (by decide) (Nat.le_of_ble_eq_true rfl) ?_
  rintro _ _ s2 ⟨rfl, rfl, hC, hS1, hA1⟩ -
  refine V_one ?_
  have hS := hS.trans hS1
  have hA : ∀ j : Nat, ¬ j = 0 → gi s2 64 j = gi σ 64 j := fun j h => (hA1 j h).trans (hA j h)
  exact V_iret dA_run_33 rfl rfl ⟨rfl, rfl, hC, hS, hA⟩
theorem c_thr_2_2_0_1 {l : Launch} {G : GT} {L : Nat → List Cl} {M σ : Hp} (hC : RC L M σ) {num v : Int32} (hf : fA σ 2 num v) (hr : gi M 76 57 = nI 2) (x : Int32) {dp : Nat} (hd : dp < 29) : MM l G mA_through 2 0 0 [.ref 64, .int 30, .int x, .int (nI dp)] KA σ (PA L (bodyL 2 10 M) σ (some (.int ((x * 3) + num)))) := by
  have hR := hC.1
  have hC0 := hC
  have hS : Sm σ σ := Sm.rfl
  have hA : ∀ j : Nat, ¬ j = 0 → gi σ 64 j = gi σ 64 j := fun _ _ => rfl
  have hf0 := hf
  refine MM.of (loc := [(0, .ref 64), (1, .int 30), (2, .int x), (3, .int (nI dp))]) (by decide +kernel) rfl (Nat.le_of_ble_eq_true rfl) ?_
  refine V_iload_n dA_through_0 rfl ?_
  refine V_lsw (tgt := 150) dA_through_1 (by decide) rfl rfl ?_
  refine V_aload_n dA_through_150 rfl ?_
  refine V_iconst (v := 0) dA_through_151 (by decide) ?_
  refine V_iconst (v := 0) dA_through_152 (by decide) ?_
  refine V_iload_n dA_through_153 rfl ?_
  refine V_iconst (v := 3) dA_through_154 (by decide) ?_
  refine V_imul dA_through_155 ?_
  refine V_iload_n dA_through_156 rfl ?_
  refine V_callV (as := [.int 0, .int 0, .int (x * 3), .int (nI dp)]) (rest := []) (bs' := 0) rfl dA_through_157 cmA_run cvA_run mlA_33 (Or.inl ⟨_, _, _, _, _, rfl, k64, by decide, rfl⟩) rfl rfl (c_run_2_0_0_2 hC hf hr (x * 3) (dp := dp) (by omega)) (by decide) (Nat.le_refl _) (by decide) (Nat.le_of_ble_eq_true rfl) ?_
  rintro _ _ s157 ⟨rfl, rfl, hC, hS1, hA1⟩ -
  refine V_one ?_
  have hS := hS.trans hS1
  have hA : ∀ j : Nat, ¬ j = 0 → gi s157 64 j = gi σ 64 j := fun j h => (hA1 j h).trans (hA j h)
  have hf := hf0.to hA
  have hr : gi (bodyL 2 10 M) 76 57 = nI 3 := gi_eq
  have hR := hC.1
  exact V_iret dA_through_160 rfl rfl ⟨rfl, rfl, hC, hS, hA⟩
theorem c_run_2_2_0_1 {l : Launch} {G : GT} {L : Nat → List Cl} {M σ : Hp} (hC : RC L M σ) {num v : Int32} (hf : fA σ 2 num v) (hr : gi M 76 57 = nI 1) (x : Int32) {dp : Nat} (hd : dp < 28) : MM l G mA_run 3 0 0 [.ref 64, .int 2, .int 0, .int x, .int (nI dp)] KA σ (PA L (bodyL 2 10 (bodyL 1 30 M)) σ (some (.int ((x * 3) + num)))) := by
  have hR := hC.1
  have hC0 := hC
  have hS : Sm σ σ := Sm.rfl
  have hA : ∀ j : Nat, ¬ j = 0 → gi σ 64 j = gi σ 64 j := fun _ _ => rfl
  have hf0 := hf
  refine MM.of (loc := [(0, .ref 64), (1, .int 2), (2, .int 0), (3, .int x), (4, .int (nI dp))]) (by decide +kernel) rfl (Nat.le_of_ble_eq_true rfl) ?_
  refine V_iload dA_run_0 rfl ?_
  refine V_bipush (v := 40) dA_run_2 (by decide) ?_
  refine V_icmp_lt (tgt := 9) dA_run_4 rfl (fun _ => ?_) (fun h => absurd h (not_not_intro (nI_lt (a := dp) (b := 40) (by omega) (by decide))))
  refine V_iload_n dA_run_9 rfl ?_
  refine V_iload_n dA_run_10 rfl ?_
  refine V_callS (as := [.int 2, .int 0]) (rest := []) (bs' := 0) rfl dA_run_11 cmA_bodyFrom stA_bodyFrom mlA_37 rfl rfl c_bf_2_0 (by decide) (Nat.le_refl _) (by decide) (Nat.le_of_ble_eq_true rfl) ?_
  rintro _ _ _ ⟨rfl, rfl, rfl⟩ -
  refine V_one ?_
  refine V_istore (loc' := [(5, .int 30), (0, .ref 64), (1, .int 2), (2, .int 0), (3, .int x), (4, .int (nI dp))]) dA_run_14 (by decide) rfl ?_
  refine V_aload_n dA_run_16 rfl ?_
  refine V_iload dA_run_17 rfl ?_
  refine V_callV (as := [.int 30]) (rest := []) (bs' := 0) rfl dA_run_19 cmA_begin cvA_begin mlA_41 (Or.inl ⟨_, _, _, _, _, rfl, k64, by decide, rfl⟩) rfl rfl (c_begin hC (by decide) hr 30) (by decide) (Nat.le_refl _) (by decide) (Nat.le_of_ble_eq_true rfl) ?_
  rintro _ _ s1 ⟨rfl, rfl, hC, hS1, hA1⟩ -
  refine V_non ?_
  have hS := hS.trans hS1
  have hA : ∀ j : Nat, ¬ j = 0 → gi s1 64 j = gi σ 64 j := fun j h => (hA1 j h).trans (hA j h)
  have hf := hf0.to hA
  have hr : gi (bodyL 1 30 M) 76 57 = nI 2 := gi_eq
  refine V_aload_n dA_run_22 rfl ?_
  refine V_iload dA_run_23 rfl ?_
  refine V_iload_n dA_run_25 rfl ?_
  refine V_iload dA_run_26 rfl ?_
  refine V_iconst (v := 1) dA_run_28 (by decide) ?_
  refine V_iadd dA_run_29 ?_
  refine V_topI (x' := nI (dp + 1)) (nI_1 _) ?_
  refine V_callV (as := [.int 30, .int x, .int (nI (dp + 1))]) (rest := []) (bs' := 0) rfl dA_run_30 cmA_through cvA_through mlA_45 (Or.inl ⟨_, _, _, _, _, rfl, k64, by decide, rfl⟩) rfl rfl (c_thr_2_2_0_1 hC hf hr x (dp := dp + 1) (by omega)) (by decide) (Nat.le_refl _) (by decide) (Nat.le_of_ble_eq_true rfl) ?_
  rintro _ _ s2 ⟨rfl, rfl, hC, hS1, hA1⟩ -
  refine V_one ?_
  have hS := hS.trans hS1
  have hA : ∀ j : Nat, ¬ j = 0 → gi s2 64 j = gi σ 64 j := fun j h => (hA1 j h).trans (hA j h)
  exact V_iret dA_run_33 rfl rfl ⟨rfl, rfl, hC, hS, hA⟩
theorem c_thr_2_2_1_0 {l : Launch} {G : GT} {L : Nat → List Cl} {M σ : Hp} (hC : RC L M σ) {num v : Int32} (hf : fA σ 2 num v) (hr : gi M 76 57 = nI 1) (x : Int32) {dp : Nat} (hd : dp < 27) : MM l G mA_through 4 0 0 [.ref 64, .int 11, .int x, .int (nI dp)] KA σ (PA L (bodyL 2 10 (bodyL 1 30 M)) σ (some (.int (((x * 3) + num) - v)))) := by
  have hR := hC.1
  have hC0 := hC
  have hS : Sm σ σ := Sm.rfl
  have hA : ∀ j : Nat, ¬ j = 0 → gi σ 64 j = gi σ 64 j := fun _ _ => rfl
  have hf0 := hf
  refine MM.of (loc := [(0, .ref 64), (1, .int 11), (2, .int x), (3, .int (nI dp))]) (by decide +kernel) rfl (Nat.le_of_ble_eq_true rfl) ?_
  refine V_iload_n dA_through_0 rfl ?_
  refine V_lsw (tgt := 107) dA_through_1 (by decide) rfl rfl ?_
  refine V_aload_n dA_through_107 rfl ?_
  refine V_aload_n dA_through_108 rfl ?_
  refine V_getE (x := 2) dA_through_109 flA_24 k64 rfl hf.1 ?_
  refine V_iconst (v := 0) dA_through_112 (by decide) ?_
  refine V_iload_n dA_through_113 rfl ?_
  refine V_iload_n dA_through_114 rfl ?_
  refine V_callV (as := [.int 2, .int 0, .int x, .int (nI dp)]) (rest := []) (bs' := 0) rfl dA_through_115 cmA_run cvA_run mlA_33 (Or.inl ⟨_, _, _, _, _, rfl, k64, by decide, rfl⟩) rfl rfl (c_run_2_2_0_1 hC hf hr x (dp := dp) (by omega)) (by decide) (Nat.le_refl _) (by decide) (Nat.le_of_ble_eq_true rfl) ?_
  rintro _ _ s115 ⟨rfl, rfl, hC, hS1, hA1⟩ -
  refine V_one ?_
  have hS := hS.trans hS1
  have hA : ∀ j : Nat, ¬ j = 0 → gi s115 64 j = gi σ 64 j := fun j h => (hA1 j h).trans (hA j h)
  have hf := hf0.to hA
  have hr : gi (bodyL 2 10 (bodyL 1 30 M)) 76 57 = nI 3 := gi_eq
  have hR := hC.1
  refine V_aload_n dA_through_118 rfl ?_
  refine V_getE (x := v) dA_through_119 flA_32 k64 rfl hf.2.2 ?_
  refine V_isub dA_through_122 ?_
  exact V_iret dA_through_123 rfl rfl ⟨rfl, rfl, hC, hS, hA⟩
theorem c_run_2_2_1_0 {l : Launch} {G : GT} {L : Nat → List Cl} {M σ : Hp} (hC : RC L M σ) {num v : Int32} (hf : fA σ 2 num v) (hr : gi M 76 57 = nI 0) (x : Int32) {dp : Nat} (hd : dp < 26) : MM l G mA_run 5 0 0 [.ref 64, .int 2, .int 1, .int x, .int (nI dp)] KA σ (PA L (bodyL 2 10 (bodyL 1 30 (bodyL 0 11 M))) σ (some (.int (((x * 3) + num) - v)))) := by
  have hR := hC.1
  have hC0 := hC
  have hS : Sm σ σ := Sm.rfl
  have hA : ∀ j : Nat, ¬ j = 0 → gi σ 64 j = gi σ 64 j := fun _ _ => rfl
  have hf0 := hf
  refine MM.of (loc := [(0, .ref 64), (1, .int 2), (2, .int 1), (3, .int x), (4, .int (nI dp))]) (by decide +kernel) rfl (Nat.le_of_ble_eq_true rfl) ?_
  refine V_iload dA_run_0 rfl ?_
  refine V_bipush (v := 40) dA_run_2 (by decide) ?_
  refine V_icmp_lt (tgt := 9) dA_run_4 rfl (fun _ => ?_) (fun h => absurd h (not_not_intro (nI_lt (a := dp) (b := 40) (by omega) (by decide))))
  refine V_iload_n dA_run_9 rfl ?_
  refine V_iload_n dA_run_10 rfl ?_
  refine V_callS (as := [.int 2, .int 1]) (rest := []) (bs' := 0) rfl dA_run_11 cmA_bodyFrom stA_bodyFrom mlA_37 rfl rfl c_bf_2_1 (by decide) (Nat.le_refl _) (by decide) (Nat.le_of_ble_eq_true rfl) ?_
  rintro _ _ _ ⟨rfl, rfl, rfl⟩ -
  refine V_one ?_
  refine V_istore (loc' := [(5, .int 11), (0, .ref 64), (1, .int 2), (2, .int 1), (3, .int x), (4, .int (nI dp))]) dA_run_14 (by decide) rfl ?_
  refine V_aload_n dA_run_16 rfl ?_
  refine V_iload dA_run_17 rfl ?_
  refine V_callV (as := [.int 11]) (rest := []) (bs' := 0) rfl dA_run_19 cmA_begin cvA_begin mlA_41 (Or.inl ⟨_, _, _, _, _, rfl, k64, by decide, rfl⟩) rfl rfl (c_begin hC (by decide) hr 11) (by decide) (Nat.le_refl _) (by decide) (Nat.le_of_ble_eq_true rfl) ?_
  rintro _ _ s1 ⟨rfl, rfl, hC, hS1, hA1⟩ -
  refine V_non ?_
  have hS := hS.trans hS1
  have hA : ∀ j : Nat, ¬ j = 0 → gi s1 64 j = gi σ 64 j := fun j h => (hA1 j h).trans (hA j h)
  have hf := hf0.to hA
  have hr : gi (bodyL 0 11 M) 76 57 = nI 1 := gi_eq
  refine V_aload_n dA_run_22 rfl ?_
  refine V_iload dA_run_23 rfl ?_
  refine V_iload_n dA_run_25 rfl ?_
  refine V_iload dA_run_26 rfl ?_
  refine V_iconst (v := 1) dA_run_28 (by decide) ?_
  refine V_iadd dA_run_29 ?_
  refine V_topI (x' := nI (dp + 1)) (nI_1 _) ?_
  refine V_callV (as := [.int 11, .int x, .int (nI (dp + 1))]) (rest := []) (bs' := 0) rfl dA_run_30 cmA_through cvA_through mlA_45 (Or.inl ⟨_, _, _, _, _, rfl, k64, by decide, rfl⟩) rfl rfl (c_thr_2_2_1_0 hC hf hr x (dp := dp + 1) (by omega)) (by decide) (Nat.le_refl _) (by decide) (Nat.le_of_ble_eq_true rfl) ?_
  rintro _ _ s2 ⟨rfl, rfl, hC, hS1, hA1⟩ -
  refine V_one ?_
  have hS := hS.trans hS1
  have hA : ∀ j : Nat, ¬ j = 0 → gi s2 64 j = gi σ 64 j := fun j h => (hA1 j h).trans (hA j h)
  exact V_iret dA_run_33 rfl rfl ⟨rfl, rfl, hC, hS, hA⟩
theorem c_thr_2_0_0_3 {l : Launch} {G : GT} {L : Nat → List Cl} {M σ : Hp} (hC : RC L M σ) {num v : Int32} (hf : fA σ 2 num v) (hr : gi M 76 57 = nI 4) (x : Int32) {dp : Nat} (hd : dp < 31) : MM l G mA_through 0 0 0 [.ref 64, .int 10, .int x, .int (nI dp)] KA σ (PA L M σ (some (.int (x + num)))) := by
  have hR := hC.1
  have hC0 := hC
  have hS : Sm σ σ := Sm.rfl
  have hA : ∀ j : Nat, ¬ j = 0 → gi σ 64 j = gi σ 64 j := fun _ _ => rfl
  have hf0 := hf
  refine MM.of (loc := [(0, .ref 64), (1, .int 10), (2, .int x), (3, .int (nI dp))]) (by decide +kernel) rfl (Nat.le_of_ble_eq_true rfl) ?_
  refine V_iload_n dA_through_0 rfl ?_
  refine V_lsw (tgt := 100) dA_through_1 (by decide) rfl rfl ?_
  refine V_iload_n dA_through_100 rfl ?_
  refine V_aload_n dA_through_101 rfl ?_
  refine V_getE (x := num) dA_through_102 flA_28 k64 rfl hf.2.1 ?_
  refine V_iadd dA_through_105 ?_
  exact V_iret dA_through_106 rfl rfl ⟨rfl, rfl, hC, hS, hA⟩
theorem c_run_2_0_0_3 {l : Launch} {G : GT} {L : Nat → List Cl} {M σ : Hp} (hC : RC L M σ) {num v : Int32} (hf : fA σ 2 num v) (hr : gi M 76 57 = nI 3) (x : Int32) {dp : Nat} (hd : dp < 30) : MM l G mA_run 1 0 0 [.ref 64, .int 0, .int 0, .int x, .int (nI dp)] KA σ (PA L (bodyL 3 10 M) σ (some (.int (x + num)))) := by
  have hR := hC.1
  have hC0 := hC
  have hS : Sm σ σ := Sm.rfl
  have hA : ∀ j : Nat, ¬ j = 0 → gi σ 64 j = gi σ 64 j := fun _ _ => rfl
  have hf0 := hf
  refine MM.of (loc := [(0, .ref 64), (1, .int 0), (2, .int 0), (3, .int x), (4, .int (nI dp))]) (by decide +kernel) rfl (Nat.le_of_ble_eq_true rfl) ?_
  refine V_iload dA_run_0 rfl ?_
  refine V_bipush (v := 40) dA_run_2 (by decide) ?_
  refine V_icmp_lt (tgt := 9) dA_run_4 rfl (fun _ => ?_) (fun h => absurd h (not_not_intro (nI_lt (a := dp) (b := 40) (by omega) (by decide))))
  refine V_iload_n dA_run_9 rfl ?_
  refine V_iload_n dA_run_10 rfl ?_
  refine V_callS (as := [.int 0, .int 0]) (rest := []) (bs' := 0) rfl dA_run_11 cmA_bodyFrom stA_bodyFrom mlA_37 rfl rfl c_bf_0_0 (by decide) (Nat.le_refl _) (by decide) (Nat.le_of_ble_eq_true rfl) ?_
  rintro _ _ _ ⟨rfl, rfl, rfl⟩ -
  refine V_one ?_
  refine V_istore (loc' := [(5, .int 10), (0, .ref 64), (1, .int 0), (2, .int 0), (3, .int x), (4, .int (nI dp))]) dA_run_14 (by decide) rfl ?_
  refine V_aload_n dA_run_16 rfl ?_
  refine V_iload dA_run_17 rfl ?_
  refine V_callV (as := [.int 10]) (rest := []) (bs' := 0) rfl dA_run_19 cmA_begin cvA_begin mlA_41 (Or.inl ⟨_, _, _, _, _, rfl, k64, by decide, rfl⟩) rfl rfl (c_begin hC (by decide) hr 10) (by decide) (Nat.le_refl _) (by decide) (Nat.le_of_ble_eq_true rfl) ?_
  rintro _ _ s1 ⟨rfl, rfl, hC, hS1, hA1⟩ -
  refine V_non ?_
  have hS := hS.trans hS1
  have hA : ∀ j : Nat, ¬ j = 0 → gi s1 64 j = gi σ 64 j := fun j h => (hA1 j h).trans (hA j h)
  have hf := hf0.to hA
  have hr : gi (bodyL 3 10 M) 76 57 = nI 4 := gi_eq
  refine V_aload_n dA_run_22 rfl ?_
  refine V_iload dA_run_23 rfl ?_
  refine V_iload_n dA_run_25 rfl ?_
  refine V_iload dA_run_26 rfl ?_
  refine V_iconst (v := 1) dA_run_28 (by decide) ?_
  refine V_iadd dA_run_29 ?_
  refine V_topI (x' := nI (dp + 1)) (nI_1 _) ?_
  refine V_callV (as := [.int 10, .int x, .int (nI (dp + 1))]) (rest := []) (bs' := 0) rfl dA_run_30 cmA_through cvA_through mlA_45 (Or.inl ⟨_, _, _, _, _, rfl, k64, by decide, rfl⟩) rfl rfl (c_thr_2_0_0_3 hC hf hr x (dp := dp + 1) (by omega)) (by decide) (Nat.le_refl _) (by decide) (Nat.le_of_ble_eq_true rfl) ?_
  rintro _ _ s2 ⟨rfl, rfl, hC, hS1, hA1⟩ -
  refine V_one ?_
  have hS := hS.trans hS1
  have hA : ∀ j : Nat, ¬ j = 0 → gi s2 64 j = gi σ 64 j := fun j h => (hA1 j h).trans (hA j h)
  exact V_iret dA_run_33 rfl rfl ⟨rfl, rfl, hC, hS, hA⟩
theorem c_thr_2_2_0_2 {l : Launch} {G : GT} {L : Nat → List Cl} {M σ : Hp} (hC : RC L M σ) {num v : Int32} (hf : fA σ 2 num v) (hr : gi M 76 57 = nI 3) (x : Int32) {dp : Nat} (hd : dp < 29) : MM l G mA_through 2 0 0 [.ref 64, .int 30, .int x, .int (nI dp)] KA σ (PA L (bodyL 3 10 M) σ (some (.int ((x * 3) + num)))) := by
  have hR := hC.1
  have hC0 := hC
  have hS : Sm σ σ := Sm.rfl
  have hA : ∀ j : Nat, ¬ j = 0 → gi σ 64 j = gi σ 64 j := fun _ _ => rfl
  have hf0 := hf
  refine MM.of (loc := [(0, .ref 64), (1, .int 30), (2, .int x), (3, .int (nI dp))]) (by decide +kernel) rfl (Nat.le_of_ble_eq_true rfl) ?_
  refine V_iload_n dA_through_0 rfl ?_
  refine V_lsw (tgt := 150) dA_through_1 (by decide) rfl rfl ?_
  refine V_aload_n dA_through_150 rfl ?_
  refine V_iconst (v := 0) dA_through_151 (by decide) ?_
  refine V_iconst (v := 0) dA_through_152 (by decide) ?_
  refine V_iload_n dA_through_153 rfl ?_
  refine V_iconst (v := 3) dA_through_154 (by decide) ?_
  refine V_imul dA_through_155 ?_
  refine V_iload_n dA_through_156 rfl ?_
  refine V_callV (as := [.int 0, .int 0, .int (x * 3), .int (nI dp)]) (rest := []) (bs' := 0) rfl dA_through_157 cmA_run cvA_run mlA_33 (Or.inl ⟨_, _, _, _, _, rfl, k64, by decide, rfl⟩) rfl rfl (c_run_2_0_0_3 hC hf hr (x * 3) (dp := dp) (by omega)) (by decide) (Nat.le_refl _) (by decide) (Nat.le_of_ble_eq_true rfl) ?_
  rintro _ _ s157 ⟨rfl, rfl, hC, hS1, hA1⟩ -
  refine V_one ?_
  have hS := hS.trans hS1
  have hA : ∀ j : Nat, ¬ j = 0 → gi s157 64 j = gi σ 64 j := fun j h => (hA1 j h).trans (hA j h)
  have hf := hf0.to hA
  have hr : gi (bodyL 3 10 M) 76 57 = nI 4 := gi_eq
  have hR := hC.1
  exact V_iret dA_through_160 rfl rfl ⟨rfl, rfl, hC, hS, hA⟩
theorem c_run_2_2_0_2 {l : Launch} {G : GT} {L : Nat → List Cl} {M σ : Hp} (hC : RC L M σ) {num v : Int32} (hf : fA σ 2 num v) (hr : gi M 76 57 = nI 2) (x : Int32) {dp : Nat} (hd : dp < 28) : MM l G mA_run 3 0 0 [.ref 64, .int 2, .int 0, .int x, .int (nI dp)] KA σ (PA L (bodyL 3 10 (bodyL 2 30 M)) σ (some (.int ((x * 3) + num)))) := by
  have hR := hC.1
  have hC0 := hC
  have hS : Sm σ σ := Sm.rfl
  have hA : ∀ j : Nat, ¬ j = 0 → gi σ 64 j = gi σ 64 j := fun _ _ => rfl
  have hf0 := hf
  refine MM.of (loc := [(0, .ref 64), (1, .int 2), (2, .int 0), (3, .int x), (4, .int (nI dp))]) (by decide +kernel) rfl (Nat.le_of_ble_eq_true rfl) ?_
  refine V_iload dA_run_0 rfl ?_
  refine V_bipush (v := 40) dA_run_2 (by decide) ?_
  refine V_icmp_lt (tgt := 9) dA_run_4 rfl (fun _ => ?_) (fun h => absurd h (not_not_intro (nI_lt (a := dp) (b := 40) (by omega) (by decide))))
  refine V_iload_n dA_run_9 rfl ?_
  refine V_iload_n dA_run_10 rfl ?_
  refine V_callS (as := [.int 2, .int 0]) (rest := []) (bs' := 0) rfl dA_run_11 cmA_bodyFrom stA_bodyFrom mlA_37 rfl rfl c_bf_2_0 (by decide) (Nat.le_refl _) (by decide) (Nat.le_of_ble_eq_true rfl) ?_
  rintro _ _ _ ⟨rfl, rfl, rfl⟩ -
  refine V_one ?_
  refine V_istore (loc' := [(5, .int 30), (0, .ref 64), (1, .int 2), (2, .int 0), (3, .int x), (4, .int (nI dp))]) dA_run_14 (by decide) rfl ?_
  refine V_aload_n dA_run_16 rfl ?_
  refine V_iload dA_run_17 rfl ?_
  refine V_callV (as := [.int 30]) (rest := []) (bs' := 0) rfl dA_run_19 cmA_begin cvA_begin mlA_41 (Or.inl ⟨_, _, _, _, _, rfl, k64, by decide, rfl⟩) rfl rfl (c_begin hC (by decide) hr 30) (by decide) (Nat.le_refl _) (by decide) (Nat.le_of_ble_eq_true rfl) ?_
  rintro _ _ s1 ⟨rfl, rfl, hC, hS1, hA1⟩ -
  refine V_non ?_
  have hS := hS.trans hS1
  have hA : ∀ j : Nat, ¬ j = 0 → gi s1 64 j = gi σ 64 j := fun j h => (hA1 j h).trans (hA j h)
  have hf := hf0.to hA
  have hr : gi (bodyL 2 30 M) 76 57 = nI 3 := gi_eq
  refine V_aload_n dA_run_22 rfl ?_
  refine V_iload dA_run_23 rfl ?_
  refine V_iload_n dA_run_25 rfl ?_
  refine V_iload dA_run_26 rfl ?_
  refine V_iconst (v := 1) dA_run_28 (by decide) ?_
  refine V_iadd dA_run_29 ?_
  refine V_topI (x' := nI (dp + 1)) (nI_1 _) ?_
  refine V_callV (as := [.int 30, .int x, .int (nI (dp + 1))]) (rest := []) (bs' := 0) rfl dA_run_30 cmA_through cvA_through mlA_45 (Or.inl ⟨_, _, _, _, _, rfl, k64, by decide, rfl⟩) rfl rfl (c_thr_2_2_0_2 hC hf hr x (dp := dp + 1) (by omega)) (by decide) (Nat.le_refl _) (by decide) (Nat.le_of_ble_eq_true rfl) ?_
  rintro _ _ s2 ⟨rfl, rfl, hC, hS1, hA1⟩ -
  refine V_one ?_
  have hS := hS.trans hS1
  have hA : ∀ j : Nat, ¬ j = 0 → gi s2 64 j = gi σ 64 j := fun j h => (hA1 j h).trans (hA j h)
  exact V_iret dA_run_33 rfl rfl ⟨rfl, rfl, hC, hS, hA⟩
theorem c_thr_2_2_1_1 {l : Launch} {G : GT} {L : Nat → List Cl} {M σ : Hp} (hC : RC L M σ) {num v : Int32} (hf : fA σ 2 num v) (hr : gi M 76 57 = nI 2) (x : Int32) {dp : Nat} (hd : dp < 27) : MM l G mA_through 4 0 0 [.ref 64, .int 11, .int x, .int (nI dp)] KA σ (PA L (bodyL 3 10 (bodyL 2 30 M)) σ (some (.int (((x * 3) + num) - v)))) := by
  have hR := hC.1
  have hC0 := hC
  have hS : Sm σ σ := Sm.rfl
  have hA : ∀ j : Nat, ¬ j = 0 → gi σ 64 j = gi σ 64 j := fun _ _ => rfl
  have hf0 := hf
  refine MM.of (loc := [(0, .ref 64), (1, .int 11), (2, .int x), (3, .int (nI dp))]) (by decide +kernel) rfl (Nat.le_of_ble_eq_true rfl) ?_
  refine V_iload_n dA_through_0 rfl ?_
  refine V_lsw (tgt := 107) dA_through_1 (by decide) rfl rfl ?_
  refine V_aload_n dA_through_107 rfl ?_
  refine V_aload_n dA_through_108 rfl ?_
  refine V_getE (x := 2) dA_through_109 flA_24 k64 rfl hf.1 ?_
  refine V_iconst (v := 0) dA_through_112 (by decide) ?_
  refine V_iload_n dA_through_113 rfl ?_
  refine V_iload_n dA_through_114 rfl ?_
  refine V_callV (as := [.int 2, .int 0, .int x, .int (nI dp)]) (rest := []) (bs' := 0) rfl dA_through_115 cmA_run cvA_run mlA_33 (Or.inl ⟨_, _, _, _, _, rfl, k64, by decide, rfl⟩) rfl rfl (c_run_2_2_0_2 hC hf hr x (dp := dp) (by omega)) (by decide) (Nat.le_refl _) (by decide) (Nat.le_of_ble_eq_true rfl) ?_
  rintro _ _ s115 ⟨rfl, rfl, hC, hS1, hA1⟩ -
  refine V_one ?_
  have hS := hS.trans hS1
  have hA : ∀ j : Nat, ¬ j = 0 → gi s115 64 j = gi σ 64 j := fun j h => (hA1 j h).trans (hA j h)
  have hf := hf0.to hA
  have hr : gi (bodyL 3 10 (bodyL 2 30 M)) 76 57 = nI 4 := gi_eq
  have hR := hC.1
  refine V_aload_n dA_through_118 rfl ?_
  refine V_getE (x := v) dA_through_119 flA_32 k64 rfl hf.2.2 ?_
  refine V_isub dA_through_122 ?_
  exact V_iret dA_through_123 rfl rfl ⟨rfl, rfl, hC, hS, hA⟩
theorem c_run_2_2_1_1 {l : Launch} {G : GT} {L : Nat → List Cl} {M σ : Hp} (hC : RC L M σ) {num v : Int32} (hf : fA σ 2 num v) (hr : gi M 76 57 = nI 1) (x : Int32) {dp : Nat} (hd : dp < 26) : MM l G mA_run 5 0 0 [.ref 64, .int 2, .int 1, .int x, .int (nI dp)] KA σ (PA L (bodyL 3 10 (bodyL 2 30 (bodyL 1 11 M))) σ (some (.int (((x * 3) + num) - v)))) := by
  have hR := hC.1
  have hC0 := hC
  have hS : Sm σ σ := Sm.rfl
  have hA : ∀ j : Nat, ¬ j = 0 → gi σ 64 j = gi σ 64 j := fun _ _ => rfl
  have hf0 := hf
  refine MM.of (loc := [(0, .ref 64), (1, .int 2), (2, .int 1), (3, .int x), (4, .int (nI dp))]) (by decide +kernel) rfl (Nat.le_of_ble_eq_true rfl) ?_
  refine V_iload dA_run_0 rfl ?_
  refine V_bipush (v := 40) dA_run_2 (by decide) ?_
  refine V_icmp_lt (tgt := 9) dA_run_4 rfl (fun _ => ?_) (fun h => absurd h (not_not_intro (nI_lt (a := dp) (b := 40) (by omega) (by decide))))
  refine V_iload_n dA_run_9 rfl ?_
  refine V_iload_n dA_run_10 rfl ?_
  refine V_callS (as := [.int 2, .int 1]) (rest := []) (bs' := 0) rfl dA_run_11 cmA_bodyFrom stA_bodyFrom mlA_37 rfl rfl c_bf_2_1 (by decide) (Nat.le_refl _) (by decide) (Nat.le_of_ble_eq_true rfl) ?_
  rintro _ _ _ ⟨rfl, rfl, rfl⟩ -
  refine V_one ?_
  refine V_istore (loc' := [(5, .int 11), (0, .ref 64), (1, .int 2), (2, .int 1), (3, .int x), (4, .int (nI dp))]) dA_run_14 (by decide) rfl ?_
  refine V_aload_n dA_run_16 rfl ?_
  refine V_iload dA_run_17 rfl ?_
  refine V_callV (as := [.int 11]) (rest := []) (bs' := 0) rfl dA_run_19 cmA_begin cvA_begin mlA_41 (Or.inl ⟨_, _, _, _, _, rfl, k64, by decide, rfl⟩) rfl rfl (c_begin hC (by decide) hr 11) (by decide) (Nat.le_refl _) (by decide) (Nat.le_of_ble_eq_true rfl) ?_
  rintro _ _ s1 ⟨rfl, rfl, hC, hS1, hA1⟩ -
  refine V_non ?_
  have hS := hS.trans hS1
  have hA : ∀ j : Nat, ¬ j = 0 → gi s1 64 j = gi σ 64 j := fun j h => (hA1 j h).trans (hA j h)
  have hf := hf0.to hA
  have hr : gi (bodyL 1 11 M) 76 57 = nI 2 := gi_eq
  refine V_aload_n dA_run_22 rfl ?_
  refine V_iload dA_run_23 rfl ?_
  refine V_iload_n dA_run_25 rfl ?_
  refine V_iload dA_run_26 rfl ?_
  refine V_iconst (v := 1) dA_run_28 (by decide) ?_
  refine V_iadd dA_run_29 ?_
  refine V_topI (x' := nI (dp + 1)) (nI_1 _) ?_
  refine V_callV (as := [.int 11, .int x, .int (nI (dp + 1))]) (rest := []) (bs' := 0) rfl dA_run_30 cmA_through cvA_through mlA_45 (Or.inl ⟨_, _, _, _, _, rfl, k64, by decide, rfl⟩) rfl rfl (c_thr_2_2_1_1 hC hf hr x (dp := dp + 1) (by omega)) (by decide) (Nat.le_refl _) (by decide) (Nat.le_of_ble_eq_true rfl) ?_
  rintro _ _ s2 ⟨rfl, rfl, hC, hS1, hA1⟩ -
  refine V_one ?_
  have hS := hS.trans hS1
  have hA : ∀ j : Nat, ¬ j = 0 → gi s2 64 j = gi σ 64 j := fun j h => (hA1 j h).trans (hA j h)
  exact V_iret dA_run_33 rfl rfl ⟨rfl, rfl, hC, hS, hA⟩
theorem c_thr_2_2_2_0 {l : Launch} {G : GT} {L : Nat → List Cl} {M σ : Hp} (hC : RC L M σ) {num v : Int32} (hf : fA σ 2 num v) (hr : gi M 76 57 = nI 1) (x : Int32) {dp : Nat} (hd : dp < 25) : MM l G mA_through 6 0 0 [.ref 64, .int 12, .int x, .int (nI dp)] KA σ (PA L (bodyL 3 10 (bodyL 2 30 (bodyL 1 11 M))) σ (some (.int ((((x * 3) + num) - v) * 2)))) := by
  have hR := hC.1
  have hC0 := hC
  have hS : Sm σ σ := Sm.rfl
  have hA : ∀ j : Nat, ¬ j = 0 → gi σ 64 j = gi σ 64 j := fun _ _ => rfl
  have hf0 := hf
  refine MM.of (loc := [(0, .ref 64), (1, .int 12), (2, .int x), (3, .int (nI dp))]) (by decide +kernel) rfl (Nat.le_of_ble_eq_true rfl) ?_
  refine V_iload_n dA_through_0 rfl ?_
  refine V_lsw (tgt := 124) dA_through_1 (by decide) rfl rfl ?_
  refine V_aload_n dA_through_124 rfl ?_
  refine V_aload_n dA_through_125 rfl ?_
  refine V_getE (x := 2) dA_through_126 flA_24 k64 rfl hf.1 ?_
  refine V_iconst (v := 1) dA_through_129 (by decide) ?_
  refine V_iload_n dA_through_130 rfl ?_
  refine V_iload_n dA_through_131 rfl ?_
  refine V_callV (as := [.int 2, .int 1, .int x, .int (nI dp)]) (rest := []) (bs' := 0) rfl dA_through_132 cmA_run cvA_run mlA_33 (Or.inl ⟨_, _, _, _, _, rfl, k64, by decide, rfl⟩) rfl rfl (c_run_2_2_1_1 hC hf hr x (dp := dp) (by omega)) (by decide) (Nat.le_refl _) (by decide) (Nat.le_of_ble_eq_true rfl) ?_
  rintro _ _ s132 ⟨rfl, rfl, hC, hS1, hA1⟩ -
  refine V_one ?_
  have hS := hS.trans hS1
  have hA : ∀ j : Nat, ¬ j = 0 → gi s132 64 j = gi σ 64 j := fun j h => (hA1 j h).trans (hA j h)
  have hf := hf0.to hA
  have hr : gi (bodyL 3 10 (bodyL 2 30 (bodyL 1 11 M))) 76 57 = nI 4 := gi_eq
  have hR := hC.1
  refine V_iconst (v := 2) dA_through_135 (by decide) ?_
  refine V_imul dA_through_136 ?_
  exact V_iret dA_through_137 rfl rfl ⟨rfl, rfl, hC, hS, hA⟩
theorem c_run_2_2_2_0 {l : Launch} {G : GT} {L : Nat → List Cl} {M σ : Hp} (hC : RC L M σ) {num v : Int32} (hf : fA σ 2 num v) (hr : gi M 76 57 = nI 0) (x : Int32) {dp : Nat} (hd : dp < 24) : MM l G mA_run 7 0 0 [.ref 64, .int 2, .int 2, .int x, .int (nI dp)] KA σ (PA L (bodyL 3 10 (bodyL 2 30 (bodyL 1 11 (bodyL 0 12 M)))) σ (some (.int ((((x * 3) + num) - v) * 2)))) := by
  have hR := hC.1
  have hC0 := hC
  have hS : Sm σ σ := Sm.rfl
  have hA : ∀ j : Nat, ¬ j = 0 → gi σ 64 j = gi σ 64 j := fun _ _ => rfl
  have hf0 := hf
  refine MM.of (loc := [(0, .ref 64), (1, .int 2), (2, .int 2), (3, .int x), (4, .int (nI dp))]) (by decide +kernel) rfl (Nat.le_of_ble_eq_true rfl) ?_
  refine V_iload dA_run_0 rfl ?_
  refine V_bipush (v := 40) dA_run_2 (by decide) ?_
  refine V_icmp_lt (tgt := 9) dA_run_4 rfl (fun _ => ?_) (fun h => absurd h (not_not_intro (nI_lt (a := dp) (b := 40) (by omega) (by decide))))
  refine V_iload_n dA_run_9 rfl ?_
  refine V_iload_n dA_run_10 rfl ?_
  refine V_callS (as := [.int 2, .int 2]) (rest := []) (bs' := 0) rfl dA_run_11 cmA_bodyFrom stA_bodyFrom mlA_37 rfl rfl c_bf_2_2 (by decide) (Nat.le_refl _) (by decide) (Nat.le_of_ble_eq_true rfl) ?_
  rintro _ _ _ ⟨rfl, rfl, rfl⟩ -
  refine V_one ?_
  refine V_istore (loc' := [(5, .int 12), (0, .ref 64), (1, .int 2), (2, .int 2), (3, .int x), (4, .int (nI dp))]) dA_run_14 (by decide) rfl ?_
  refine V_aload_n dA_run_16 rfl ?_
  refine V_iload dA_run_17 rfl ?_
  refine V_callV (as := [.int 12]) (rest := []) (bs' := 0) rfl dA_run_19 cmA_begin cvA_begin mlA_41 (Or.inl ⟨_, _, _, _, _, rfl, k64, by decide, rfl⟩) rfl rfl (c_begin hC (by decide) hr 12) (by decide) (Nat.le_refl _) (by decide) (Nat.le_of_ble_eq_true rfl) ?_
  rintro _ _ s1 ⟨rfl, rfl, hC, hS1, hA1⟩ -
  refine V_non ?_
  have hS := hS.trans hS1
  have hA : ∀ j : Nat, ¬ j = 0 → gi s1 64 j = gi σ 64 j := fun j h => (hA1 j h).trans (hA j h)
  have hf := hf0.to hA
  have hr : gi (bodyL 0 12 M) 76 57 = nI 1 := gi_eq
  refine V_aload_n dA_run_22 rfl ?_
  refine V_iload dA_run_23 rfl ?_
  refine V_iload_n dA_run_25 rfl ?_
  refine V_iload dA_run_26 rfl ?_
  refine V_iconst (v := 1) dA_run_28 (by decide) ?_
  refine V_iadd dA_run_29 ?_
  refine V_topI (x' := nI (dp + 1)) (nI_1 _) ?_
  refine V_callV (as := [.int 12, .int x, .int (nI (dp + 1))]) (rest := []) (bs' := 0) rfl dA_run_30 cmA_through cvA_through mlA_45 (Or.inl ⟨_, _, _, _, _, rfl, k64, by decide, rfl⟩) rfl rfl (c_thr_2_2_2_0 hC hf hr x (dp := dp + 1) (by omega)) (by decide) (Nat.le_refl _) (by decide) (Nat.le_of_ble_eq_true rfl) ?_
  rintro _ _ s2 ⟨rfl, rfl, hC, hS1, hA1⟩ -
  refine V_one ?_
  have hS := hS.trans hS1
  have hA : ∀ j : Nat, ¬ j = 0 → gi s2 64 j = gi σ 64 j := fun j h => (hA1 j h).trans (hA j h)
  exact V_iret dA_run_33 rfl rfl ⟨rfl, rfl, hC, hS, hA⟩
theorem c_thr_3_3_0_0 {l : Launch} {G : GT} {L : Nat → List Cl} {M σ : Hp} (hC : RC L M σ) {num v : Int32} (hf : fA σ 3 num v) (hr : gi M 76 57 = nI 1) (x : Int32) {dp : Nat} (hd : dp < 31) : MM l G mA_through 0 0 0 [.ref 64, .int 10, .int x, .int (nI dp)] KA σ (PA L M σ (some (.int (x + num)))) := by
  have hR := hC.1
  have hC0 := hC
  have hS : Sm σ σ := Sm.rfl
  have hA : ∀ j : Nat, ¬ j = 0 → gi σ 64 j = gi σ 64 j := fun _ _ => rfl
  have hf0 := hf
  refine MM.of (loc := [(0, .ref 64), (1, .int 10), (2, .int x), (3, .int (nI dp))]) (by decide +kernel) rfl (Nat.le_of_ble_eq_true rfl) ?_
  refine V_iload_n dA_through_0 rfl ?_
  refine V_lsw (tgt := 100) dA_through_1 (by decide) rfl rfl ?_
  refine V_iload_n dA_through_100 rfl ?_
  refine V_aload_n dA_through_101 rfl ?_
  refine V_getE (x := num) dA_through_102 flA_28 k64 rfl hf.2.1 ?_
  refine V_iadd dA_through_105 ?_
  exact V_iret dA_through_106 rfl rfl ⟨rfl, rfl, hC, hS, hA⟩
theorem c_run_3_3_0_0 {l : Launch} {G : GT} {L : Nat → List Cl} {M σ : Hp} (hC : RC L M σ) {num v : Int32} (hf : fA σ 3 num v) (hr : gi M 76 57 = nI 0) (x : Int32) {dp : Nat} (hd : dp < 30) : MM l G mA_run 1 0 0 [.ref 64, .int 3, .int 0, .int x, .int (nI dp)] KA σ (PA L (bodyL 0 10 M) σ (some (.int (x + num)))) := by
  have hR := hC.1
  have hC0 := hC
  have hS : Sm σ σ := Sm.rfl
  have hA : ∀ j : Nat, ¬ j = 0 → gi σ 64 j = gi σ 64 j := fun _ _ => rfl
  have hf0 := hf
  refine MM.of (loc := [(0, .ref 64), (1, .int 3), (2, .int 0), (3, .int x), (4, .int (nI dp))]) (by decide +kernel) rfl (Nat.le_of_ble_eq_true rfl) ?_
  refine V_iload dA_run_0 rfl ?_
  refine V_bipush (v := 40) dA_run_2 (by decide) ?_
  refine V_icmp_lt (tgt := 9) dA_run_4 rfl (fun _ => ?_) (fun h => absurd h (not_not_intro (nI_lt (a := dp) (b := 40) (by omega) (by decide))))
  refine V_iload_n dA_run_9 rfl ?_
  refine V_iload_n dA_run_10 rfl ?_
  refine V_callS (as := [.int 3, .int 0]) (rest := []) (bs' := 0) rfl dA_run_11 cmA_bodyFrom stA_bodyFrom mlA_37 rfl rfl c_bf_3_0 (by decide) (Nat.le_refl _) (by decide) (Nat.le_of_ble_eq_true rfl) ?_
  rintro _ _ _ ⟨rfl, rfl, rfl⟩ -
  refine V_one ?_
  refine V_istore (loc' := [(5, .int 10), (0, .ref 64), (1, .int 3), (2, .int 0), (3, .int x), (4, .int (nI dp))]) dA_run_14 (by decide) rfl ?_
  refine V_aload_n dA_run_16 rfl ?_
  refine V_iload dA_run_17 rfl ?_
  refine V_callV (as := [.int 10]) (rest := []) (bs' := 0) rfl dA_run_19 cmA_begin cvA_begin mlA_41 (Or.inl ⟨_, _, _, _, _, rfl, k64, by decide, rfl⟩) rfl rfl (c_begin hC (by decide) hr 10) (by decide) (Nat.le_refl _) (by decide) (Nat.le_of_ble_eq_true rfl) ?_
  rintro _ _ s1 ⟨rfl, rfl, hC, hS1, hA1⟩ -
  refine V_non ?_
  have hS := hS.trans hS1
  have hA : ∀ j : Nat, ¬ j = 0 → gi s1 64 j = gi σ 64 j := fun j h => (hA1 j h).trans (hA j h)
  have hf := hf0.to hA
  have hr : gi (bodyL 0 10 M) 76 57 = nI 1 := gi_eq
  refine V_aload_n dA_run_22 rfl ?_
  refine V_iload dA_run_23 rfl ?_
  refine V_iload_n dA_run_25 rfl ?_
  refine V_iload dA_run_26 rfl ?_
  refine V_iconst (v := 1) dA_run_28 (by decide) ?_
  refine V_iadd dA_run_29 ?_
  refine V_topI (x' := nI (dp + 1)) (nI_1 _) ?_
  refine V_callV (as := [.int 10, .int x, .int (nI (dp + 1))]) (rest := []) (bs' := 0) rfl dA_run_30 cmA_through cvA_through mlA_45 (Or.inl ⟨_, _, _, _, _, rfl, k64, by decide, rfl⟩) rfl rfl (c_thr_3_3_0_0 hC hf hr x (dp := dp + 1) (by omega)) (by decide) (Nat.le_refl _) (by decide) (Nat.le_of_ble_eq_true rfl) ?_
  rintro _ _ s2 ⟨rfl, rfl, hC, hS1, hA1⟩ -
  refine V_one ?_
  have hS := hS.trans hS1
  have hA : ∀ j : Nat, ¬ j = 0 → gi s2 64 j = gi σ 64 j := fun j h => (hA1 j h).trans (hA j h)
  exact V_iret dA_run_33 rfl rfl ⟨rfl, rfl, hC, hS, hA⟩
theorem c_thr_3_3_0_1 {l : Launch} {G : GT} {L : Nat → List Cl} {M σ : Hp} (hC : RC L M σ) {num v : Int32} (hf : fA σ 3 num v) (hr : gi M 76 57 = nI 2) (x : Int32) {dp : Nat} (hd : dp < 31) : MM l G mA_through 0 0 0 [.ref 64, .int 10, .int x, .int (nI dp)] KA σ (PA L M σ (some (.int (x + num)))) := by
  have hR := hC.1
  have hC0 := hC
  have hS : Sm σ σ := Sm.rfl
  have hA : ∀ j : Nat, ¬ j = 0 → gi σ 64 j = gi σ 64 j := fun _ _ => rfl
  have hf0 := hf
  refine MM.of (loc := [(0, .ref 64), (1, .int 10), (2, .int x), (3, .int (nI dp))]) (by decide +kernel) rfl (Nat.le_of_ble_eq_true rfl) ?_
  refine V_iload_n dA_through_0 rfl ?_
  refine V_lsw (tgt := 100) dA_through_1 (by decide) rfl rfl ?_
  refine V_iload_n dA_through_100 rfl ?_
  refine V_aload_n dA_through_101 rfl ?_
  refine V_getE (x := num) dA_through_102 flA_28 k64 rfl hf.2.1 ?_
  refine V_iadd dA_through_105 ?_
  exact V_iret dA_through_106 rfl rfl ⟨rfl, rfl, hC, hS, hA⟩
theorem c_run_3_3_0_1 {l : Launch} {G : GT} {L : Nat → List Cl} {M σ : Hp} (hC : RC L M σ) {num v : Int32} (hf : fA σ 3 num v) (hr : gi M 76 57 = nI 1) (x : Int32) {dp : Nat} (hd : dp < 30) : MM l G mA_run 1 0 0 [.ref 64, .int 3, .int 0, .int x, .int (nI dp)] KA σ (PA L (bodyL 1 10 M) σ (some (.int (x + num)))) := by
  have hR := hC.1
  have hC0 := hC
  have hS : Sm σ σ := Sm.rfl
  have hA : ∀ j : Nat, ¬ j = 0 → gi σ 64 j = gi σ 64 j := fun _ _ => rfl
  have hf0 := hf
  refine MM.of (loc := [(0, .ref 64), (1, .int 3), (2, .int 0), (3, .int x), (4, .int (nI dp))]) (by decide +kernel) rfl (Nat.le_of_ble_eq_true rfl) ?_
  refine V_iload dA_run_0 rfl ?_
  refine V_bipush (v := 40) dA_run_2 (by decide) ?_
  refine V_icmp_lt (tgt := 9) dA_run_4 rfl (fun _ => ?_) (fun h => absurd h (not_not_intro (nI_lt (a := dp) (b := 40) (by omega) (by decide))))
  refine V_iload_n dA_run_9 rfl ?_
  refine V_iload_n dA_run_10 rfl ?_
  refine V_callS (as := [.int 3, .int 0]) (rest := []) (bs' := 0) rfl dA_run_11 cmA_bodyFrom stA_bodyFrom mlA_37 rfl rfl c_bf_3_0 (by decide) (Nat.le_refl _) (by decide) (Nat.le_of_ble_eq_true rfl) ?_
  rintro _ _ _ ⟨rfl, rfl, rfl⟩ -
  refine V_one ?_
  refine V_istore (loc' := [(5, .int 10), (0, .ref 64), (1, .int 3), (2, .int 0), (3, .int x), (4, .int (nI dp))]) dA_run_14 (by decide) rfl ?_
  refine V_aload_n dA_run_16 rfl ?_
  refine V_iload dA_run_17 rfl ?_
  refine V_callV (as := [.int 10]) (rest := []) (bs' := 0) rfl dA_run_19 cmA_begin cvA_begin mlA_41 (Or.inl ⟨_, _, _, _, _, rfl, k64, by decide, rfl⟩) rfl rfl (c_begin hC (by decide) hr 10) (by decide) (Nat.le_refl _) (by decide) (Nat.le_of_ble_eq_true rfl) ?_
  rintro _ _ s1 ⟨rfl, rfl, hC, hS1, hA1⟩ -
  refine V_non ?_
  have hS := hS.trans hS1
  have hA : ∀ j : Nat, ¬ j = 0 → gi s1 64 j = gi σ 64 j := fun j h => (hA1 j h).trans (hA j h)
  have hf := hf0.to hA
  have hr : gi (bodyL 1 10 M) 76 57 = nI 2 := gi_eq
  refine V_aload_n dA_run_22 rfl ?_
  refine V_iload dA_run_23 rfl ?_
  refine V_iload_n dA_run_25 rfl ?_
  refine V_iload dA_run_26 rfl ?_
  refine V_iconst (v := 1) dA_run_28 (by decide) ?_
  refine V_iadd dA_run_29 ?_
  refine V_topI (x' := nI (dp + 1)) (nI_1 _) ?_
  refine V_callV (as := [.int 10, .int x, .int (nI (dp + 1))]) (rest := []) (bs' := 0) rfl dA_run_30 cmA_through cvA_through mlA_45 (Or.inl ⟨_, _, _, _, _, rfl, k64, by decide, rfl⟩) rfl rfl (c_thr_3_3_0_1 hC hf hr x (dp := dp + 1) (by omega)) (by decide) (Nat.le_refl _) (by decide) (Nat.le_of_ble_eq_true rfl) ?_
  rintro _ _ s2 ⟨rfl, rfl, hC, hS1, hA1⟩ -
  refine V_one ?_
  have hS := hS.trans hS1
  have hA : ∀ j : Nat, ¬ j = 0 → gi s2 64 j = gi σ 64 j := fun j h => (hA1 j h).trans (hA j h)
  exact V_iret dA_run_33 rfl rfl ⟨rfl, rfl, hC, hS, hA⟩
theorem c_thr_3_3_1_0 {l : Launch} {G : GT} {L : Nat → List Cl} {M σ : Hp} (hC : RC L M σ) {num v : Int32} (hf : fA σ 3 num v) (hr : gi M 76 57 = nI 1) (x : Int32) {dp : Nat} (hd : dp < 29) : MM l G mA_through 2 0 0 [.ref 64, .int 11, .int x, .int (nI dp)] KA σ (PA L (bodyL 1 10 M) σ (some (.int ((x + num) - v)))) := by
  have hR := hC.1
  have hC0 := hC
  have hS : Sm σ σ := Sm.rfl
  have hA : ∀ j : Nat, ¬ j = 0 → gi σ 64 j = gi σ 64 j := fun _ _ => rfl
  have hf0 := hf
  refine MM.of (loc := [(0, .ref 64), (1, .int 11), (2, .int x), (3, .int (nI dp))]) (by decide +kernel) rfl (Nat.le_of_ble_eq_true rfl) ?_
  refine V_iload_n dA_through_0 rfl ?_
  refine V_lsw (tgt := 107) dA_through_1 (by decide) rfl rfl ?_
  refine V_aload_n dA_through_107 rfl ?_
  refine V_aload_n dA_through_108 rfl ?_
  refine V_getE (x := 3) dA_through_109 flA_24 k64 rfl hf.1 ?_
  refine V_iconst (v := 0) dA_through_112 (by decide) ?_
  refine V_iload_n dA_through_113 rfl ?_
  refine V_iload_n dA_through_114 rfl ?_
  refine V_callV (as := [.int 3, .int 0, .int x, .int (nI dp)]) (rest := []) (bs' := 0) rfl dA_through_115 cmA_run cvA_run mlA_33 (Or.inl ⟨_, _, _, _, _, rfl, k64, by decide, rfl⟩) rfl rfl (c_run_3_3_0_1 hC hf hr x (dp := dp) (by omega)) (by decide) (Nat.le_refl _) (by decide) (Nat.le_of_ble_eq_true rfl) ?_
  rintro _ _ s115 ⟨rfl, rfl, hC, hS1, hA1⟩ -
  refine V_one ?_
  have hS := hS.trans hS1
  have hA : ∀ j : Nat, ¬ j = 0 → gi s115 64 j = gi σ 64 j := fun j h => (hA1 j h).trans (hA j h)
  have hf := hf0.to hA
  have hr : gi (bodyL 1 10 M) 76 57 = nI 2 := gi_eq
  have hR := hC.1
  refine V_aload_n dA_through_118 rfl ?_
  refine V_getE (x := v) dA_through_119 flA_32 k64 rfl hf.2.2 ?_
  refine V_isub dA_through_122 ?_
  exact V_iret dA_through_123 rfl rfl ⟨rfl, rfl, hC, hS, hA⟩
theorem c_run_3_3_1_0 {l : Launch} {G : GT} {L : Nat → List Cl} {M σ : Hp} (hC : RC L M σ) {num v : Int32} (hf : fA σ 3 num v) (hr : gi M 76 57 = nI 0) (x : Int32) {dp : Nat} (hd : dp < 28) : MM l G mA_run 3 0 0 [.ref 64, .int 3, .int 1, .int x, .int (nI dp)] KA σ (PA L (bodyL 1 10 (bodyL 0 11 M)) σ (some (.int ((x + num) - v)))) := by
  have hR := hC.1
  have hC0 := hC
  have hS : Sm σ σ := Sm.rfl
  have hA : ∀ j : Nat, ¬ j = 0 → gi σ 64 j = gi σ 64 j := fun _ _ => rfl
  have hf0 := hf
  refine MM.of (loc := [(0, .ref 64), (1, .int 3), (2, .int 1), (3, .int x), (4, .int (nI dp))]) (by decide +kernel) rfl (Nat.le_of_ble_eq_true rfl) ?_
  refine V_iload dA_run_0 rfl ?_
  refine V_bipush (v := 40) dA_run_2 (by decide) ?_
  refine V_icmp_lt (tgt := 9) dA_run_4 rfl (fun _ => ?_) (fun h => absurd h (not_not_intro (nI_lt (a := dp) (b := 40) (by omega) (by decide))))
  refine V_iload_n dA_run_9 rfl ?_
  refine V_iload_n dA_run_10 rfl ?_
  refine V_callS (as := [.int 3, .int 1]) (rest := []) (bs' := 0) rfl dA_run_11 cmA_bodyFrom stA_bodyFrom mlA_37 rfl rfl c_bf_3_1 (by decide) (Nat.le_refl _) (by decide) (Nat.le_of_ble_eq_true rfl) ?_
  rintro _ _ _ ⟨rfl, rfl, rfl⟩ -
  refine V_one ?_
  refine V_istore (loc' := [(5, .int 11), (0, .ref 64), (1, .int 3), (2, .int 1), (3, .int x), (4, .int (nI dp))]) dA_run_14 (by decide) rfl ?_
  refine V_aload_n dA_run_16 rfl ?_
  refine V_iload dA_run_17 rfl ?_
  refine V_callV (as := [.int 11]) (rest := []) (bs' := 0) rfl dA_run_19 cmA_begin cvA_begin mlA_41 (Or.inl ⟨_, _, _, _, _, rfl, k64, by decide, rfl⟩) rfl rfl (c_begin hC (by decide) hr 11) (by decide) (Nat.le_refl _) (by decide) (Nat.le_of_ble_eq_true rfl) ?_
  rintro _ _ s1 ⟨rfl, rfl, hC, hS1, hA1⟩ -
  refine V_non ?_
  have hS := hS.trans hS1
  have hA : ∀ j : Nat, ¬ j = 0 → gi s1 64 j = gi σ 64 j := fun j h => (hA1 j h).trans (hA j h)
  have hf := hf0.to hA
  have hr : gi (bodyL 0 11 M) 76 57 = nI 1 := gi_eq
  refine V_aload_n dA_run_22 rfl ?_
  refine V_iload dA_run_23 rfl ?_
  refine V_iload_n dA_run_25 rfl ?_
  refine V_iload dA_run_26 rfl ?_
  refine V_iconst (v := 1) dA_run_28 (by decide) ?_
  refine V_iadd dA_run_29 ?_
  refine V_topI (x' := nI (dp + 1)) (nI_1 _) ?_
  refine V_callV (as := [.int 11, .int x, .int (nI (dp + 1))]) (rest := []) (bs' := 0) rfl dA_run_30 cmA_through cvA_through mlA_45 (Or.inl ⟨_, _, _, _, _, rfl, k64, by decide, rfl⟩) rfl rfl (c_thr_3_3_1_0 hC hf hr x (dp := dp + 1) (by omega)) (by decide) (Nat.le_refl _) (by decide) (Nat.le_of_ble_eq_true rfl) ?_
  rintro _ _ s2 ⟨rfl, rfl, hC, hS1, hA1⟩ -
  refine V_one ?_
  have hS := hS.trans hS1
  have hA : ∀ j : Nat, ¬ j = 0 → gi s2 64 j = gi σ 64 j := fun j h => (hA1 j h).trans (hA j h)
  exact V_iret dA_run_33 rfl rfl ⟨rfl, rfl, hC, hS, hA⟩
theorem c_thr_3_3_0_3 {l : Launch} {G : GT} {L : Nat → List Cl} {M σ : Hp} (hC : RC L M σ) {num v : Int32} (hf : fA σ 3 num v) (hr : gi M 76 57 = nI 4) (x : Int32) {dp : Nat} (hd : dp < 31) : MM l G mA_through 0 0 0 [.ref 64, .int 10, .int x, .int (nI dp)] KA σ (PA L M σ (some (.int (x + num)))) := by
  have hR := hC.1
  have hC0 := hC
  have hS : Sm σ σ := Sm.rfl
  have hA : ∀ j : Nat, ¬ j = 0 → gi σ 64 j = gi σ 64 j := fun _ _ => rfl
  have hf0 := hf
  refine MM.of (loc := [(0, .ref 64), (1, .int 10), (2, .int x), (3, .int (nI dp))]) (by decide +kernel) rfl (Nat.le_of_ble_eq_true rfl) ?_
  refine V_iload_n dA_through_0 rfl ?_
  refine V_lsw (tgt := 100) dA_through_1 (by decide) rfl rfl ?_
  refine V_iload_n dA_through_100 rfl ?_
  refine V_aload_n dA_through_101 rfl ?_
  refine V_getE (x := num) dA_through_102 flA_28 k64 rfl hf.2.1 ?_
  refine V_iadd dA_through_105 ?_
  exact V_iret dA_through_106 rfl rfl ⟨rfl, rfl, hC, hS, hA⟩
theorem c_run_3_3_0_3 {l : Launch} {G : GT} {L : Nat → List Cl} {M σ : Hp} (hC : RC L M σ) {num v : Int32} (hf : fA σ 3 num v) (hr : gi M 76 57 = nI 3) (x : Int32) {dp : Nat} (hd : dp < 30) : MM l G mA_run 1 0 0 [.ref 64, .int 3, .int 0, .int x, .int (nI dp)] KA σ (PA L (bodyL 3 10 M) σ (some (.int (x + num)))) := by
  have hR := hC.1
  have hC0 := hC
  have hS : Sm σ σ := Sm.rfl
  have hA : ∀ j : Nat, ¬ j = 0 → gi σ 64 j = gi σ 64 j := fun _ _ => rfl
  have hf0 := hf
  refine MM.of (loc := [(0, .ref 64), (1, .int 3), (2, .int 0), (3, .int x), (4, .int (nI dp))]) (by decide +kernel) rfl (Nat.le_of_ble_eq_true rfl) ?_
  refine V_iload dA_run_0 rfl ?_
  refine V_bipush (v := 40) dA_run_2 (by decide) ?_
  refine V_icmp_lt (tgt := 9) dA_run_4 rfl (fun _ => ?_) (fun h => absurd h (not_not_intro (nI_lt (a := dp) (b := 40) (by omega) (by decide))))
  refine V_iload_n dA_run_9 rfl ?_
  refine V_iload_n dA_run_10 rfl ?_
  refine V_callS (as := [.int 3, .int 0]) (rest := []) (bs' := 0) rfl dA_run_11 cmA_bodyFrom stA_bodyFrom mlA_37 rfl rfl c_bf_3_0 (by decide) (Nat.le_refl _) (by decide) (Nat.le_of_ble_eq_true rfl) ?_
  rintro _ _ _ ⟨rfl, rfl, rfl⟩ -
  refine V_one ?_
  refine V_istore (loc' := [(5, .int 10), (0, .ref 64), (1, .int 3), (2, .int 0), (3, .int x), (4, .int (nI dp))]) dA_run_14 (by decide) rfl ?_
  refine V_aload_n dA_run_16 rfl ?_
  refine V_iload dA_run_17 rfl ?_
  refine V_callV (as := [.int 10]) (rest := []) (bs' := 0) rfl dA_run_19 cmA_begin cvA_begin mlA_41 (Or.inl ⟨_, _, _, _, _, rfl, k64, by decide, rfl⟩) rfl rfl (c_begin hC (by decide) hr 10) (by decide) (Nat.le_refl _) (by decide) (Nat.le_of_ble_eq_true rfl) ?_
  rintro _ _ s1 ⟨rfl, rfl, hC, hS1, hA1⟩ -
  refine V_non ?_
  have hS := hS.trans hS1
  have hA : ∀ j : Nat, ¬ j = 0 → gi s1 64 j = gi σ 64 j := fun j h => (hA1 j h).trans (hA j h)
  have hf := hf0.to hA
  have hr : gi (bodyL 3 10 M) 76 57 = nI 4 := gi_eq
  refine V_aload_n dA_run_22 rfl ?_
  refine V_iload dA_run_23 rfl ?_
  refine V_iload_n dA_run_25 rfl ?_
  refine V_iload dA_run_26 rfl ?_
  refine V_iconst (v := 1) dA_run_28 (by decide) ?_
  refine V_iadd dA_run_29 ?_
  refine V_topI (x' := nI (dp + 1)) (nI_1 _) ?_
  refine V_callV (as := [.int 10, .int x, .int (nI (dp + 1))]) (rest := []) (bs' := 0) rfl dA_run_30 cmA_through cvA_through mlA_45 (Or.inl ⟨_, _, _, _, _, rfl, k64, by decide, rfl⟩) rfl rfl (c_thr_3_3_0_3 hC hf hr x (dp := dp + 1) (by omega)) (by decide) (Nat.le_refl _) (by decide) (Nat.le_of_ble_eq_true rfl) ?_
  rintro _ _ s2 ⟨rfl, rfl, hC, hS1, hA1⟩ -
  refine V_one ?_
  have hS := hS.trans hS1
  have hA : ∀ j : Nat, ¬ j = 0 → gi s2 64 j = gi σ 64 j := fun j h => (hA1 j h).trans (hA j h)
  exact V_iret dA_run_33 rfl rfl ⟨rfl, rfl, hC, hS, hA⟩
theorem c_thr_3_3_1_2 {l : Launch} {G : GT} {L : Nat → List Cl} {M σ : Hp} (hC : RC L M σ) {num v : Int32} (hf : fA σ 3 num v) (hr : gi M 76 57 = nI 3) (x : Int32) {dp : Nat} (hd : dp < 29) : MM l G mA_through 2 0 0 [.ref 64, .int 11, .int x, .int (nI dp)] KA σ (PA L (bodyL 3 10 M) σ (some (.int ((x + num) - v)))) := by
  have hR := hC.1
  have hC0 := hC
  have hS : Sm σ σ := Sm.rfl
  have hA : ∀ j : Nat, ¬ j = 0 → gi σ 64 j = gi σ 64 j := fun _ _ => rfl
  have hf0 := hf
  refine MM.of (loc := [(0, .ref 64), (1, .int 11), (2, .int x), (3, .int (nI dp))]) (by decide +kernel) rfl (Nat.le_of_ble_eq_true rfl) ?_
  refine V_iload_n dA_through_0 rfl ?_
  refine V_lsw (tgt := 107) dA_through_1 (by decide) rfl rfl ?_
  refine V_aload_n dA_through_107 rfl ?_
  refine V_aload_n dA_through_108 rfl ?_
  refine V_getE (x := 3) dA_through_109 flA_24 k64 rfl hf.1 ?_
  refine V_iconst (v := 0) dA_through_112 (by decide) ?_
  refine V_iload_n dA_through_113 rfl ?_
  refine V_iload_n dA_through_114 rfl ?_
  refine V_callV (as := [.int 3, .int 0, .int x, .int (nI dp)]) (rest := []) (bs' := 0) rfl dA_through_115 cmA_run cvA_run mlA_33 (Or.inl ⟨_, _, _, _, _, rfl, k64, by decide, rfl⟩) rfl rfl (c_run_3_3_0_3 hC hf hr x (dp := dp) (by omega)) (by decide) (Nat.le_refl _) (by decide) (Nat.le_of_ble_eq_true rfl) ?_
  rintro _ _ s115 ⟨rfl, rfl, hC, hS1, hA1⟩ -
  refine V_one ?_
  have hS := hS.trans hS1
  have hA : ∀ j : Nat, ¬ j = 0 → gi s115 64 j = gi σ 64 j := fun j h => (hA1 j h).trans (hA j h)
  have hf := hf0.to hA
  have hr : gi (bodyL 3 10 M) 76 57 = nI 4 := gi_eq
  have hR := hC.1
  refine V_aload_n dA_through_118 rfl ?_
  refine V_getE (x := v) dA_through_119 flA_32 k64 rfl hf.2.2 ?_
  refine V_isub dA_through_122 ?_
  exact V_iret dA_through_123 rfl rfl ⟨rfl, rfl, hC, hS, hA⟩
theorem c_run_3_3_1_2 {l : Launch} {G : GT} {L : Nat → List Cl} {M σ : Hp} (hC : RC L M σ) {num v : Int32} (hf : fA σ 3 num v) (hr : gi M 76 57 = nI 2) (x : Int32) {dp : Nat} (hd : dp < 28) : MM l G mA_run 3 0 0 [.ref 64, .int 3, .int 1, .int x, .int (nI dp)] KA σ (PA L (bodyL 3 10 (bodyL 2 11 M)) σ (some (.int ((x + num) - v)))) := by
  have hR := hC.1
  have hC0 := hC
  have hS : Sm σ σ := Sm.rfl
  have hA : ∀ j : Nat, ¬ j = 0 → gi σ 64 j = gi σ 64 j := fun _ _ => rfl
  have hf0 := hf
  refine MM.of (loc := [(0, .ref 64), (1, .int 3), (2, .int 1), (3, .int x), (4, .int (nI dp))]) (by decide +kernel) rfl (Nat.le_of_ble_eq_true rfl) ?_
  refine V_iload dA_run_0 rfl ?_
  refine V_bipush (v := 40) dA_run_2 (by decide) ?_
  refine V_icmp_lt (tgt := 9) dA_run_4 rfl (fun _ => ?_) (fun h => absurd h (not_not_intro (nI_lt (a := dp) (b := 40) (by omega) (by decide))))
  refine V_iload_n dA_run_9 rfl ?_
  refine V_iload_n dA_run_10 rfl ?_
  refine V_callS (as := [.int 3, .int 1]) (rest := []) (bs' := 0) rfl dA_run_11 cmA_bodyFrom stA_bodyFrom mlA_37 rfl rfl c_bf_3_1 (by decide) (Nat.le_refl _) (by decide) (Nat.le_of_ble_eq_true rfl) ?_
  rintro _ _ _ ⟨rfl, rfl, rfl⟩ -
  refine V_one ?_
  refine V_istore (loc' := [(5, .int 11), (0, .ref 64), (1, .int 3), (2, .int 1), (3, .int x), (4, .int (nI dp))]) dA_run_14 (by decide) rfl ?_
  refine V_aload_n dA_run_16 rfl ?_
  refine V_iload dA_run_17 rfl ?_
  refine V_callV (as := [.int 11]) (rest := []) (bs' := 0) rfl dA_run_19 cmA_begin cvA_begin mlA_41 (Or.inl ⟨_, _, _, _, _, rfl, k64, by decide, rfl⟩) rfl rfl (c_begin hC (by decide) hr 11) (by decide) (Nat.le_refl _) (by decide) (Nat.le_of_ble_eq_true rfl) ?_
  rintro _ _ s1 ⟨rfl, rfl, hC, hS1, hA1⟩ -
  refine V_non ?_
  have hS := hS.trans hS1
  have hA : ∀ j : Nat, ¬ j = 0 → gi s1 64 j = gi σ 64 j := fun j h => (hA1 j h).trans (hA j h)
  have hf := hf0.to hA
  have hr : gi (bodyL 2 11 M) 76 57 = nI 3 := gi_eq
  refine V_aload_n dA_run_22 rfl ?_
  refine V_iload dA_run_23 rfl ?_
  refine V_iload_n dA_run_25 rfl ?_
  refine V_iload dA_run_26 rfl ?_
  refine V_iconst (v := 1) dA_run_28 (by decide) ?_
  refine V_iadd dA_run_29 ?_
  refine V_topI (x' := nI (dp + 1)) (nI_1 _) ?_
  refine V_callV (as := [.int 11, .int x, .int (nI (dp + 1))]) (rest := []) (bs' := 0) rfl dA_run_30 cmA_through cvA_through mlA_45 (Or.inl ⟨_, _, _, _, _, rfl, k64, by decide, rfl⟩) rfl rfl (c_thr_3_3_1_2 hC hf hr x (dp := dp + 1) (by omega)) (by decide) (Nat.le_refl _) (by decide) (Nat.le_of_ble_eq_true rfl) ?_
  rintro _ _ s2 ⟨rfl, rfl, hC, hS1, hA1⟩ -
  refine V_one ?_
  have hS := hS.trans hS1
  have hA : ∀ j : Nat, ¬ j = 0 → gi s2 64 j = gi σ 64 j := fun j h => (hA1 j h).trans (hA j h)
  exact V_iret dA_run_33 rfl rfl ⟨rfl, rfl, hC, hS, hA⟩
theorem c_thr_3_0_2_1 {l : Launch} {G : GT} {L : Nat → List Cl} {M σ : Hp} (hC : RC L M σ) {num v : Int32} (hf : fA σ 3 num v) (hr : gi M 76 57 = nI 2) (x : Int32) {dp : Nat} (hd : dp < 27) : MM l G mA_through 4 0 0 [.ref 64, .int 12, .int x, .int (nI dp)] KA σ (PA L (bodyL 3 10 (bodyL 2 11 M)) σ (some (.int (((x + num) - v) * 2)))) := by
  have hR := hC.1
  have hC0 := hC
  have hS : Sm σ σ := Sm.rfl
  have hA : ∀ j : Nat, ¬ j = 0 → gi σ 64 j = gi σ 64 j := fun _ _ => rfl
  have hf0 := hf
  refine MM.of (loc := [(0, .ref 64), (1, .int 12), (2, .int x), (3, .int (nI dp))]) (by decide +kernel) rfl (Nat.le_of_ble_eq_true rfl) ?_
  refine V_iload_n dA_through_0 rfl ?_
  refine V_lsw (tgt := 124) dA_through_1 (by decide) rfl rfl ?_
  refine V_aload_n dA_through_124 rfl ?_
  refine V_aload_n dA_through_125 rfl ?_
  refine V_getE (x := 3) dA_through_126 flA_24 k64 rfl hf.1 ?_
  refine V_iconst (v := 1) dA_through_129 (by decide) ?_
  refine V_iload_n dA_through_130 rfl ?_
  refine V_iload_n dA_through_131 rfl ?_
  refine V_callV (as := [.int 3, .int 1, .int x, .int (nI dp)]) (rest := []) (bs' := 0) rfl dA_through_132 cmA_run cvA_run mlA_33 (Or.inl ⟨_, _, _, _, _, rfl, k64, by decide, rfl⟩) rfl rfl (c_run_3_3_1_2 hC hf hr x (dp := dp) (by omega)) (by decide) (Nat.le_refl _) (by decide) (Nat.le_of_ble_eq_true rfl) ?_
  rintro _ _ s132 ⟨rfl, rfl, hC, hS1, hA1⟩ -
  refine V_one ?_
  have hS := hS.trans hS1
  have hA : ∀ j : Nat, ¬ j = 0 → gi s132 64 j = gi σ 64 j := fun j h => (hA1 j h).trans (hA j h)
  have hf := hf0.to hA
  have hr : gi (bodyL 3 10 (bodyL 2 11 M)) 76 57 = nI 4 := gi_eq
  have hR := hC.1
  refine V_iconst (v := 2) dA_through_135 (by decide) ?_
  refine V_imul dA_through_136 ?_
  exact V_iret dA_through_137 rfl rfl ⟨rfl, rfl, hC, hS, hA⟩
theorem c_run_3_0_2_1 {l : Launch} {G : GT} {L : Nat → List Cl} {M σ : Hp} (hC : RC L M σ) {num v : Int32} (hf : fA σ 3 num v) (hr : gi M 76 57 = nI 1) (x : Int32) {dp : Nat} (hd : dp < 26) : MM l G mA_run 5 0 0 [.ref 64, .int 0, .int 2, .int x, .int (nI dp)] KA σ (PA L (bodyL 3 10 (bodyL 2 11 (bodyL 1 12 M))) σ (some (.int (((x + num) - v) * 2)))) := by
  have hR := hC.1
  have hC0 := hC
  have hS : Sm σ σ := Sm.rfl
  have hA : ∀ j : Nat, ¬ j = 0 → gi σ 64 j = gi σ 64 j := fun _ _ => rfl
  have hf0 := hf
  refine MM.of (loc := [(0, .ref 64), (1, .int 0), (2, .int 2), (3, .int x), (4, .int (nI dp))]) (by decide +kernel) rfl (Nat.le_of_ble_eq_true rfl) ?_
  refine V_iload dA_run_0 rfl ?_
  refine V_bipush (v := 40) dA_run_2 (by decide) ?_
  refine V_icmp_lt (tgt := 9) dA_run_4 rfl (fun _ => ?_) (fun h => absurd h (not_not_intro (nI_lt (a := dp) (b := 40) (by omega) (by decide))))
  refine V_iload_n dA_run_9 rfl ?_
  refine V_iload_n dA_run_10 rfl ?_
  refine V_callS (as := [.int 0, .int 2]) (rest := []) (bs' := 0) rfl dA_run_11 cmA_bodyFrom stA_bodyFrom mlA_37 rfl rfl c_bf_0_2 (by decide) (Nat.le_refl _) (by decide) (Nat.le_of_ble_eq_true rfl) ?_
  rintro _ _ _ ⟨rfl, rfl, rfl⟩ -
  refine V_one ?_
  refine V_istore (loc' := [(5, .int 12), (0, .ref 64), (1, .int 0), (2, .int 2), (3, .int x), (4, .int (nI dp))]) dA_run_14 (by decide) rfl ?_
  refine V_aload_n dA_run_16 rfl ?_
  refine V_iload dA_run_17 rfl ?_
  refine V_callV (as := [.int 12]) (rest := []) (bs' := 0) rfl dA_run_19 cmA_begin cvA_begin mlA_41 (Or.inl ⟨_, _, _, _, _, rfl, k64, by decide, rfl⟩) rfl rfl (c_begin hC (by decide) hr 12) (by decide) (Nat.le_refl _) (by decide) (Nat.le_of_ble_eq_true rfl) ?_
  rintro _ _ s1 ⟨rfl, rfl, hC, hS1, hA1⟩ -
  refine V_non ?_
  have hS := hS.trans hS1
  have hA : ∀ j : Nat, ¬ j = 0 → gi s1 64 j = gi σ 64 j := fun j h => (hA1 j h).trans (hA j h)
  have hf := hf0.to hA
  have hr : gi (bodyL 1 12 M) 76 57 = nI 2 := gi_eq
  refine V_aload_n dA_run_22 rfl ?_
  refine V_iload dA_run_23 rfl ?_
  refine V_iload_n dA_run_25 rfl ?_
  refine V_iload dA_run_26 rfl ?_
  refine V_iconst (v := 1) dA_run_28 (by decide) ?_
  refine V_iadd dA_run_29 ?_
  refine V_topI (x' := nI (dp + 1)) (nI_1 _) ?_
  refine V_callV (as := [.int 12, .int x, .int (nI (dp + 1))]) (rest := []) (bs' := 0) rfl dA_run_30 cmA_through cvA_through mlA_45 (Or.inl ⟨_, _, _, _, _, rfl, k64, by decide, rfl⟩) rfl rfl (c_thr_3_0_2_1 hC hf hr x (dp := dp + 1) (by omega)) (by decide) (Nat.le_refl _) (by decide) (Nat.le_of_ble_eq_true rfl) ?_
  rintro _ _ s2 ⟨rfl, rfl, hC, hS1, hA1⟩ -
  refine V_one ?_
  have hS := hS.trans hS1
  have hA : ∀ j : Nat, ¬ j = 0 → gi s2 64 j = gi σ 64 j := fun j h => (hA1 j h).trans (hA j h)
  exact V_iret dA_run_33 rfl rfl ⟨rfl, rfl, hC, hS, hA⟩
theorem c_thr_3_3_0_5 {l : Launch} {G : GT} {L : Nat → List Cl} {M σ : Hp} (hC : RC L M σ) {num v : Int32} (hf : fA σ 3 num v) (hr : gi M 76 57 = nI 6) (x : Int32) {dp : Nat} (hd : dp < 31) : MM l G mA_through 0 0 0 [.ref 64, .int 10, .int x, .int (nI dp)] KA σ (PA L M σ (some (.int (x + num)))) := by
  have hR := hC.1
  have hC0 := hC
  have hS : Sm σ σ := Sm.rfl
  have hA : ∀ j : Nat, ¬ j = 0 → gi σ 64 j = gi σ 64 j := fun _ _ => rfl
  have hf0 := hf
  refine MM.of (loc := [(0, .ref 64), (1, .int 10), (2, .int x), (3, .int (nI dp))]) (by decide +kernel) rfl (Nat.le_of_ble_eq_true rfl) ?_
  refine V_iload_n dA_through_0 rfl ?_
  refine V_lsw (tgt := 100) dA_through_1 (by decide) rfl rfl ?_
  refine V_iload_n dA_through_100 rfl ?_
  refine V_aload_n dA_through_101 rfl ?_
  refine V_getE (x := num) dA_through_102 flA_28 k64 rfl hf.2.1 ?_
  refine V_iadd dA_through_105 ?_
  exact V_iret dA_through_106 rfl rfl ⟨rfl, rfl, hC, hS, hA⟩
theorem c_run_3_3_0_5 {l : Launch} {G : GT} {L : Nat → List Cl} {M σ : Hp} (hC : RC L M σ) {num v : Int32} (hf : fA σ 3 num v) (hr : gi M 76 57 = nI 5) (x : Int32) {dp : Nat} (hd : dp < 30) : MM l G mA_run 1 0 0 [.ref 64, .int 3, .int 0, .int x, .int (nI dp)] KA σ (PA L (bodyL 5 10 M) σ (some (.int (x + num)))) := by
  have hR := hC.1
  have hC0 := hC
  have hS : Sm σ σ := Sm.rfl
  have hA : ∀ j : Nat, ¬ j = 0 → gi σ 64 j = gi σ 64 j := fun _ _ => rfl
  have hf0 := hf
  refine MM.of (loc := [(0, .ref 64), (1, .int 3), (2, .int 0), (3, .int x), (4, .int (nI dp))]) (by decide +kernel) rfl (Nat.le_of_ble_eq_true rfl) ?_
  refine V_iload dA_run_0 rfl ?_
  refine V_bipush (v := 40) dA_run_2 (by decide) ?_
  refine V_icmp_lt (tgt := 9) dA_run_4 rfl (fun _ => ?_) (fun h => absurd h (not_not_intro (nI_lt (a := dp) (b := 40) (by omega) (by decide))))
  refine V_iload_n dA_run_9 rfl ?_
  refine V_iload_n dA_run_10 rfl ?_
  refine V_callS (as := [.int 3, .int 0]) (rest := []) (bs' := 0) rfl dA_run_11 cmA_bodyFrom stA_bodyFrom mlA_37 rfl rfl c_bf_3_0 (by decide) (Nat.le_refl _) (by decide) (Nat.le_of_ble_eq_true rfl) ?_
  rintro _ _ _ ⟨rfl, rfl, rfl⟩ -
  refine V_one ?_
  refine V_istore (loc' := [(5, .int 10), (0, .ref 64), (1, .int 3), (2, .int 0), (3, .int x), (4, .int (nI dp))]) dA_run_14 (by decide) rfl ?_
  refine V_aload_n dA_run_16 rfl ?_
  refine V_iload dA_run_17 rfl ?_
  refine V_callV (as := [.int 10]) (rest := []) (bs' := 0) rfl dA_run_19 cmA_begin cvA_begin mlA_41 (Or.inl ⟨_, _, _, _, _, rfl, k64, by decide, rfl⟩) rfl rfl (c_begin hC (by decide) hr 10) (by decide) (Nat.le_refl _) (by decide) (Nat.le_of_ble_eq_true rfl) ?_
  rintro _ _ s1 ⟨rfl, rfl, hC, hS1, hA1⟩ -
  refine V_non ?_
  have hS := hS.trans hS1
  have hA : ∀ j : Nat, ¬ j = 0 → gi s1 64 j = gi σ 64 j := fun j h => (hA1 j h).trans (hA j h)
  have hf := hf0.to hA
  have hr : gi (bodyL 5 10 M) 76 57 = nI 6 := gi_eq
  refine V_aload_n dA_run_22 rfl ?_
  refine V_iload dA_run_23 rfl ?_
  refine V_iload_n dA_run_25 rfl ?_
  refine V_iload dA_run_26 rfl ?_
  refine V_iconst (v := 1) dA_run_28 (by decide) ?_
  refine V_iadd dA_run_29 ?_
  refine V_topI (x' := nI (dp + 1)) (nI_1 _) ?_
  refine V_callV (as := [.int 10, .int x, .int (nI (dp + 1))]) (rest := []) (bs' := 0) rfl dA_run_30 cmA_through cvA_through mlA_45 (Or.inl ⟨_, _, _, _, _, rfl, k64, by decide, rfl⟩) rfl rfl (c_thr_3_3_0_5 hC hf hr x (dp := dp + 1) (by omega)) (by decide) (Nat.le_refl _) (by decide) (Nat.le_of_ble_eq_true rfl) ?_
  rintro _ _ s2 ⟨rfl, rfl, hC, hS1, hA1⟩ -
  refine V_one ?_
  have hS := hS.trans hS1
  have hA : ∀ j : Nat, ¬ j = 0 → gi s2 64 j = gi σ 64 j := fun j h => (hA1 j h).trans (hA j h)
  exact V_iret dA_run_33 rfl rfl ⟨rfl, rfl, hC, hS, hA⟩
theorem c_thr_3_3_1_4 {l : Launch} {G : GT} {L : Nat → List Cl} {M σ : Hp} (hC : RC L M σ) {num v : Int32} (hf : fA σ 3 num v) (hr : gi M 76 57 = nI 5) (x : Int32) {dp : Nat} (hd : dp < 29) : MM l G mA_through 2 0 0 [.ref 64, .int 11, .int x, .int (nI dp)] KA σ (PA L (bodyL 5 10 M) σ (some (.int ((x + num) - v)))) := by
  have hR := hC.1
  have hC0 := hC
  have hS : Sm σ σ := Sm.rfl
  have hA : ∀ j : Nat, ¬ j = 0 → gi σ 64 j = gi σ 64 j := fun _ _ => rfl
  have hf0 := hf
  refine MM.of (loc := [(0, .ref 64), (1, .int 11), (2, .int x), (3, .int (nI dp))]) (by decide +kernel) rfl (Nat.le_of_ble_eq_true rfl) ?_
  refine V_iload_n dA_through_0 rfl ?_
  refine V_lsw (tgt := 107) dA_through_1 (by decide) rfl rfl ?_
  refine V_aload_n dA_through_107 rfl ?_
  refine V_aload_n dA_through_108 rfl ?_
  refine V_getE (x := 3) dA_through_109 flA_24 k64 rfl hf.1 ?_
  refine V_iconst (v := 0) dA_through_112 (by decide) ?_
  refine V_iload_n dA_through_113 rfl ?_
  refine V_iload_n dA_through_114 rfl ?_
  refine V_callV (as := [.int 3, .int 0, .int x, .int (nI dp)]) (rest := []) (bs' := 0) rfl dA_through_115 cmA_run cvA_run mlA_33 (Or.inl ⟨_, _, _, _, _, rfl, k64, by decide, rfl⟩) rfl rfl (c_run_3_3_0_5 hC hf hr x (dp := dp) (by omega)) (by decide) (Nat.le_refl _) (by decide) (Nat.le_of_ble_eq_true rfl) ?_
  rintro _ _ s115 ⟨rfl, rfl, hC, hS1, hA1⟩ -
  refine V_one ?_
  have hS := hS.trans hS1
  have hA : ∀ j : Nat, ¬ j = 0 → gi s115 64 j = gi σ 64 j := fun j h => (hA1 j h).trans (hA j h)
  have hf := hf0.to hA
  have hr : gi (bodyL 5 10 M) 76 57 = nI 6 := gi_eq
  have hR := hC.1
  refine V_aload_n dA_through_118 rfl ?_
  refine V_getE (x := v) dA_through_119 flA_32 k64 rfl hf.2.2 ?_
  refine V_isub dA_through_122 ?_
  exact V_iret dA_through_123 rfl rfl ⟨rfl, rfl, hC, hS, hA⟩
theorem c_run_3_3_1_4 {l : Launch} {G : GT} {L : Nat → List Cl} {M σ : Hp} (hC : RC L M σ) {num v : Int32} (hf : fA σ 3 num v) (hr : gi M 76 57 = nI 4) (x : Int32) {dp : Nat} (hd : dp < 28) : MM l G mA_run 3 0 0 [.ref 64, .int 3, .int 1, .int x, .int (nI dp)] KA σ (PA L (bodyL 5 10 (bodyL 4 11 M)) σ (some (.int ((x + num) - v)))) := by
  have hR := hC.1
  have hC0 := hC
  have hS : Sm σ σ := Sm.rfl
  have hA : ∀ j : Nat, ¬ j = 0 → gi σ 64 j = gi σ 64 j := fun _ _ => rfl
  have hf0 := hf
  refine MM.of (loc := [(0, .ref 64), (1, .int 3), (2, .int 1), (3, .int x), (4, .int (nI dp))]) (by decide +kernel) rfl (Nat.le_of_ble_eq_true rfl) ?_
  refine V_iload dA_run_0 rfl ?_
  refine V_bipush (v := 40) dA_run_2 (by decide) ?_
  refine V_icmp_lt (tgt := 9) dA_run_4 rfl (fun _ => ?_) (fun h => absurd h (not_not_intro (nI_lt (a := dp) (b := 40) (by omega) (by decide))))
  refine V_iload_n dA_run_9 rfl ?_
  refine V_iload_n dA_run_10 rfl ?_
  refine V_callS (as := [.int 3, .int 1]) (rest := []) (bs' := 0) rfl dA_run_11 cmA_bodyFrom stA_bodyFrom mlA_37 rfl rfl c_bf_3_1 (by decide) (Nat.le_refl _) (by decide) (Nat.le_of_ble_eq_true rfl) ?_
  rintro _ _ _ ⟨rfl, rfl, rfl⟩ -
  refine V_one ?_
  refine V_istore (loc' := [(5, .int 11), (0, .ref 64), (1, .int 3), (2, .int 1), (3, .int x), (4, .int (nI dp))]) dA_run_14 (by decide) rfl ?_
  refine V_aload_n dA_run_16 rfl ?_
  refine V_iload dA_run_17 rfl ?_
  refine V_callV (as := [.int 11]) (rest := []) (bs' := 0) rfl dA_run_19 cmA_begin cvA_begin mlA_41 (Or.inl ⟨_, _, _, _, _, rfl, k64, by decide, rfl⟩) rfl rfl (c_begin hC (by decide) hr 11) (by decide) (Nat.le_refl _) (by decide) (Nat.le_of_ble_eq_true rfl) ?_
  rintro _ _ s1 ⟨rfl, rfl, hC, hS1, hA1⟩ -
  refine V_non ?_
  have hS := hS.trans hS1
  have hA : ∀ j : Nat, ¬ j = 0 → gi s1 64 j = gi σ 64 j := fun j h => (hA1 j h).trans (hA j h)
  have hf := hf0.to hA
  have hr : gi (bodyL 4 11 M) 76 57 = nI 5 := gi_eq
  refine V_aload_n dA_run_22 rfl ?_
  refine V_iload dA_run_23 rfl ?_
  refine V_iload_n dA_run_25 rfl ?_
  refine V_iload dA_run_26 rfl ?_
  refine V_iconst (v := 1) dA_run_28 (by decide) ?_
  refine V_iadd dA_run_29 ?_
  refine V_topI (x' := nI (dp + 1)) (nI_1 _) ?_
  refine V_callV (as := [.int 11, .int x, .int (nI (dp + 1))]) (rest := []) (bs' := 0) rfl dA_run_30 cmA_through cvA_through mlA_45 (Or.inl ⟨_, _, _, _, _, rfl, k64, by decide, rfl⟩) rfl rfl (c_thr_3_3_1_4 hC hf hr x (dp := dp + 1) (by omega)) (by decide) (Nat.le_refl _) (by decide) (Nat.le_of_ble_eq_true rfl) ?_
  rintro _ _ s2 ⟨rfl, rfl, hC, hS1, hA1⟩ -
  refine V_one ?_
  have hS := hS.trans hS1
  have hA : ∀ j : Nat, ¬ j = 0 → gi s2 64 j = gi σ 64 j := fun j h => (hA1 j h).trans (hA j h)
  exact V_iret dA_run_33 rfl rfl ⟨rfl, rfl, hC, hS, hA⟩
theorem c_thr_3_3_2_0 {l : Launch} {G : GT} {L : Nat → List Cl} {M σ : Hp} (hC : RC L M σ) {num v : Int32} (hf : fA σ 3 num v) (hr : gi M 76 57 = nI 1) (x : Int32) {dp : Nat} (hd : dp < 25) : MM l G mA_through 6 0 0 [.ref 64, .int 40, .int x, .int (nI dp)] KA σ (PA L (bodyL 5 10 (bodyL 4 11 (bodyL 3 10 (bodyL 2 11 (bodyL 1 12 M))))) σ (some (.int ((((x + num) - v) * 2) + ((1 + num) - v))))) := by
  have hR := hC.1
  have hC0 := hC
  have hS : Sm σ σ := Sm.rfl
  have hA : ∀ j : Nat, ¬ j = 0 → gi σ 64 j = gi σ 64 j := fun _ _ => rfl
  have hf0 := hf
  refine MM.of (loc := [(0, .ref 64), (1, .int 40), (2, .int x), (3, .int (nI dp))]) (by decide +kernel) rfl (Nat.le_of_ble_eq_true rfl) ?_
  refine V_iload_n dA_through_0 rfl ?_
  refine V_lsw (tgt := 161) dA_through_1 (by decide) rfl rfl ?_
  refine V_aload_n dA_through_161 rfl ?_
  refine V_iconst (v := 0) dA_through_162 (by decide) ?_
  refine V_iconst (v := 2) dA_through_163 (by decide) ?_
  refine V_iload_n dA_through_164 rfl ?_
  refine V_iload_n dA_through_165 rfl ?_
  refine V_callV (as := [.int 0, .int 2, .int x, .int (nI dp)]) (rest := []) (bs' := 0) rfl dA_through_166 cmA_run cvA_run mlA_33 (Or.inl ⟨_, _, _, _, _, rfl, k64, by decide, rfl⟩) rfl rfl (c_run_3_0_2_1 hC hf hr x (dp := dp) (by omega)) (by decide) (Nat.le_refl _) (by decide) (Nat.le_of_ble_eq_true rfl) ?_
  rintro _ _ s166 ⟨rfl, rfl, hC, hS1, hA1⟩ -
  refine V_one ?_
  have hS := hS.trans hS1
  have hA : ∀ j : Nat, ¬ j = 0 → gi s166 64 j = gi σ 64 j := fun j h => (hA1 j h).trans (hA j h)
  have hf := hf0.to hA
  have hr : gi (bodyL 3 10 (bodyL 2 11 (bodyL 1 12 M))) 76 57 = nI 4 := gi_eq
  have hR := hC.1
  refine V_aload_n dA_through_169 rfl ?_
  refine V_aload_n dA_through_170 rfl ?_
  refine V_getE (x := 3) dA_through_171 flA_24 k64 rfl hf.1 ?_
  refine V_iconst (v := 1) dA_through_174 (by decide) ?_
  refine V_iconst (v := 1) dA_through_175 (by decide) ?_
  refine V_iload_n dA_through_176 rfl ?_
  refine V_callV (as := [.int 3, .int 1, .int 1, .int (nI dp)]) (rest := [.int (((x + num) - v) * 2)]) (bs' := 0) rfl dA_through_177 cmA_run cvA_run mlA_33 (Or.inl ⟨_, _, _, _, _, rfl, k64, by decide, rfl⟩) rfl rfl (c_run_3_3_1_4 hC hf hr 1 (dp := dp) (by omega)) (by decide) (Nat.le_refl _) (by decide) (Nat.le_of_ble_eq_true rfl) ?_
  rintro _ _ s177 ⟨rfl, rfl, hC, hS1, hA1⟩ -
  refine V_one ?_
  have hS := hS.trans hS1
  have hA : ∀ j : Nat, ¬ j = 0 → gi s177 64 j = gi σ 64 j := fun j h => (hA1 j h).trans (hA j h)
  have hf := hf0.to hA
  have hr : gi (bodyL 5 10 (bodyL 4 11 (bodyL 3 10 (bodyL 2 11 (bodyL 1 12 M))))) 76 57 = nI 6 := gi_eq
  have hR := hC.1
  refine V_iadd dA_through_180 ?_
  exact V_iret dA_through_181 rfl rfl ⟨rfl, rfl, hC, hS, hA⟩
theorem c_run_3_3_2_0 {l : Launch} {G : GT} {L : Nat → List Cl} {M σ : Hp} (hC : RC L M σ) {num v : Int32} (hf : fA σ 3 num v) (hr : gi M 76 57 = nI 0) (x : Int32) {dp : Nat} (hd : dp < 24) : MM l G mA_run 7 0 0 [.ref 64, .int 3, .int 2, .int x, .int (nI dp)] KA σ (PA L (bodyL 5 10 (bodyL 4 11 (bodyL 3 10 (bodyL 2 11 (bodyL 1 12 (bodyL 0 40 M)))))) σ (some (.int ((((x + num) - v) * 2) + ((1 + num) - v))))) := by
  have hR := hC.1
  have hC0 := hC
  have hS : Sm σ σ := Sm.rfl
  have hA : ∀ j : Nat, ¬ j = 0 → gi σ 64 j = gi σ 64 j := fun _ _ => rfl
  have hf0 := hf
  refine MM.of (loc := [(0, .ref 64), (1, .int 3), (2, .int 2), (3, .int x), (4, .int (nI dp))]) (by decide +kernel) rfl (Nat.le_of_ble_eq_true rfl) ?_
  refine V_iload dA_run_0 rfl ?_
  refine V_bipush (v := 40) dA_run_2 (by decide) ?_
  refine V_icmp_lt (tgt := 9) dA_run_4 rfl (fun _ => ?_) (fun h => absurd h (not_not_intro (nI_lt (a := dp) (b := 40) (by omega) (by decide))))
  refine V_iload_n dA_run_9 rfl ?_
  refine V_iload_n dA_run_10 rfl ?_
  refine V_callS (as := [.int 3, .int 2]) (rest := []) (bs' := 0) rfl dA_run_11 cmA_bodyFrom stA_bodyFrom mlA_37 rfl rfl c_bf_3_2 (by decide) (Nat.le_refl _) (by decide) (Nat.le_of_ble_eq_true rfl) ?_
  rintro _ _ _ ⟨rfl, rfl, rfl⟩ -
  refine V_one ?_
  refine V_istore (loc' := [(5, .int 40), (0, .ref 64), (1, .int 3), (2, .int 2), (3, .int x), (4, .int (nI dp))]) dA_run_14 (by decide) rfl ?_
  refine V_aload_n dA_run_16 rfl ?_
  refine V_iload dA_run_17 rfl ?_
  refine V_callV (as := [.int 40]) (rest := []) (bs' := 0) rfl dA_run_19 cmA_begin cvA_begin mlA_41 (Or.inl ⟨_, _, _, _, _, rfl, k64, by decide, rfl⟩) rfl rfl (c_begin hC (by decide) hr 40) (by decide) (Nat.le_refl _) (by decide) (Nat.le_of_ble_eq_true rfl) ?_
  rintro _ _ s1 ⟨rfl, rfl, hC, hS1, hA1⟩ -
  refine V_non ?_
  have hS := hS.trans hS1
  have hA : ∀ j : Nat, ¬ j = 0 → gi s1 64 j = gi σ 64 j := fun j h => (hA1 j h).trans (hA j h)
  have hf := hf0.to hA
  have hr : gi (bodyL 0 40 M) 76 57 = nI 1 := gi_eq
  refine V_aload_n dA_run_22 rfl ?_
  refine V_iload dA_run_23 rfl ?_
  refine V_iload_n dA_run_25 rfl ?_
  refine V_iload dA_run_26 rfl ?_
  refine V_iconst (v := 1) dA_run_28 (by decide) ?_
  refine V_iadd dA_run_29 ?_
  refine V_topI (x' := nI (dp + 1)) (nI_1 _) ?_
  refine V_callV (as := [.int 40, .int x, .int (nI (dp + 1))]) (rest := []) (bs' := 0) rfl dA_run_30 cmA_through cvA_through mlA_45 (Or.inl ⟨_, _, _, _, _, rfl, k64, by decide, rfl⟩) rfl rfl (c_thr_3_3_2_0 hC hf hr x (dp := dp + 1) (by omega)) (by decide) (Nat.le_refl _) (by decide) (Nat.le_of_ble_eq_true rfl) ?_
  rintro _ _ s2 ⟨rfl, rfl, hC, hS1, hA1⟩ -
  refine V_one ?_
  have hS := hS.trans hS1
  have hA : ∀ j : Nat, ¬ j = 0 → gi s2 64 j = gi σ 64 j := fun j h => (hA1 j h).trans (hA j h)
  exact V_iret dA_run_33 rfl rfl ⟨rfl, rfl, hC, hS, hA⟩
theorem c_thr_4_1_0_1 {l : Launch} {G : GT} {L : Nat → List Cl} {M σ : Hp} (hC : RC L M σ) {num v : Int32} (hf : fA σ 4 num v) (hr : gi M 76 57 = nI 2) (x : Int32) {dp : Nat} (hd : dp < 31) : MM l G mA_through 0 0 0 [.ref 64, .int 10, .int x, .int (nI dp)] KA σ (PA L M σ (some (.int (x + num)))) := by
  have hR := hC.1
  have hC0 := hC
  have hS : Sm σ σ := Sm.rfl
  have hA : ∀ j : Nat, ¬ j = 0 → gi σ 64 j = gi σ 64 j := fun _ _ => rfl
  have hf0 := hf
  refine MM.of (loc := [(0, .ref 64), (1, .int 10), (2, .int x), (3, .int (nI dp))]) (by decide +kernel) rfl (Nat.le_of_ble_eq_true rfl) ?_
  refine V_iload_n dA_through_0 rfl ?_
  refine V_lsw (tgt := 100) dA_through_1 (by decide) rfl rfl ?_
  refine V_iload_n dA_through_100 rfl ?_
  refine V_aload_n dA_through_101 rfl ?_
  refine V_getE (x := num) dA_through_102 flA_28 k64 rfl hf.2.1 ?_
  refine V_iadd dA_through_105 ?_
  exact V_iret dA_through_106 rfl rfl ⟨rfl, rfl, hC, hS, hA⟩
theorem c_run_4_1_0_1 {l : Launch} {G : GT} {L : Nat → List Cl} {M σ : Hp} (hC : RC L M σ) {num v : Int32} (hf : fA σ 4 num v) (hr : gi M 76 57 = nI 1) (x : Int32) {dp : Nat} (hd : dp < 30) : MM l G mA_run 1 0 0 [.ref 64, .int 1, .int 0, .int x, .int (nI dp)] KA σ (PA L (bodyL 1 10 M) σ (some (.int (x + num)))) := by
  have hR := hC.1
  have hC0 := hC
  have hS : Sm σ σ := Sm.rfl
  have hA : ∀ j : Nat, ¬ j = 0 → gi σ 64 j = gi σ 64 j := fun _ _ => rfl
  have hf0 := hf
  refine MM.of (loc := [(0, .ref 64), (1, .int 1), (2, .int 0), (3, .int x), (4, .int (nI dp))]) (by decide +kernel) rfl (Nat.le_of_ble_eq_true rfl) ?_
  refine V_iload dA_run_0 rfl ?_
  refine V_bipush (v := 40) dA_run_2 (by decide) ?_
  refine V_icmp_lt (tgt := 9) dA_run_4 rfl (fun _ => ?_) (fun h => absurd h (not_not_intro (nI_lt (a := dp) (b := 40) (by omega) (by decide))))
  refine V_iload_n dA_run_9 rfl ?_
  refine V_iload_n dA_run_10 rfl ?_
  refine V_callS (as := [.int 1, .int 0]) (rest := []) (bs' := 0) rfl dA_run_11 cmA_bodyFrom stA_bodyFrom mlA_37 rfl rfl c_bf_1_0 (by decide) (Nat.le_refl _) (by decide) (Nat.le_of_ble_eq_true rfl) ?_
  rintro _ _ _ ⟨rfl, rfl, rfl⟩ -
  refine V_one ?_
  refine V_istore (loc' := [(5, .int 10), (0, .ref 64), (1, .int 1), (2, .int 0), (3, .int x), (4, .int (nI dp))]) dA_run_14 (by decide) rfl ?_
  refine V_aload_n dA_run_16 rfl ?_
  refine V_iload dA_run_17 rfl ?_
  refine V_callV (as := [.int 10]) (rest := []) (bs' := 0) rfl dA_run_19 cmA_begin cvA_begin mlA_41 (Or.inl ⟨_, _, _, _, _, rfl, k64, by decide, rfl⟩) rfl rfl (c_begin hC (by decide) hr 10) (by decide) (Nat.le_refl _) (by decide) (Nat.le_of_ble_eq_true rfl) ?_
  rintro _ _ s1 ⟨rfl, rfl, hC, hS1, hA1⟩ -
  refine V_non ?_
  have hS := hS.trans hS1
  have hA : ∀ j : Nat, ¬ j = 0 → gi s1 64 j = gi σ 64 j := fun j h => (hA1 j h).trans (hA j h)
  have hf := hf0.to hA
  have hr : gi (bodyL 1 10 M) 76 57 = nI 2 := gi_eq
  refine V_aload_n dA_run_22 rfl ?_
  refine V_iload dA_run_23 rfl ?_
  refine V_iload_n dA_run_25 rfl ?_
  refine V_iload dA_run_26 rfl ?_
  refine V_iconst (v := 1) dA_run_28 (by decide) ?_
  refine V_iadd dA_run_29 ?_
  refine V_topI (x' := nI (dp + 1)) (nI_1 _) ?_
  refine V_callV (as := [.int 10, .int x, .int (nI (dp + 1))]) (rest := []) (bs' := 0) rfl dA_run_30 cmA_through cvA_through mlA_45 (Or.inl ⟨_, _, _, _, _, rfl, k64, by decide, rfl⟩) rfl rfl (c_thr_4_1_0_1 hC hf hr x (dp := dp + 1) (by omega)) (by decide) (Nat.le_refl _) (by decide) (Nat.le_of_ble_eq_true rfl) ?_
  rintro _ _ s2 ⟨rfl, rfl, hC, hS1, hA1⟩ -
  refine V_one ?_
  have hS := hS.trans hS1
  have hA : ∀ j : Nat, ¬ j = 0 → gi s2 64 j = gi σ 64 j := fun j h => (hA1 j h).trans (hA j h)
  exact V_iret dA_run_33 rfl rfl ⟨rfl, rfl, hC, hS, hA⟩
theorem c_thr_4_4_0_0 {l : Launch} {G : GT} {L : Nat → List Cl} {M σ : Hp} (hC : RC L M σ) {num v : Int32} (hf : fA σ 4 num v) (hr : gi M 76 57 = nI 1) (x : Int32) {dp : Nat} (hd : dp < 29) : MM l G mA_through 2 0 0 [.ref 64, .int 50, .int x, .int (nI dp)] KA σ (PA L (bodyL 1 10 M) σ (some (.int (-(x + num))))) := by
  have hR := hC.1
  have hC0 := hC
  have hS : Sm σ σ := Sm.rfl
  have hA : ∀ j : Nat, ¬ j = 0 → gi σ 64 j = gi σ 64 j := fun _ _ => rfl
  have hf0 := hf
  refine MM.of (loc := [(0, .ref 64), (1, .int 50), (2, .int x), (3, .int (nI dp))]) (by decide +kernel) rfl (Nat.le_of_ble_eq_true rfl) ?_
  refine V_iload_n dA_through_0 rfl ?_
  refine V_lsw (tgt := 182) dA_through_1 (by decide) rfl rfl ?_
  refine V_aload_n dA_through_182 rfl ?_
  refine V_iconst (v := 1) dA_through_183 (by decide) ?_
  refine V_iconst (v := 0) dA_through_184 (by decide) ?_
  refine V_iload_n dA_through_185 rfl ?_
  refine V_iload_n dA_through_186 rfl ?_
  refine V_callV (as := [.int 1, .int 0, .int x, .int (nI dp)]) (rest := []) (bs' := 0) rfl dA_through_187 cmA_run cvA_run mlA_33 (Or.inl ⟨_, _, _, _, _, rfl, k64, by decide, rfl⟩) rfl rfl (c_run_4_1_0_1 hC hf hr x (dp := dp) (by omega)) (by decide) (Nat.le_refl _) (by decide) (Nat.le_of_ble_eq_true rfl) ?_
  rintro _ _ s187 ⟨rfl, rfl, hC, hS1, hA1⟩ -
  refine V_one ?_
  have hS := hS.trans hS1
  have hA : ∀ j : Nat, ¬ j = 0 → gi s187 64 j = gi σ 64 j := fun j h => (hA1 j h).trans (hA j h)
  have hf := hf0.to hA
  have hr : gi (bodyL 1 10 M) 76 57 = nI 2 := gi_eq
  have hR := hC.1
  refine V_ineg dA_through_190 ?_
  exact V_iret dA_through_191 rfl rfl ⟨rfl, rfl, hC, hS, hA⟩
theorem c_run_4_4_0_0 {l : Launch} {G : GT} {L : Nat → List Cl} {M σ : Hp} (hC : RC L M σ) {num v : Int32} (hf : fA σ 4 num v) (hr : gi M 76 57 = nI 0) (x : Int32) {dp : Nat} (hd : dp < 28) : MM l G mA_run 3 0 0 [.ref 64, .int 4, .int 0, .int x, .int (nI dp)] KA σ (PA L (bodyL 1 10 (bodyL 0 50 M)) σ (some (.int (-(x + num))))) := by
  have hR := hC.1
  have hC0 := hC
  have hS : Sm σ σ := Sm.rfl
  have hA : ∀ j : Nat, ¬ j = 0 → gi σ 64 j = gi σ 64 j := fun _ _ => rfl
  have hf0 := hf
  refine MM.of (loc := [(0, .ref 64), (1, .int 4), (2, .int 0), (3, .int x), (4, .int (nI dp))]) (by decide +kernel) rfl (Nat.le_of_ble_eq_true rfl) ?_
  refine V_iload dA_run_0 rfl ?_
  refine V_bipush (v := 40) dA_run_2 (by decide) ?_
  refine V_icmp_lt (tgt := 9) dA_run_4 rfl (fun _ => ?_) (fun h => absurd h (not_not_intro (nI_lt (a := dp) (b := 40) (by omega) (by decide))))
  refine V_iload_n dA_run_9 rfl ?_
  refine V_iload_n dA_run_10 rfl ?_
  refine V_callS (as := [.int 4, .int 0]) (rest := []) (bs' := 0) rfl dA_run_11 cmA_bodyFrom stA_bodyFrom mlA_37 rfl rfl c_bf_4_0 (by decide) (Nat.le_refl _) (by decide) (Nat.le_of_ble_eq_true rfl) ?_
  rintro _ _ _ ⟨rfl, rfl, rfl⟩ -
  refine V_one ?_
  refine V_istore (loc' := [(5, .int 50), (0, .ref 64), (1, .int 4), (2, .int 0), (3, .int x), (4, .int (nI dp))]) dA_run_14 (by decide) rfl ?_
  refine V_aload_n dA_run_16 rfl ?_
  refine V_iload dA_run_17 rfl ?_
  refine V_callV (as := [.int 50]) (rest := []) (bs' := 0) rfl dA_run_19 cmA_begin cvA_begin mlA_41 (Or.inl ⟨_, _, _, _, _, rfl, k64, by decide, rfl⟩) rfl rfl (c_begin hC (by decide) hr 50) (by decide) (Nat.le_refl _) (by decide) (Nat.le_of_ble_eq_true rfl) ?_
  rintro _ _ s1 ⟨rfl, rfl, hC, hS1, hA1⟩ -
  refine V_non ?_
  have hS := hS.trans hS1
  have hA : ∀ j : Nat, ¬ j = 0 → gi s1 64 j = gi σ 64 j := fun j h => (hA1 j h).trans (hA j h)
  have hf := hf0.to hA
  have hr : gi (bodyL 0 50 M) 76 57 = nI 1 := gi_eq
  refine V_aload_n dA_run_22 rfl ?_
  refine V_iload dA_run_23 rfl ?_
  refine V_iload_n dA_run_25 rfl ?_
  refine V_iload dA_run_26 rfl ?_
  refine V_iconst (v := 1) dA_run_28 (by decide) ?_
  refine V_iadd dA_run_29 ?_
  refine V_topI (x' := nI (dp + 1)) (nI_1 _) ?_
  refine V_callV (as := [.int 50, .int x, .int (nI (dp + 1))]) (rest := []) (bs' := 0) rfl dA_run_30 cmA_through cvA_through mlA_45 (Or.inl ⟨_, _, _, _, _, rfl, k64, by decide, rfl⟩) rfl rfl (c_thr_4_4_0_0 hC hf hr x (dp := dp + 1) (by omega)) (by decide) (Nat.le_refl _) (by decide) (Nat.le_of_ble_eq_true rfl) ?_
  rintro _ _ s2 ⟨rfl, rfl, hC, hS1, hA1⟩ -
  refine V_one ?_
  have hS := hS.trans hS1
  have hA : ∀ j : Nat, ¬ j = 0 → gi s2 64 j = gi σ 64 j := fun j h => (hA1 j h).trans (hA j h)
  exact V_iret dA_run_33 rfl rfl ⟨rfl, rfl, hC, hS, hA⟩
theorem c_thr_4_1_0_4 {l : Launch} {G : GT} {L : Nat → List Cl} {M σ : Hp} (hC : RC L M σ) {num v : Int32} (hf : fA σ 4 num v) (hr : gi M 76 57 = nI 5) (x : Int32) {dp : Nat} (hd : dp < 31) : MM l G mA_through 0 0 0 [.ref 64, .int 10, .int x, .int (nI dp)] KA σ (PA L M σ (some (.int (x + num)))) := by
  have hR := hC.1
  have hC0 := hC
  have hS : Sm σ σ := Sm.rfl
  have hA : ∀ j : Nat, ¬ j = 0 → gi σ 64 j = gi σ 64 j := fun _ _ => rfl
  have hf0 := hf
  refine MM.of (loc := [(0, .ref 64), (1, .int 10), (2, .int x), (3, .int (nI dp))]) (by decide +kernel) rfl (Nat.le_of_ble_eq_true rfl) ?_
  refine V_iload_n dA_through_0 rfl ?_
  refine V_lsw (tgt := 100) dA_through_1 (by decide) rfl rfl ?_
  refine V_iload_n dA_through_100 rfl ?_
  refine V_aload_n dA_through_101 rfl ?_
  refine V_getE (x := num) dA_through_102 flA_28 k64 rfl hf.2.1 ?_
  refine V_iadd dA_through_105 ?_
  exact V_iret dA_through_106 rfl rfl ⟨rfl, rfl, hC, hS, hA⟩
theorem c_run_4_1_0_4 {l : Launch} {G : GT} {L : Nat → List Cl} {M σ : Hp} (hC : RC L M σ) {num v : Int32} (hf : fA σ 4 num v) (hr : gi M 76 57 = nI 4) (x : Int32) {dp : Nat} (hd : dp < 30) : MM l G mA_run 1 0 0 [.ref 64, .int 1, .int 0, .int x, .int (nI dp)] KA σ (PA L (bodyL 4 10 M) σ (some (.int (x + num)))) := by
  have hR := hC.1
  have hC0 := hC
  have hS : Sm σ σ := Sm.rfl
  have hA : ∀ j : Nat, ¬ j = 0 → gi σ 64 j = gi σ 64 j := fun _ _ => rfl
  have hf0 := hf
  refine MM.of (loc := [(0, .ref 64), (1, .int 1), (2, .int 0), (3, .int x), (4, .int (nI dp))]) (by decide +kernel) rfl (Nat.le_of_ble_eq_true rfl) ?_
  refine V_iload dA_run_0 rfl ?_
  refine V_bipush (v := 40) dA_run_2 (by decide) ?_
  refine V_icmp_lt (tgt := 9) dA_run_4 rfl (fun _ => ?_) (fun h => absurd h (not_not_intro (nI_lt (a := dp) (b := 40) (by omega) (by decide))))
  refine V_iload_n dA_run_9 rfl ?_
  refine V_iload_n dA_run_10 rfl ?_
  refine V_callS (as := [.int 1, .int 0]) (rest := []) (bs' := 0) rfl dA_run_11 cmA_bodyFrom stA_bodyFrom mlA_37 rfl rfl c_bf_1_0 (by decide) (Nat.le_refl _) (by decide) (Nat.le_of_ble_eq_true rfl) ?_
  rintro _ _ _ ⟨rfl, rfl, rfl⟩ -
  refine V_one ?_
  refine V_istore (loc' := [(5, .int 10), (0, .ref 64), (1, .int 1), (2, .int 0), (3, .int x), (4, .int (nI dp))]) dA_run_14 (by decide) rfl ?_
  refine V_aload_n dA_run_16 rfl ?_
  refine V_iload dA_run_17 rfl ?_
  refine V_callV (as := [.int 10]) (rest := []) (bs' := 0) rfl dA_run_19 cmA_begin cvA_begin mlA_41 (Or.inl ⟨_, _, _, _, _, rfl, k64, by decide, rfl⟩) rfl rfl (c_begin hC (by decide) hr 10) (by decide) (Nat.le_refl _) (by decide) (Nat.le_of_ble_eq_true rfl) ?_
  rintro _ _ s1 ⟨rfl, rfl, hC, hS1, hA1⟩ -
  refine V_non ?_
  have hS := hS.trans hS1
  have hA : ∀ j : Nat, ¬ j = 0 → gi s1 64 j = gi σ 64 j := fun j h => (hA1 j h).trans (hA j h)
  have hf := hf0.to hA
  have hr : gi (bodyL 4 10 M) 76 57 = nI 5 := gi_eq
  refine V_aload_n dA_run_22 rfl ?_
  refine V_iload dA_run_23 rfl ?_
  refine V_iload_n dA_run_25 rfl ?_
  refine V_iload dA_run_26 rfl ?_
  refine V_iconst (v := 1) dA_run_28 (by decide) ?_
  refine V_iadd dA_run_29 ?_
  refine V_topI (x' := nI (dp + 1)) (nI_1 _) ?_
  refine V_callV (as := [.int 10, .int x, .int (nI (dp + 1))]) (rest := []) (bs' := 0) rfl dA_run_30 cmA_through cvA_through mlA_45 (Or.inl ⟨_, _, _, _, _, rfl, k64, by decide, rfl⟩) rfl rfl (c_thr_4_1_0_4 hC hf hr x (dp := dp + 1) (by omega)) (by decide) (Nat.le_refl _) (by decide) (Nat.le_of_ble_eq_true rfl) ?_
  rintro _ _ s2 ⟨rfl, rfl, hC, hS1, hA1⟩ -
  refine V_one ?_
  have hS := hS.trans hS1
  have hA : ∀ j : Nat, ¬ j = 0 → gi s2 64 j = gi σ 64 j := fun j h => (hA1 j h).trans (hA j h)
  exact V_iret dA_run_33 rfl rfl ⟨rfl, rfl, hC, hS, hA⟩
theorem c_thr_4_4_0_3 {l : Launch} {G : GT} {L : Nat → List Cl} {M σ : Hp} (hC : RC L M σ) {num v : Int32} (hf : fA σ 4 num v) (hr : gi M 76 57 = nI 4) (x : Int32) {dp : Nat} (hd : dp < 29) : MM l G mA_through 2 0 0 [.ref 64, .int 50, .int x, .int (nI dp)] KA σ (PA L (bodyL 4 10 M) σ (some (.int (-(x + num))))) := by
  have hR := hC.1
  have hC0 := hC
  have hS : Sm σ σ := Sm.rfl
  have hA : ∀ j : Nat, ¬ j = 0 → gi σ 64 j = gi σ 64 j := fun _ _ => rfl
  have hf0 := hf
  refine MM.of (loc := [(0, .ref 64), (1, .int 50), (2, .int x), (3, .int (nI dp))]) (by decide +kernel) rfl (Nat.le_of_ble_eq_true rfl) ?_
  refine V_iload_n dA_through_0 rfl ?_
  refine V_lsw (tgt := 182) dA_through_1 (by decide) rfl rfl ?_
  refine V_aload_n dA_through_182 rfl ?_
  refine V_iconst (v := 1) dA_through_183 (by decide) ?_
  refine V_iconst (v := 0) dA_through_184 (by decide) ?_
  refine V_iload_n dA_through_185 rfl ?_
  refine V_iload_n dA_through_186 rfl ?_
  refine V_callV (as := [.int 1, .int 0, .int x, .int (nI dp)]) (rest := []) (bs' := 0) rfl dA_through_187 cmA_run cvA_run mlA_33 (Or.inl ⟨_, _, _, _, _, rfl, k64, by decide, rfl⟩) rfl rfl (c_run_4_1_0_4 hC hf hr x (dp := dp) (by omega)) (by decide) (Nat.le_refl _) (by decide) (Nat.le_of_ble_eq_true rfl) ?_
  rintro _ _ s187 ⟨rfl, rfl, hC, hS1, hA1⟩ -
  refine V_one ?_
  have hS := hS.trans hS1
  have hA : ∀ j : Nat, ¬ j = 0 → gi s187 64 j = gi σ 64 j := fun j h => (hA1 j h).trans (hA j h)
  have hf := hf0.to hA
  have hr : gi (bodyL 4 10 M) 76 57 = nI 5 := gi_eq
  have hR := hC.1
  refine V_ineg dA_through_190 ?_
  exact V_iret dA_through_191 rfl rfl ⟨rfl, rfl, hC, hS, hA⟩
theorem c_run_4_4_0_3 {l : Launch} {G : GT} {L : Nat → List Cl} {M σ : Hp} (hC : RC L M σ) {num v : Int32} (hf : fA σ 4 num v) (hr : gi M 76 57 = nI 3) (x : Int32) {dp : Nat} (hd : dp < 28) : MM l G mA_run 3 0 0 [.ref 64, .int 4, .int 0, .int x, .int (nI dp)] KA σ (PA L (bodyL 4 10 (bodyL 3 50 M)) σ (some (.int (-(x + num))))) := by
  have hR := hC.1
  have hC0 := hC
  have hS : Sm σ σ := Sm.rfl
  have hA : ∀ j : Nat, ¬ j = 0 → gi σ 64 j = gi σ 64 j := fun _ _ => rfl
  have hf0 := hf
  refine MM.of (loc := [(0, .ref 64), (1, .int 4), (2, .int 0), (3, .int x), (4, .int (nI dp))]) (by decide +kernel) rfl (Nat.le_of_ble_eq_true rfl) ?_
  refine V_iload dA_run_0 rfl ?_
  refine V_bipush (v := 40) dA_run_2 (by decide) ?_
  refine V_icmp_lt (tgt := 9) dA_run_4 rfl (fun _ => ?_) (fun h => absurd h (not_not_intro (nI_lt (a := dp) (b := 40) (by omega) (by decide))))
  refine V_iload_n dA_run_9 rfl ?_
  refine V_iload_n dA_run_10 rfl ?_
  refine V_callS (as := [.int 4, .int 0]) (rest := []) (bs' := 0) rfl dA_run_11 cmA_bodyFrom stA_bodyFrom mlA_37 rfl rfl c_bf_4_0 (by decide) (Nat.le_refl _) (by decide) (Nat.le_of_ble_eq_true rfl) ?_
  rintro _ _ _ ⟨rfl, rfl, rfl⟩ -
  refine V_one ?_
  refine V_istore (loc' := [(5, .int 50), (0, .ref 64), (1, .int 4), (2, .int 0), (3, .int x), (4, .int (nI dp))]) dA_run_14 (by decide) rfl ?_
  refine V_aload_n dA_run_16 rfl ?_
  refine V_iload dA_run_17 rfl ?_
  refine V_callV (as := [.int 50]) (rest := []) (bs' := 0) rfl dA_run_19 cmA_begin cvA_begin mlA_41 (Or.inl ⟨_, _, _, _, _, rfl, k64, by decide, rfl⟩) rfl rfl (c_begin hC (by decide) hr 50) (by decide) (Nat.le_refl _) (by decide) (Nat.le_of_ble_eq_true rfl) ?_
  rintro _ _ s1 ⟨rfl, rfl, hC, hS1, hA1⟩ -
  refine V_non ?_
  have hS := hS.trans hS1
  have hA : ∀ j : Nat, ¬ j = 0 → gi s1 64 j = gi σ 64 j := fun j h => (hA1 j h).trans (hA j h)
  have hf := hf0.to hA
  have hr : gi (bodyL 3 50 M) 76 57 = nI 4 := gi_eq
  refine V_aload_n dA_run_22 rfl ?_
  refine V_iload dA_run_23 rfl ?_
  refine V_iload_n dA_run_25 rfl ?_
  refine V_iload dA_run_26 rfl ?_
  refine V_iconst (v := 1) dA_run_28 (by decide) ?_
  refine V_iadd dA_run_29 ?_
  refine V_topI (x' := nI (dp + 1)) (nI_1 _) ?_
  refine V_callV (as := [.int 50, .int x, .int (nI (dp + 1))]) (rest := []) (bs' := 0) rfl dA_run_30 cmA_through cvA_through mlA_45 (Or.inl ⟨_, _, _, _, _, rfl, k64, by decide, rfl⟩) rfl rfl (c_thr_4_4_0_3 hC hf hr x (dp := dp + 1) (by omega)) (by decide) (Nat.le_refl _) (by decide) (Nat.le_of_ble_eq_true rfl) ?_
  rintro _ _ s2 ⟨rfl, rfl, hC, hS1, hA1⟩ -
  refine V_one ?_
  have hS := hS.trans hS1
  have hA : ∀ j : Nat, ¬ j = 0 → gi s2 64 j = gi σ 64 j := fun j h => (hA1 j h).trans (hA j h)
  exact V_iret dA_run_33 rfl rfl ⟨rfl, rfl, hC, hS, hA⟩
theorem c_thr_4_0_1_2 {l : Launch} {G : GT} {L : Nat → List Cl} {M σ : Hp} (hC : RC L M σ) {num v : Int32} (hf : fA σ 4 num v) (hr : gi M 76 57 = nI 3) (x : Int32) {dp : Nat} (hd : dp < 27) : MM l G mA_through 4 0 0 [.ref 64, .int 11, .int x, .int (nI dp)] KA σ (PA L (bodyL 4 10 (bodyL 3 50 M)) σ (some (.int ((-(x + num)) - v)))) := by
  have hR := hC.1
  have hC0 := hC
  have hS : Sm σ σ := Sm.rfl
  have hA : ∀ j : Nat, ¬ j = 0 → gi σ 64 j = gi σ 64 j := fun _ _ => rfl
  have hf0 := hf
  refine MM.of (loc := [(0, .ref 64), (1, .int 11), (2, .int x), (3, .int (nI dp))]) (by decide +kernel) rfl (Nat.le_of_ble_eq_true rfl) ?_
  refine V_iload_n dA_through_0 rfl ?_
  refine V_lsw (tgt := 107) dA_through_1 (by decide) rfl rfl ?_
  refine V_aload_n dA_through_107 rfl ?_
  refine V_aload_n dA_through_108 rfl ?_
  refine V_getE (x := 4) dA_through_109 flA_24 k64 rfl hf.1 ?_
  refine V_iconst (v := 0) dA_through_112 (by decide) ?_
  refine V_iload_n dA_through_113 rfl ?_
  refine V_iload_n dA_through_114 rfl ?_
  refine V_callV (as := [.int 4, .int 0, .int x, .int (nI dp)]) (rest := []) (bs' := 0) rfl dA_through_115 cmA_run cvA_run mlA_33 (Or.inl ⟨_, _, _, _, _, rfl, k64, by decide, rfl⟩) rfl rfl (c_run_4_4_0_3 hC hf hr x (dp := dp) (by omega)) (by decide) (Nat.le_refl _) (by decide) (Nat.le_of_ble_eq_true rfl) ?_
  rintro _ _ s115 ⟨rfl, rfl, hC, hS1, hA1⟩ -
  refine V_one ?_
  have hS := hS.trans hS1
  have hA : ∀ j : Nat, ¬ j = 0 → gi s115 64 j = gi σ 64 j := fun j h => (hA1 j h).trans (hA j h)
  have hf := hf0.to hA
  have hr : gi (bodyL 4 10 (bodyL 3 50 M)) 76 57 = nI 5 := gi_eq
  have hR := hC.1
  refine V_aload_n dA_through_118 rfl ?_
  refine V_getE (x := v) dA_through_119 flA_32 k64 rfl hf.2.2 ?_
  refine V_isub dA_through_122 ?_
  exact V_iret dA_through_123 rfl rfl ⟨rfl, rfl, hC, hS, hA⟩
theorem c_run_4_0_1_2 {l : Launch} {G : GT} {L : Nat → List Cl} {M σ : Hp} (hC : RC L M σ) {num v : Int32} (hf : fA σ 4 num v) (hr : gi M 76 57 = nI 2) (x : Int32) {dp : Nat} (hd : dp < 26) : MM l G mA_run 5 0 0 [.ref 64, .int 0, .int 1, .int x, .int (nI dp)] KA σ (PA L (bodyL 4 10 (bodyL 3 50 (bodyL 2 11 M))) σ (some (.int ((-(x + num)) - v)))) := by
  have hR := hC.1
  have hC0 := hC
  have hS : Sm σ σ := Sm.rfl
  have hA : ∀ j : Nat, ¬ j = 0 → gi σ 64 j = gi σ 64 j := fun _ _ => rfl
  have hf0 := hf
  refine MM.of (loc := [(0, .ref 64), (1, .int 0), (2, .int 1), (3, .int x), (4, .int (nI dp))]) (by decide +kernel) rfl (Nat.le_of_ble_eq_true rfl) ?_
  refine V_iload dA_run_0 rfl ?_
  refine V_bipush (v := 40) dA_run_2 (by decide) ?_
  refine V_icmp_lt (tgt := 9) dA_run_4 rfl (fun _ => ?_) (fun h => absurd h (not_not_intro (nI_lt (a := dp) (b := 40) (by omega) (by decide))))
  refine V_iload_n dA_run_9 rfl ?_
  refine V_iload_n dA_run_10 rfl ?_
  refine V_callS (as := [.int 0, .int 1]) (rest := []) (bs' := 0) rfl dA_run_11 cmA_bodyFrom stA_bodyFrom mlA_37 rfl rfl c_bf_0_1 (by decide) (Nat.le_refl _) (by decide) (Nat.le_of_ble_eq_true rfl) ?_
  rintro _ _ _ ⟨rfl, rfl, rfl⟩ -
  refine V_one ?_
  refine V_istore (loc' := [(5, .int 11), (0, .ref 64), (1, .int 0), (2, .int 1), (3, .int x), (4, .int (nI dp))]) dA_run_14 (by decide) rfl ?_
  refine V_aload_n dA_run_16 rfl ?_
  refine V_iload dA_run_17 rfl ?_
  refine V_callV (as := [.int 11]) (rest := []) (bs' := 0) rfl dA_run_19 cmA_begin cvA_begin mlA_41 (Or.inl ⟨_, _, _, _, _, rfl, k64, by decide, rfl⟩) rfl rfl (c_begin hC (by decide) hr 11) (by decide) (Nat.le_refl _) (by decide) (Nat.le_of_ble_eq_true rfl) ?_
  rintro _ _ s1 ⟨rfl, rfl, hC, hS1, hA1⟩ -
  refine V_non ?_
  have hS := hS.trans hS1
  have hA : ∀ j : Nat, ¬ j = 0 → gi s1 64 j = gi σ 64 j := fun j h => (hA1 j h).trans (hA j h)
  have hf := hf0.to hA
  have hr : gi (bodyL 2 11 M) 76 57 = nI 3 := gi_eq
  refine V_aload_n dA_run_22 rfl ?_
  refine V_iload dA_run_23 rfl ?_
  refine V_iload_n dA_run_25 rfl ?_
  refine V_iload dA_run_26 rfl ?_
  refine V_iconst (v := 1) dA_run_28 (by decide) ?_
  refine V_iadd dA_run_29 ?_
  refine V_topI (x' := nI (dp + 1)) (nI_1 _) ?_
  refine V_callV (as := [.int 11, .int x, .int (nI (dp + 1))]) (rest := []) (bs' := 0) rfl dA_run_30 cmA_through cvA_through mlA_45 (Or.inl ⟨_, _, _, _, _, rfl, k64, by decide, rfl⟩) rfl rfl (c_thr_4_0_1_2 hC hf hr x (dp := dp + 1) (by omega)) (by decide) (Nat.le_refl _) (by decide) (Nat.le_of_ble_eq_true rfl) ?_
  rintro _ _ s2 ⟨rfl, rfl, hC, hS1, hA1⟩ -
  refine V_one ?_
  have hS := hS.trans hS1
  have hA : ∀ j : Nat, ¬ j = 0 → gi s2 64 j = gi σ 64 j := fun j h => (hA1 j h).trans (hA j h)
  exact V_iret dA_run_33 rfl rfl ⟨rfl, rfl, hC, hS, hA⟩
theorem c_thr_4_1_1_1 {l : Launch} {G : GT} {L : Nat → List Cl} {M σ : Hp} (hC : RC L M σ) {num v : Int32} (hf : fA σ 4 num v) (hr : gi M 76 57 = nI 2) (x : Int32) {dp : Nat} (hd : dp < 25) : MM l G mA_through 6 0 0 [.ref 64, .int 20, .int x, .int (nI dp)] KA σ (PA L (bodyL 4 10 (bodyL 3 50 (bodyL 2 11 M))) σ (some (.int (((-(x + num)) - v) ^^^ 6)))) := by
  have hR := hC.1
  have hC0 := hC
  have hS : Sm σ σ := Sm.rfl
  have hA : ∀ j : Nat, ¬ j = 0 → gi σ 64 j = gi σ 64 j := fun _ _ => rfl
  have hf0 := hf
  refine MM.of (loc := [(0, .ref 64), (1, .int 20), (2, .int x), (3, .int (nI dp))]) (by decide +kernel) rfl (Nat.le_of_ble_eq_true rfl) ?_
  refine V_iload_n dA_through_0 rfl ?_
  refine V_lsw (tgt := 138) dA_through_1 (by decide) rfl rfl ?_
  refine V_aload_n dA_through_138 rfl ?_
  refine V_iconst (v := 0) dA_through_139 (by decide) ?_
  refine V_iconst (v := 1) dA_through_140 (by decide) ?_
  refine V_iload_n dA_through_141 rfl ?_
  refine V_iload_n dA_through_142 rfl ?_
  refine V_callV (as := [.int 0, .int 1, .int x, .int (nI dp)]) (rest := []) (bs' := 0) rfl dA_through_143 cmA_run cvA_run mlA_33 (Or.inl ⟨_, _, _, _, _, rfl, k64, by decide, rfl⟩) rfl rfl (c_run_4_0_1_2 hC hf hr x (dp := dp) (by omega)) (by decide) (Nat.le_refl _) (by decide) (Nat.le_of_ble_eq_true rfl) ?_
  rintro _ _ s143 ⟨rfl, rfl, hC, hS1, hA1⟩ -
  refine V_one ?_
  have hS := hS.trans hS1
  have hA : ∀ j : Nat, ¬ j = 0 → gi s143 64 j = gi σ 64 j := fun j h => (hA1 j h).trans (hA j h)
  have hf := hf0.to hA
  have hr : gi (bodyL 4 10 (bodyL 3 50 (bodyL 2 11 M))) 76 57 = nI 5 := gi_eq
  have hR := hC.1
  refine V_bipush (v := 6) dA_through_146 (by decide) ?_
  refine V_ixor dA_through_148 ?_
  exact V_iret dA_through_149 rfl rfl ⟨rfl, rfl, hC, hS, hA⟩
theorem c_run_4_1_1_1 {l : Launch} {G : GT} {L : Nat → List Cl} {M σ : Hp} (hC : RC L M σ) {num v : Int32} (hf : fA σ 4 num v) (hr : gi M 76 57 = nI 1) (x : Int32) {dp : Nat} (hd : dp < 24) : MM l G mA_run 7 0 0 [.ref 64, .int 1, .int 1, .int x, .int (nI dp)] KA σ (PA L (bodyL 4 10 (bodyL 3 50 (bodyL 2 11 (bodyL 1 20 M)))) σ (some (.int (((-(x + num)) - v) ^^^ 6)))) := by
  have hR := hC.1
  have hC0 := hC
  have hS : Sm σ σ := Sm.rfl
  have hA : ∀ j : Nat, ¬ j = 0 → gi σ 64 j = gi σ 64 j := fun _ _ => rfl
  have hf0 := hf
  refine MM.of (loc := [(0, .ref 64), (1, .int 1), (2, .int 1), (3, .int x), (4, .int (nI dp))]) (by decide +kernel) rfl (Nat.le_of_ble_eq_true rfl) ?_
  refine V_iload dA_run_0 rfl ?_
  refine V_bipush (v := 40) dA_run_2 (by decide) ?_
  refine V_icmp_lt (tgt := 9) dA_run_4 rfl (fun _ => ?_) (fun h => absurd h (not_not_intro (nI_lt (a := dp) (b := 40) (by omega) (by decide))))
  refine V_iload_n dA_run_9 rfl ?_
  refine V_iload_n dA_run_10 rfl ?_
  refine V_callS (as := [.int 1, .int 1]) (rest := []) (bs' := 0) rfl dA_run_11 cmA_bodyFrom stA_bodyFrom mlA_37 rfl rfl c_bf_1_1 (by decide) (Nat.le_refl _) (by decide) (Nat.le_of_ble_eq_true rfl) ?_
  rintro _ _ _ ⟨rfl, rfl, rfl⟩ -
  refine V_one ?_
  refine V_istore (loc' := [(5, .int 20), (0, .ref 64), (1, .int 1), (2, .int 1), (3, .int x), (4, .int (nI dp))]) dA_run_14 (by decide) rfl ?_
  refine V_aload_n dA_run_16 rfl ?_
  refine V_iload dA_run_17 rfl ?_
  refine V_callV (as := [.int 20]) (rest := []) (bs' := 0) rfl dA_run_19 cmA_begin cvA_begin mlA_41 (Or.inl ⟨_, _, _, _, _, rfl, k64, by decide, rfl⟩) rfl rfl (c_begin hC (by decide) hr 20) (by decide) (Nat.le_refl _) (by decide) (Nat.le_of_ble_eq_true rfl) ?_
  rintro _ _ s1 ⟨rfl, rfl, hC, hS1, hA1⟩ -
  refine V_non ?_
  have hS := hS.trans hS1
  have hA : ∀ j : Nat, ¬ j = 0 → gi s1 64 j = gi σ 64 j := fun j h => (hA1 j h).trans (hA j h)
  have hf := hf0.to hA
  have hr : gi (bodyL 1 20 M) 76 57 = nI 2 := gi_eq
  refine V_aload_n dA_run_22 rfl ?_
  refine V_iload dA_run_23 rfl ?_
  refine V_iload_n dA_run_25 rfl ?_
  refine V_iload dA_run_26 rfl ?_
  refine V_iconst (v := 1) dA_run_28 (by decide) ?_
  refine V_iadd dA_run_29 ?_
  refine V_topI (x' := nI (dp + 1)) (nI_1 _) ?_
  refine V_callV (as := [.int 20, .int x, .int (nI (dp + 1))]) (rest := []) (bs' := 0) rfl dA_run_30 cmA_through cvA_through mlA_45 (Or.inl ⟨_, _, _, _, _, rfl, k64, by decide, rfl⟩) rfl rfl (c_thr_4_1_1_1 hC hf hr x (dp := dp + 1) (by omega)) (by decide) (Nat.le_refl _) (by decide) (Nat.le_of_ble_eq_true rfl) ?_
  rintro _ _ s2 ⟨rfl, rfl, hC, hS1, hA1⟩ -
  refine V_one ?_
  have hS := hS.trans hS1
  have hA : ∀ j : Nat, ¬ j = 0 → gi s2 64 j = gi σ 64 j := fun j h => (hA1 j h).trans (hA j h)
  exact V_iret dA_run_33 rfl rfl ⟨rfl, rfl, hC, hS, hA⟩
theorem c_thr_4_4_1_0 {l : Launch} {G : GT} {L : Nat → List Cl} {M σ : Hp} (hC : RC L M σ) {num v : Int32} (hf : fA σ 4 num v) (hr : gi M 76 57 = nI 1) (x : Int32) {dp : Nat} (hd : dp < 23) : MM l G mA_through 8 0 0 [.ref 64, .int 51, .int x, .int (nI dp)] KA σ (PA L (bodyL 4 10 (bodyL 3 50 (bodyL 2 11 (bodyL 1 20 M)))) σ (some (.int (((-((x + 1) + num)) - v) ^^^ 6)))) := by
  have hR := hC.1
  have hC0 := hC
  have hS : Sm σ σ := Sm.rfl
  have hA : ∀ j : Nat, ¬ j = 0 → gi σ 64 j = gi σ 64 j := fun _ _ => rfl
  have hf0 := hf
  refine MM.of (loc := [(0, .ref 64), (1, .int 51), (2, .int x), (3, .int (nI dp))]) (by decide +kernel) rfl (Nat.le_of_ble_eq_true rfl) ?_
  refine V_iload_n dA_through_0 rfl ?_
  refine V_lsw (tgt := 192) dA_through_1 (by decide) rfl rfl ?_
  refine V_aload_n dA_through_192 rfl ?_
  refine V_iconst (v := 1) dA_through_193 (by decide) ?_
  refine V_iconst (v := 1) dA_through_194 (by decide) ?_
  refine V_iload_n dA_through_195 rfl ?_
  refine V_iconst (v := 1) dA_through_196 (by decide) ?_
  refine V_iadd dA_through_197 ?_
  refine V_iload_n dA_through_198 rfl ?_
  refine V_callV (as := [.int 1, .int 1, .int (x + 1), .int (nI dp)]) (rest := []) (bs' := 0) rfl dA_through_199 cmA_run cvA_run mlA_33 (Or.inl ⟨_, _, _, _, _, rfl, k64, by decide, rfl⟩) rfl rfl (c_run_4_1_1_1 hC hf hr (x + 1) (dp := dp) (by omega)) (by decide) (Nat.le_refl _) (by decide) (Nat.le_of_ble_eq_true rfl) ?_
  rintro _ _ s199 ⟨rfl, rfl, hC, hS1, hA1⟩ -
  refine V_one ?_
  have hS := hS.trans hS1
  have hA : ∀ j : Nat, ¬ j = 0 → gi s199 64 j = gi σ 64 j := fun j h => (hA1 j h).trans (hA j h)
  have hf := hf0.to hA
  have hr : gi (bodyL 4 10 (bodyL 3 50 (bodyL 2 11 (bodyL 1 20 M)))) 76 57 = nI 5 := gi_eq
  have hR := hC.1
  exact V_iret dA_through_202 rfl rfl ⟨rfl, rfl, hC, hS, hA⟩
theorem c_run_4_4_1_0 {l : Launch} {G : GT} {L : Nat → List Cl} {M σ : Hp} (hC : RC L M σ) {num v : Int32} (hf : fA σ 4 num v) (hr : gi M 76 57 = nI 0) (x : Int32) {dp : Nat} (hd : dp < 22) : MM l G mA_run 9 0 0 [.ref 64, .int 4, .int 1, .int x, .int (nI dp)] KA σ (PA L (bodyL 4 10 (bodyL 3 50 (bodyL 2 11 (bodyL 1 20 (bodyL 0 51 M))))) σ (some (.int (((-((x + 1) + num)) - v) ^^^ 6)))) := by
  have hR := hC.1
  have hC0 := hC
  have hS : Sm σ σ := Sm.rfl
  have hA : ∀ j : Nat, ¬ j = 0 → gi σ 64 j = gi σ 64 j := fun _ _ => rfl
  have hf0 := hf
  refine MM.of (loc := [(0, .ref 64), (1, .int 4), (2, .int 1), (3, .int x), (4, .int (nI dp))]) (by decide +kernel) rfl (Nat.le_of_ble_eq_true rfl) ?_
  refine V_iload dA_run_0 rfl ?_
  refine V_bipush (v := 40) dA_run_2 (by decide) ?_
  refine V_icmp_lt (tgt := 9) dA_run_4 rfl (fun _ => ?_) (fun h => absurd h (not_not_intro (nI_lt (a := dp) (b := 40) (by omega) (by decide))))
  refine V_iload_n dA_run_9 rfl ?_
  refine V_iload_n dA_run_10 rfl ?_
  refine V_callS (as := [.int 4, .int 1]) (rest := []) (bs' := 0) rfl dA_run_11 cmA_bodyFrom stA_bodyFrom mlA_37 rfl rfl c_bf_4_1 (by decide) (Nat.le_refl _) (by decide) (Nat.le_of_ble_eq_true rfl) ?_
  rintro _ _ _ ⟨rfl, rfl, rfl⟩ -
  refine V_one ?_
  refine V_istore (loc' := [(5, .int 51), (0, .ref 64), (1, .int 4), (2, .int 1), (3, .int x), (4, .int (nI dp))]) dA_run_14 (by decide) rfl ?_
  refine V_aload_n dA_run_16 rfl ?_
  refine V_iload dA_run_17 rfl ?_
  refine V_callV (as := [.int 51]) (rest := []) (bs' := 0) rfl dA_run_19 cmA_begin cvA_begin mlA_41 (Or.inl ⟨_, _, _, _, _, rfl, k64, by decide, rfl⟩) rfl rfl (c_begin hC (by decide) hr 51) (by decide) (Nat.le_refl _) (by decide) (Nat.le_of_ble_eq_true rfl) ?_
  rintro _ _ s1 ⟨rfl, rfl, hC, hS1, hA1⟩ -
  refine V_non ?_
  have hS := hS.trans hS1
  have hA : ∀ j : Nat, ¬ j = 0 → gi s1 64 j = gi σ 64 j := fun j h => (hA1 j h).trans (hA j h)
  have hf := hf0.to hA
  have hr : gi (bodyL 0 51 M) 76 57 = nI 1 := gi_eq
  refine V_aload_n dA_run_22 rfl ?_
  refine V_iload dA_run_23 rfl ?_
  refine V_iload_n dA_run_25 rfl ?_
  refine V_iload dA_run_26 rfl ?_
  refine V_iconst (v := 1) dA_run_28 (by decide) ?_
  refine V_iadd dA_run_29 ?_
  refine V_topI (x' := nI (dp + 1)) (nI_1 _) ?_
  refine V_callV (as := [.int 51, .int x, .int (nI (dp + 1))]) (rest := []) (bs' := 0) rfl dA_run_30 cmA_through cvA_through mlA_45 (Or.inl ⟨_, _, _, _, _, rfl, k64, by decide, rfl⟩) rfl rfl (c_thr_4_4_1_0 hC hf hr x (dp := dp + 1) (by omega)) (by decide) (Nat.le_refl _) (by decide) (Nat.le_of_ble_eq_true rfl) ?_
  rintro _ _ s2 ⟨rfl, rfl, hC, hS1, hA1⟩ -
  refine V_one ?_
  have hS := hS.trans hS1
  have hA : ∀ j : Nat, ¬ j = 0 → gi s2 64 j = gi σ 64 j := fun j h => (hA1 j h).trans (hA j h)
  exact V_iret dA_run_33 rfl rfl ⟨rfl, rfl, hC, hS, hA⟩
theorem c_thr_4_1_0_5 {l : Launch} {G : GT} {L : Nat → List Cl} {M σ : Hp} (hC : RC L M σ) {num v : Int32} (hf : fA σ 4 num v) (hr : gi M 76 57 = nI 6) (x : Int32) {dp : Nat} (hd : dp < 31) : MM l G mA_through 0 0 0 [.ref 64, .int 10, .int x, .int (nI dp)] KA σ (PA L M σ (some (.int (x + num)))) := by
  have hR := hC.1
  have hC0 := hC
  have hS : Sm σ σ := Sm.rfl
  have hA : ∀ j : Nat, ¬ j = 0 → gi σ 64 j = gi σ 64 j := fun _ _ => rfl
  have hf0 := hf
  refine MM.of (loc := [(0, .ref 64), (1, .int 10), (2, .int x), (3, .int (nI dp))]) (by decide +kernel) rfl (Nat.le_of_ble_eq_true rfl) ?_
  refine V_iload_n dA_through_0 rfl ?_
  refine V_lsw (tgt := 100) dA_through_1 (by decide) rfl rfl ?_
  refine V_iload_n dA_through_100 rfl ?_
  refine V_aload_n dA_through_101 rfl ?_
  refine V_getE (x := num) dA_through_102 flA_28 k64 rfl hf.2.1 ?_
  refine V_iadd dA_through_105 ?_
  exact V_iret dA_through_106 rfl rfl ⟨rfl, rfl, hC, hS, hA⟩
theorem c_run_4_1_0_5 {l : Launch} {G : GT} {L : Nat → List Cl} {M σ : Hp} (hC : RC L M σ) {num v : Int32} (hf : fA σ 4 num v) (hr : gi M 76 57 = nI 5) (x : Int32) {dp : Nat} (hd : dp < 30) : MM l G mA_run 1 0 0 [.ref 64, .int 1, .int 0, .int x, .int (nI dp)] KA σ (PA L (bodyL 5 10 M) σ (some (.int (x + num)))) := by
  have hR := hC.1
  have hC0 := hC
  have hS : Sm σ σ := Sm.rfl
  have hA : ∀ j : Nat, ¬ j = 0 → gi σ 64 j = gi σ 64 j := fun _ _ => rfl
  have hf0 := hf
  refine MM.of (loc := [(0, .ref 64), (1, .int 1), (2, .int 0), (3, .int x), (4, .int (nI dp))]) (by decide +kernel) rfl (Nat.le_of_ble_eq_true rfl) ?_
  refine V_iload dA_run_0 rfl ?_
  refine V_bipush (v := 40) dA_run_2 (by decide) ?_
  refine V_icmp_lt (tgt := 9) dA_run_4 rfl (fun _ => ?_) (fun h => absurd h (not_not_intro (nI_lt (a := dp) (b := 40) (by omega) (by decide))))
  refine V_iload_n dA_run_9 rfl ?_
  refine V_iload_n dA_run_10 rfl ?_
  refine V_callS (as := [.int 1, .int 0]) (rest := []) (bs' := 0) rfl dA_run_11 cmA_bodyFrom stA_bodyFrom mlA_37 rfl rfl c_bf_1_0 (by decide) (Nat.le_refl _) (by decide) (Nat.le_of_ble_eq_true rfl) ?_
  rintro _ _ _ ⟨rfl, rfl, rfl⟩ -
  refine V_one ?_
  refine V_istore (loc' := [(5, .int 10), (0, .ref 64), (1, .int 1), (2, .int 0), (3, .int x), (4, .int (nI dp))]) dA_run_14 (by decide) rfl ?_
  refine V_aload_n dA_run_16 rfl ?_
  refine V_iload dA_run_17 rfl ?_
  refine V_callV (as := [.int 10]) (rest := []) (bs' := 0) rfl dA_run_19 cmA_begin cvA_begin mlA_41 (Or.inl ⟨_, _, _, _, _, rfl, k64, by decide, rfl⟩) rfl rfl (c_begin hC (by decide) hr 10) (by decide) (Nat.le_refl _) (by decide) (Nat.le_of_ble_eq_true rfl) ?_
  rintro _ _ s1 ⟨rfl, rfl, hC, hS1, hA1⟩ -
  refine V_non ?_
  have hS := hS.trans hS1
  have hA : ∀ j : Nat, ¬ j = 0 → gi s1 64 j = gi σ 64 j := fun j h => (hA1 j h).trans (hA j h)
  have hf := hf0.to hA
  have hr : gi (bodyL 5 10 M) 76 57 = nI 6 := gi_eq
  refine V_aload_n dA_run_22 rfl ?_
  refine V_iload dA_run_23 rfl ?_
  refine V_iload_n dA_run_25 rfl ?_
  refine V_iload dA_run_26 rfl ?_
  refine V_iconst (v := 1) dA_run_28 (by decide) ?_
  refine V_iadd dA_run_29 ?_
  refine V_topI (x' := nI (dp + 1)) (nI_1 _) ?_
  refine V_callV (as := [.int 10, .int x, .int (nI (dp + 1))]) (rest := []) (bs' := 0) rfl dA_run_30 cmA_through cvA_through mlA_45 (Or.inl ⟨_, _, _, _, _, rfl, k64, by decide, rfl⟩) rfl rfl (c_thr_4_1_0_5 hC hf hr x (dp := dp + 1) (by omega)) (by decide) (Nat.le_refl _) (by decide) (Nat.le_of_ble_eq_true rfl) ?_
  rintro _ _ s2 ⟨rfl, rfl, hC, hS1, hA1⟩ -
  refine V_one ?_
  have hS := hS.trans hS1
  have hA : ∀ j : Nat, ¬ j = 0 → gi s2 64 j = gi σ 64 j := fun j h => (hA1 j h).trans (hA j h)
  exact V_iret dA_run_33 rfl rfl ⟨rfl, rfl, hC, hS, hA⟩
theorem c_thr_4_4_0_4 {l : Launch} {G : GT} {L : Nat → List Cl} {M σ : Hp} (hC : RC L M σ) {num v : Int32} (hf : fA σ 4 num v) (hr : gi M 76 57 = nI 5) (x : Int32) {dp : Nat} (hd : dp < 29) : MM l G mA_through 2 0 0 [.ref 64, .int 50, .int x, .int (nI dp)] KA σ (PA L (bodyL 5 10 M) σ (some (.int (-(x + num))))) := by
  have hR := hC.1
  have hC0 := hC
  have hS : Sm σ σ := Sm.rfl
  have hA : ∀ j : Nat, ¬ j = 0 → gi σ 64 j = gi σ 64 j := fun _ _ => rfl
  have hf0 := hf
  refine MM.of (loc := [(0, .ref 64), (1, .int 50), (2, .int x), (3, .int (nI dp))]) (by decide +kernel) rfl (Nat.le_of_ble_eq_true rfl) ?_
  refine V_iload_n dA_through_0 rfl ?_
  refine V_lsw (tgt := 182) dA_through_1 (by decide) rfl rfl ?_
  refine V_aload_n dA_through_182 rfl ?_
  refine V_iconst (v := 1) dA_through_183 (by decide) ?_
  refine V_iconst (v := 0) dA_through_184 (by decide) ?_
  refine V_iload_n dA_through_185 rfl ?_
  refine V_iload_n dA_through_186 rfl ?_
  refine V_callV (as := [.int 1, .int 0, .int x, .int (nI dp)]) (rest := []) (bs' := 0) rfl dA_through_187 cmA_run cvA_run mlA_33 (Or.inl ⟨_, _, _, _, _, rfl, k64, by decide, rfl⟩) rfl rfl (c_run_4_1_0_5 hC hf hr x (dp := dp) (by omega)) (by decide) (Nat.le_refl _) (by decide) (Nat.le_of_ble_eq_true rfl) ?_
  rintro _ _ s187 ⟨rfl, rfl, hC, hS1, hA1⟩ -
  refine V_one ?_
  have hS := hS.trans hS1
  have hA : ∀ j : Nat, ¬ j = 0 → gi s187 64 j = gi σ 64 j := fun j h => (hA1 j h).trans (hA j h)
  have hf := hf0.to hA
  have hr : gi (bodyL 5 10 M) 76 57 = nI 6 := gi_eq
  have hR := hC.1
  refine V_ineg dA_through_190 ?_
  exact V_iret dA_through_191 rfl rfl ⟨rfl, rfl, hC, hS, hA⟩
theorem c_run_4_4_0_4 {l : Launch} {G : GT} {L : Nat → List Cl} {M σ : Hp} (hC : RC L M σ) {num v : Int32} (hf : fA σ 4 num v) (hr : gi M 76 57 = nI 4) (x : Int32) {dp : Nat} (hd : dp < 28) : MM l G mA_run 3 0 0 [.ref 64, .int 4, .int 0, .int x, .int (nI dp)] KA σ (PA L (bodyL 5 10 (bodyL 4 50 M)) σ (some (.int (-(x + num))))) := by
  have hR := hC.1
  have hC0 := hC
  have hS : Sm σ σ := Sm.rfl
  have hA : ∀ j : Nat, ¬ j = 0 → gi σ 64 j = gi σ 64 j := fun _ _ => rfl
  have hf0 := hf
  refine MM.of (loc := [(0, .ref 64), (1, .int 4), (2, .int 0), (3, .int x), (4, .int (nI dp))]) (by decide +kernel) rfl (Nat.le_of_ble_eq_true rfl) ?_
  refine V_iload dA_run_0 rfl ?_
  refine V_bipush (v := 40) dA_run_2 (by decide) ?_
  refine V_icmp_lt (tgt := 9) dA_run_4 rfl (fun _ => ?_) (fun h => absurd h (not_not_intro (nI_lt (a := dp) (b := 40) (by omega) (by decide))))
  refine V_iload_n dA_run_9 rfl ?_
  refine V_iload_n dA_run_10 rfl ?_
  refine V_callS (as := [.int 4, .int 0]) (rest := []) (bs' := 0) rfl dA_run_11 cmA_bodyFrom stA_bodyFrom mlA_37 rfl rfl c_bf_4_0 (by decide) (Nat.le_refl _) (by decide) (Nat.le_of_ble_eq_true rfl) ?_
  rintro _ _ _ ⟨rfl, rfl, rfl⟩ -
  refine V_one ?_
  refine V_istore (loc' := [(5, .int 50), (0, .ref 64), (1, .int 4), (2, .int 0), (3, .int x), (4, .int (nI dp))]) dA_run_14 (by decide) rfl ?_
  refine V_aload_n dA_run_16 rfl ?_
  refine V_iload dA_run_17 rfl ?_
  refine V_callV (as := [.int 50]) (rest := []) (bs' := 0) rfl dA_run_19 cmA_begin cvA_begin mlA_41 (Or.inl ⟨_, _, _, _, _, rfl, k64, by decide, rfl⟩) rfl rfl (c_begin hC (by decide) hr 50) (by decide) (Nat.le_refl _) (by decide) (Nat.le_of_ble_eq_true rfl) ?_
  rintro _ _ s1 ⟨rfl, rfl, hC, hS1, hA1⟩ -
  refine V_non ?_
  have hS := hS.trans hS1
  have hA : ∀ j : Nat, ¬ j = 0 → gi s1 64 j = gi σ 64 j := fun j h => (hA1 j h).trans (hA j h)
  have hf := hf0.to hA
  have hr : gi (bodyL 4 50 M) 76 57 = nI 5 := gi_eq
  refine V_aload_n dA_run_22 rfl ?_
  refine V_iload dA_run_23 rfl ?_
  refine V_iload_n dA_run_25 rfl ?_
  refine V_iload dA_run_26 rfl ?_
  refine V_iconst (v := 1) dA_run_28 (by decide) ?_
  refine V_iadd dA_run_29 ?_
  refine V_topI (x' := nI (dp + 1)) (nI_1 _) ?_
  refine V_callV (as := [.int 50, .int x, .int (nI (dp + 1))]) (rest := []) (bs' := 0) rfl dA_run_30 cmA_through cvA_through mlA_45 (Or.inl ⟨_, _, _, _, _, rfl, k64, by decide, rfl⟩) rfl rfl (c_thr_4_4_0_4 hC hf hr x (dp := dp + 1) (by omega)) (by decide) (Nat.le_refl _) (by decide) (Nat.le_of_ble_eq_true rfl) ?_
  rintro _ _ s2 ⟨rfl, rfl, hC, hS1, hA1⟩ -
  refine V_one ?_
  have hS := hS.trans hS1
  have hA : ∀ j : Nat, ¬ j = 0 → gi s2 64 j = gi σ 64 j := fun j h => (hA1 j h).trans (hA j h)
  exact V_iret dA_run_33 rfl rfl ⟨rfl, rfl, hC, hS, hA⟩
theorem c_thr_4_0_1_3 {l : Launch} {G : GT} {L : Nat → List Cl} {M σ : Hp} (hC : RC L M σ) {num v : Int32} (hf : fA σ 4 num v) (hr : gi M 76 57 = nI 4) (x : Int32) {dp : Nat} (hd : dp < 27) : MM l G mA_through 4 0 0 [.ref 64, .int 11, .int x, .int (nI dp)] KA σ (PA L (bodyL 5 10 (bodyL 4 50 M)) σ (some (.int ((-(x + num)) - v)))) := by
  have hR := hC.1
  have hC0 := hC
  have hS : Sm σ σ := Sm.rfl
  have hA : ∀ j : Nat, ¬ j = 0 → gi σ 64 j = gi σ 64 j := fun _ _ => rfl
  have hf0 := hf
  refine MM.of (loc := [(0, .ref 64), (1, .int 11), (2, .int x), (3, .int (nI dp))]) (by decide +kernel) rfl (Nat.le_of_ble_eq_true rfl) ?_
  refine V_iload_n dA_through_0 rfl ?_
  refine V_lsw (tgt := 107) dA_through_1 (by decide) rfl rfl ?_
  refine V_aload_n dA_through_107 rfl ?_
  refine V_aload_n dA_through_108 rfl ?_
  refine V_getE (x := 4) dA_through_109 flA_24 k64 rfl hf.1 ?_
  refine V_iconst (v := 0) dA_through_112 (by decide) ?_
  refine V_iload_n dA_through_113 rfl ?_
  refine V_iload_n dA_through_114 rfl ?_
  refine V_callV (as := [.int 4, .int 0, .int x, .int (nI dp)]) (rest := []) (bs' := 0) rfl dA_through_115 cmA_run cvA_run mlA_33 (Or.inl ⟨_, _, _, _, _, rfl, k64, by decide, rfl⟩) rfl rfl (c_run_4_4_0_4 hC hf hr x (dp := dp) (by omega)) (by decide) (Nat.le_refl _) (by decide) (Nat.le_of_ble_eq_true rfl) ?_
  rintro _ _ s115 ⟨rfl, rfl, hC, hS1, hA1⟩ -
  refine V_one ?_
  have hS := hS.trans hS1
  have hA : ∀ j : Nat, ¬ j = 0 → gi s115 64 j = gi σ 64 j := fun j h => (hA1 j h).trans (hA j h)
  have hf := hf0.to hA
  have hr : gi (bodyL 5 10 (bodyL 4 50 M)) 76 57 = nI 6 := gi_eq
  have hR := hC.1
  refine V_aload_n dA_through_118 rfl ?_
  refine V_getE (x := v) dA_through_119 flA_32 k64 rfl hf.2.2 ?_
  refine V_isub dA_through_122 ?_
  exact V_iret dA_through_123 rfl rfl ⟨rfl, rfl, hC, hS, hA⟩
theorem c_run_4_0_1_3 {l : Launch} {G : GT} {L : Nat → List Cl} {M σ : Hp} (hC : RC L M σ) {num v : Int32} (hf : fA σ 4 num v) (hr : gi M 76 57 = nI 3) (x : Int32) {dp : Nat} (hd : dp < 26) : MM l G mA_run 5 0 0 [.ref 64, .int 0, .int 1, .int x, .int (nI dp)] KA σ (PA L (bodyL 5 10 (bodyL 4 50 (bodyL 3 11 M))) σ (some (.int ((-(x + num)) - v)))) := by
  have hR := hC.1
  have hC0 := hC
  have hS : Sm σ σ := Sm.rfl
  have hA : ∀ j : Nat, ¬ j = 0 → gi σ 64 j = gi σ 64 j := fun _ _ => rfl
  have hf0 := hf
  refine MM.of (loc := [(0, .ref 64), (1, .int 0), (2, .int 1), (3, .int x), (4, .int (nI dp))]) (by decide +kernel) rfl (Nat.le_of_ble_eq_true rfl) ?_
  refine V_iload dA_run_0 rfl ?_
  refine V_bipush (v := 40) dA_run_2 (by decide) ?_
  refine V_icmp_lt (tgt := 9) dA_run_4 rfl (fun _ => ?_) (fun h => absurd h (not_not_intro (nI_lt (a := dp) (b := 40) (by omega) (by decide))))
  refine V_iload_n dA_run_9 rfl ?_
  refine V_iload_n dA_run_10 rfl ?_
  refine V_callS (as := [.int 0, .int 1]) (rest := []) (bs' := 0) rfl dA_run_11 cmA_bodyFrom stA_bodyFrom mlA_37 rfl rfl c_bf_0_1 (by decide) (Nat.le_refl _) (by decide) (Nat.le_of_ble_eq_true rfl) ?_
  rintro _ _ _ ⟨rfl, rfl, rfl⟩ -
  refine V_one ?_
  refine V_istore (loc' := [(5, .int 11), (0, .ref 64), (1, .int 0), (2, .int 1), (3, .int x), (4, .int (nI dp))]) dA_run_14 (by decide) rfl ?_
  refine V_aload_n dA_run_16 rfl ?_
  refine V_iload dA_run_17 rfl ?_
  refine V_callV (as := [.int 11]) (rest := []) (bs' := 0) rfl dA_run_19 cmA_begin cvA_begin mlA_41 (Or.inl ⟨_, _, _, _, _, rfl, k64, by decide, rfl⟩) rfl rfl (c_begin hC (by decide) hr 11) (by decide) (Nat.le_refl _) (by decide) (Nat.le_of_ble_eq_true rfl) ?_
  rintro _ _ s1 ⟨rfl, rfl, hC, hS1, hA1⟩ -
  refine V_non ?_
  have hS := hS.trans hS1
  have hA : ∀ j : Nat, ¬ j = 0 → gi s1 64 j = gi σ 64 j := fun j h => (hA1 j h).trans (hA j h)
  have hf := hf0.to hA
  have hr : gi (bodyL 3 11 M) 76 57 = nI 4 := gi_eq
  refine V_aload_n dA_run_22 rfl ?_
  refine V_iload dA_run_23 rfl ?_
  refine V_iload_n dA_run_25 rfl ?_
  refine V_iload dA_run_26 rfl ?_
  refine V_iconst (v := 1) dA_run_28 (by decide) ?_
  refine V_iadd dA_run_29 ?_
  refine V_topI (x' := nI (dp + 1)) (nI_1 _) ?_
  refine V_callV (as := [.int 11, .int x, .int (nI (dp + 1))]) (rest := []) (bs' := 0) rfl dA_run_30 cmA_through cvA_through mlA_45 (Or.inl ⟨_, _, _, _, _, rfl, k64, by decide, rfl⟩) rfl rfl (c_thr_4_0_1_3 hC hf hr x (dp := dp + 1) (by omega)) (by decide) (Nat.le_refl _) (by decide) (Nat.le_of_ble_eq_true rfl) ?_
  rintro _ _ s2 ⟨rfl, rfl, hC, hS1, hA1⟩ -
  refine V_one ?_
  have hS := hS.trans hS1
  have hA : ∀ j : Nat, ¬ j = 0 → gi s2 64 j = gi σ 64 j := fun j h => (hA1 j h).trans (hA j h)
  exact V_iret dA_run_33 rfl rfl ⟨rfl, rfl, hC, hS, hA⟩
theorem c_thr_4_1_1_2 {l : Launch} {G : GT} {L : Nat → List Cl} {M σ : Hp} (hC : RC L M σ) {num v : Int32} (hf : fA σ 4 num v) (hr : gi M 76 57 = nI 3) (x : Int32) {dp : Nat} (hd : dp < 25) : MM l G mA_through 6 0 0 [.ref 64, .int 20, .int x, .int (nI dp)] KA σ (PA L (bodyL 5 10 (bodyL 4 50 (bodyL 3 11 M))) σ (some (.int (((-(x + num)) - v) ^^^ 6)))) := by
  have hR := hC.1
  have hC0 := hC
  have hS : Sm σ σ := Sm.rfl
  have hA : ∀ j : Nat, ¬ j = 0 → gi σ 64 j = gi σ 64 j := fun _ _ => rfl
  have hf0 := hf
  refine MM.of (loc := [(0, .ref 64), (1, .int 20), (2, .int x), (3, .int (nI dp))]) (by decide +kernel) rfl (Nat.le_of_ble_eq_true rfl) ?_
  refine V_iload_n dA_through_0 rfl ?_
  refine V_lsw (tgt := 138) dA_through_1 (by decide) rfl rfl ?_
  refine V_aload_n dA_through_138 rfl ?_
  refine V_iconst (v := 0) dA_through_139 (by decide) ?_
  refine V_iconst (v := 1) dA_through_140 (by decide) ?_
  refine V_iload_n dA_through_141 rfl ?_
  refine V_iload_n dA_through_142 rfl ?_
  refine V_callV (as := [.int 0, .int 1, .int x, .int (nI dp)]) (rest := []) (bs' := 0) rfl dA_through_143 cmA_run cvA_run mlA_33 (Or.inl ⟨_, _, _, _, _, rfl, k64, by decide, rfl⟩) rfl rfl (c_run_4_0_1_3 hC hf hr x (dp := dp) (by omega)) (by decide) (Nat.le_refl _) (by decide) (Nat.le_of_ble_eq_true rfl) ?_
  rintro _ _ s143 ⟨rfl, rfl, hC, hS1, hA1⟩ -
  refine V_one ?_
  have hS := hS.trans hS1
  have hA : ∀ j : Nat, ¬ j = 0 → gi s143 64 j = gi σ 64 j := fun j h => (hA1 j h).trans (hA j h)
  have hf := hf0.to hA
  have hr : gi (bodyL 5 10 (bodyL 4 50 (bodyL 3 11 M))) 76 57 = nI 6 := gi_eq
  have hR := hC.1
  refine V_bipush (v := 6) dA_through_146 (by decide) ?_
  refine V_ixor dA_through_148 ?_
  exact V_iret dA_through_149 rfl rfl ⟨rfl, rfl, hC, hS, hA⟩
theorem c_run_4_1_1_2 {l : Launch} {G : GT} {L : Nat → List Cl} {M σ : Hp} (hC : RC L M σ) {num v : Int32} (hf : fA σ 4 num v) (hr : gi M 76 57 = nI 2) (x : Int32) {dp : Nat} (hd : dp < 24) : MM l G mA_run 7 0 0 [.ref 64, .int 1, .int 1, .int x, .int (nI dp)] KA σ (PA L (bodyL 5 10 (bodyL 4 50 (bodyL 3 11 (bodyL 2 20 M)))) σ (some (.int (((-(x + num)) - v) ^^^ 6)))) := by
  have hR := hC.1
  have hC0 := hC
  have hS : Sm σ σ := Sm.rfl
  have hA : ∀ j : Nat, ¬ j = 0 → gi σ 64 j = gi σ 64 j := fun _ _ => rfl
  have hf0 := hf
  refine MM.of (loc := [(0, .ref 64), (1, .int 1), (2, .int 1), (3, .int x), (4, .int (nI dp))]) (by decide +kernel) rfl (Nat.le_of_ble_eq_true rfl) ?_
  refine V_iload dA_run_0 rfl ?_
  refine V_bipush (v := 40) dA_run_2 (by decide) ?_
  refine V_icmp_lt (tgt := 9) dA_run_4 rfl (fun _ => ?_) (fun h => absurd h (not_not_intro (nI_lt (a := dp) (b := 40) (by omega) (by decide))))
  refine V_iload_n dA_run_9 rfl ?_
  refine V_iload_n dA_run_10 rfl ?_
  refine V_callS (as := [.int 1, .int 1]) (rest := []) (bs' := 0) rfl dA_run_11 cmA_bodyFrom stA_bodyFrom mlA_37 rfl rfl c_bf_1_1 (by decide) (Nat.le_refl _) (by decide) (Nat.le_of_ble_eq_true rfl) ?_
  rintro _ _ _ ⟨rfl, rfl, rfl⟩ -
  refine V_one ?_
  refine V_istore (loc' := [(5, .int 20), (0, .ref 64), (1, .int 1), (2, .int 1), (3, .int x), (4, .int (nI dp))]) dA_run_14 (by decide) rfl ?_
  refine V_aload_n dA_run_16 rfl ?_
  refine V_iload dA_run_17 rfl ?_
  refine V_callV (as := [.int 20]) (rest := []) (bs' := 0) rfl dA_run_19 cmA_begin cvA_begin mlA_41 (Or.inl ⟨_, _, _, _, _, rfl, k64, by decide, rfl⟩) rfl rfl (c_begin hC (by decide) hr 20) (by decide) (Nat.le_refl _) (by decide) (Nat.le_of_ble_eq_true rfl) ?_
  rintro _ _ s1 ⟨rfl, rfl, hC, hS1, hA1⟩ -
  refine V_non ?_
  have hS := hS.trans hS1
  have hA : ∀ j : Nat, ¬ j = 0 → gi s1 64 j = gi σ 64 j := fun j h => (hA1 j h).trans (hA j h)
  have hf := hf0.to hA
  have hr : gi (bodyL 2 20 M) 76 57 = nI 3 := gi_eq
  refine V_aload_n dA_run_22 rfl ?_
  refine V_iload dA_run_23 rfl ?_
  refine V_iload_n dA_run_25 rfl ?_
  refine V_iload dA_run_26 rfl ?_
  refine V_iconst (v := 1) dA_run_28 (by decide) ?_
  refine V_iadd dA_run_29 ?_
  refine V_topI (x' := nI (dp + 1)) (nI_1 _) ?_
  refine V_callV (as := [.int 20, .int x, .int (nI (dp + 1))]) (rest := []) (bs' := 0) rfl dA_run_30 cmA_through cvA_through mlA_45 (Or.inl ⟨_, _, _, _, _, rfl, k64, by decide, rfl⟩) rfl rfl (c_thr_4_1_1_2 hC hf hr x (dp := dp + 1) (by omega)) (by decide) (Nat.le_refl _) (by decide) (Nat.le_of_ble_eq_true rfl) ?_
  rintro _ _ s2 ⟨rfl, rfl, hC, hS1, hA1⟩ -
  refine V_one ?_
  have hS := hS.trans hS1
  have hA : ∀ j : Nat, ¬ j = 0 → gi s2 64 j = gi σ 64 j := fun j h => (hA1 j h).trans (hA j h)
  exact V_iret dA_run_33 rfl rfl ⟨rfl, rfl, hC, hS, hA⟩
theorem c_thr_4_4_1_1 {l : Launch} {G : GT} {L : Nat → List Cl} {M σ : Hp} (hC : RC L M σ) {num v : Int32} (hf : fA σ 4 num v) (hr : gi M 76 57 = nI 2) (x : Int32) {dp : Nat} (hd : dp < 23) : MM l G mA_through 8 0 0 [.ref 64, .int 51, .int x, .int (nI dp)] KA σ (PA L (bodyL 5 10 (bodyL 4 50 (bodyL 3 11 (bodyL 2 20 M)))) σ (some (.int (((-((x + 1) + num)) - v) ^^^ 6)))) := by
  have hR := hC.1
  have hC0 := hC
  have hS : Sm σ σ := Sm.rfl
  have hA : ∀ j : Nat, ¬ j = 0 → gi σ 64 j = gi σ 64 j := fun _ _ => rfl
  have hf0 := hf
  refine MM.of (loc := [(0, .ref 64), (1, .int 51), (2, .int x), (3, .int (nI dp))]) (by decide +kernel) rfl (Nat.le_of_ble_eq_true rfl) ?_
  refine V_iload_n dA_through_0 rfl ?_
  refine V_lsw (tgt := 192) dA_through_1 (by decide) rfl rfl ?_
  refine V_aload_n dA_through_192 rfl ?_
  refine V_iconst (v := 1) dA_through_193 (by decide) ?_
  refine V_iconst (v := 1) dA_through_194 (by decide) ?_
  refine V_iload_n dA_through_195 rfl ?_
  refine V_iconst (v := 1) dA_through_196 (by decide) ?_
  refine V_iadd dA_through_197 ?_
  refine V_iload_n dA_through_198 rfl ?_
  refine V_callV (as := [.int 1, .int 1, .int (x + 1), .int (nI dp)]) (rest := []) (bs' := 0) rfl dA_through_199 cmA_run cvA_run mlA_33 (Or.inl ⟨_, _, _, _, _, rfl, k64, by decide, rfl⟩) rfl rfl (c_run_4_1_1_2 hC hf hr (x + 1) (dp := dp) (by omega)) (by decide) (Nat.le_refl _) (by decide) (Nat.le_of_ble_eq_true rfl) ?_
  rintro _ _ s199 ⟨rfl, rfl, hC, hS1, hA1⟩ -
  refine V_one ?_
  have hS := hS.trans hS1
  have hA : ∀ j : Nat, ¬ j = 0 → gi s199 64 j = gi σ 64 j := fun j h => (hA1 j h).trans (hA j h)
  have hf := hf0.to hA
  have hr : gi (bodyL 5 10 (bodyL 4 50 (bodyL 3 11 (bodyL 2 20 M)))) 76 57 = nI 6 := gi_eq
  have hR := hC.1
  exact V_iret dA_through_202 rfl rfl ⟨rfl, rfl, hC, hS, hA⟩
theorem c_run_4_4_1_1 {l : Launch} {G : GT} {L : Nat → List Cl} {M σ : Hp} (hC : RC L M σ) {num v : Int32} (hf : fA σ 4 num v) (hr : gi M 76 57 = nI 1) (x : Int32) {dp : Nat} (hd : dp < 22) : MM l G mA_run 9 0 0 [.ref 64, .int 4, .int 1, .int x, .int (nI dp)] KA σ (PA L (bodyL 5 10 (bodyL 4 50 (bodyL 3 11 (bodyL 2 20 (bodyL 1 51 M))))) σ (some (.int (((-((x + 1) + num)) - v) ^^^ 6)))) := by
  have hR := hC.1
  have hC0 := hC
  have hS : Sm σ σ := Sm.rfl
  have hA : ∀ j : Nat, ¬ j = 0 → gi σ 64 j = gi σ 64 j := fun _ _ => rfl
  have hf0 := hf
  refine MM.of (loc := [(0, .ref 64), (1, .int 4), (2, .int 1), (3, .int x), (4, .int (nI dp))]) (by decide +kernel) rfl (Nat.le_of_ble_eq_true rfl) ?_
  refine V_iload dA_run_0 rfl ?_
  refine V_bipush (v := 40) dA_run_2 (by decide) ?_
  refine V_icmp_lt (tgt := 9) dA_run_4 rfl (fun _ => ?_) (fun h => absurd h (not_not_intro (nI_lt (a := dp) (b := 40) (by omega) (by decide))))
  refine V_iload_n dA_run_9 rfl ?_
  refine V_iload_n dA_run_10 rfl ?_
  refine V_callS (as := [.int 4, .int 1]) (rest := []) (bs' := 0) rfl dA_run_11 cmA_bodyFrom stA_bodyFrom mlA_37 rfl rfl c_bf_4_1 (by decide) (Nat.le_refl _) (by decide) (Nat.le_of_ble_eq_true rfl) ?_
  rintro _ _ _ ⟨rfl, rfl, rfl⟩ -
  refine V_one ?_
  refine V_istore (loc' := [(5, .int 51), (0, .ref 64), (1, .int 4), (2, .int 1), (3, .int x), (4, .int (nI dp))]) dA_run_14 (by decide) rfl ?_
  refine V_aload_n dA_run_16 rfl ?_
  refine V_iload dA_run_17 rfl ?_
  refine V_callV (as := [.int 51]) (rest := []) (bs' := 0) rfl dA_run_19 cmA_begin cvA_begin mlA_41 (Or.inl ⟨_, _, _, _, _, rfl, k64, by decide, rfl⟩) rfl rfl (c_begin hC (by decide) hr 51) (by decide) (Nat.le_refl _) (by decide) (Nat.le_of_ble_eq_true rfl) ?_
  rintro _ _ s1 ⟨rfl, rfl, hC, hS1, hA1⟩ -
  refine V_non ?_
  have hS := hS.trans hS1
  have hA : ∀ j : Nat, ¬ j = 0 → gi s1 64 j = gi σ 64 j := fun j h => (hA1 j h).trans (hA j h)
  have hf := hf0.to hA
  have hr : gi (bodyL 1 51 M) 76 57 = nI 2 := gi_eq
  refine V_aload_n dA_run_22 rfl ?_
  refine V_iload dA_run_23 rfl ?_
  refine V_iload_n dA_run_25 rfl ?_
  refine V_iload dA_run_26 rfl ?_
  refine V_iconst (v := 1) dA_run_28 (by decide) ?_
  refine V_iadd dA_run_29 ?_
  refine V_topI (x' := nI (dp + 1)) (nI_1 _) ?_
  refine V_callV (as := [.int 51, .int x, .int (nI (dp + 1))]) (rest := []) (bs' := 0) rfl dA_run_30 cmA_through cvA_through mlA_45 (Or.inl ⟨_, _, _, _, _, rfl, k64, by decide, rfl⟩) rfl rfl (c_thr_4_4_1_1 hC hf hr x (dp := dp + 1) (by omega)) (by decide) (Nat.le_refl _) (by decide) (Nat.le_of_ble_eq_true rfl) ?_
  rintro _ _ s2 ⟨rfl, rfl, hC, hS1, hA1⟩ -
  refine V_one ?_
  have hS := hS.trans hS1
  have hA : ∀ j : Nat, ¬ j = 0 → gi s2 64 j = gi σ 64 j := fun j h => (hA1 j h).trans (hA j h)
  exact V_iret dA_run_33 rfl rfl ⟨rfl, rfl, hC, hS, hA⟩
theorem c_thr_4_4_2_0 {l : Launch} {G : GT} {L : Nat → List Cl} {M σ : Hp} (hC : RC L M σ) {num v : Int32} (hf : fA σ 4 num v) (hr : gi M 76 57 = nI 1) (x : Int32) {dp : Nat} (hd : dp < 21) : MM l G mA_through 10 0 0 [.ref 64, .int 12, .int x, .int (nI dp)] KA σ (PA L (bodyL 5 10 (bodyL 4 50 (bodyL 3 11 (bodyL 2 20 (bodyL 1 51 M))))) σ (some (.int ((((-((x + 1) + num)) - v) ^^^ 6) * 2)))) := by
  have hR := hC.1
  have hC0 := hC
  have hS : Sm σ σ := Sm.rfl
  have hA : ∀ j : Nat, ¬ j = 0 → gi σ 64 j = gi σ 64 j := fun _ _ => rfl
  have hf0 := hf
  refine MM.of (loc := [(0, .ref 64), (1, .int 12), (2, .int x), (3, .int (nI dp))]) (by decide +kernel) rfl (Nat.le_of_ble_eq_true rfl) ?_
  refine V_iload_n dA_through_0 rfl ?_
  refine V_lsw (tgt := 124) dA_through_1 (by decide) rfl rfl ?_
  refine V_aload_n dA_through_124 rfl ?_
  refine V_aload_n dA_through_125 rfl ?_
  refine V_getE (x := 4) dA_through_126 flA_24 k64 rfl hf.1 ?_
  refine V_iconst (v := 1) dA_through_129 (by decide) ?_
  refine V_iload_n dA_through_130 rfl ?_
  refine V_iload_n dA_through_131 rfl ?_
  refine V_callV (as := [.int 4, .int 1, .int x, .int (nI dp)]) (rest := []) (bs' := 0) rfl dA_through_132 cmA_run cvA_run mlA_33 (Or.inl ⟨_, _, _, _, _, rfl, k64, by decide, rfl⟩) rfl rfl (c_run_4_4_1_1 hC hf hr x (dp := dp) (by omega)) (by decide) (Nat.le_refl _) (by decide) (Nat.le_of_ble_eq_true rfl) ?_
  rintro _ _ s132 ⟨rfl, rfl, hC, hS1, hA1⟩ -
  refine V_one ?_
  have hS := hS.trans hS1
  have hA : ∀ j : Nat, ¬ j = 0 → gi s132 64 j = gi σ 64 j := fun j h => (hA1 j h).trans (hA j h)
  have hf := hf0.to hA
  have hr : gi (bodyL 5 10 (bodyL 4 50 (bodyL 3 11 (bodyL 2 20 (bodyL 1 51 M))))) 76 57 = nI 6 := gi_eq
  have hR := hC.1
  refine V_iconst (v := 2) dA_through_135 (by decide) ?_
  refine V_imul dA_through_136 ?_
  exact V_iret dA_through_137 rfl rfl ⟨rfl, rfl, hC, hS, hA⟩
theorem c_run_4_4_2_0 {l : Launch} {G : GT} {L : Nat → List Cl} {M σ : Hp} (hC : RC L M σ) {num v : Int32} (hf : fA σ 4 num v) (hr : gi M 76 57 = nI 0) (x : Int32) {dp : Nat} (hd : dp < 20) : MM l G mA_run 11 0 0 [.ref 64, .int 4, .int 2, .int x, .int (nI dp)] KA σ (PA L (bodyL 5 10 (bodyL 4 50 (bodyL 3 11 (bodyL 2 20 (bodyL 1 51 (bodyL 0 12 M)))))) σ (some (.int ((((-((x + 1) + num)) - v) ^^^ 6) * 2)))) := by
  have hR := hC.1
  have hC0 := hC
  have hS : Sm σ σ := Sm.rfl
  have hA : ∀ j : Nat, ¬ j = 0 → gi σ 64 j = gi σ 64 j := fun _ _ => rfl
  have hf0 := hf
  refine MM.of (loc := [(0, .ref 64), (1, .int 4), (2, .int 2), (3, .int x), (4, .int (nI dp))]) (by decide +kernel) rfl (Nat.le_of_ble_eq_true rfl) ?_
  refine V_iload dA_run_0 rfl ?_
  refine V_bipush (v := 40) dA_run_2 (by decide) ?_
  refine V_icmp_lt (tgt := 9) dA_run_4 rfl (fun _ => ?_) (fun h => absurd h (not_not_intro (nI_lt (a := dp) (b := 40) (by omega) (by decide))))
  refine V_iload_n dA_run_9 rfl ?_
  refine V_iload_n dA_run_10 rfl ?_
  refine V_callS (as := [.int 4, .int 2]) (rest := []) (bs' := 0) rfl dA_run_11 cmA_bodyFrom stA_bodyFrom mlA_37 rfl rfl c_bf_4_2 (by decide) (Nat.le_refl _) (by decide) (Nat.le_of_ble_eq_true rfl) ?_
  rintro _ _ _ ⟨rfl, rfl, rfl⟩ -
  refine V_one ?_
  refine V_istore (loc' := [(5, .int 12), (0, .ref 64), (1, .int 4), (2, .int 2), (3, .int x), (4, .int (nI dp))]) dA_run_14 (by decide) rfl ?_
  refine V_aload_n dA_run_16 rfl ?_
  refine V_iload dA_run_17 rfl ?_
  refine V_callV (as := [.int 12]) (rest := []) (bs' := 0) rfl dA_run_19 cmA_begin cvA_begin mlA_41 (Or.inl ⟨_, _, _, _, _, rfl, k64, by decide, rfl⟩) rfl rfl (c_begin hC (by decide) hr 12) (by decide) (Nat.le_refl _) (by decide) (Nat.le_of_ble_eq_true rfl) ?_
  rintro _ _ s1 ⟨rfl, rfl, hC, hS1, hA1⟩ -
  refine V_non ?_
  have hS := hS.trans hS1
  have hA : ∀ j : Nat, ¬ j = 0 → gi s1 64 j = gi σ 64 j := fun j h => (hA1 j h).trans (hA j h)
  have hf := hf0.to hA
  have hr : gi (bodyL 0 12 M) 76 57 = nI 1 := gi_eq
  refine V_aload_n dA_run_22 rfl ?_
  refine V_iload dA_run_23 rfl ?_
  refine V_iload_n dA_run_25 rfl ?_
  refine V_iload dA_run_26 rfl ?_
  refine V_iconst (v := 1) dA_run_28 (by decide) ?_
  refine V_iadd dA_run_29 ?_
  refine V_topI (x' := nI (dp + 1)) (nI_1 _) ?_
  refine V_callV (as := [.int 12, .int x, .int (nI (dp + 1))]) (rest := []) (bs' := 0) rfl dA_run_30 cmA_through cvA_through mlA_45 (Or.inl ⟨_, _, _, _, _, rfl, k64, by decide, rfl⟩) rfl rfl (c_thr_4_4_2_0 hC hf hr x (dp := dp + 1) (by omega)) (by decide) (Nat.le_refl _) (by decide) (Nat.le_of_ble_eq_true rfl) ?_
  rintro _ _ s2 ⟨rfl, rfl, hC, hS1, hA1⟩ -
  refine V_one ?_
  have hS := hS.trans hS1
  have hA : ∀ j : Nat, ¬ j = 0 → gi s2 64 j = gi σ 64 j := fun j h => (hA1 j h).trans (hA j h)
  exact V_iret dA_run_33 rfl rfl ⟨rfl, rfl, hC, hS, hA⟩
theorem c_thr_5_0_0_1 {l : Launch} {G : GT} {L : Nat → List Cl} {M σ : Hp} (hC : RC L M σ) {num v : Int32} (hf : fA σ 5 num v) (hr : gi M 76 57 = nI 2) (x : Int32) {dp : Nat} (hd : dp < 31) : MM l G mA_through 0 0 0 [.ref 64, .int 10, .int x, .int (nI dp)] KA σ (PA L M σ (some (.int (x + num)))) := by
  have hR := hC.1
  have hC0 := hC
  have hS : Sm σ σ := Sm.rfl
  have hA : ∀ j : Nat, ¬ j = 0 → gi σ 64 j = gi σ 64 j := fun _ _ => rfl
  have hf0 := hf
  refine MM.of (loc := [(0, .ref 64), (1, .int 10), (2, .int x), (3, .int (nI dp))]) (by decide +kernel) rfl (Nat.le_of_ble_eq_true rfl) ?_
  refine V_iload_n dA_through_0 rfl ?_
  refine V_lsw (tgt := 100) dA_through_1 (by decide) rfl rfl ?_
  refine V_iload_n dA_through_100 rfl ?_
  refine V_aload_n dA_through_101 rfl ?_
  refine V_getE (x := num) dA_through_102 flA_28 k64 rfl hf.2.1 ?_
  refine V_iadd dA_through_105 ?_
  exact V_iret dA_through_106 rfl rfl ⟨rfl, rfl, hC, hS, hA⟩
theorem c_run_5_0_0_1 {l : Launch} {G : GT} {L : Nat → List Cl} {M σ : Hp} (hC : RC L M σ) {num v : Int32} (hf : fA σ 5 num v) (hr : gi M 76 57 = nI 1) (x : Int32) {dp : Nat} (hd : dp < 30) : MM l G mA_run 1 0 0 [.ref 64, .int 0, .int 0, .int x, .int (nI dp)] KA σ (PA L (bodyL 1 10 M) σ (some (.int (x + num)))) := by
  have hR := hC.1
  have hC0 := hC
  have hS : Sm σ σ := Sm.rfl
  have hA : ∀ j : Nat, ¬ j = 0 → gi σ 64 j = gi σ 64 j := fun _ _ => rfl
  have hf0 := hf
  refine MM.of (loc := [(0, .ref 64), (1, .int 0), (2, .int 0), (3, .int x), (4, .int (nI dp))]) (by decide +kernel) rfl (Nat.le_of_ble_eq_true rfl) ?_
  refine V_iload dA_run_0 rfl ?_
  refine V_bipush (v := 40) dA_run_2 (by decide) ?_
  refine V_icmp_lt (tgt := 9) dA_run_4 rfl (fun _ => ?_) (fun h => absurd h (not_not_intro (nI_lt (a := dp) (b := 40) (by omega) (by decide))))
  refine V_iload_n dA_run_9 rfl ?_
  refine V_iload_n dA_run_10 rfl ?_
  refine V_callS (as := [.int 0, .int 0]) (rest := []) (bs' := 0) rfl dA_run_11 cmA_bodyFrom stA_bodyFrom mlA_37 rfl rfl c_bf_0_0 (by decide) (Nat.le_refl _) (by decide) (Nat.le_of_ble_eq_true rfl) ?_
  rintro _ _ _ ⟨rfl, rfl, rfl⟩ -
  refine V_one ?_
  refine V_istore (loc' := [(5, .int 10), (0, .ref 64), (1, .int 0), (2, .int 0), (3, .int x), (4, .int (nI dp))]) dA_run_14 (by decide) rfl ?_
  refine V_aload_n dA_run_16 rfl ?_
  refine V_iload dA_run_17 rfl ?_
  refine V_callV (as := [.int 10]) (rest := []) (bs' := 0) rfl dA_run_19 cmA_begin cvA_begin mlA_41 (Or.inl ⟨_, _, _, _, _, rfl, k64, by decide, rfl⟩) rfl rfl (c_begin hC (by decide) hr 10) (by decide) (Nat.le_refl _) (by decide) (Nat.le_of_ble_eq_true rfl) ?_
  rintro _ _ s1 ⟨rfl, rfl, hC, hS1, hA1⟩ -
  refine V_non ?_
  have hS := hS.trans hS1
  have hA : ∀ j : Nat, ¬ j = 0 → gi s1 64 j = gi σ 64 j := fun j h => (hA1 j h).trans (hA j h)
  have hf := hf0.to hA
  have hr : gi (bodyL 1 10 M) 76 57 = nI 2 := gi_eq
  refine V_aload_n dA_run_22 rfl ?_
  refine V_iload dA_run_23 rfl ?_
  refine V_iload_n dA_run_25 rfl ?_
  refine V_iload dA_run_26 rfl ?_
  refine V_iconst (v := 1) dA_run_28 (by decide) ?_
  refine V_iadd dA_run_29 ?_
  refine V_topI (x' := nI (dp + 1)) (nI_1 _) ?_
  refine V_callV (as := [.int 10, .int x, .int (nI (dp + 1))]) (rest := []) (bs' := 0) rfl dA_run_30 cmA_through cvA_through mlA_45 (Or.inl ⟨_, _, _, _, _, rfl, k64, by decide, rfl⟩) rfl rfl (c_thr_5_0_0_1 hC hf hr x (dp := dp + 1) (by omega)) (by decide) (Nat.le_refl _) (by decide) (Nat.le_of_ble_eq_true rfl) ?_
  rintro _ _ s2 ⟨rfl, rfl, hC, hS1, hA1⟩ -
  refine V_one ?_
  have hS := hS.trans hS1
  have hA : ∀ j : Nat, ¬ j = 0 → gi s2 64 j = gi σ 64 j := fun j h => (hA1 j h).trans (hA j h)
  exact V_iret dA_run_33 rfl rfl ⟨rfl, rfl, hC, hS, hA⟩
theorem c_thr_5_5_0_0 {l : Launch} {G : GT} {L : Nat → List Cl} {M σ : Hp} (hC : RC L M σ) {num v : Int32} (hf : fA σ 5 num v) (hr : gi M 76 57 = nI 1) (x : Int32) {dp : Nat} (hd : dp < 29) : MM l G mA_through 2 0 0 [.ref 64, .int 30, .int x, .int (nI dp)] KA σ (PA L (bodyL 1 10 M) σ (some (.int ((x * 3) + num)))) := by
  have hR := hC.1
  have hC0 := hC
  have hS : Sm σ σ := Sm.rfl
  have hA : ∀ j : Nat, ¬ j = 0 → gi σ 64 j = gi σ 64 j := fun _ _ => rfl
  have hf0 := hf
  refine MM.of (loc := [(0, .ref 64), (1, .int 30), (2, .int x), (3, .int (nI dp))]) (by decide +kernel) rfl (Nat.le_of_ble_eq_true rfl) ?_
  refine V_iload_n dA_through_0 rfl ?_
  refine V_lsw (tgt := 150) dA_through_1 (by decide) rfl rfl ?_
  refine V_aload_n dA_through_150 rfl ?_
  refine V_iconst (v := 0) dA_through_151 (by decide) ?_
  refine V_iconst (v := 0) dA_through_152 (by decide) ?_
  refine V_iload_n dA_through_153 rfl ?_
  refine V_iconst (v := 3) dA_through_154 (by decide) ?_
  refine V_imul dA_through_155 ?_
  refine V_iload_n dA_through_156 rfl ?_
  refine V_callV (as := [.int 0, .int 0, .int (x * 3), .int (nI dp)]) (rest := []) (bs' := 0) rfl dA_through_157 cmA_run cvA_run mlA_33 (Or.inl ⟨_, _, _, _, _, rfl, k64, by decide, rfl⟩) rfl rfl (c_run_5_0_0_1 hC hf hr (x * 3) (dp := dp) (by omega)) (by decide) (Nat.le_refl _) (by decide) (Nat.le_of_ble_eq_true rfl) ?_
  rintro _ _ s157 ⟨rfl, rfl, hC, hS1, hA1⟩ -
  refine V_one ?_
  have hS := hS.trans hS1
  have hA : ∀ j : Nat, ¬ j = 0 → gi s157 64 j = gi σ 64 j := fun j h => (hA1 j h).trans (hA j h)
  have hf := hf0.to hA
  have hr : gi (bodyL 1 10 M) 76 57 = nI 2 := gi_eq
  have hR := hC.1
  exact V_iret dA_through_160 rfl rfl ⟨rfl, rfl, hC, hS, hA⟩
theorem c_run_5_5_0_0 {l : Launch} {G : GT} {L : Nat → List Cl} {M σ : Hp} (hC : RC L M σ) {num v : Int32} (hf : fA σ 5 num v) (hr : gi M 76 57 = nI 0) (x : Int32) {dp : Nat} (hd : dp < 28) : MM l G mA_run 3 0 0 [.ref 64, .int 5, .int 0, .int x, .int (nI dp)] KA σ (PA L (bodyL 1 10 (bodyL 0 30 M)) σ (some (.int ((x * 3) + num)))) := by
  have hR := hC.1
  have hC0 := hC
  have hS : Sm σ σ := Sm.rfl
  have hA : ∀ j : Nat, ¬ j = 0 → gi σ 64 j = gi σ 64 j := fun _ _ => rfl
  have hf0 := hf
  refine MM.of (loc := [(0, .ref 64), (1, .int 5), (2, .int 0), (3, .int x), (4, .int (nI dp))]) (by decide +kernel) rfl (Nat.le_of_ble_eq_true rfl) ?_
  refine V_iload dA_run_0 rfl ?_
  refine V_bipush (v := 40) dA_run_2 (by decide) ?_
  refine V_icmp_lt (tgt := 9) dA_run_4 rfl (fun _ => ?_) (fun h => absurd h (not_not_intro (nI_lt (a := dp) (b := 40) (by omega) (by decide))))
  refine V_iload_n dA_run_9 rfl ?_
  refine V_iload_n dA_run_10 rfl ?_
  refine V_callS (as := [.int 5, .int 0]) (rest := []) (bs' := 0) rfl dA_run_11 cmA_bodyFrom stA_bodyFrom mlA_37 rfl rfl c_bf_5_0 (by decide) (Nat.le_refl _) (by decide) (Nat.le_of_ble_eq_true rfl) ?_
  rintro _ _ _ ⟨rfl, rfl, rfl⟩ -
  refine V_one ?_
  refine V_istore (loc' := [(5, .int 30), (0, .ref 64), (1, .int 5), (2, .int 0), (3, .int x), (4, .int (nI dp))]) dA_run_14 (by decide) rfl ?_
  refine V_aload_n dA_run_16 rfl ?_
  refine V_iload dA_run_17 rfl ?_
  refine V_callV (as := [.int 30]) (rest := []) (bs' := 0) rfl dA_run_19 cmA_begin cvA_begin mlA_41 (Or.inl ⟨_, _, _, _, _, rfl, k64, by decide, rfl⟩) rfl rfl (c_begin hC (by decide) hr 30) (by decide) (Nat.le_refl _) (by decide) (Nat.le_of_ble_eq_true rfl) ?_
  rintro _ _ s1 ⟨rfl, rfl, hC, hS1, hA1⟩ -
  refine V_non ?_
  have hS := hS.trans hS1
  have hA : ∀ j : Nat, ¬ j = 0 → gi s1 64 j = gi σ 64 j := fun j h => (hA1 j h).trans (hA j h)
  have hf := hf0.to hA
  have hr : gi (bodyL 0 30 M) 76 57 = nI 1 := gi_eq
  refine V_aload_n dA_run_22 rfl ?_
  refine V_iload dA_run_23 rfl ?_
  refine V_iload_n dA_run_25 rfl ?_
  refine V_iload dA_run_26 rfl ?_
  refine V_iconst (v := 1) dA_run_28 (by decide) ?_
  refine V_iadd dA_run_29 ?_
  refine V_topI (x' := nI (dp + 1)) (nI_1 _) ?_
  refine V_callV (as := [.int 30, .int x, .int (nI (dp + 1))]) (rest := []) (bs' := 0) rfl dA_run_30 cmA_through cvA_through mlA_45 (Or.inl ⟨_, _, _, _, _, rfl, k64, by decide, rfl⟩) rfl rfl (c_thr_5_5_0_0 hC hf hr x (dp := dp + 1) (by omega)) (by decide) (Nat.le_refl _) (by decide) (Nat.le_of_ble_eq_true rfl) ?_
  rintro _ _ s2 ⟨rfl, rfl, hC, hS1, hA1⟩ -
  refine V_one ?_
  have hS := hS.trans hS1
  have hA : ∀ j : Nat, ¬ j = 0 → gi s2 64 j = gi σ 64 j := fun j h => (hA1 j h).trans (hA j h)
  exact V_iret dA_run_33 rfl rfl ⟨rfl, rfl, hC, hS, hA⟩
theorem c_thr_5_0_0_2 {l : Launch} {G : GT} {L : Nat → List Cl} {M σ : Hp} (hC : RC L M σ) {num v : Int32} (hf : fA σ 5 num v) (hr : gi M 76 57 = nI 3) (x : Int32) {dp : Nat} (hd : dp < 31) : MM l G mA_through 0 0 0 [.ref 64, .int 10, .int x, .int (nI dp)] KA σ (PA L M σ (some (.int (x + num)))) := by
  have hR := hC.1
  have hC0 := hC
  have hS : Sm σ σ := Sm.rfl
  have hA : ∀ j : Nat, ¬ j = 0 → gi σ 64 j = gi σ 64 j := fun _ _ => rfl
  have hf0 := hf
  refine MM.of (loc := [(0, .ref 64), (1, .int 10), (2, .int x), (3, .int (nI dp))]) (by decide +kernel) rfl (Nat.le_of_ble_eq_true rfl) ?_
  refine V_iload_n dA_through_0 rfl ?_
  refine V_lsw (tgt := 100) dA_through_1 (by decide) rfl rfl ?_
  refine V_iload_n dA_through_100 rfl ?_
  refine V_aload_n dA_through_101 rfl ?_
  refine V_getE (x := num) dA_through_102 flA_28 k64 rfl hf.2.1 ?_
  refine V_iadd dA_through_105 ?_
  exact V_iret dA_through_106 rfl rfl ⟨rfl, rfl, hC, hS, hA⟩
theorem c_run_5_0_0_2 {l : Launch} {G : GT} {L : Nat → List Cl} {M σ : Hp} (hC : RC L M σ) {num v : Int32} (hf : fA σ 5 num v) (hr : gi M 76 57 = nI 2) (x : Int32) {dp : Nat} (hd : dp < 30) : MM l G mA_run 1 0 0 [.ref 64, .int 0, .int 0, .int x, .int (nI dp)] KA σ (PA L (bodyL 2 10 M) σ (some (.int (x + num)))) := by
  have hR := hC.1
  have hC0 := hC
  have hS : Sm σ σ := Sm.rfl
  have hA : ∀ j : Nat, ¬ j = 0 → gi σ 64 j = gi σ 64 j := fun _ _ => rfl
  have hf0 := hf
  refine MM.of (loc := [(0, .ref 64), (1, .int 0), (2, .int 0), (3, .int x), (4, .int (nI dp))]) (by decide +kernel) rfl (Nat.le_of_ble_eq_true rfl) ?_
  refine V_iload dA_run_0 rfl ?_
  refine V_bipush (v := 40) dA_run_2 (by decide) ?_
  refine V_icmp_lt (tgt := 9) dA_run_4 rfl (fun _ => ?_) (fun h => absurd h (not_not_intro (nI_lt (a := dp) (b := 40) (by omega) (by decide))))
  refine V_iload_n dA_run_9 rfl ?_
  refine V_iload_n dA_run_10 rfl ?_
  refine V_callS (as := [.int 0, .int 0]) (rest := []) (bs' := 0) rfl dA_run_11 cmA_bodyFrom stA_bodyFrom mlA_37 rfl rfl c_bf_0_0 (by decide) (Nat.le_refl _) (by decide) (Nat.le_of_ble_eq_true rfl) ?_
  rintro _ _ _ ⟨rfl, rfl, rfl⟩ -
  refine V_one ?_
  refine V_istore (loc' := [(5, .int 10), (0, .ref 64), (1, .int 0), (2, .int 0), (3, .int x), (4, .int (nI dp))]) dA_run_14 (by decide) rfl ?_
  refine V_aload_n dA_run_16 rfl ?_
  refine V_iload dA_run_17 rfl ?_
  refine V_callV (as := [.int 10]) (rest := []) (bs' := 0) rfl dA_run_19 cmA_begin cvA_begin mlA_41 (Or.inl ⟨_, _, _, _, _, rfl, k64, by decide, rfl⟩) rfl rfl (c_begin hC (by decide) hr 10) (by decide) (Nat.le_refl _) (by decide) (Nat.le_of_ble_eq_true rfl) ?_
  rintro _ _ s1 ⟨rfl, rfl, hC, hS1, hA1⟩ -
  refine V_non ?_
  have hS := hS.trans hS1
  have hA : ∀ j : Nat, ¬ j = 0 → gi s1 64 j = gi σ 64 j := fun j h => (hA1 j h).trans (hA j h)
  have hf := hf0.to hA
  have hr : gi (bodyL 2 10 M) 76 57 = nI 3 := gi_eq
  refine V_aload_n dA_run_22 rfl ?_
  refine V_iload dA_run_23 rfl ?_
  refine V_iload_n dA_run_25 rfl ?_
  refine V_iload dA_run_26 rfl ?_
  refine V_iconst (v := 1) dA_run_28 (by decide) ?_
  refine V_iadd dA_run_29 ?_
  refine V_topI (x' := nI (dp + 1)) (nI_1 _) ?_
  refine V_callV (as := [.int 10, .int x, .int (nI (dp + 1))]) (rest := []) (bs' := 0) rfl dA_run_30 cmA_through cvA_through mlA_45 (Or.inl ⟨_, _, _, _, _, rfl, k64, by decide, rfl⟩) rfl rfl (c_thr_5_0_0_2 hC hf hr x (dp := dp + 1) (by omega)) (by decide) (Nat.le_refl _) (by decide) (Nat.le_of_ble_eq_true rfl) ?_
  rintro _ _ s2 ⟨rfl, rfl, hC, hS1, hA1⟩ -
  refine V_one ?_
  have hS := hS.trans hS1
  have hA : ∀ j : Nat, ¬ j = 0 → gi s2 64 j = gi σ 64 j := fun j h => (hA1 j h).trans (hA j h)
  exact V_iret dA_run_33 rfl rfl ⟨rfl, rfl, hC, hS, hA⟩
theorem c_thr_5_5_0_1 {l : Launch} {G : GT} {L : Nat → List Cl} {M σ : Hp} (hC : RC L M σ) {num v : Int32} (hf : fA σ 5 num v) (hr : gi M 76 57 = nI 2) (x : Int32) {dp : Nat} (hd : dp < 29) : MM l G mA_through 2 0 0 [.ref 64, .int 30, .int x, .int (nI dp)] KA σ (PA L (bodyL 2 10 M) σ (some (.int ((x * 3) + num)))) := by
  have hR := hC.1
  have hC0 := hC
  have hS : Sm σ σ := Sm.rfl
  have hA : ∀ j : Nat, ¬ j = 0 → gi σ 64 j = gi σ 64 j := fun _ _ => rfl
  have hf0 := hf
  refine MM.of (loc := [(0, .ref 64), (1, .int 30), (2, .int x), (3, .int (nI dp))]) (by decide +kernel) rfl (Nat.le_of_ble_eq_true rfl) ?_
  refine V_iload_n dA_through_0 rfl ?_
  refine V_lsw (tgt := 150) dA_through_1 (by decide) rfl rfl ?_
  refine V_aload_n dA_through_150 rfl ?_
  refine V_iconst (v := 0) dA_through_151 (by decide) ?_
  refine V_iconst (v := 0) dA_through_152 (by decide) ?_
  refine V_iload_n dA_through_153 rfl ?_
  refine V_iconst (v := 3) dA_through_154 (by decide) ?_
  refine V_imul dA_through_155 ?_
  refine V_iload_n dA_through_156 rfl ?_
  refine V_callV (as := [.int 0, .int 0, .int (x * 3), .int (nI dp)]) (rest := []) (bs' := 0) rfl dA_through_157 cmA_run cvA_run mlA_33 (Or.inl ⟨_, _, _, _, _, rfl, k64, by decide, rfl⟩) rfl rfl (c_run_5_0_0_2 hC hf hr (x * 3) (dp := dp) (by omega)) (by decide) (Nat.le_refl _) (by decide) (Nat.le_of_ble_eq_true rfl) ?_
  rintro _ _ s157 ⟨rfl, rfl, hC, hS1, hA1⟩ -
  refine V_one ?_
  have hS := hS.trans hS1
  have hA : ∀ j : Nat, ¬ j = 0 → gi s157 64 j = gi σ 64 j := fun j h => (hA1 j h).trans (hA j h)
  have hf := hf0.to hA
  have hr : gi (bodyL 2 10 M) 76 57 = nI 3 := gi_eq
  have hR := hC.1
  exact V_iret dA_through_160 rfl rfl ⟨rfl, rfl, hC, hS, hA⟩
theorem c_run_5_5_0_1 {l : Launch} {G : GT} {L : Nat → List Cl} {M σ : Hp} (hC : RC L M σ) {num v : Int32} (hf : fA σ 5 num v) (hr : gi M 76 57 = nI 1) (x : Int32) {dp : Nat} (hd : dp < 28) : MM l G mA_run 3 0 0 [.ref 64, .int 5, .int 0, .int x, .int (nI dp)] KA σ (PA L (bodyL 2 10 (bodyL 1 30 M)) σ (some (.int ((x * 3) + num)))) := by
  have hR := hC.1
  have hC0 := hC
  have hS : Sm σ σ := Sm.rfl
  have hA : ∀ j : Nat, ¬ j = 0 → gi σ 64 j = gi σ 64 j := fun _ _ => rfl
  have hf0 := hf
  refine MM.of (loc := [(0, .ref 64), (1, .int 5), (2, .int 0), (3, .int x), (4, .int (nI dp))]) (by decide +kernel) rfl (Nat.le_of_ble_eq_true rfl) ?_
  refine V_iload dA_run_0 rfl ?_
  refine V_bipush (v := 40) dA_run_2 (by decide) ?_
  refine V_icmp_lt (tgt := 9) dA_run_4 rfl (fun _ => ?_) (fun h => absurd h (not_not_intro (nI_lt (a := dp) (b := 40) (by omega) (by decide))))
  refine V_iload_n dA_run_9 rfl ?_
  refine V_iload_n dA_run_10 rfl ?_
  refine V_callS (as := [.int 5, .int 0]) (rest := []) (bs' := 0) rfl dA_run_11 cmA_bodyFrom stA_bodyFrom mlA_37 rfl rfl c_bf_5_0 (by decide) (Nat.le_refl _) (by decide) (Nat.le_of_ble_eq_true rfl) ?_
  rintro _ _ _ ⟨rfl, rfl, rfl⟩ -
  refine V_one ?_
  refine V_istore (loc' := [(5, .int 30), (0, .ref 64), (1, .int 5), (2, .int 0), (3, .int x), (4, .int (nI dp))]) dA_run_14 (by decide) rfl ?_
  refine V_aload_n dA_run_16 rfl ?_
  refine V_iload dA_run_17 rfl ?_
  refine V_callV (as := [.int 30]) (rest := []) (bs' := 0) rfl dA_run_19 cmA_begin cvA_begin mlA_41 (Or.inl ⟨_, _, _, _, _, rfl, k64, by decide, rfl⟩) rfl rfl (c_begin hC (by decide) hr 30) (by decide) (Nat.le_refl _) (by decide) (Nat.le_of_ble_eq_true rfl) ?_
  rintro _ _ s1 ⟨rfl, rfl, hC, hS1, hA1⟩ -
  refine V_non ?_
  have hS := hS.trans hS1
  have hA : ∀ j : Nat, ¬ j = 0 → gi s1 64 j = gi σ 64 j := fun j h => (hA1 j h).trans (hA j h)
  have hf := hf0.to hA
  have hr : gi (bodyL 1 30 M) 76 57 = nI 2 := gi_eq
  refine V_aload_n dA_run_22 rfl ?_
  refine V_iload dA_run_23 rfl ?_
  refine V_iload_n dA_run_25 rfl ?_
  refine V_iload dA_run_26 rfl ?_
  refine V_iconst (v := 1) dA_run_28 (by decide) ?_
  refine V_iadd dA_run_29 ?_
  refine V_topI (x' := nI (dp + 1)) (nI_1 _) ?_
  refine V_callV (as := [.int 30, .int x, .int (nI (dp + 1))]) (rest := []) (bs' := 0) rfl dA_run_30 cmA_through cvA_through mlA_45 (Or.inl ⟨_, _, _, _, _, rfl, k64, by decide, rfl⟩) rfl rfl (c_thr_5_5_0_1 hC hf hr x (dp := dp + 1) (by omega)) (by decide) (Nat.le_refl _) (by decide) (Nat.le_of_ble_eq_true rfl) ?_
  rintro _ _ s2 ⟨rfl, rfl, hC, hS1, hA1⟩ -
  refine V_one ?_
  have hS := hS.trans hS1
  have hA : ∀ j : Nat, ¬ j = 0 → gi s2 64 j = gi σ 64 j := fun j h => (hA1 j h).trans (hA j h)
  exact V_iret dA_run_33 rfl rfl ⟨rfl, rfl, hC, hS, hA⟩
theorem c_thr_5_5_1_0 {l : Launch} {G : GT} {L : Nat → List Cl} {M σ : Hp} (hC : RC L M σ) {num v : Int32} (hf : fA σ 5 num v) (hr : gi M 76 57 = nI 1) (x : Int32) {dp : Nat} (hd : dp < 27) : MM l G mA_through 4 0 0 [.ref 64, .int 11, .int x, .int (nI dp)] KA σ (PA L (bodyL 2 10 (bodyL 1 30 M)) σ (some (.int (((x * 3) + num) - v)))) := by
  have hR := hC.1
  have hC0 := hC
  have hS : Sm σ σ := Sm.rfl
  have hA : ∀ j : Nat, ¬ j = 0 → gi σ 64 j = gi σ 64 j := fun _ _ => rfl
  have hf0 := hf
  refine MM.of (loc := [(0, .ref 64), (1, .int 11), (2, .int x), (3, .int (nI dp))]) (by decide +kernel) rfl (Nat.le_of_ble_eq_true rfl) ?_
  refine V_iload_n dA_through_0 rfl ?_
  refine V_lsw (tgt := 107) dA_through_1 (by decide) rfl rfl ?_
  refine V_aload_n dA_through_107 rfl ?_
  refine V_aload_n dA_through_108 rfl ?_
  refine V_getE (x := 5) dA_through_109 flA_24 k64 rfl hf.1 ?_
  refine V_iconst (v := 0) dA_through_112 (by decide) ?_
  refine V_iload_n dA_through_113 rfl ?_
  refine V_iload_n dA_through_114 rfl ?_
  refine V_callV (as := [.int 5, .int 0, .int x, .int (nI dp)]) (rest := []) (bs' := 0) rfl dA_through_115 cmA_run cvA_run mlA_33 (Or.inl ⟨_, _, _, _, _, rfl, k64, by decide, rfl⟩) rfl rfl (c_run_5_5_0_1 hC hf hr x (dp := dp) (by omega)) (by decide) (Nat.le_refl _) (by decide) (Nat.le_of_ble_eq_true rfl) ?_
  rintro _ _ s115 ⟨rfl, rfl, hC, hS1, hA1⟩ -
  refine V_one ?_
  have hS := hS.trans hS1
  have hA : ∀ j : Nat, ¬ j = 0 → gi s115 64 j = gi σ 64 j := fun j h => (hA1 j h).trans (hA j h)
  have hf := hf0.to hA
  have hr : gi (bodyL 2 10 (bodyL 1 30 M)) 76 57 = nI 3 := gi_eq
  have hR := hC.1
  refine V_aload_n dA_through_118 rfl ?_
  refine V_getE (x := v) dA_through_119 flA_32 k64 rfl hf.2.2 ?_
  refine V_isub dA_through_122 ?_
  exact V_iret dA_through_123 rfl rfl ⟨rfl, rfl, hC, hS, hA⟩
theorem c_run_5_5_1_0 {l : Launch} {G : GT} {L : Nat → List Cl} {M σ : Hp} (hC : RC L M σ) {num v : Int32} (hf : fA σ 5 num v) (hr : gi M 76 57 = nI 0) (x : Int32) {dp : Nat} (hd : dp < 26) : MM l G mA_run 5 0 0 [.ref 64, .int 5, .int 1, .int x, .int (nI dp)] KA σ (PA L (bodyL 2 10 (bodyL 1 30 (bodyL 0 11 M))) σ (some (.int (((x * 3) + num) - v)))) := by
  have hR := hC.1
  have hC0 := hC
  have hS : Sm σ σ := Sm.rfl
  have hA : ∀ j : Nat, ¬ j = 0 → gi σ 64 j = gi σ 64 j := fun _ _ => rfl
  have hf0 := hf
  refine MM.of (loc := [(0, .ref 64), (1, .int 5), (2, .int 1), (3, .int x), (4, .int (nI dp))]) (by decide +kernel) rfl (Nat.le_of_ble_eq_true rfl) ?_
  refine V_iload dA_run_0 rfl ?_
  refine V_bipush (v := 40) dA_run_2 (by decide) ?_
  refine V_icmp_lt (tgt := 9) dA_run_4 rfl (fun _ => ?_) (fun h => absurd h (not_not_intro (nI_lt (a := dp) (b := 40) (by omega) (by decide))))
  refine V_iload_n dA_run_9 rfl ?_
  refine V_iload_n dA_run_10 rfl ?_
  refine V_callS (as := [.int 5, .int 1]) (rest := []) (bs' := 0) rfl dA_run_11 cmA_bodyFrom stA_bodyFrom mlA_37 rfl rfl c_bf_5_1 (by decide) (Nat.le_refl _) (by decide) (Nat.le_of_ble_eq_true rfl) ?_
  rintro _ _ _ ⟨rfl, rfl, rfl⟩ -
  refine V_one ?_
  refine V_istore (loc' := [(5, .int 11), (0, .ref 64), (1, .int 5), (2, .int 1), (3, .int x), (4, .int (nI dp))]) dA_run_14 (by decide) rfl ?_
  refine V_aload_n dA_run_16 rfl ?_
  refine V_iload dA_run_17 rfl ?_
  refine V_callV (as := [.int 11]) (rest := []) (bs' := 0) rfl dA_run_19 cmA_begin cvA_begin mlA_41 (Or.inl ⟨_, _, _, _, _, rfl, k64, by decide, rfl⟩) rfl rfl (c_begin hC (by decide) hr 11) (by decide) (Nat.le_refl _) (by decide) (Nat.le_of_ble_eq_true rfl) ?_
  rintro _ _ s1 ⟨rfl, rfl, hC, hS1, hA1⟩ -
  refine V_non ?_
  have hS := hS.trans hS1
  have hA : ∀ j : Nat, ¬ j = 0 → gi s1 64 j = gi σ 64 j := fun j h => (hA1 j h).trans (hA j h)
  have hf := hf0.to hA
  have hr : gi (bodyL 0 11 M) 76 57 = nI 1 := gi_eq
  refine V_aload_n dA_run_22 rfl ?_
  refine V_iload dA_run_23 rfl ?_
  refine V_iload_n dA_run_25 rfl ?_
  refine V_iload dA_run_26 rfl ?_
  refine V_iconst (v := 1) dA_run_28 (by decide) ?_
  refine V_iadd dA_run_29 ?_
  refine V_topI (x' := nI (dp + 1)) (nI_1 _) ?_
  refine V_callV (as := [.int 11, .int x, .int (nI (dp + 1))]) (rest := []) (bs' := 0) rfl dA_run_30 cmA_through cvA_through mlA_45 (Or.inl ⟨_, _, _, _, _, rfl, k64, by decide, rfl⟩) rfl rfl (c_thr_5_5_1_0 hC hf hr x (dp := dp + 1) (by omega)) (by decide) (Nat.le_refl _) (by decide) (Nat.le_of_ble_eq_true rfl) ?_
  rintro _ _ s2 ⟨rfl, rfl, hC, hS1, hA1⟩ -
  refine V_one ?_
  have hS := hS.trans hS1
  have hA : ∀ j : Nat, ¬ j = 0 → gi s2 64 j = gi σ 64 j := fun j h => (hA1 j h).trans (hA j h)
  exact V_iret dA_run_33 rfl rfl ⟨rfl, rfl, hC, hS, hA⟩
theorem c_thr_5_0_0_4 {l : Launch} {G : GT} {L : Nat → List Cl} {M σ : Hp} (hC : RC L M σ) {num v : Int32} (hf : fA σ 5 num v) (hr : gi M 76 57 = nI 5) (x : Int32) {dp : Nat} (hd : dp < 31) : MM l G mA_through 0 0 0 [.ref 64, .int 10, .int x, .int (nI dp)] KA σ (PA L M σ (some (.int (x + num)))) := by
  have hR := hC.1
  have hC0 := hC
  have hS : Sm σ σ := Sm.rfl
  have hA : ∀ j : Nat, ¬ j = 0 → gi σ 64 j = gi σ 64 j := fun _ _ => rfl
  have hf0 := hf
  refine MM.of (loc := [(0, .ref 64), (1, .int 10), (2, .int x), (3, .int (nI dp))]) (by decide +kernel) rfl (Nat.le_of_ble_eq_true rfl) ?_
  refine V_iload_n dA_through_0 rfl ?_
  refine V_lsw (tgt := 100) dA_through_1 (by decide) rfl rfl ?_
  refine V_iload_n dA_through_100 rfl ?_
  refine V_aload_n dA_through_101 rfl ?_
  refine V_getE (x := num) dA_through_102 flA_28 k64 rfl hf.2.1 ?_
  refine V_iadd dA_through_105 ?_
  exact V_iret dA_through_106 rfl rfl ⟨rfl, rfl, hC, hS, hA⟩
theorem c_run_5_0_0_4 {l : Launch} {G : GT} {L : Nat → List Cl} {M σ : Hp} (hC : RC L M σ) {num v : Int32} (hf : fA σ 5 num v) (hr : gi M 76 57 = nI 4) (x : Int32) {dp : Nat} (hd : dp < 30) : MM l G mA_run 1 0 0 [.ref 64, .int 0, .int 0, .int x, .int (nI dp)] KA σ (PA L (bodyL 4 10 M) σ (some (.int (x + num)))) := by
  have hR := hC.1
  have hC0 := hC
  have hS : Sm σ σ := Sm.rfl
  have hA : ∀ j : Nat, ¬ j = 0 → gi σ 64 j = gi σ 64 j := fun _ _ => rfl
  have hf0 := hf
  refine MM.of (loc := [(0, .ref 64), (1, .int 0), (2, .int 0), (3, .int x), (4, .int (nI dp))]) (by decide +kernel) rfl (Nat.le_of_ble_eq_true rfl) ?_
  refine V_iload dA_run_0 rfl ?_
  refine V_bipush (v := 40) dA_run_2 (by decide) ?_
  refine V_icmp_lt (tgt := 9) dA_run_4 rfl (fun _ => ?_) (fun h => absurd h (not_not_intro (nI_lt (a := dp) (b := 40) (by omega) (by decide))))
  refine V_iload_n dA_run_9 rfl ?_
  refine V_iload_n dA_run_10 rfl ?_
  refine V_callS (as := [.int 0, .int 0]) (rest := []) (bs' := 0) rfl dA_run_11 cmA_bodyFrom stA_bodyFrom mlA_37 rfl rfl c_bf_0_0 (by decide) (Nat.le_refl _) (by decide) (Nat.le_of_ble_eq_true rfl) ?_
  rintro _ _ _ ⟨rfl, rfl, rfl⟩ -
  refine V_one ?_
  refine V_istore (loc' := [(5, .int 10), (0, .ref 64), (1, .int 0), (2, .int 0), (3, .int x), (4, .int (nI dp))]) dA_run_14 (by decide) rfl ?_
  refine V_aload_n dA_run_16 rfl ?_
  refine V_iload dA_run_17 rfl ?_
  refine V_callV (as := [.int 10]) (rest := []) (bs' := 0) rfl dA_run_19 cmA_begin cvA_begin mlA_41 (Or.inl ⟨_, _, _, _, _, rfl, k64, by decide, rfl⟩) rfl rfl (c_begin hC (by decide) hr 10) (by decide) (Nat.le_refl _) (by decide) (Nat.le_of_ble_eq_true rfl) ?_
  rintro _ _ s1 ⟨rfl, rfl, hC, hS1, hA1⟩ -
  refine V_non ?_
  have hS := hS.trans hS1
  have hA : ∀ j : Nat, ¬ j = 0 → gi s1 64 j = gi σ 64 j := fun j h => (hA1 j h).trans (hA j h)
  have hf := hf0.to hA
  have hr : gi (bodyL 4 10 M) 76 57 = nI 5 := gi_eq
  refine V_aload_n dA_run_22 rfl ?_
  refine V_iload dA_run_23 rfl ?_
  refine V_iload_n dA_run_25 rfl ?_
  refine V_iload dA_run_26 rfl ?_
  refine V_iconst (v := 1) dA_run_28 (by decide) ?_
  refine V_iadd dA_run_29 ?_
  refine V_topI (x' := nI (dp + 1)) (nI_1 _) ?_
  refine V_callV (as := [.int 10, .int x, .int (nI (dp + 1))]) (rest := []) (bs' := 0) rfl dA_run_30 cmA_through cvA_through mlA_45 (Or.inl ⟨_, _, _, _, _, rfl, k64, by decide, rfl⟩) rfl rfl (c_thr_5_0_0_4 hC hf hr x (dp := dp + 1) (by omega)) (by decide) (Nat.le_refl _) (by decide) (Nat.le_of_ble_eq_true rfl) ?_
  rintro _ _ s2 ⟨rfl, rfl, hC, hS1, hA1⟩ -
  refine V_one ?_
  have hS := hS.trans hS1
  have hA : ∀ j : Nat, ¬ j = 0 → gi s2 64 j = gi σ 64 j := fun j h => (hA1 j h).trans (hA j h)
  exact V_iret dA_run_33 rfl rfl ⟨rfl, rfl, hC, hS, hA⟩
theorem c_thr_5_5_0_3 {l : Launch} {G : GT} {L : Nat → List Cl} {M σ : Hp} (hC : RC L M σ) {num v : Int32} (hf : fA σ 5 num v) (hr : gi M 76 57 = nI 4) (x : Int32) {dp : Nat} (hd : dp < 29) : MM l G mA_through 2 0 0 [.ref 64, .int 30, .int x, .int (nI dp)] KA σ (PA L (bodyL 4 10 M) σ (some (.int ((x * 3) + num)))) := by
  have hR := hC.1
  have hC0 := hC
  have hS : Sm σ σ := Sm.rfl
  have hA : ∀ j : Nat, ¬ j = 0 → gi σ 64 j = gi σ 64 j := fun _ _ => rfl
  have hf0 := hf
  refine MM.of (loc := [(0, .ref 64), (1, .int 30), (2, .int x), (3, .int (nI dp))]) (by decide +kernel) rfl (Nat.le_of_ble_eq_true rfl) ?_
  refine V_iload_n dA_through_0 rfl ?_
  refine V_lsw (tgt := 150) dA_through_1 (by decide) rfl rfl ?_
  refine V_aload_n dA_through_150 rfl ?_
  refine V_iconst (v := 0) dA_through_151 (by decide) ?_
  refine V_iconst (v := 0) dA_through_152 (by decide) ?_
  refine V_iload_n dA_through_153 rfl ?_
  refine V_iconst (v := 3) dA_through_154 (by decide) ?_
  refine V_imul dA_through_155 ?_
  refine V_iload_n dA_through_156 rfl ?_
  refine V_callV (as := [.int 0, .int 0, .int (x * 3), .int (nI dp)]) (rest := []) (bs' := 0) rfl dA_through_157 cmA_run cvA_run mlA_33 (Or.inl ⟨_, _, _, _, _, rfl, k64, by decide, rfl⟩) rfl rfl (c_run_5_0_0_4 hC hf hr (x * 3) (dp := dp) (by omega)) (by decide) (Nat.le_refl _) (by decide) (Nat.le_of_ble_eq_true rfl) ?_
  rintro _ _ s157 ⟨rfl, rfl, hC, hS1, hA1⟩ -
  refine V_one ?_
  have hS := hS.trans hS1
  have hA : ∀ j : Nat, ¬ j = 0 → gi s157 64 j = gi σ 64 j := fun j h => (hA1 j h).trans (hA j h)
  have hf := hf0.to hA
  have hr : gi (bodyL 4 10 M) 76 57 = nI 5 := gi_eq
  have hR := hC.1
  exact V_iret dA_through_160 rfl rfl ⟨rfl, rfl, hC, hS, hA⟩
theorem c_run_5_5_0_3 {l : Launch} {G : GT} {L : Nat → List Cl} {M σ : Hp} (hC : RC L M σ) {num v : Int32} (hf : fA σ 5 num v) (hr : gi M 76 57 = nI 3) (x : Int32) {dp : Nat} (hd : dp < 28) : MM l G mA_run 3 0 0 [.ref 64, .int 5, .int 0, .int x, .int (nI dp)] KA σ (PA L (bodyL 4 10 (bodyL 3 30 M)) σ (some (.int ((x * 3) + num)))) := by
  have hR := hC.1
  have hC0 := hC
  have hS : Sm σ σ := Sm.rfl
  have hA : ∀ j : Nat, ¬ j = 0 → gi σ 64 j = gi σ 64 j := fun _ _ => rfl
  have hf0 := hf
  refine MM.of (loc := [(0, .ref 64), (1, .int 5), (2, .int 0), (3, .int x), (4, .int (nI dp))]) (by decide +kernel) rfl (Nat.le_of_ble_eq_true rfl) ?_
  refine V_iload dA_run_0 rfl ?_
  refine V_bipush (v := 40) dA_run_2 (by decide) ?_
  refine V_icmp_lt (tgt := 9) dA_run_4 rfl (fun _ => ?_) (fun h => absurd h (not_not_intro (nI_lt (a := dp) (b := 40) (by omega) (by decide))))
  refine V_iload_n dA_run_9 rfl ?_
  refine V_iload_n dA_run_10 rfl ?_
  refine V_callS (as := [.int 5, .int 0]) (rest := []) (bs' := 0) rfl dA_run_11 cmA_bodyFrom stA_bodyFrom mlA_37 rfl rfl c_bf_5_0 (by decide) (Nat.le_refl _) (by decide) (Nat.le_of_ble_eq_true rfl) ?_
  rintro _ _ _ ⟨rfl, rfl, rfl⟩ -
  refine V_one ?_
  refine V_istore (loc' := [(5, .int 30), (0, .ref 64), (1, .int 5), (2, .int 0), (3, .int x), (4, .int (nI dp))]) dA_run_14 (by decide) rfl ?_
  refine V_aload_n dA_run_16 rfl ?_
  refine V_iload dA_run_17 rfl ?_
  refine V_callV (as := [.int 30]) (rest := []) (bs' := 0) rfl dA_run_19 cmA_begin cvA_begin mlA_41 (Or.inl ⟨_, _, _, _, _, rfl, k64, by decide, rfl⟩) rfl rfl (c_begin hC (by decide) hr 30) (by decide) (Nat.le_refl _) (by decide) (Nat.le_of_ble_eq_true rfl) ?_
  rintro _ _ s1 ⟨rfl, rfl, hC, hS1, hA1⟩ -
  refine V_non ?_
  have hS := hS.trans hS1
  have hA : ∀ j : Nat, ¬ j = 0 → gi s1 64 j = gi σ 64 j := fun j h => (hA1 j h).trans (hA j h)
  have hf := hf0.to hA
  have hr : gi (bodyL 3 30 M) 76 57 = nI 4 := gi_eq
  refine V_aload_n dA_run_22 rfl ?_
  refine V_iload dA_run_23 rfl ?_
  refine V_iload_n dA_run_25 rfl ?_
  refine V_iload dA_run_26 rfl ?_
  refine V_iconst (v := 1) dA_run_28 (by decide) ?_
  refine V_iadd dA_run_29 ?_
  refine V_topI (x' := nI (dp + 1)) (nI_1 _) ?_
  refine V_callV (as := [.int 30, .int x, .int (nI (dp + 1))]) (rest := []) (bs' := 0) rfl dA_run_30 cmA_through cvA_through mlA_45 (Or.inl ⟨_, _, _, _, _, rfl, k64, by decide, rfl⟩) rfl rfl (c_thr_5_5_0_3 hC hf hr x (dp := dp + 1) (by omega)) (by decide) (Nat.le_refl _) (by decide) (Nat.le_of_ble_eq_true rfl) ?_
  rintro _ _ s2 ⟨rfl, rfl, hC, hS1, hA1⟩ -
  refine V_one ?_
  have hS := hS.trans hS1
  have hA : ∀ j : Nat, ¬ j = 0 → gi s2 64 j = gi σ 64 j := fun j h => (hA1 j h).trans (hA j h)
  exact V_iret dA_run_33 rfl rfl ⟨rfl, rfl, hC, hS, hA⟩
theorem c_thr_5_5_1_2 {l : Launch} {G : GT} {L : Nat → List Cl} {M σ : Hp} (hC : RC L M σ) {num v : Int32} (hf : fA σ 5 num v) (hr : gi M 76 57 = nI 3) (x : Int32) {dp : Nat} (hd : dp < 27) : MM l G mA_through 4 0 0 [.ref 64, .int 11, .int x, .int (nI dp)] KA σ (PA L (bodyL 4 10 (bodyL 3 30 M)) σ (some (.int (((x * 3) + num) - v)))) := by
  have hR := hC.1
  have hC0 := hC
  have hS : Sm σ σ := Sm.rfl
  have hA : ∀ j : Nat, ¬ j = 0 → gi σ 64 j = gi σ 64 j := fun _ _ => rfl
  have hf0 := hf
  refine MM.of (loc := [(0, .ref 64), (1, .int 11), (2, .int x), (3, .int (nI dp))]) (by decide +kernel) rfl (Nat.le_of_ble_eq_true rfl) ?_
  refine V_iload_n dA_through_0 rfl ?_
  refine V_lsw (tgt := 107) dA_through_1 (by decide) rfl rfl ?_
  refine V_aload_n dA_through_107 rfl ?_
  refine V_aload_n dA_through_108 rfl ?_
  refine V_getE (x := 5) dA_through_109 flA_24 k64 rfl hf.1 ?_
  refine V_iconst (v := 0) dA_through_112 (by decide) ?_
  refine V_iload_n dA_through_113 rfl ?_
  refine V_iload_n dA_through_114 rfl ?_
  refine V_callV (as := [.int 5, .int 0, .int x, .int (nI dp)]) (rest := []) (bs' := 0) rfl dA_through_115 cmA_run cvA_run mlA_33 (Or.inl ⟨_, _, _, _, _, rfl, k64, by decide, rfl⟩) rfl rfl (c_run_5_5_0_3 hC hf hr x (dp := dp) (by omega)) (by decide) (Nat.le_refl _) (by decide) (Nat.le_of_ble_eq_true rfl) ?_
  rintro _ _ s115 ⟨rfl, rfl, hC, hS1, hA1⟩ -
  refine V_one ?_
  have hS := hS.trans hS1
  have hA : ∀ j : Nat, ¬ j = 0 → gi s115 64 j = gi σ 64 j := fun j h => (hA1 j h).trans (hA j h)
  have hf := hf0.to hA
  have hr : gi (bodyL 4 10 (bodyL 3 30 M)) 76 57 = nI 5 := gi_eq
  have hR := hC.1
  refine V_aload_n dA_through_118 rfl ?_
  refine V_getE (x := v) dA_through_119 flA_32 k64 rfl hf.2.2 ?_
  refine V_isub dA_through_122 ?_
  exact V_iret dA_through_123 rfl rfl ⟨rfl, rfl, hC, hS, hA⟩
theorem c_run_5_5_1_2 {l : Launch} {G : GT} {L : Nat → List Cl} {M σ : Hp} (hC : RC L M σ) {num v : Int32} (hf : fA σ 5 num v) (hr : gi M 76 57 = nI 2) (x : Int32) {dp : Nat} (hd : dp < 26) : MM l G mA_run 5 0 0 [.ref 64, .int 5, .int 1, .int x, .int (nI dp)] KA σ (PA L (bodyL 4 10 (bodyL 3 30 (bodyL 2 11 M))) σ (some (.int (((x * 3) + num) - v)))) := by
  have hR := hC.1
  have hC0 := hC
  have hS : Sm σ σ := Sm.rfl
  have hA : ∀ j : Nat, ¬ j = 0 → gi σ 64 j = gi σ 64 j := fun _ _ => rfl
  have hf0 := hf
  refine MM.of (loc := [(0, .ref 64), (1, .int 5), (2, .int 1), (3, .int x), (4, .int (nI dp))]) (by decide +kernel) rfl (Nat.le_of_ble_eq_true rfl) ?_
  refine V_iload dA_run_0 rfl ?_
  refine V_bipush (v := 40) dA_run_2 (by decide) ?_
  refine V_icmp_lt (tgt := 9) dA_run_4 rfl (fun _ => ?_) (fun h => absurd h (not_not_intro (nI_lt (a := dp) (b := 40) (by omega) (by decide))))
  refine V_iload_n dA_run_9 rfl ?_
  refine V_iload_n dA_run_10 rfl ?_
  refine V_callS (as := [.int 5, .int 1]) (rest := []) (bs' := 0) rfl dA_run_11 cmA_bodyFrom stA_bodyFrom mlA_37 rfl rfl c_bf_5_1 (by decide) (Nat.le_refl _) (by decide) (Nat.le_of_ble_eq_true rfl) ?_
  rintro _ _ _ ⟨rfl, rfl, rfl⟩ -
  refine V_one ?_
  refine V_istore (loc' := [(5, .int 11), (0, .ref 64), (1, .int 5), (2, .int 1), (3, .int x), (4, .int (nI dp))]) dA_run_14 (by decide) rfl ?_
  refine V_aload_n dA_run_16 rfl ?_
  refine V_iload dA_run_17 rfl ?_
  refine V_callV (as := [.int 11]) (rest := []) (bs' := 0) rfl dA_run_19 cmA_begin cvA_begin mlA_41 (Or.inl ⟨_, _, _, _, _, rfl, k64, by decide, rfl⟩) rfl rfl (c_begin hC (by decide) hr 11) (by decide) (Nat.le_refl _) (by decide) (Nat.le_of_ble_eq_true rfl) ?_
  rintro _ _ s1 ⟨rfl, rfl, hC, hS1, hA1⟩ -
  refine V_non ?_
  have hS := hS.trans hS1
  have hA : ∀ j : Nat, ¬ j = 0 → gi s1 64 j = gi σ 64 j := fun j h => (hA1 j h).trans (hA j h)
  have hf := hf0.to hA
  have hr : gi (bodyL 2 11 M) 76 57 = nI 3 := gi_eq
  refine V_aload_n dA_run_22 rfl ?_
  refine V_iload dA_run_23 rfl ?_
  refine V_iload_n dA_run_25 rfl ?_
  refine V_iload dA_run_26 rfl ?_
  refine V_iconst (v := 1) dA_run_28 (by decide) ?_
  refine V_iadd dA_run_29 ?_
  refine V_topI (x' := nI (dp + 1)) (nI_1 _) ?_
  refine V_callV (as := [.int 11, .int x, .int (nI (dp + 1))]) (rest := []) (bs' := 0) rfl dA_run_30 cmA_through cvA_through mlA_45 (Or.inl ⟨_, _, _, _, _, rfl, k64, by decide, rfl⟩) rfl rfl (c_thr_5_5_1_2 hC hf hr x (dp := dp + 1) (by omega)) (by decide) (Nat.le_refl _) (by decide) (Nat.le_of_ble_eq_true rfl) ?_
  rintro _ _ s2 ⟨rfl, rfl, hC, hS1, hA1⟩ -
  refine V_one ?_
  have hS := hS.trans hS1
  have hA : ∀ j : Nat, ¬ j = 0 → gi s2 64 j = gi σ 64 j := fun j h => (hA1 j h).trans (hA j h)
  exact V_iret dA_run_33 rfl rfl ⟨rfl, rfl, hC, hS, hA⟩
theorem c_thr_5_2_2_1 {l : Launch} {G : GT} {L : Nat → List Cl} {M σ : Hp} (hC : RC L M σ) {num v : Int32} (hf : fA σ 5 num v) (hr : gi M 76 57 = nI 2) (x : Int32) {dp : Nat} (hd : dp < 25) : MM l G mA_through 6 0 0 [.ref 64, .int 12, .int x, .int (nI dp)] KA σ (PA L (bodyL 4 10 (bodyL 3 30 (bodyL 2 11 M))) σ (some (.int ((((x * 3) + num) - v) * 2)))) := by
  have hR := hC.1
  have hC0 := hC
  have hS : Sm σ σ := Sm.rfl
  have hA : ∀ j : Nat, ¬ j = 0 → gi σ 64 j = gi σ 64 j := fun _ _ => rfl
  have hf0 := hf
  refine MM.of (loc := [(0, .ref 64), (1, .int 12), (2, .int x), (3, .int (nI dp))]) (by decide +kernel) rfl (Nat.le_of_ble_eq_true rfl) ?_
  refine V_iload_n dA_through_0 rfl ?_
  refine V_lsw (tgt := 124) dA_through_1 (by decide) rfl rfl ?_
  refine V_aload_n dA_through_124 rfl ?_
  refine V_aload_n dA_through_125 rfl ?_
  refine V_getE (x := 5) dA_through_126 flA_24 k64 rfl hf.1 ?_
  refine V_iconst (v := 1) dA_through_129 (by decide) ?_
  refine V_iload_n dA_through_130 rfl ?_
  refine V_iload_n dA_through_131 rfl ?_
  refine V_callV (as := [.int 5, .int 1, .int x, .int (nI dp)]) (rest := []) (bs' := 0) rfl dA_through_132 cmA_run cvA_run mlA_33 (Or.inl ⟨_, _, _, _, _, rfl, k64, by decide, rfl⟩) rfl rfl (c_run_5_5_1_2 hC hf hr x (dp := dp) (by omega)) (by decide) (Nat.le_refl _) (by decide) (Nat.le_of_ble_eq_true rfl) ?_
  rintro _ _ s132 ⟨rfl, rfl, hC, hS1, hA1⟩ -
  refine V_one ?_
  have hS := hS.trans hS1
  have hA : ∀ j : Nat, ¬ j = 0 → gi s132 64 j = gi σ 64 j := fun j h => (hA1 j h).trans (hA j h)
  have hf := hf0.to hA
  have hr : gi (bodyL 4 10 (bodyL 3 30 (bodyL 2 11 M))) 76 57 = nI 5 := gi_eq
  have hR := hC.1
  refine V_iconst (v := 2) dA_through_135 (by decide) ?_
  refine V_imul dA_through_136 ?_
  exact V_iret dA_through_137 rfl rfl ⟨rfl, rfl, hC, hS, hA⟩
theorem c_run_5_2_2_1 {l : Launch} {G : GT} {L : Nat → List Cl} {M σ : Hp} (hC : RC L M σ) {num v : Int32} (hf : fA σ 5 num v) (hr : gi M 76 57 = nI 1) (x : Int32) {dp : Nat} (hd : dp < 24) : MM l G mA_run 7 0 0 [.ref 64, .int 2, .int 2, .int x, .int (nI dp)] KA σ (PA L (bodyL 4 10 (bodyL 3 30 (bodyL 2 11 (bodyL 1 12 M)))) σ (some (.int ((((x * 3) + num) - v) * 2)))) := by
  have hR := hC.1
  have hC0 := hC
  have hS : Sm σ σ := Sm.rfl
  have hA : ∀ j : Nat, ¬ j = 0 → gi σ 64 j = gi σ 64 j := fun _ _ => rfl
  have hf0 := hf
  refine MM.of (loc := [(0, .ref 64), (1, .int 2), (2, .int 2), (3, .int x), (4, .int (nI dp))]) (by decide +kernel) rfl (Nat.le_of_ble_eq_true rfl) ?_
  refine V_iload dA_run_0 rfl ?_
  refine V_bipush (v := 40) dA_run_2 (by decide) ?_
  refine V_icmp_lt (tgt := 9) dA_run_4 rfl (fun _ => ?_) (fun h => absurd h (not_not_intro (nI_lt (a := dp) (b := 40) (by omega) (by decide))))
  refine V_iload_n dA_run_9 rfl ?_
  refine V_iload_n dA_run_10 rfl ?_
  refine V_callS (as := [.int 2, .int 2]) (rest := []) (bs' := 0) rfl dA_run_11 cmA_bodyFrom stA_bodyFrom mlA_37 rfl rfl c_bf_2_2 (by decide) (Nat.le_refl _) (by decide) (Nat.le_of_ble_eq_true rfl) ?_
  rintro _ _ _ ⟨rfl, rfl, rfl⟩ -
  refine V_one ?_
  refine V_istore (loc' := [(5, .int 12), (0, .ref 64), (1, .int 2), (2, .int 2), (3, .int x), (4, .int (nI dp))]) dA_run_14 (by decide) rfl ?_
  refine V_aload_n dA_run_16 rfl ?_
  refine V_iload dA_run_17 rfl ?_
  refine V_callV (as := [.int 12]) (rest := []) (bs' := 0) rfl dA_run_19 cmA_begin cvA_begin mlA_41 (Or.inl ⟨_, _, _, _, _, rfl, k64, by decide, rfl⟩) rfl rfl (c_begin hC (by decide) hr 12) (by decide) (Nat.le_refl _) (by decide) (Nat.le_of_ble_eq_true rfl) ?_
  rintro _ _ s1 ⟨rfl, rfl, hC, hS1, hA1⟩ -
  refine V_non ?_
  have hS := hS.trans hS1
  have hA : ∀ j : Nat, ¬ j = 0 → gi s1 64 j = gi σ 64 j := fun j h => (hA1 j h).trans (hA j h)
  have hf := hf0.to hA
  have hr : gi (bodyL 1 12 M) 76 57 = nI 2 := gi_eq
  refine V_aload_n dA_run_22 rfl ?_
  refine V_iload dA_run_23 rfl ?_
  refine V_iload_n dA_run_25 rfl ?_
  refine V_iload dA_run_26 rfl ?_
  refine V_iconst (v := 1) dA_run_28 (by decide) ?_
  refine V_iadd dA_run_29 ?_
  refine V_topI (x' := nI (dp + 1)) (nI_1 _) ?_
  refine V_callV (as := [.int 12, .int x, .int (nI (dp + 1))]) (rest := []) (bs' := 0) rfl dA_run_30 cmA_through cvA_through mlA_45 (Or.inl ⟨_, _, _, _, _, rfl, k64, by decide, rfl⟩) rfl rfl (c_thr_5_2_2_1 hC hf hr x (dp := dp + 1) (by omega)) (by decide) (Nat.le_refl _) (by decide) (Nat.le_of_ble_eq_true rfl) ?_
  rintro _ _ s2 ⟨rfl, rfl, hC, hS1, hA1⟩ -
  refine V_one ?_
  have hS := hS.trans hS1
  have hA : ∀ j : Nat, ¬ j = 0 → gi s2 64 j = gi σ 64 j := fun j h => (hA1 j h).trans (hA j h)
  exact V_iret dA_run_33 rfl rfl ⟨rfl, rfl, hC, hS, hA⟩
theorem c_thr_5_5_2_0 {l : Launch} {G : GT} {L : Nat → List Cl} {M σ : Hp} (hC : RC L M σ) {num v : Int32} (hf : fA σ 5 num v) (hr : gi M 76 57 = nI 1) (x : Int32) {dp : Nat} (hd : dp < 23) : MM l G mA_through 8 0 0 [.ref 64, .int 60, .int x, .int (nI dp)] KA σ (PA L (bodyL 4 10 (bodyL 3 30 (bodyL 2 11 (bodyL 1 12 M)))) σ (some (.int (((((x - num) * 3) + num) - v) * 2)))) := by
  have hR := hC.1
  have hC0 := hC
  have hS : Sm σ σ := Sm.rfl
  have hA : ∀ j : Nat, ¬ j = 0 → gi σ 64 j = gi σ 64 j := fun _ _ => rfl
  have hf0 := hf
  refine MM.of (loc := [(0, .ref 64), (1, .int 60), (2, .int x), (3, .int (nI dp))]) (by decide +kernel) rfl (Nat.le_of_ble_eq_true rfl) ?_
  refine V_iload_n dA_through_0 rfl ?_
  refine V_lsw (tgt := 203) dA_through_1 (by decide) rfl rfl ?_
  refine V_aload_n dA_through_203 rfl ?_
  refine V_iconst (v := 2) dA_through_204 (by decide) ?_
  refine V_iconst (v := 2) dA_through_205 (by decide) ?_
  refine V_iload_n dA_through_206 rfl ?_
  refine V_aload_n dA_through_207 rfl ?_
  refine V_getE (x := num) dA_through_208 flA_28 k64 rfl hf.2.1 ?_
  refine V_isub dA_through_211 ?_
  refine V_iload_n dA_through_212 rfl ?_
  refine V_callV (as := [.int 2, .int 2, .int (x - num), .int (nI dp)]) (rest := []) (bs' := 0) rfl dA_through_213 cmA_run cvA_run mlA_33 (Or.inl ⟨_, _, _, _, _, rfl, k64, by decide, rfl⟩) rfl rfl (c_run_5_2_2_1 hC hf hr (x - num) (dp := dp) (by omega)) (by decide) (Nat.le_refl _) (by decide) (Nat.le_of_ble_eq_true rfl) ?_
  rintro _ _ s213 ⟨rfl, rfl, hC, hS1, hA1⟩ -
  refine V_one ?_
  have hS := hS.trans hS1
  have hA : ∀ j : Nat, ¬ j = 0 → gi s213 64 j = gi σ 64 j := fun j h => (hA1 j h).trans (hA j h)
  have hf := hf0.to hA
  have hr : gi (bodyL 4 10 (bodyL 3 30 (bodyL 2 11 (bodyL 1 12 M)))) 76 57 = nI 5 := gi_eq
  have hR := hC.1
  exact V_iret dA_through_216 rfl rfl ⟨rfl, rfl, hC, hS, hA⟩
theorem c_run_5_5_2_0 {l : Launch} {G : GT} {L : Nat → List Cl} {M σ : Hp} (hC : RC L M σ) {num v : Int32} (hf : fA σ 5 num v) (hr : gi M 76 57 = nI 0) (x : Int32) {dp : Nat} (hd : dp < 22) : MM l G mA_run 9 0 0 [.ref 64, .int 5, .int 2, .int x, .int (nI dp)] KA σ (PA L (bodyL 4 10 (bodyL 3 30 (bodyL 2 11 (bodyL 1 12 (bodyL 0 60 M))))) σ (some (.int (((((x - num) * 3) + num) - v) * 2)))) := by
  have hR := hC.1
  have hC0 := hC
  have hS : Sm σ σ := Sm.rfl
  have hA : ∀ j : Nat, ¬ j = 0 → gi σ 64 j = gi σ 64 j := fun _ _ => rfl
  have hf0 := hf
  refine MM.of (loc := [(0, .ref 64), (1, .int 5), (2, .int 2), (3, .int x), (4, .int (nI dp))]) (by decide +kernel) rfl (Nat.le_of_ble_eq_true rfl) ?_
  refine V_iload dA_run_0 rfl ?_
  refine V_bipush (v := 40) dA_run_2 (by decide) ?_
  refine V_icmp_lt (tgt := 9) dA_run_4 rfl (fun _ => ?_) (fun h => absurd h (not_not_intro (nI_lt (a := dp) (b := 40) (by omega) (by decide))))
  refine V_iload_n dA_run_9 rfl ?_
  refine V_iload_n dA_run_10 rfl ?_
  refine V_callS (as := [.int 5, .int 2]) (rest := []) (bs' := 0) rfl dA_run_11 cmA_bodyFrom stA_bodyFrom mlA_37 rfl rfl c_bf_5_2 (by decide) (Nat.le_refl _) (by decide) (Nat.le_of_ble_eq_true rfl) ?_
  rintro _ _ _ ⟨rfl, rfl, rfl⟩ -
  refine V_one ?_
  refine V_istore (loc' := [(5, .int 60), (0, .ref 64), (1, .int 5), (2, .int 2), (3, .int x), (4, .int (nI dp))]) dA_run_14 (by decide) rfl ?_
  refine V_aload_n dA_run_16 rfl ?_
  refine V_iload dA_run_17 rfl ?_
  refine V_callV (as := [.int 60]) (rest := []) (bs' := 0) rfl dA_run_19 cmA_begin cvA_begin mlA_41 (Or.inl ⟨_, _, _, _, _, rfl, k64, by decide, rfl⟩) rfl rfl (c_begin hC (by decide) hr 60) (by decide) (Nat.le_refl _) (by decide) (Nat.le_of_ble_eq_true rfl) ?_
  rintro _ _ s1 ⟨rfl, rfl, hC, hS1, hA1⟩ -
  refine V_non ?_
  have hS := hS.trans hS1
  have hA : ∀ j : Nat, ¬ j = 0 → gi s1 64 j = gi σ 64 j := fun j h => (hA1 j h).trans (hA j h)
  have hf := hf0.to hA
  have hr : gi (bodyL 0 60 M) 76 57 = nI 1 := gi_eq
  refine V_aload_n dA_run_22 rfl ?_
  refine V_iload dA_run_23 rfl ?_
  refine V_iload_n dA_run_25 rfl ?_
  refine V_iload dA_run_26 rfl ?_
  refine V_iconst (v := 1) dA_run_28 (by decide) ?_
  refine V_iadd dA_run_29 ?_
  refine V_topI (x' := nI (dp + 1)) (nI_1 _) ?_
  refine V_callV (as := [.int 60, .int x, .int (nI (dp + 1))]) (rest := []) (bs' := 0) rfl dA_run_30 cmA_through cvA_through mlA_45 (Or.inl ⟨_, _, _, _, _, rfl, k64, by decide, rfl⟩) rfl rfl (c_thr_5_5_2_0 hC hf hr x (dp := dp + 1) (by omega)) (by decide) (Nat.le_refl _) (by decide) (Nat.le_of_ble_eq_true rfl) ?_
  rintro _ _ s2 ⟨rfl, rfl, hC, hS1, hA1⟩ -
  refine V_one ?_
  have hS := hS.trans hS1
  have hA : ∀ j : Nat, ¬ j = 0 → gi s2 64 j = gi σ 64 j := fun j h => (hA1 j h).trans (hA j h)
  exact V_iret dA_run_33 rfl rfl ⟨rfl, rfl, hC, hS, hA⟩
theorem c_thr_6_3_0_1 {l : Launch} {G : GT} {L : Nat → List Cl} {M σ : Hp} (hC : RC L M σ) {num v : Int32} (hf : fA σ 6 num v) (hr : gi M 76 57 = nI 2) (x : Int32) {dp : Nat} (hd : dp < 31) : MM l G mA_through 0 0 0 [.ref 64, .int 10, .int x, .int (nI dp)] KA σ (PA L M σ (some (.int (x + num)))) := by
  have hR := hC.1
  have hC0 := hC
  have hS : Sm σ σ := Sm.rfl
  have hA : ∀ j : Nat, ¬ j = 0 → gi σ 64 j = gi σ 64 j := fun _ _ => rfl
  have hf0 := hf
  refine MM.of (loc := [(0, .ref 64), (1, .int 10), (2, .int x), (3, .int (nI dp))]) (by decide +kernel) rfl (Nat.le_of_ble_eq_true rfl) ?_
  refine V_iload_n dA_through_0 rfl ?_
  refine V_lsw (tgt := 100) dA_through_1 (by decide) rfl rfl ?_
  refine V_iload_n dA_through_100 rfl ?_
  refine V_aload_n dA_through_101 rfl ?_
  refine V_getE (x := num) dA_through_102 flA_28 k64 rfl hf.2.1 ?_
  refine V_iadd dA_through_105 ?_
  exact V_iret dA_through_106 rfl rfl ⟨rfl, rfl, hC, hS, hA⟩
theorem c_run_6_3_0_1 {l : Launch} {G : GT} {L : Nat → List Cl} {M σ : Hp} (hC : RC L M σ) {num v : Int32} (hf : fA σ 6 num v) (hr : gi M 76 57 = nI 1) (x : Int32) {dp : Nat} (hd : dp < 30) : MM l G mA_run 1 0 0 [.ref 64, .int 3, .int 0, .int x, .int (nI dp)] KA σ (PA L (bodyL 1 10 M) σ (some (.int (x + num)))) := by
  have hR := hC.1
  have hC0 := hC
  have hS : Sm σ σ := Sm.rfl
  have hA : ∀ j : Nat, ¬ j = 0 → gi σ 64 j = gi σ 64 j := fun _ _ => rfl
  have hf0 := hf
  refine MM.of (loc := [(0, .ref 64), (1, .int 3), (2, .int 0), (3, .int x), (4, .int (nI dp))]) (by decide +kernel) rfl (Nat.le_of_ble_eq_true rfl) ?_
  refine V_iload dA_run_0 rfl ?_
  refine V_bipush (v := 40) dA_run_2 (by decide) ?_
  refine V_icmp_lt (tgt := 9) dA_run_4 rfl (fun _ => ?_) (fun h => absurd h (not_not_intro (nI_lt (a := dp) (b := 40) (by omega) (by decide))))
  refine V_iload_n dA_run_9 rfl ?_
  refine V_iload_n dA_run_10 rfl ?_
  refine V_callS (as := [.int 3, .int 0]) (rest := []) (bs' := 0) rfl dA_run_11 cmA_bodyFrom stA_bodyFrom mlA_37 rfl rfl c_bf_3_0 (by decide) (Nat.le_refl _) (by decide) (Nat.le_of_ble_eq_true rfl) ?_
  rintro _ _ _ ⟨rfl, rfl, rfl⟩ -
  refine V_one ?_
  refine V_istore (loc' := [(5, .int 10), (0, .ref 64), (1, .int 3), (2, .int 0), (3, .int x), (4, .int (nI dp))]) dA_run_14 (by decide) rfl ?_
  refine V_aload_n dA_run_16 rfl ?_
  refine V_iload dA_run_17 rfl ?_
  refine V_callV (as := [.int 10]) (rest := []) (bs' := 0) rfl dA_run_19 cmA_begin cvA_begin mlA_41 (Or.inl ⟨_, _, _, _, _, rfl, k64, by decide, rfl⟩) rfl rfl (c_begin hC (by decide) hr 10) (by decide) (Nat.le_refl _) (by decide) (Nat.le_of_ble_eq_true rfl) ?_
  rintro _ _ s1 ⟨rfl, rfl, hC, hS1, hA1⟩ -
  refine V_non ?_
  have hS := hS.trans hS1
  have hA : ∀ j : Nat, ¬ j = 0 → gi s1 64 j = gi σ 64 j := fun j h => (hA1 j h).trans (hA j h)
  have hf := hf0.to hA
  have hr : gi (bodyL 1 10 M) 76 57 = nI 2 := gi_eq
  refine V_aload_n dA_run_22 rfl ?_
  refine V_iload dA_run_23 rfl ?_
  refine V_iload_n dA_run_25 rfl ?_
  refine V_iload dA_run_26 rfl ?_
  refine V_iconst (v := 1) dA_run_28 (by decide) ?_
  refine V_iadd dA_run_29 ?_
  refine V_topI (x' := nI (dp + 1)) (nI_1 _) ?_
  refine V_callV (as := [.int 10, .int x, .int (nI (dp + 1))]) (rest := []) (bs' := 0) rfl dA_run_30 cmA_through cvA_through mlA_45 (Or.inl ⟨_, _, _, _, _, rfl, k64, by decide, rfl⟩) rfl rfl (c_thr_6_3_0_1 hC hf hr x (dp := dp + 1) (by omega)) (by decide) (Nat.le_refl _) (by decide) (Nat.le_of_ble_eq_true rfl) ?_
  rintro _ _ s2 ⟨rfl, rfl, hC, hS1, hA1⟩ -
  refine V_one ?_
  have hS := hS.trans hS1
  have hA : ∀ j : Nat, ¬ j = 0 → gi s2 64 j = gi σ 64 j := fun j h => (hA1 j h).trans (hA j h)
  exact V_iret dA_run_33 rfl rfl ⟨rfl, rfl, hC, hS, hA⟩
theorem c_thr_6_6_0_0 {l : Launch} {G : GT} {L : Nat → List Cl} {M σ : Hp} (hC : RC L M σ) {num v : Int32} (hf : fA σ 6 num v) (hr : gi M 76 57 = nI 1) (x : Int32) {dp : Nat} (hd : dp < 29) : MM l G mA_through 2 0 0 [.ref 64, .int 71, .int x, .int (nI dp)] KA σ (PA L (bodyL 1 10 M) σ (some (.int ((x + num) ^^^ v)))) := by
  have hR := hC.1
  have hC0 := hC
  have hS : Sm σ σ := Sm.rfl
  have hA : ∀ j : Nat, ¬ j = 0 → gi σ 64 j = gi σ 64 j := fun _ _ => rfl
  have hf0 := hf
  refine MM.of (loc := [(0, .ref 64), (1, .int 71), (2, .int x), (3, .int (nI dp))]) (by decide +kernel) rfl (Nat.le_of_ble_eq_true rfl) ?_
  refine V_iload_n dA_through_0 rfl ?_
  refine V_lsw (tgt := 235) dA_through_1 (by decide) rfl rfl ?_
  refine V_aload_n dA_through_235 rfl ?_
  refine V_iconst (v := 3) dA_through_236 (by decide) ?_
  refine V_iconst (v := 0) dA_through_237 (by decide) ?_
  refine V_iload_n dA_through_238 rfl ?_
  refine V_iload_n dA_through_239 rfl ?_
  refine V_callV (as := [.int 3, .int 0, .int x, .int (nI dp)]) (rest := []) (bs' := 0) rfl dA_through_240 cmA_run cvA_run mlA_33 (Or.inl ⟨_, _, _, _, _, rfl, k64, by decide, rfl⟩) rfl rfl (c_run_6_3_0_1 hC hf hr x (dp := dp) (by omega)) (by decide) (Nat.le_refl _) (by decide) (Nat.le_of_ble_eq_true rfl) ?_
  rintro _ _ s240 ⟨rfl, rfl, hC, hS1, hA1⟩ -
  refine V_one ?_
  have hS := hS.trans hS1
  have hA : ∀ j : Nat, ¬ j = 0 → gi s240 64 j = gi σ 64 j := fun j h => (hA1 j h).trans (hA j h)
  have hf := hf0.to hA
  have hr : gi (bodyL 1 10 M) 76 57 = nI 2 := gi_eq
  have hR := hC.1
  refine V_aload_n dA_through_243 rfl ?_
  refine V_getE (x := v) dA_through_244 flA_32 k64 rfl hf.2.2 ?_
  refine V_ixor dA_through_247 ?_
  exact V_iret dA_through_248 rfl rfl ⟨rfl, rfl, hC, hS, hA⟩
theorem c_run_6_6_0_0 {l : Launch} {G : GT} {L : Nat → List Cl} {M σ : Hp} (hC : RC L M σ) {num v : Int32} (hf : fA σ 6 num v) (hr : gi M 76 57 = nI 0) (x : Int32) {dp : Nat} (hd : dp < 28) : MM l G mA_run 3 0 0 [.ref 64, .int 6, .int 0, .int x, .int (nI dp)] KA σ (PA L (bodyL 1 10 (bodyL 0 71 M)) σ (some (.int ((x + num) ^^^ v)))) := by
  have hR := hC.1
  have hC0 := hC
  have hS : Sm σ σ := Sm.rfl
  have hA : ∀ j : Nat, ¬ j = 0 → gi σ 64 j = gi σ 64 j := fun _ _ => rfl
  have hf0 := hf
  refine MM.of (loc := [(0, .ref 64), (1, .int 6), (2, .int 0), (3, .int x), (4, .int (nI dp))]) (by decide +kernel) rfl (Nat.le_of_ble_eq_true rfl) ?_
  refine V_iload dA_run_0 rfl ?_
  refine V_bipush (v := 40) dA_run_2 (by decide) ?_
  refine V_icmp_lt (tgt := 9) dA_run_4 rfl (fun _ => ?_) (fun h => absurd h (not_not_intro (nI_lt (a := dp) (b := 40) (by omega) (by decide))))
  refine V_iload_n dA_run_9 rfl ?_
  refine V_iload_n dA_run_10 rfl ?_
  refine V_callS (as := [.int 6, .int 0]) (rest := []) (bs' := 0) rfl dA_run_11 cmA_bodyFrom stA_bodyFrom mlA_37 rfl rfl c_bf_6_0 (by decide) (Nat.le_refl _) (by decide) (Nat.le_of_ble_eq_true rfl) ?_
  rintro _ _ _ ⟨rfl, rfl, rfl⟩ -
  refine V_one ?_
  refine V_istore (loc' := [(5, .int 71), (0, .ref 64), (1, .int 6), (2, .int 0), (3, .int x), (4, .int (nI dp))]) dA_run_14 (by decide) rfl ?_
  refine V_aload_n dA_run_16 rfl ?_
  refine V_iload dA_run_17 rfl ?_
  refine V_callV (as := [.int 71]) (rest := []) (bs' := 0) rfl dA_run_19 cmA_begin cvA_begin mlA_41 (Or.inl ⟨_, _, _, _, _, rfl, k64, by decide, rfl⟩) rfl rfl (c_begin hC (by decide) hr 71) (by decide) (Nat.le_refl _) (by decide) (Nat.le_of_ble_eq_true rfl) ?_
  rintro _ _ s1 ⟨rfl, rfl, hC, hS1, hA1⟩ -
  refine V_non ?_
  have hS := hS.trans hS1
  have hA : ∀ j : Nat, ¬ j = 0 → gi s1 64 j = gi σ 64 j := fun j h => (hA1 j h).trans (hA j h)
  have hf := hf0.to hA
  have hr : gi (bodyL 0 71 M) 76 57 = nI 1 := gi_eq
  refine V_aload_n dA_run_22 rfl ?_
  refine V_iload dA_run_23 rfl ?_
  refine V_iload_n dA_run_25 rfl ?_
  refine V_iload dA_run_26 rfl ?_
  refine V_iconst (v := 1) dA_run_28 (by decide) ?_
  refine V_iadd dA_run_29 ?_
  refine V_topI (x' := nI (dp + 1)) (nI_1 _) ?_
  refine V_callV (as := [.int 71, .int x, .int (nI (dp + 1))]) (rest := []) (bs' := 0) rfl dA_run_30 cmA_through cvA_through mlA_45 (Or.inl ⟨_, _, _, _, _, rfl, k64, by decide, rfl⟩) rfl rfl (c_thr_6_6_0_0 hC hf hr x (dp := dp + 1) (by omega)) (by decide) (Nat.le_refl _) (by decide) (Nat.le_of_ble_eq_true rfl) ?_
  rintro _ _ s2 ⟨rfl, rfl, hC, hS1, hA1⟩ -
  refine V_one ?_
  have hS := hS.trans hS1
  have hA : ∀ j : Nat, ¬ j = 0 → gi s2 64 j = gi σ 64 j := fun j h => (hA1 j h).trans (hA j h)
  exact V_iret dA_run_33 rfl rfl ⟨rfl, rfl, hC, hS, hA⟩
theorem c_thr_6_3_0_3 {l : Launch} {G : GT} {L : Nat → List Cl} {M σ : Hp} (hC : RC L M σ) {num v : Int32} (hf : fA σ 6 num v) (hr : gi M 76 57 = nI 4) (x : Int32) {dp : Nat} (hd : dp < 31) : MM l G mA_through 0 0 0 [.ref 64, .int 10, .int x, .int (nI dp)] KA σ (PA L M σ (some (.int (x + num)))) := by
  have hR := hC.1
  have hC0 := hC
  have hS : Sm σ σ := Sm.rfl
  have hA : ∀ j : Nat, ¬ j = 0 → gi σ 64 j = gi σ 64 j := fun _ _ => rfl
  have hf0 := hf
  refine MM.of (loc := [(0, .ref 64), (1, .int 10), (2, .int x), (3, .int (nI dp))]) (by decide +kernel) rfl (Nat.le_of_ble_eq_true rfl) ?_
  refine V_iload_n dA_through_0 rfl ?_
  refine V_lsw (tgt := 100) dA_through_1 (by decide) rfl rfl ?_
  refine V_iload_n dA_through_100 rfl ?_
  refine V_aload_n dA_through_101 rfl ?_
  refine V_getE (x := num) dA_through_102 flA_28 k64 rfl hf.2.1 ?_
  refine V_iadd dA_through_105 ?_
  exact V_iret dA_through_106 rfl rfl ⟨rfl, rfl, hC, hS, hA⟩
theorem c_run_6_3_0_3 {l : Launch} {G : GT} {L : Nat → List Cl} {M σ : Hp} (hC : RC L M σ) {num v : Int32} (hf : fA σ 6 num v) (hr : gi M 76 57 = nI 3) (x : Int32) {dp : Nat} (hd : dp < 30) : MM l G mA_run 1 0 0 [.ref 64, .int 3, .int 0, .int x, .int (nI dp)] KA σ (PA L (bodyL 3 10 M) σ (some (.int (x + num)))) := by
  have hR := hC.1
  have hC0 := hC
  have hS : Sm σ σ := Sm.rfl
  have hA : ∀ j : Nat, ¬ j = 0 → gi σ 64 j = gi σ 64 j := fun _ _ => rfl
  have hf0 := hf
  refine MM.of (loc := [(0, .ref 64), (1, .int 3), (2, .int 0), (3, .int x), (4, .int (nI dp))]) (by decide +kernel) rfl (Nat.le_of_ble_eq_true rfl) ?_
  refine V_iload dA_run_0 rfl ?_
  refine V_bipush (v := 40) dA_run_2 (by decide) ?_
  refine V_icmp_lt (tgt := 9) dA_run_4 rfl (fun _ => ?_) (fun h => absurd h (not_not_intro (nI_lt (a := dp) (b := 40) (by omega) (by decide))))
  refine V_iload_n dA_run_9 rfl ?_
  refine V_iload_n dA_run_10 rfl ?_
  refine V_callS (as := [.int 3, .int 0]) (rest := []) (bs' := 0) rfl dA_run_11 cmA_bodyFrom stA_bodyFrom mlA_37 rfl rfl c_bf_3_0 (by decide) (Nat.le_refl _) (by decide) (Nat.le_of_ble_eq_true rfl) ?_
  rintro _ _ _ ⟨rfl, rfl, rfl⟩ -
  refine V_one ?_
  refine V_istore (loc' := [(5, .int 10), (0, .ref 64), (1, .int 3), (2, .int 0), (3, .int x), (4, .int (nI dp))]) dA_run_14 (by decide) rfl ?_
  refine V_aload_n dA_run_16 rfl ?_
  refine V_iload dA_run_17 rfl ?_
  refine V_callV (as := [.int 10]) (rest := []) (bs' := 0) rfl dA_run_19 cmA_begin cvA_begin mlA_41 (Or.inl ⟨_, _, _, _, _, rfl, k64, by decide, rfl⟩) rfl rfl (c_begin hC (by decide) hr 10) (by decide) (Nat.le_refl _) (by decide) (Nat.le_of_ble_eq_true rfl) ?_
  rintro _ _ s1 ⟨rfl, rfl, hC, hS1, hA1⟩ -
  refine V_non ?_
  have hS := hS.trans hS1
  have hA : ∀ j : Nat, ¬ j = 0 → gi s1 64 j = gi σ 64 j := fun j h => (hA1 j h).trans (hA j h)
  have hf := hf0.to hA
  have hr : gi (bodyL 3 10 M) 76 57 = nI 4 := gi_eq
  refine V_aload_n dA_run_22 rfl ?_
  refine V_iload dA_run_23 rfl ?_
  refine V_iload_n dA_run_25 rfl ?_
  refine V_iload dA_run_26 rfl ?_
  refine V_iconst (v := 1) dA_run_28 (by decide) ?_
  refine V_iadd dA_run_29 ?_
  refine V_topI (x' := nI (dp + 1)) (nI_1 _) ?_
  refine V_callV (as := [.int 10, .int x, .int (nI (dp + 1))]) (rest := []) (bs' := 0) rfl dA_run_30 cmA_through cvA_through mlA_45 (Or.inl ⟨_, _, _, _, _, rfl, k64, by decide, rfl⟩) rfl rfl (c_thr_6_3_0_3 hC hf hr x (dp := dp + 1) (by omega)) (by decide) (Nat.le_refl _) (by decide) (Nat.le_of_ble_eq_true rfl) ?_
  rintro _ _ s2 ⟨rfl, rfl, hC, hS1, hA1⟩ -
  refine V_one ?_
  have hS := hS.trans hS1
  have hA : ∀ j : Nat, ¬ j = 0 → gi s2 64 j = gi σ 64 j := fun j h => (hA1 j h).trans (hA j h)
  exact V_iret dA_run_33 rfl rfl ⟨rfl, rfl, hC, hS, hA⟩
theorem c_thr_6_6_0_2 {l : Launch} {G : GT} {L : Nat → List Cl} {M σ : Hp} (hC : RC L M σ) {num v : Int32} (hf : fA σ 6 num v) (hr : gi M 76 57 = nI 3) (x : Int32) {dp : Nat} (hd : dp < 29) : MM l G mA_through 2 0 0 [.ref 64, .int 71, .int x, .int (nI dp)] KA σ (PA L (bodyL 3 10 M) σ (some (.int ((x + num) ^^^ v)))) := by
  have hR := hC.1
  have hC0 := hC
  have hS : Sm σ σ := Sm.rfl
  have hA : ∀ j : Nat, ¬ j = 0 → gi σ 64 j = gi σ 64 j := fun _ _ => rfl
  have hf0 := hf
  refine MM.of (loc := [(0, .ref 64), (1, .int 71), (2, .int x), (3, .int (nI dp))]) (by decide +kernel) rfl (Nat.le_of_ble_eq_true rfl) ?_
  refine V_iload_n dA_through_0 rfl ?_
  refine V_lsw (tgt := 235) dA_through_1 (by decide) rfl rfl ?_
  refine V_aload_n dA_through_235 rfl ?_
  refine V_iconst (v := 3) dA_through_236 (by decide) ?_
  refine V_iconst (v := 0) dA_through_237 (by decide) ?_
  refine V_iload_n dA_through_238 rfl ?_
  refine V_iload_n dA_through_239 rfl ?_
  refine V_callV (as := [.int 3, .int 0, .int x, .int (nI dp)]) (rest := []) (bs' := 0) rfl dA_through_240 cmA_run cvA_run mlA_33 (Or.inl ⟨_, _, _, _, _, rfl, k64, by decide, rfl⟩) rfl rfl (c_run_6_3_0_3 hC hf hr x (dp := dp) (by omega)) (by decide) (Nat.le_refl _) (by decide) (Nat.le_of_ble_eq_true rfl) ?_
  rintro _ _ s240 ⟨rfl, rfl, hC, hS1, hA1⟩ -
  refine V_one ?_
  have hS := hS.trans hS1
  have hA : ∀ j : Nat, ¬ j = 0 → gi s240 64 j = gi σ 64 j := fun j h => (hA1 j h).trans (hA j h)
  have hf := hf0.to hA
  have hr : gi (bodyL 3 10 M) 76 57 = nI 4 := gi_eq
  have hR := hC.1
  refine V_aload_n dA_through_243 rfl ?_
  refine V_getE (x := v) dA_through_244 flA_32 k64 rfl hf.2.2 ?_
  refine V_ixor dA_through_247 ?_
  exact V_iret dA_through_248 rfl rfl ⟨rfl, rfl, hC, hS, hA⟩
theorem c_run_6_6_0_2 {l : Launch} {G : GT} {L : Nat → List Cl} {M σ : Hp} (hC : RC L M σ) {num v : Int32} (hf : fA σ 6 num v) (hr : gi M 76 57 = nI 2) (x : Int32) {dp : Nat} (hd : dp < 28) : MM l G mA_run 3 0 0 [.ref 64, .int 6, .int 0, .int x, .int (nI dp)] KA σ (PA L (bodyL 3 10 (bodyL 2 71 M)) σ (some (.int ((x + num) ^^^ v)))) := by
  have hR := hC.1
  have hC0 := hC
  have hS : Sm σ σ := Sm.rfl
  have hA : ∀ j : Nat, ¬ j = 0 → gi σ 64 j = gi σ 64 j := fun _ _ => rfl
  have hf0 := hf
  refine MM.of (loc := [(0, .ref 64), (1, .int 6), (2, .int 0), (3, .int x), (4, .int (nI dp))]) (by decide +kernel) rfl (Nat.le_of_ble_eq_true rfl) ?_
  refine V_iload dA_run_0 rfl ?_
  refine V_bipush (v := 40) dA_run_2 (by decide) ?_
  refine V_icmp_lt (tgt := 9) dA_run_4 rfl (fun _ => ?_) (fun h => absurd h (not_not_intro (nI_lt (a := dp) (b := 40) (by omega) (by decide))))
  refine V_iload_n dA_run_9 rfl ?_
  refine V_iload_n dA_run_10 rfl ?_
  refine V_callS (as := [.int 6, .int 0]) (rest := []) (bs' := 0) rfl dA_run_11 cmA_bodyFrom stA_bodyFrom mlA_37 rfl rfl c_bf_6_0 (by decide) (Nat.le_refl _) (by decide) (Nat.le_of_ble_eq_true rfl) ?_
  rintro _ _ _ ⟨rfl, rfl, rfl⟩ -
  refine V_one ?_
  refine V_istore (loc' := [(5, .int 71), (0, .ref 64), (1, .int 6), (2, .int 0), (3, .int x), (4, .int (nI dp))]) dA_run_14 (by decide) rfl ?_
  refine V_aload_n dA_run_16 rfl ?_
  refine V_iload dA_run_17 rfl ?_
  refine V_callV (as := [.int 71]) (rest := []) (bs' := 0) rfl dA_run_19 cmA_begin cvA_begin mlA_41 (Or.inl ⟨_, _, _, _, _, rfl, k64, by decide, rfl⟩) rfl rfl (c_begin hC (by decide) hr 71) (by decide) (Nat.le_refl _) (by decide) (Nat.le_of_ble_eq_true rfl) ?_
  rintro _ _ s1 ⟨rfl, rfl, hC, hS1, hA1⟩ -
  refine V_non ?_
  have hS := hS.trans hS1
  have hA : ∀ j : Nat, ¬ j = 0 → gi s1 64 j = gi σ 64 j := fun j h => (hA1 j h).trans (hA j h)
  have hf := hf0.to hA
  have hr : gi (bodyL 2 71 M) 76 57 = nI 3 := gi_eq
  refine V_aload_n dA_run_22 rfl ?_
  refine V_iload dA_run_23 rfl ?_
  refine V_iload_n dA_run_25 rfl ?_
  refine V_iload dA_run_26 rfl ?_
  refine V_iconst (v := 1) dA_run_28 (by decide) ?_
  refine V_iadd dA_run_29 ?_
  refine V_topI (x' := nI (dp + 1)) (nI_1 _) ?_
  refine V_callV (as := [.int 71, .int x, .int (nI (dp + 1))]) (rest := []) (bs' := 0) rfl dA_run_30 cmA_through cvA_through mlA_45 (Or.inl ⟨_, _, _, _, _, rfl, k64, by decide, rfl⟩) rfl rfl (c_thr_6_6_0_2 hC hf hr x (dp := dp + 1) (by omega)) (by decide) (Nat.le_refl _) (by decide) (Nat.le_of_ble_eq_true rfl) ?_
  rintro _ _ s2 ⟨rfl, rfl, hC, hS1, hA1⟩ -
  refine V_one ?_
  have hS := hS.trans hS1
  have hA : ∀ j : Nat, ¬ j = 0 → gi s2 64 j = gi σ 64 j := fun j h => (hA1 j h).trans (hA j h)
  exact V_iret dA_run_33 rfl rfl ⟨rfl, rfl, hC, hS, hA⟩
theorem c_thr_6_3_1_1 {l : Launch} {G : GT} {L : Nat → List Cl} {M σ : Hp} (hC : RC L M σ) {num v : Int32} (hf : fA σ 6 num v) (hr : gi M 76 57 = nI 2) (x : Int32) {dp : Nat} (hd : dp < 27) : MM l G mA_through 4 0 0 [.ref 64, .int 11, .int x, .int (nI dp)] KA σ (PA L (bodyL 3 10 (bodyL 2 71 M)) σ (some (.int (((x + num) ^^^ v) - v)))) := by
  have hR := hC.1
  have hC0 := hC
  have hS : Sm σ σ := Sm.rfl
  have hA : ∀ j : Nat, ¬ j = 0 → gi σ 64 j = gi σ 64 j := fun _ _ => rfl
  have hf0 := hf
  refine MM.of (loc := [(0, .ref 64), (1, .int 11), (2, .int x), (3, .int (nI dp))]) (by decide +kernel) rfl (Nat.le_of_ble_eq_true rfl) ?_
  refine V_iload_n dA_through_0 rfl ?_
  refine V_lsw (tgt := 107) dA_through_1 (by decide) rfl rfl ?_
  refine V_aload_n dA_through_107 rfl ?_
  refine V_aload_n dA_through_108 rfl ?_
  refine V_getE (x := 6) dA_through_109 flA_24 k64 rfl hf.1 ?_
  refine V_iconst (v := 0) dA_through_112 (by decide) ?_
  refine V_iload_n dA_through_113 rfl ?_
  refine V_iload_n dA_through_114 rfl ?_
  refine V_callV (as := [.int 6, .int 0, .int x, .int (nI dp)]) (rest := []) (bs' := 0) rfl dA_through_115 cmA_run cvA_run mlA_33 (Or.inl ⟨_, _, _, _, _, rfl, k64, by decide, rfl⟩) rfl rfl (c_run_6_6_0_2 hC hf hr x (dp := dp) (by omega)) (by decide) (Nat.le_refl _) (by decide) (Nat.le_of_ble_eq_true rfl) ?_
  rintro _ _ s115 ⟨rfl, rfl, hC, hS1, hA1⟩ -
  refine V_one ?_
  have hS := hS.trans hS1
  have hA : ∀ j : Nat, ¬ j = 0 → gi s115 64 j = gi σ 64 j := fun j h => (hA1 j h).trans (hA j h)
  have hf := hf0.to hA
  have hr : gi (bodyL 3 10 (bodyL 2 71 M)) 76 57 = nI 4 := gi_eq
  have hR := hC.1
  refine V_aload_n dA_through_118 rfl ?_
  refine V_getE (x := v) dA_through_119 flA_32 k64 rfl hf.2.2 ?_
  refine V_isub dA_through_122 ?_
  exact V_iret dA_through_123 rfl rfl ⟨rfl, rfl, hC, hS, hA⟩
theorem c_run_6_3_1_1 {l : Launch} {G : GT} {L : Nat → List Cl} {M σ : Hp} (hC : RC L M σ) {num v : Int32} (hf : fA σ 6 num v) (hr : gi M 76 57 = nI 1) (x : Int32) {dp : Nat} (hd : dp < 26) : MM l G mA_run 5 0 0 [.ref 64, .int 3, .int 1, .int x, .int (nI dp)] KA σ (PA L (bodyL 3 10 (bodyL 2 71 (bodyL 1 11 M))) σ (some (.int (((x + num) ^^^ v) - v)))) := by
  have hR := hC.1
  have hC0 := hC
  have hS : Sm σ σ := Sm.rfl
  have hA : ∀ j : Nat, ¬ j = 0 → gi σ 64 j = gi σ 64 j := fun _ _ => rfl
  have hf0 := hf
  refine MM.of (loc := [(0, .ref 64), (1, .int 3), (2, .int 1), (3, .int x), (4, .int (nI dp))]) (by decide +kernel) rfl (Nat.le_of_ble_eq_true rfl) ?_
  refine V_iload dA_run_0 rfl ?_
  refine V_bipush (v := 40) dA_run_2 (by decide) ?_
  refine V_icmp_lt (tgt := 9) dA_run_4 rfl (fun _ => ?_) (fun h => absurd h (not_not_intro (nI_lt (a := dp) (b := 40) (by omega) (by decide))))
  refine V_iload_n dA_run_9 rfl ?_
  refine V_iload_n dA_run_10 rfl ?_
  refine V_callS (as := [.int 3, .int 1]) (rest := []) (bs' := 0) rfl dA_run_11 cmA_bodyFrom stA_bodyFrom mlA_37 rfl rfl c_bf_3_1 (by decide) (Nat.le_refl _) (by decide) (Nat.le_of_ble_eq_true rfl) ?_
  rintro _ _ _ ⟨rfl, rfl, rfl⟩ -
  refine V_one ?_
  refine V_istore (loc' := [(5, .int 11), (0, .ref 64), (1, .int 3), (2, .int 1), (3, .int x), (4, .int (nI dp))]) dA_run_14 (by decide) rfl ?_
  refine V_aload_n dA_run_16 rfl ?_
  refine V_iload dA_run_17 rfl ?_
  refine V_callV (as := [.int 11]) (rest := []) (bs' := 0) rfl dA_run_19 cmA_begin cvA_begin mlA_41 (Or.inl ⟨_, _, _, _, _, rfl, k64, by decide, rfl⟩) rfl rfl (c_begin hC (by decide) hr 11) (by decide) (Nat.le_refl _) (by decide) (Nat.le_of_ble_eq_true rfl) ?_
  rintro _ _ s1 ⟨rfl, rfl, hC, hS1, hA1⟩ -
  refine V_non ?_
  have hS := hS.trans hS1
  have hA : ∀ j : Nat, ¬ j = 0 → gi s1 64 j = gi σ 64 j := fun j h => (hA1 j h).trans (hA j h)
  have hf := hf0.to hA
  have hr : gi (bodyL 1 11 M) 76 57 = nI 2 := gi_eq
  refine V_aload_n dA_run_22 rfl ?_
  refine V_iload dA_run_23 rfl ?_
  refine V_iload_n dA_run_25 rfl ?_
  refine V_iload dA_run_26 rfl ?_
  refine V_iconst (v := 1) dA_run_28 (by decide) ?_
  refine V_iadd dA_run_29 ?_
  refine V_topI (x' := nI (dp + 1)) (nI_1 _) ?_
  refine V_callV (as := [.int 11, .int x, .int (nI (dp + 1))]) (rest := []) (bs' := 0) rfl dA_run_30 cmA_through cvA_through mlA_45 (Or.inl ⟨_, _, _, _, _, rfl, k64, by decide, rfl⟩) rfl rfl (c_thr_6_3_1_1 hC hf hr x (dp := dp + 1) (by omega)) (by decide) (Nat.le_refl _) (by decide) (Nat.le_of_ble_eq_true rfl) ?_
  rintro _ _ s2 ⟨rfl, rfl, hC, hS1, hA1⟩ -
  refine V_one ?_
  have hS := hS.trans hS1
  have hA : ∀ j : Nat, ¬ j = 0 → gi s2 64 j = gi σ 64 j := fun j h => (hA1 j h).trans (hA j h)
  exact V_iret dA_run_33 rfl rfl ⟨rfl, rfl, hC, hS, hA⟩
theorem c_thr_6_3_0_4 {l : Launch} {G : GT} {L : Nat → List Cl} {M σ : Hp} (hC : RC L M σ) {num v : Int32} (hf : fA σ 6 num v) (hr : gi M 76 57 = nI 5) (x : Int32) {dp : Nat} (hd : dp < 31) : MM l G mA_through 0 0 0 [.ref 64, .int 10, .int x, .int (nI dp)] KA σ (PA L M σ (some (.int (x + num)))) := by
  have hR := hC.1
  have hC0 := hC
  have hS : Sm σ σ := Sm.rfl
  have hA : ∀ j : Nat, ¬ j = 0 → gi σ 64 j = gi σ 64 j := fun _ _ => rfl
  have hf0 := hf
  refine MM.of (loc := [(0, .ref 64), (1, .int 10), (2, .int x), (3, .int (nI dp))]) (by decide +kernel) rfl (Nat.le_of_ble_eq_true rfl) ?_
  refine V_iload_n dA_through_0 rfl ?_
  refine V_lsw (tgt := 100) dA_through_1 (by decide) rfl rfl ?_
  refine V_iload_n dA_through_100 rfl ?_
  refine V_aload_n dA_through_101 rfl ?_
  refine V_getE (x := num) dA_through_102 flA_28 k64 rfl hf.2.1 ?_
  refine V_iadd dA_through_105 ?_
  exact V_iret dA_through_106 rfl rfl ⟨rfl, rfl, hC, hS, hA⟩
theorem c_run_6_3_0_4 {l : Launch} {G : GT} {L : Nat → List Cl} {M σ : Hp} (hC : RC L M σ) {num v : Int32} (hf : fA σ 6 num v) (hr : gi M 76 57 = nI 4) (x : Int32) {dp : Nat} (hd : dp < 30) : MM l G mA_run 1 0 0 [.ref 64, .int 3, .int 0, .int x, .int (nI dp)] KA σ (PA L (bodyL 4 10 M) σ (some (.int (x + num)))) := by
  have hR := hC.1
  have hC0 := hC
  have hS : Sm σ σ := Sm.rfl
  have hA : ∀ j : Nat, ¬ j = 0 → gi σ 64 j = gi σ 64 j := fun _ _ => rfl
  have hf0 := hf
  refine MM.of (loc := [(0, .ref 64), (1, .int 3), (2, .int 0), (3, .int x), (4, .int (nI dp))]) (by decide +kernel) rfl (Nat.le_of_ble_eq_true rfl) ?_
  refine V_iload dA_run_0 rfl ?_
  refine V_bipush (v := 40) dA_run_2 (by decide) ?_
  refine V_icmp_lt (tgt := 9) dA_run_4 rfl (fun _ => ?_) (fun h => absurd h (not_not_intro (nI_lt (a := dp) (b := 40) (by omega) (by decide))))
  refine V_iload_n dA_run_9 rfl ?_
  refine V_iload_n dA_run_10 rfl ?_
  refine V_callS (as := [.int 3, .int 0]) (rest := []) (bs' := 0) rfl dA_run_11 cmA_bodyFrom stA_bodyFrom mlA_37 rfl rfl c_bf_3_0 (by decide) (Nat.le_refl _) (by decide) (Nat.le_of_ble_eq_true rfl) ?_
  rintro _ _ _ ⟨rfl, rfl, rfl⟩ -
  refine V_one ?_
  refine V_istore (loc' := [(5, .int 10), (0, .ref 64), (1, .int 3), (2, .int 0), (3, .int x), (4, .int (nI dp))]) dA_run_14 (by decide) rfl ?_
  refine V_aload_n dA_run_16 rfl ?_
  refine V_iload dA_run_17 rfl ?_
  refine V_callV (as := [.int 10]) (rest := []) (bs' := 0) rfl dA_run_19 cmA_begin cvA_begin mlA_41 (Or.inl ⟨_, _, _, _, _, rfl, k64, by decide, rfl⟩) rfl rfl (c_begin hC (by decide) hr 10) (by decide) (Nat.le_refl _) (by decide) (Nat.le_of_ble_eq_true rfl) ?_
  rintro _ _ s1 ⟨rfl, rfl, hC, hS1, hA1⟩ -
  refine V_non ?_
  have hS := hS.trans hS1
  have hA : ∀ j : Nat, ¬ j = 0 → gi s1 64 j = gi σ 64 j := fun j h => (hA1 j h).trans (hA j h)
  have hf := hf0.to hA
  have hr : gi (bodyL 4 10 M) 76 57 = nI 5 := gi_eq
  refine V_aload_n dA_run_22 rfl ?_
  refine V_iload dA_run_23 rfl ?_
  refine V_iload_n dA_run_25 rfl ?_
  refine V_iload dA_run_26 rfl ?_
  refine V_iconst (v := 1) dA_run_28 (by decide) ?_
  refine V_iadd dA_run_29 ?_
  refine V_topI (x' := nI (dp + 1)) (nI_1 _) ?_
  refine V_callV (as := [.int 10, .int x, .int (nI (dp + 1))]) (rest := []) (bs' := 0) rfl dA_run_30 cmA_through cvA_through mlA_45 (Or.inl ⟨_, _, _, _, _, rfl, k64, by decide, rfl⟩) rfl rfl (c_thr_6_3_0_4 hC hf hr x (dp := dp + 1) (by omega)) (by decide) (Nat.le_refl _) (by decide) (Nat.le_of_ble_eq_true rfl) ?_
  rintro _ _ s2 ⟨rfl, rfl, hC, hS1, hA1⟩ -
  refine V_one ?_
  have hS := hS.trans hS1
  have hA : ∀ j : Nat, ¬ j = 0 → gi s2 64 j = gi σ 64 j := fun j h => (hA1 j h).trans (hA j h)
  exact V_iret dA_run_33 rfl rfl ⟨rfl, rfl, hC, hS, hA⟩
theorem c_thr_6_6_1_0 {l : Launch} {G : GT} {L : Nat → List Cl} {M σ : Hp} (hC : RC L M σ) {num v : Int32} (hf : fA σ 6 num v) (hr : gi M 76 57 = nI 1) (x : Int32) {dp : Nat} (hd : dp < 25) : MM l G mA_through 6 0 0 [.ref 64, .int 70, .int x, .int (nI dp)] KA σ (PA L (bodyL 4 10 (bodyL 3 10 (bodyL 2 71 (bodyL 1 11 M)))) σ (some (.int ((((x + num) ^^^ v) - v) + (2 + num))))) := by
  have hR := hC.1
  have hC0 := hC
  have hS : Sm σ σ := Sm.rfl
  have hA : ∀ j : Nat, ¬ j = 0 → gi σ 64 j = gi σ 64 j := fun _ _ => rfl
  have hf0 := hf
  refine MM.of (loc := [(0, .ref 64), (1, .int 70), (2, .int x), (3, .int (nI dp))]) (by decide +kernel) rfl (Nat.le_of_ble_eq_true rfl) ?_
  refine V_iload_n dA_through_0 rfl ?_
  refine V_lsw (tgt := 217) dA_through_1 (by decide) rfl rfl ?_
  refine V_aload_n dA_through_217 rfl ?_
  refine V_iconst (v := 3) dA_through_218 (by decide) ?_
  refine V_iconst (v := 1) dA_through_219 (by decide) ?_
  refine V_iload_n dA_through_220 rfl ?_
  refine V_iload_n dA_through_221 rfl ?_
  refine V_callV (as := [.int 3, .int 1, .int x, .int (nI dp)]) (rest := []) (bs' := 0) rfl dA_through_222 cmA_run cvA_run mlA_33 (Or.inl ⟨_, _, _, _, _, rfl, k64, by decide, rfl⟩) rfl rfl (c_run_6_3_1_1 hC hf hr x (dp := dp) (by omega)) (by decide) (Nat.le_refl _) (by decide) (Nat.le_of_ble_eq_true rfl) ?_
  rintro _ _ s222 ⟨rfl, rfl, hC, hS1, hA1⟩ -
  refine V_one ?_
  have hS := hS.trans hS1
  have hA : ∀ j : Nat, ¬ j = 0 → gi s222 64 j = gi σ 64 j := fun j h => (hA1 j h).trans (hA j h)
  have hf := hf0.to hA
  have hr : gi (bodyL 3 10 (bodyL 2 71 (bodyL 1 11 M))) 76 57 = nI 4 := gi_eq
  have hR := hC.1
  refine V_aload_n dA_through_225 rfl ?_
  refine V_iconst (v := 3) dA_through_226 (by decide) ?_
  refine V_iconst (v := 0) dA_through_227 (by decide) ?_
  refine V_iconst (v := 2) dA_through_228 (by decide) ?_
  refine V_iload_n dA_through_229 rfl ?_
  refine V_callV (as := [.int 3, .int 0, .int 2, .int (nI dp)]) (rest := [.int (((x + num) ^^^ v) - v)]) (bs' := 0) rfl dA_through_230 cmA_run cvA_run mlA_33 (Or.inl ⟨_, _, _, _, _, rfl, k64, by decide, rfl⟩) rfl rfl (c_run_6_3_0_4 hC hf hr 2 (dp := dp) (by omega)) (by decide) (Nat.le_refl _) (by decide) (Nat.le_of_ble_eq_true rfl) ?_
  rintro _ _ s230 ⟨rfl, rfl, hC, hS1, hA1⟩ -
  refine V_one ?_
  have hS := hS.trans hS1
  have hA : ∀ j : Nat, ¬ j = 0 → gi s230 64 j = gi σ 64 j := fun j h => (hA1 j h).trans (hA j h)
  have hf := hf0.to hA
  have hr : gi (bodyL 4 10 (bodyL 3 10 (bodyL 2 71 (bodyL 1 11 M)))) 76 57 = nI 5 := gi_eq
  have hR := hC.1
  refine V_iadd dA_through_233 ?_
  exact V_iret dA_through_234 rfl rfl ⟨rfl, rfl, hC, hS, hA⟩
theorem c_run_6_6_1_0 {l : Launch} {G : GT} {L : Nat → List Cl} {M σ : Hp} (hC : RC L M σ) {num v : Int32} (hf : fA σ 6 num v) (hr : gi M 76 57 = nI 0) (x : Int32) {dp : Nat} (hd : dp < 24) : MM l G mA_run 7 0 0 [.ref 64, .int 6, .int 1, .int x, .int (nI dp)] KA σ (PA L (bodyL 4 10 (bodyL 3 10 (bodyL 2 71 (bodyL 1 11 (bodyL 0 70 M))))) σ (some (.int ((((x + num) ^^^ v) - v) + (2 + num))))) := by
  have hR := hC.1
  have hC0 := hC
  have hS : Sm σ σ := Sm.rfl
  have hA : ∀ j : Nat, ¬ j = 0 → gi σ 64 j = gi σ 64 j := fun _ _ => rfl
  have hf0 := hf
  refine MM.of (loc := [(0, .ref 64), (1, .int 6), (2, .int 1), (3, .int x), (4, .int (nI dp))]) (by decide +kernel) rfl (Nat.le_of_ble_eq_true rfl) ?_
  refine V_iload dA_run_0 rfl ?_
  refine V_bipush (v := 40) dA_run_2 (by decide) ?_
  refine V_icmp_lt (tgt := 9) dA_run_4 rfl (fun _ => ?_) (fun h => absurd h (not_not_intro (nI_lt (a := dp) (b := 40) (by omega) (by decide))))
  refine V_iload_n dA_run_9 rfl ?_
  refine V_iload_n dA_run_10 rfl ?_
  refine V_callS (as := [.int 6, .int 1]) (rest := []) (bs' := 0) rfl dA_run_11 cmA_bodyFrom stA_bodyFrom mlA_37 rfl rfl c_bf_6_1 (by decide) (Nat.le_refl _) (by decide) (Nat.le_of_ble_eq_true rfl) ?_
  rintro _ _ _ ⟨rfl, rfl, rfl⟩ -
  refine V_one ?_
  refine V_istore (loc' := [(5, .int 70), (0, .ref 64), (1, .int 6), (2, .int 1), (3, .int x), (4, .int (nI dp))]) dA_run_14 (by decide) rfl ?_
  refine V_aload_n dA_run_16 rfl ?_
  refine V_iload dA_run_17 rfl ?_
  refine V_callV (as := [.int 70]) (rest := []) (bs' := 0) rfl dA_run_19 cmA_begin cvA_begin mlA_41 (Or.inl ⟨_, _, _, _, _, rfl, k64, by decide, rfl⟩) rfl rfl (c_begin hC (by decide) hr 70) (by decide) (Nat.le_refl _) (by decide) (Nat.le_of_ble_eq_true rfl) ?_
  rintro _ _ s1 ⟨rfl, rfl, hC, hS1, hA1⟩ -
  refine V_non ?_
  have hS := hS.trans hS1
  have hA : ∀ j : Nat, ¬ j = 0 → gi s1 64 j = gi σ 64 j := fun j h => (hA1 j h).trans (hA j h)
  have hf := hf0.to hA
  have hr : gi (bodyL 0 70 M) 76 57 = nI 1 := gi_eq
  refine V_aload_n dA_run_22 rfl ?_
  refine V_iload dA_run_23 rfl ?_
  refine V_iload_n dA_run_25 rfl ?_
  refine V_iload dA_run_26 rfl ?_
  refine V_iconst (v := 1) dA_run_28 (by decide) ?_
  refine V_iadd dA_run_29 ?_
  refine V_topI (x' := nI (dp + 1)) (nI_1 _) ?_
  refine V_callV (as := [.int 70, .int x, .int (nI (dp + 1))]) (rest := []) (bs' := 0) rfl dA_run_30 cmA_through cvA_through mlA_45 (Or.inl ⟨_, _, _, _, _, rfl, k64, by decide, rfl⟩) rfl rfl (c_thr_6_6_1_0 hC hf hr x (dp := dp + 1) (by omega)) (by decide) (Nat.le_refl _) (by decide) (Nat.le_of_ble_eq_true rfl) ?_
  rintro _ _ s2 ⟨rfl, rfl, hC, hS1, hA1⟩ -
  refine V_one ?_
  have hS := hS.trans hS1
  have hA : ∀ j : Nat, ¬ j = 0 → gi s2 64 j = gi σ 64 j := fun j h => (hA1 j h).trans (hA j h)
  exact V_iret dA_run_33 rfl rfl ⟨rfl, rfl, hC, hS, hA⟩
theorem c_thr_6_3_0_5 {l : Launch} {G : GT} {L : Nat → List Cl} {M σ : Hp} (hC : RC L M σ) {num v : Int32} (hf : fA σ 6 num v) (hr : gi M 76 57 = nI 6) (x : Int32) {dp : Nat} (hd : dp < 31) : MM l G mA_through 0 0 0 [.ref 64, .int 10, .int x, .int (nI dp)] KA σ (PA L M σ (some (.int (x + num)))) := by
  have hR := hC.1
  have hC0 := hC
  have hS : Sm σ σ := Sm.rfl
  have hA : ∀ j : Nat, ¬ j = 0 → gi σ 64 j = gi σ 64 j := fun _ _ => rfl
  have hf0 := hf
  refine MM.of (loc := [(0, .ref 64), (1, .int 10), (2, .int x), (3, .int (nI dp))]) (by decide +kernel) rfl (Nat.le_of_ble_eq_true rfl) ?_
  refine V_iload_n dA_through_0 rfl ?_
  refine V_lsw (tgt := 100) dA_through_1 (by decide) rfl rfl ?_
  refine V_iload_n dA_through_100 rfl ?_
  refine V_aload_n dA_through_101 rfl ?_
  refine V_getE (x := num) dA_through_102 flA_28 k64 rfl hf.2.1 ?_
  refine V_iadd dA_through_105 ?_
  exact V_iret dA_through_106 rfl rfl ⟨rfl, rfl, hC, hS, hA⟩
theorem c_run_6_3_0_5 {l : Launch} {G : GT} {L : Nat → List Cl} {M σ : Hp} (hC : RC L M σ) {num v : Int32} (hf : fA σ 6 num v) (hr : gi M 76 57 = nI 5) (x : Int32) {dp : Nat} (hd : dp < 30) : MM l G mA_run 1 0 0 [.ref 64, .int 3, .int 0, .int x, .int (nI dp)] KA σ (PA L (bodyL 5 10 M) σ (some (.int (x + num)))) := by
  have hR := hC.1
  have hC0 := hC
  have hS : Sm σ σ := Sm.rfl
  have hA : ∀ j : Nat, ¬ j = 0 → gi σ 64 j = gi σ 64 j := fun _ _ => rfl
  have hf0 := hf
  refine MM.of (loc := [(0, .ref 64), (1, .int 3), (2, .int 0), (3, .int x), (4, .int (nI dp))]) (by decide +kernel) rfl (Nat.le_of_ble_eq_true rfl) ?_
  refine V_iload dA_run_0 rfl ?_
  refine V_bipush (v := 40) dA_run_2 (by decide) ?_
  refine V_icmp_lt (tgt := 9) dA_run_4 rfl (fun _ => ?_) (fun h => absurd h (not_not_intro (nI_lt (a := dp) (b := 40) (by omega) (by decide))))
  refine V_iload_n dA_run_9 rfl ?_
  refine V_iload_n dA_run_10 rfl ?_
  refine V_callS (as := [.int 3, .int 0]) (rest := []) (bs' := 0) rfl dA_run_11 cmA_bodyFrom stA_bodyFrom mlA_37 rfl rfl c_bf_3_0 (by decide) (Nat.le_refl _) (by decide) (Nat.le_of_ble_eq_true rfl) ?_
  rintro _ _ _ ⟨rfl, rfl, rfl⟩ -
  refine V_one ?_
  refine V_istore (loc' := [(5, .int 10), (0, .ref 64), (1, .int 3), (2, .int 0), (3, .int x), (4, .int (nI dp))]) dA_run_14 (by decide) rfl ?_
  refine V_aload_n dA_run_16 rfl ?_
  refine V_iload dA_run_17 rfl ?_
  refine V_callV (as := [.int 10]) (rest := []) (bs' := 0) rfl dA_run_19 cmA_begin cvA_begin mlA_41 (Or.inl ⟨_, _, _, _, _, rfl, k64, by decide, rfl⟩) rfl rfl (c_begin hC (by decide) hr 10) (by decide) (Nat.le_refl _) (by decide) (Nat.le_of_ble_eq_true rfl) ?_
  rintro _ _ s1 ⟨rfl, rfl, hC, hS1, hA1⟩ -
  refine V_non ?_
  have hS := hS.trans hS1
  have hA : ∀ j : Nat, ¬ j = 0 → gi s1 64 j = gi σ 64 j := fun j h => (hA1 j h).trans (hA j h)
  have hf := hf0.to hA
  have hr : gi (bodyL 5 10 M) 76 57 = nI 6 := gi_eq
  refine V_aload_n dA_run_22 rfl ?_
  refine V_iload dA_run_23 rfl ?_
  refine V_iload_n dA_run_25 rfl ?_
  refine V_iload dA_run_26 rfl ?_
  refine V_iconst (v := 1) dA_run_28 (by decide) ?_
  refine V_iadd dA_run_29 ?_
  refine V_topI (x' := nI (dp + 1)) (nI_1 _) ?_
  refine V_callV (as := [.int 10, .int x, .int (nI (dp + 1))]) (rest := []) (bs' := 0) rfl dA_run_30 cmA_through cvA_through mlA_45 (Or.inl ⟨_, _, _, _, _, rfl, k64, by decide, rfl⟩) rfl rfl (c_thr_6_3_0_5 hC hf hr x (dp := dp + 1) (by omega)) (by decide) (Nat.le_refl _) (by decide) (Nat.le_of_ble_eq_true rfl) ?_
  rintro _ _ s2 ⟨rfl, rfl, hC, hS1, hA1⟩ -
  refine V_one ?_
  have hS := hS.trans hS1
  have hA : ∀ j : Nat, ¬ j = 0 → gi s2 64 j = gi σ 64 j := fun j h => (hA1 j h).trans (hA j h)
  exact V_iret dA_run_33 rfl rfl ⟨rfl, rfl, hC, hS, hA⟩
theorem c_thr_6_6_0_4 {l : Launch} {G : GT} {L : Nat → List Cl} {M σ : Hp} (hC : RC L M σ) {num v : Int32} (hf : fA σ 6 num v) (hr : gi M 76 57 = nI 5) (x : Int32) {dp : Nat} (hd : dp < 29) : MM l G mA_through 2 0 0 [.ref 64, .int 71, .int x, .int (nI dp)] KA σ (PA L (bodyL 5 10 M) σ (some (.int ((x + num) ^^^ v)))) := by
  have hR := hC.1
  have hC0 := hC
  have hS : Sm σ σ := Sm.rfl
  have hA : ∀ j : Nat, ¬ j = 0 → gi σ 64 j = gi σ 64 j := fun _ _ => rfl
  have hf0 := hf
  refine MM.of (loc := [(0, .ref 64), (1, .int 71), (2, .int x), (3, .int (nI dp))]) (by decide +kernel) rfl (Nat.le_of_ble_eq_true rfl) ?_
  refine V_iload_n dA_through_0 rfl ?_
  refine V_lsw (tgt := 235) dA_through_1 (by decide) rfl rfl ?_
  refine V_aload_n dA_through_235 rfl ?_
  refine V_iconst (v := 3) dA_through_236 (by decide) ?_
  refine V_iconst (v := 0) dA_through_237 (by decide) ?_
  refine V_iload_n dA_through_238 rfl ?_
  refine V_iload_n dA_through_239 rfl ?_
  refine V_callV (as := [.int 3, .int 0, .int x, .int (nI dp)]) (rest := []) (bs' := 0) rfl dA_through_240 cmA_run cvA_run mlA_33 (Or.inl ⟨_, _, _, _, _, rfl, k64, by decide, rfl⟩) rfl rfl (c_run_6_3_0_5 hC hf hr x (dp := dp) (by omega)) (by decide) (Nat.le_refl _) (by decide) (Nat.le_of_ble_eq_true rfl) ?_
  rintro _ _ s240 ⟨rfl, rfl, hC, hS1, hA1⟩ -
  refine V_one ?_
  have hS := hS.trans hS1
  have hA : ∀ j : Nat, ¬ j = 0 → gi s240 64 j = gi σ 64 j := fun j h => (hA1 j h).trans (hA j h)
  have hf := hf0.to hA
  have hr : gi (bodyL 5 10 M) 76 57 = nI 6 := gi_eq
  have hR := hC.1
  refine V_aload_n dA_through_243 rfl ?_
  refine V_getE (x := v) dA_through_244 flA_32 k64 rfl hf.2.2 ?_
  refine V_ixor dA_through_247 ?_
  exact V_iret dA_through_248 rfl rfl ⟨rfl, rfl, hC, hS, hA⟩
theorem c_run_6_6_0_4 {l : Launch} {G : GT} {L : Nat → List Cl} {M σ : Hp} (hC : RC L M σ) {num v : Int32} (hf : fA σ 6 num v) (hr : gi M 76 57 = nI 4) (x : Int32) {dp : Nat} (hd : dp < 28) : MM l G mA_run 3 0 0 [.ref 64, .int 6, .int 0, .int x, .int (nI dp)] KA σ (PA L (bodyL 5 10 (bodyL 4 71 M)) σ (some (.int ((x + num) ^^^ v)))) := by
  have hR := hC.1
  have hC0 := hC
  have hS : Sm σ σ := Sm.rfl
  have hA : ∀ j : Nat, ¬ j = 0 → gi σ 64 j = gi σ 64 j := fun _ _ => rfl
  have hf0 := hf
  refine MM.of (loc := [(0, .ref 64), (1, .int 6), (2, .int 0), (3, .int x), (4, .int (nI dp))]) (by decide +kernel) rfl (Nat.le_of_ble_eq_true rfl) ?_
  refine V_iload dA_run_0 rfl ?_
  refine V_bipush (v := 40) dA_run_2 (by decide) ?_
  refine V_icmp_lt (tgt := 9) dA_run_4 rfl (fun _ => ?_) (fun h => absurd h (not_not_intro (nI_lt (a := dp) (b := 40) (by omega) (by decide))))
  refine V_iload_n dA_run_9 rfl ?_
  refine V_iload_n dA_run_10 rfl ?_
  refine V_callS (as := [.int 6, .int 0]) (rest := []) (bs' := 0) rfl dA_run_11 cmA_bodyFrom stA_bodyFrom mlA_37 rfl rfl c_bf_6_0 (by decide) (Nat.le_refl _) (by decide) (Nat.le_of_ble_eq_true rfl) ?_
  rintro _ _ _ ⟨rfl, rfl, rfl⟩ -
  refine V_one ?_
  refine V_istore (loc' := [(5, .int 71), (0, .ref 64), (1, .int 6), (2, .int 0), (3, .int x), (4, .int (nI dp))]) dA_run_14 (by decide) rfl ?_
  refine V_aload_n dA_run_16 rfl ?_
  refine V_iload dA_run_17 rfl ?_
  refine V_callV (as := [.int 71]) (rest := []) (bs' := 0) rfl dA_run_19 cmA_begin cvA_begin mlA_41 (Or.inl ⟨_, _, _, _, _, rfl, k64, by decide, rfl⟩) rfl rfl (c_begin hC (by decide) hr 71) (by decide) (Nat.le_refl _) (by decide) (Nat.le_of_ble_eq_true rfl) ?_
  rintro _ _ s1 ⟨rfl, rfl, hC, hS1, hA1⟩ -
  refine V_non ?_
  have hS := hS.trans hS1
  have hA : ∀ j : Nat, ¬ j = 0 → gi s1 64 j = gi σ 64 j := fun j h => (hA1 j h).trans (hA j h)
  have hf := hf0.to hA
  have hr : gi (bodyL 4 71 M) 76 57 = nI 5 := gi_eq
  refine V_aload_n dA_run_22 rfl ?_
  refine V_iload dA_run_23 rfl ?_
  refine V_iload_n dA_run_25 rfl ?_
  refine V_iload dA_run_26 rfl ?_
  refine V_iconst (v := 1) dA_run_28 (by decide) ?_
  refine V_iadd dA_run_29 ?_
  refine V_topI (x' := nI (dp + 1)) (nI_1 _) ?_
  refine V_callV (as := [.int 71, .int x, .int (nI (dp + 1))]) (rest := []) (bs' := 0) rfl dA_run_30 cmA_through cvA_through mlA_45 (Or.inl ⟨_, _, _, _, _, rfl, k64, by decide, rfl⟩) rfl rfl (c_thr_6_6_0_4 hC hf hr x (dp := dp + 1) (by omega)) (by decide) (Nat.le_refl _) (by decide) (Nat.le_of_ble_eq_true rfl) ?_
  rintro _ _ s2 ⟨rfl, rfl, hC, hS1, hA1⟩ -
  refine V_one ?_
  have hS := hS.trans hS1
  have hA : ∀ j : Nat, ¬ j = 0 → gi s2 64 j = gi σ 64 j := fun j h => (hA1 j h).trans (hA j h)
  exact V_iret dA_run_33 rfl rfl ⟨rfl, rfl, hC, hS, hA⟩
theorem c_thr_6_3_1_3 {l : Launch} {G : GT} {L : Nat → List Cl} {M σ : Hp} (hC : RC L M σ) {num v : Int32} (hf : fA σ 6 num v) (hr : gi M 76 57 = nI 4) (x : Int32) {dp : Nat} (hd : dp < 27) : MM l G mA_through 4 0 0 [.ref 64, .int 11, .int x, .int (nI dp)] KA σ (PA L (bodyL 5 10 (bodyL 4 71 M)) σ (some (.int (((x + num) ^^^ v) - v)))) := by
  have hR := hC.1
  have hC0 := hC
  have hS : Sm σ σ := Sm.rfl
  have hA : ∀ j : Nat, ¬ j = 0 → gi σ 64 j = gi σ 64 j := fun _ _ => rfl
  have hf0 := hf
  refine MM.of (loc := [(0, .ref 64), (1, .int 11), (2, .int x), (3, .int (nI dp))]) (by decide +kernel) rfl (Nat.le_of_ble_eq_true rfl) ?_
  refine V_iload_n dA_through_0 rfl ?_
  refine V_lsw (tgt := 107) dA_through_1 (by decide) rfl rfl ?_
  refine V_aload_n dA_through_107 rfl ?_
  refine V_aload_n dA_through_108 rfl ?_
  refine V_getE (x := 6) dA_through_109 flA_24 k64 rfl hf.1 ?_
  refine V_iconst (v := 0) dA_through_112 (by decide) ?_
  refine V_iload_n dA_through_113 rfl ?_
  refine V_iload_n dA_through_114 rfl ?_
  refine V_callV (as := [.int 6, .int 0, .int x, .int (nI dp)]) (rest := []) (bs' := 0) rfl dA_through_115 cmA_run cvA_run mlA_33 (Or.inl ⟨_, _, _, _, _, rfl, k64, by decide, rfl⟩) rfl rfl (c_run_6_6_0_4 hC hf hr x (dp := dp) (by omega)) (by decide) (Nat.le_refl _) (by decide) (Nat.le_of_ble_eq_true rfl) ?_
  rintro _ _ s115 ⟨rfl, rfl, hC, hS1, hA1⟩ -
  refine V_one ?_
  have hS := hS.trans hS1
  have hA : ∀ j : Nat, ¬ j = 0 → gi s115 64 j = gi σ 64 j := fun j h => (hA1 j h).trans (hA j h)
  have hf := hf0.to hA
  have hr : gi (bodyL 5 10 (bodyL 4 71 M)) 76 57 = nI 6 := gi_eq
  have hR := hC.1
  refine V_aload_n dA_through_118 rfl ?_
  refine V_getE (x := v) dA_through_119 flA_32 k64 rfl hf.2.2 ?_
  refine V_isub dA_through_122 ?_
  exact V_iret dA_through_123 rfl rfl ⟨rfl, rfl, hC, hS, hA⟩
theorem c_run_6_3_1_3 {l : Launch} {G : GT} {L : Nat → List Cl} {M σ : Hp} (hC : RC L M σ) {num v : Int32} (hf : fA σ 6 num v) (hr : gi M 76 57 = nI 3) (x : Int32) {dp : Nat} (hd : dp < 26) : MM l G mA_run 5 0 0 [.ref 64, .int 3, .int 1, .int x, .int (nI dp)] KA σ (PA L (bodyL 5 10 (bodyL 4 71 (bodyL 3 11 M))) σ (some (.int (((x + num) ^^^ v) - v)))) := by
  have hR := hC.1
  have hC0 := hC
  have hS : Sm σ σ := Sm.rfl
  have hA : ∀ j : Nat, ¬ j = 0 → gi σ 64 j = gi σ 64 j := fun _ _ => rfl
  have hf0 := hf
  refine MM.of (loc := [(0, .ref 64), (1, .int 3), (2, .int 1), (3, .int x), (4, .int (nI dp))]) (by decide +kernel) rfl (Nat.le_of_ble_eq_true rfl) ?_
  refine V_iload dA_run_0 rfl ?_
  refine V_bipush (v := 40) dA_run_2 (by decide) ?_
  refine V_icmp_lt (tgt := 9) dA_run_4 rfl (fun _ => ?_) (fun h => absurd h (not_not_intro (nI_lt (a := dp) (b := 40) (by omega) (by decide))))
  refine V_iload_n dA_run_9 rfl ?_
  refine V_iload_n dA_run_10 rfl ?_
  refine V_callS (as := [.int 3, .int 1]) (rest := []) (bs' := 0) rfl dA_run_11 cmA_bodyFrom stA_bodyFrom mlA_37 rfl rfl c_bf_3_1 (by decide) (Nat.le_refl _) (by decide) (Nat.le_of_ble_eq_true rfl) ?_
  rintro _ _ _ ⟨rfl, rfl, rfl⟩ -
  refine V_one ?_
  refine V_istore (loc' := [(5, .int 11), (0, .ref 64), (1, .int 3), (2, .int 1), (3, .int x), (4, .int (nI dp))]) dA_run_14 (by decide) rfl ?_
  refine V_aload_n dA_run_16 rfl ?_
  refine V_iload dA_run_17 rfl ?_
  refine V_callV (as := [.int 11]) (rest := []) (bs' := 0) rfl dA_run_19 cmA_begin cvA_begin mlA_41 (Or.inl ⟨_, _, _, _, _, rfl, k64, by decide, rfl⟩) rfl rfl (c_begin hC (by decide) hr 11) (by decide) (Nat.le_refl _) (by decide) (Nat.le_of_ble_eq_true rfl) ?_
  rintro _ _ s1 ⟨rfl, rfl, hC, hS1, hA1⟩ -
  refine V_non ?_
  have hS := hS.trans hS1
  have hA : ∀ j : Nat, ¬ j = 0 → gi s1 64 j = gi σ 64 j := fun j h => (hA1 j h).trans (hA j h)
  have hf := hf0.to hA
  have hr : gi (bodyL 3 11 M) 76 57 = nI 4 := gi_eq
  refine V_aload_n dA_run_22 rfl ?_
  refine V_iload dA_run_23 rfl ?_
  refine V_iload_n dA_run_25 rfl ?_
  refine V_iload dA_run_26 rfl ?_
  refine V_iconst (v := 1) dA_run_28 (by decide) ?_
  refine V_iadd dA_run_29 ?_
  refine V_topI (x' := nI (dp + 1)) (nI_1 _) ?_
  refine V_callV (as := [.int 11, .int x, .int (nI (dp + 1))]) (rest := []) (bs' := 0) rfl dA_run_30 cmA_through cvA_through mlA_45 (Or.inl ⟨_, _, _, _, _, rfl, k64, by decide, rfl⟩) rfl rfl (c_thr_6_3_1_3 hC hf hr x (dp := dp + 1) (by omega)) (by decide) (Nat.le_refl _) (by decide) (Nat.le_of_ble_eq_true rfl) ?_
  rintro _ _ s2 ⟨rfl, rfl, hC, hS1, hA1⟩ -
  refine V_one ?_
  have hS := hS.trans hS1
  have hA : ∀ j : Nat, ¬ j = 0 → gi s2 64 j = gi σ 64 j := fun j h => (hA1 j h).trans (hA j h)
  exact V_iret dA_run_33 rfl rfl ⟨rfl, rfl, hC, hS, hA⟩
theorem c_thr_6_3_0_6 {l : Launch} {G : GT} {L : Nat → List Cl} {M σ : Hp} (hC : RC L M σ) {num v : Int32} (hf : fA σ 6 num v) (hr : gi M 76 57 = nI 7) (x : Int32) {dp : Nat} (hd : dp < 31) : MM l G mA_through 0 0 0 [.ref 64, .int 10, .int x, .int (nI dp)] KA σ (PA L M σ (some (.int (x + num)))) := by
  have hR := hC.1
  have hC0 := hC
  have hS : Sm σ σ := Sm.rfl
  have hA : ∀ j : Nat, ¬ j = 0 → gi σ 64 j = gi σ 64 j := fun _ _ => rfl
  have hf0 := hf
  refine MM.of (loc := [(0, .ref 64), (1, .int 10), (2, .int x), (3, .int (nI dp))]) (by decide +kernel) rfl (Nat.le_of_ble_eq_true rfl) ?_
  refine V_iload_n dA_through_0 rfl ?_
  refine V_lsw (tgt := 100) dA_through_1 (by decide) rfl rfl ?_
  refine V_iload_n dA_through_100 rfl ?_
  refine V_aload_n dA_through_101 rfl ?_
  refine V_getE (x := num) dA_through_102 flA_28 k64 rfl hf.2.1 ?_
  refine V_iadd dA_through_105 ?_
  exact V_iret dA_through_106 rfl rfl ⟨rfl, rfl, hC, hS, hA⟩
theorem c_run_6_3_0_6 {l : Launch} {G : GT} {L : Nat → List Cl} {M σ : Hp} (hC : RC L M σ) {num v : Int32} (hf : fA σ 6 num v) (hr : gi M 76 57 = nI 6) (x : Int32) {dp : Nat} (hd : dp < 30) : MM l G mA_run 1 0 0 [.ref 64, .int 3, .int 0, .int x, .int (nI dp)] KA σ (PA L (bodyL 6 10 M) σ (some (.int (x + num)))) := by
  have hR := hC.1
  have hC0 := hC
  have hS : Sm σ σ := Sm.rfl
  have hA : ∀ j : Nat, ¬ j = 0 → gi σ 64 j = gi σ 64 j := fun _ _ => rfl
  have hf0 := hf
  refine MM.of (loc := [(0, .ref 64), (1, .int 3), (2, .int 0), (3, .int x), (4, .int (nI dp))]) (by decide +kernel) rfl (Nat.le_of_ble_eq_true rfl) ?_
  refine V_iload dA_run_0 rfl ?_
  refine V_bipush (v := 40) dA_run_2 (by decide) ?_
  refine V_icmp_lt (tgt := 9) dA_run_4 rfl (fun _ => ?_) (fun h => absurd h (not_not_intro (nI_lt (a := dp) (b := 40) (by omega) (by decide))))
  refine V_iload_n dA_run_9 rfl ?_
  refine V_iload_n dA_run_10 rfl ?_
  refine V_callS (as := [.int 3, .int 0]) (rest := []) (bs' := 0) rfl dA_run_11 cmA_bodyFrom stA_bodyFrom mlA_37 rfl rfl c_bf_3_0 (by decide) (Nat.le_refl _) (by decide) (Nat.le_of_ble_eq_true rfl) ?_
  rintro _ _ _ ⟨rfl, rfl, rfl⟩ -
  refine V_one ?_
  refine V_istore (loc' := [(5, .int 10), (0, .ref 64), (1, .int 3), (2, .int 0), (3, .int x), (4, .int (nI dp))]) dA_run_14 (by decide) rfl ?_
  refine V_aload_n dA_run_16 rfl ?_
  refine V_iload dA_run_17 rfl ?_
  refine V_callV (as := [.int 10]) (rest := []) (bs' := 0) rfl dA_run_19 cmA_begin cvA_begin mlA_41 (Or.inl ⟨_, _, _, _, _, rfl, k64, by decide, rfl⟩) rfl rfl (c_begin hC (by decide) hr 10) (by decide) (Nat.le_refl _) (by decide) (Nat.le_of_ble_eq_true rfl) ?_
  rintro _ _ s1 ⟨rfl, rfl, hC, hS1, hA1⟩ -
  refine V_non ?_
  have hS := hS.trans hS1
  have hA : ∀ j : Nat, ¬ j = 0 → gi s1 64 j = gi σ 64 j := fun j h => (hA1 j h).trans (hA j h)
  have hf := hf0.to hA
  have hr : gi (bodyL 6 10 M) 76 57 = nI 7 := gi_eq
  refine V_aload_n dA_run_22 rfl ?_
  refine V_iload dA_run_23 rfl ?_
  refine V_iload_n dA_run_25 rfl ?_
  refine V_iload dA_run_26 rfl ?_
  refine V_iconst (v := 1) dA_run_28 (by decide) ?_
  refine V_iadd dA_run_29 ?_
  refine V_topI (x' := nI (dp + 1)) (nI_1 _) ?_
  refine V_callV (as := [.int 10, .int x, .int (nI (dp + 1))]) (rest := []) (bs' := 0) rfl dA_run_30 cmA_through cvA_through mlA_45 (Or.inl ⟨_, _, _, _, _, rfl, k64, by decide, rfl⟩) rfl rfl (c_thr_6_3_0_6 hC hf hr x (dp := dp + 1) (by omega)) (by decide) (Nat.le_refl _) (by decide) (Nat.le_of_ble_eq_true rfl) ?_
  rintro _ _ s2 ⟨rfl, rfl, hC, hS1, hA1⟩ -
  refine V_one ?_
  have hS := hS.trans hS1
  have hA : ∀ j : Nat, ¬ j = 0 → gi s2 64 j = gi σ 64 j := fun j h => (hA1 j h).trans (hA j h)
  exact V_iret dA_run_33 rfl rfl ⟨rfl, rfl, hC, hS, hA⟩
theorem c_thr_6_6_1_2 {l : Launch} {G : GT} {L : Nat → List Cl} {M σ : Hp} (hC : RC L M σ) {num v : Int32} (hf : fA σ 6 num v) (hr : gi M 76 57 = nI 3) (x : Int32) {dp : Nat} (hd : dp < 25) : MM l G mA_through 6 0 0 [.ref 64, .int 70, .int x, .int (nI dp)] KA σ (PA L (bodyL 6 10 (bodyL 5 10 (bodyL 4 71 (bodyL 3 11 M)))) σ (some (.int ((((x + num) ^^^ v) - v) + (2 + num))))) := by
  have hR := hC.1
  have hC0 := hC
  have hS : Sm σ σ := Sm.rfl
  have hA : ∀ j : Nat, ¬ j = 0 → gi σ 64 j = gi σ 64 j := fun _ _ => rfl
  have hf0 := hf
  refine MM.of (loc := [(0, .ref 64), (1, .int 70), (2, .int x), (3, .int (nI dp))]) (by decide +kernel) rfl (Nat.le_of_ble_eq_true rfl) ?_
  refine V_iload_n dA_through_0 rfl ?_
  refine V_lsw (tgt := 217) dA_through_1 (by decide) rfl rfl ?_
  refine V_aload_n dA_through_217 rfl ?_
  refine V_iconst (v := 3) dA_through_218 (by decide) ?_
  refine V_iconst (v := 1) dA_through_219 (by decide) ?_
  refine V_iload_n dA_through_220 rfl ?_
  refine V_iload_n dA_through_221 rfl ?_
  refine V_callV (as := [.int 3, .int 1, .int x, .int (nI dp)]) (rest := []) (bs' := 0) rfl dA_through_222 cmA_run cvA_run mlA_33 (Or.inl ⟨_, _, _, _, _, rfl, k64, by decide, rfl⟩) rfl rfl (c_run_6_3_1_3 hC hf hr x (dp := dp) (by omega)) (by decide) (Nat.le_refl _) (by decide) (Nat.le_of_ble_eq_true rfl) ?_
  rintro _ _ s222 ⟨rfl, rfl, hC, hS1, hA1⟩ -
  refine V_one ?_
  have hS := hS.trans hS1
  have hA : ∀ j : Nat, ¬ j = 0 → gi s222 64 j = gi σ 64 j := fun j h => (hA1 j h).trans (hA j h)
  have hf := hf0.to hA
  have hr : gi (bodyL 5 10 (bodyL 4 71 (bodyL 3 11 M))) 76 57 = nI 6 := gi_eq
  have hR := hC.1
  refine V_aload_n dA_through_225 rfl ?_
  refine V_iconst (v := 3) dA_through_226 (by decide) ?_
  refine V_iconst (v := 0) dA_through_227 (by decide) ?_
  refine V_iconst (v := 2) dA_through_228 (by decide) ?_
  refine V_iload_n dA_through_229 rfl ?_
  refine V_callV (as := [.int 3, .int 0, .int 2, .int (nI dp)]) (rest := [.int (((x + num) ^^^ v) - v)]) (bs' := 0) rfl dA_through_230 cmA_run cvA_run mlA_33 (Or.inl ⟨_, _, _, _, _, rfl, k64, by decide, rfl⟩) rfl rfl (c_run_6_3_0_6 hC hf hr 2 (dp := dp) (by omega)) (by decide) (Nat.le_refl _) (by decide) (Nat.le_of_ble_eq_true rfl) ?_
  rintro _ _ s230 ⟨rfl, rfl, hC, hS1, hA1⟩ -
  refine V_one ?_
  have hS := hS.trans hS1
  have hA : ∀ j : Nat, ¬ j = 0 → gi s230 64 j = gi σ 64 j := fun j h => (hA1 j h).trans (hA j h)
  have hf := hf0.to hA
  have hr : gi (bodyL 6 10 (bodyL 5 10 (bodyL 4 71 (bodyL 3 11 M)))) 76 57 = nI 7 := gi_eq
  have hR := hC.1
  refine V_iadd dA_through_233 ?_
  exact V_iret dA_through_234 rfl rfl ⟨rfl, rfl, hC, hS, hA⟩
theorem c_run_6_6_1_2 {l : Launch} {G : GT} {L : Nat → List Cl} {M σ : Hp} (hC : RC L M σ) {num v : Int32} (hf : fA σ 6 num v) (hr : gi M 76 57 = nI 2) (x : Int32) {dp : Nat} (hd : dp < 24) : MM l G mA_run 7 0 0 [.ref 64, .int 6, .int 1, .int x, .int (nI dp)] KA σ (PA L (bodyL 6 10 (bodyL 5 10 (bodyL 4 71 (bodyL 3 11 (bodyL 2 70 M))))) σ (some (.int ((((x + num) ^^^ v) - v) + (2 + num))))) := by
  have hR := hC.1
  have hC0 := hC
  have hS : Sm σ σ := Sm.rfl
  have hA : ∀ j : Nat, ¬ j = 0 → gi σ 64 j = gi σ 64 j := fun _ _ => rfl
  have hf0 := hf
  refine MM.of (loc := [(0, .ref 64), (1, .int 6), (2, .int 1), (3, .int x), (4, .int (nI dp))]) (by decide +kernel) rfl (Nat.le_of_ble_eq_true rfl) ?_
  refine V_iload dA_run_0 rfl ?_
  refine V_bipush (v := 40) dA_run_2 (by decide) ?_
  refine V_icmp_lt (tgt := 9) dA_run_4 rfl (fun _ => ?_) (fun h => absurd h (not_not_intro (nI_lt (a := dp) (b := 40) (by omega) (by decide))))
  refine V_iload_n dA_run_9 rfl ?_
  refine V_iload_n dA_run_10 rfl ?_
  refine V_callS (as := [.int 6, .int 1]) (rest := []) (bs' := 0) rfl dA_run_11 cmA_bodyFrom stA_bodyFrom mlA_37 rfl rfl c_bf_6_1 (by decide) (Nat.le_refl _) (by decide) (Nat.le_of_ble_eq_true rfl) ?_
  rintro _ _ _ ⟨rfl, rfl, rfl⟩ -
  refine V_one ?_
  refine V_istore (loc' := [(5, .int 70), (0, .ref 64), (1, .int 6), (2, .int 1), (3, .int x), (4, .int (nI dp))]) dA_run_14 (by decide) rfl ?_
  refine V_aload_n dA_run_16 rfl ?_
  refine V_iload dA_run_17 rfl ?_
  refine V_callV (as := [.int 70]) (rest := []) (bs' := 0) rfl dA_run_19 cmA_begin cvA_begin mlA_41 (Or.inl ⟨_, _, _, _, _, rfl, k64, by decide, rfl⟩) rfl rfl (c_begin hC (by decide) hr 70) (by decide) (Nat.le_refl _) (by decide) (Nat.le_of_ble_eq_true rfl) ?_
  rintro _ _ s1 ⟨rfl, rfl, hC, hS1, hA1⟩ -
  refine V_non ?_
  have hS := hS.trans hS1
  have hA : ∀ j : Nat, ¬ j = 0 → gi s1 64 j = gi σ 64 j := fun j h => (hA1 j h).trans (hA j h)
  have hf := hf0.to hA
  have hr : gi (bodyL 2 70 M) 76 57 = nI 3 := gi_eq
  refine V_aload_n dA_run_22 rfl ?_
  refine V_iload dA_run_23 rfl ?_
  refine V_iload_n dA_run_25 rfl ?_
  refine V_iload dA_run_26 rfl ?_
  refine V_iconst (v := 1) dA_run_28 (by decide) ?_
  refine V_iadd dA_run_29 ?_
  refine V_topI (x' := nI (dp + 1)) (nI_1 _) ?_
  refine V_callV (as := [.int 70, .int x, .int (nI (dp + 1))]) (rest := []) (bs' := 0) rfl dA_run_30 cmA_through cvA_through mlA_45 (Or.inl ⟨_, _, _, _, _, rfl, k64, by decide, rfl⟩) rfl rfl (c_thr_6_6_1_2 hC hf hr x (dp := dp + 1) (by omega)) (by decide) (Nat.le_refl _) (by decide) (Nat.le_of_ble_eq_true rfl) ?_
  rintro _ _ s2 ⟨rfl, rfl, hC, hS1, hA1⟩ -
  refine V_one ?_
  have hS := hS.trans hS1
  have hA : ∀ j : Nat, ¬ j = 0 → gi s2 64 j = gi σ 64 j := fun j h => (hA1 j h).trans (hA j h)
  exact V_iret dA_run_33 rfl rfl ⟨rfl, rfl, hC, hS, hA⟩
theorem c_thr_6_0_2_1 {l : Launch} {G : GT} {L : Nat → List Cl} {M σ : Hp} (hC : RC L M σ) {num v : Int32} (hf : fA σ 6 num v) (hr : gi M 76 57 = nI 2) (x : Int32) {dp : Nat} (hd : dp < 23) : MM l G mA_through 8 0 0 [.ref 64, .int 12, .int x, .int (nI dp)] KA σ (PA L (bodyL 6 10 (bodyL 5 10 (bodyL 4 71 (bodyL 3 11 (bodyL 2 70 M))))) σ (some (.int (((((x + num) ^^^ v) - v) + (2 + num)) * 2)))) := by
  have hR := hC.1
  have hC0 := hC
  have hS : Sm σ σ := Sm.rfl
  have hA : ∀ j : Nat, ¬ j = 0 → gi σ 64 j = gi σ 64 j := fun _ _ => rfl
  have hf0 := hf
  refine MM.of (loc := [(0, .ref 64), (1, .int 12), (2, .int x), (3, .int (nI dp))]) (by decide +kernel) rfl (Nat.le_of_ble_eq_true rfl) ?_
  refine V_iload_n dA_through_0 rfl ?_
  refine V_lsw (tgt := 124) dA_through_1 (by decide) rfl rfl ?_
  refine V_aload_n dA_through_124 rfl ?_
  refine V_aload_n dA_through_125 rfl ?_
  refine V_getE (x := 6) dA_through_126 flA_24 k64 rfl hf.1 ?_
  refine V_iconst (v := 1) dA_through_129 (by decide) ?_
  refine V_iload_n dA_through_130 rfl ?_
  refine V_iload_n dA_through_131 rfl ?_
  refine V_callV (as := [.int 6, .int 1, .int x, .int (nI dp)]) (rest := []) (bs' := 0) rfl dA_through_132 cmA_run cvA_run mlA_33 (Or.inl ⟨_, _, _, _, _, rfl, k64, by decide, rfl⟩) rfl rfl (c_run_6_6_1_2 hC hf hr x (dp := dp) (by omega)) (by decide) (Nat.le_refl _) (by decide) (Nat.le_of_ble_eq_true rfl) ?_
  rintro _ _ s132 ⟨rfl, rfl, hC, hS1, hA1⟩ -
  refine V_one ?_
  have hS := hS.trans hS1
  have hA : ∀ j : Nat, ¬ j = 0 → gi s132 64 j = gi σ 64 j := fun j h => (hA1 j h).trans (hA j h)
  have hf := hf0.to hA
  have hr : gi (bodyL 6 10 (bodyL 5 10 (bodyL 4 71 (bodyL 3 11 (bodyL 2 70 M))))) 76 57 = nI 7 := gi_eq
  have hR := hC.1
  refine V_iconst (v := 2) dA_through_135 (by decide) ?_
  refine V_imul dA_through_136 ?_
  exact V_iret dA_through_137 rfl rfl ⟨rfl, rfl, hC, hS, hA⟩
theorem c_run_6_0_2_1 {l : Launch} {G : GT} {L : Nat → List Cl} {M σ : Hp} (hC : RC L M σ) {num v : Int32} (hf : fA σ 6 num v) (hr : gi M 76 57 = nI 1) (x : Int32) {dp : Nat} (hd : dp < 22) : MM l G mA_run 9 0 0 [.ref 64, .int 0, .int 2, .int x, .int (nI dp)] KA σ (PA L (bodyL 6 10 (bodyL 5 10 (bodyL 4 71 (bodyL 3 11 (bodyL 2 70 (bodyL 1 12 M)))))) σ (some (.int (((((x + num) ^^^ v) - v) + (2 + num)) * 2)))) := by
  have hR := hC.1
  have hC0 := hC
  have hS : Sm σ σ := Sm.rfl
  have hA : ∀ j : Nat, ¬ j = 0 → gi σ 64 j = gi σ 64 j := fun _ _ => rfl
  have hf0 := hf
  refine MM.of (loc := [(0, .ref 64), (1, .int 0), (2, .int 2), (3, .int x), (4, .int (nI dp))]) (by decide +kernel) rfl (Nat.le_of_ble_eq_true rfl) ?_
  refine V_iload dA_run_0 rfl ?_
  refine V_bipush (v := 40) dA_run_2 (by decide) ?_
  refine V_icmp_lt (tgt := 9) dA_run_4 rfl (fun _ => ?_) (fun h => absurd h (not_not_intro (nI_lt (a := dp) (b := 40) (by omega) (by decide))))
  refine V_iload_n dA_run_9 rfl ?_
  refine V_iload_n dA_run_10 rfl ?_
  refine V_callS (as := [.int 0, .int 2]) (rest := []) (bs' := 0) rfl dA_run_11 cmA_bodyFrom stA_bodyFrom mlA_37 rfl rfl c_bf_0_2 (by decide) (Nat.le_refl _) (by decide) (Nat.le_of_ble_eq_true rfl) ?_
  rintro _ _ _ ⟨rfl, rfl, rfl⟩ -
  refine V_one ?_
  refine V_istore (loc' := [(5, .int 12), (0, .ref 64), (1, .int 0), (2, .int 2), (3, .int x), (4, .int (nI dp))]) dA_run_14 (by decide) rfl ?_
  refine V_aload_n dA_run_16 rfl ?_
  refine V_iload dA_run_17 rfl ?_
  refine V_callV (as := [.int 12]) (rest := []) (bs' := 0) rfl dA_run_19 cmA_begin cvA_begin mlA_41 (Or.inl ⟨_, _, _, _, _, rfl, k64, by decide, rfl⟩) rfl rfl (c_begin hC (by decide) hr 12) (by decide) (Nat.le_refl _) (by decide) (Nat.le_of_ble_eq_true rfl) ?_
  rintro _ _ s1 ⟨rfl, rfl, hC, hS1, hA1⟩ -
  refine V_non ?_
  have hS := hS.trans hS1
  have hA : ∀ j : Nat, ¬ j = 0 → gi s1 64 j = gi σ 64 j := fun j h => (hA1 j h).trans (hA j h)
  have hf := hf0.to hA
  have hr : gi (bodyL 1 12 M) 76 57 = nI 2 := gi_eq
  refine V_aload_n dA_run_22 rfl ?_
  refine V_iload dA_run_23 rfl ?_
  refine V_iload_n dA_run_25 rfl ?_
  refine V_iload dA_run_26 rfl ?_
  refine V_iconst (v := 1) dA_run_28 (by decide) ?_
  refine V_iadd dA_run_29 ?_
  refine V_topI (x' := nI (dp + 1)) (nI_1 _) ?_
  refine V_callV (as := [.int 12, .int x, .int (nI (dp + 1))]) (rest := []) (bs' := 0) rfl dA_run_30 cmA_through cvA_through mlA_45 (Or.inl ⟨_, _, _, _, _, rfl, k64, by decide, rfl⟩) rfl rfl (c_thr_6_0_2_1 hC hf hr x (dp := dp + 1) (by omega)) (by decide) (Nat.le_refl _) (by decide) (Nat.le_of_ble_eq_true rfl) ?_
  rintro _ _ s2 ⟨rfl, rfl, hC, hS1, hA1⟩ -
  refine V_one ?_
  have hS := hS.trans hS1
  have hA : ∀ j : Nat, ¬ j = 0 → gi s2 64 j = gi σ 64 j := fun j h => (hA1 j h).trans (hA j h)
  exact V_iret dA_run_33 rfl rfl ⟨rfl, rfl, hC, hS, hA⟩
theorem c_thr_6_3_0_10 {l : Launch} {G : GT} {L : Nat → List Cl} {M σ : Hp} (hC : RC L M σ) {num v : Int32} (hf : fA σ 6 num v) (hr : gi M 76 57 = nI 11) (x : Int32) {dp : Nat} (hd : dp < 31) : MM l G mA_through 0 0 0 [.ref 64, .int 10, .int x, .int (nI dp)] KA σ (PA L M σ (some (.int (x + num)))) := by
  have hR := hC.1
  have hC0 := hC
  have hS : Sm σ σ := Sm.rfl
  have hA : ∀ j : Nat, ¬ j = 0 → gi σ 64 j = gi σ 64 j := fun _ _ => rfl
  have hf0 := hf
  refine MM.of (loc := [(0, .ref 64), (1, .int 10), (2, .int x), (3, .int (nI dp))]) (by decide +kernel) rfl (Nat.le_of_ble_eq_true rfl) ?_
  refine V_iload_n dA_through_0 rfl ?_
  refine V_lsw (tgt := 100) dA_through_1 (by decide) rfl rfl ?_
  refine V_iload_n dA_through_100 rfl ?_
  refine V_aload_n dA_through_101 rfl ?_
  refine V_getE (x := num) dA_through_102 flA_28 k64 rfl hf.2.1 ?_
  refine V_iadd dA_through_105 ?_
  exact V_iret dA_through_106 rfl rfl ⟨rfl, rfl, hC, hS, hA⟩
theorem c_run_6_3_0_10 {l : Launch} {G : GT} {L : Nat → List Cl} {M σ : Hp} (hC : RC L M σ) {num v : Int32} (hf : fA σ 6 num v) (hr : gi M 76 57 = nI 10) (x : Int32) {dp : Nat} (hd : dp < 30) : MM l G mA_run 1 0 0 [.ref 64, .int 3, .int 0, .int x, .int (nI dp)] KA σ (PA L (bodyL 10 10 M) σ (some (.int (x + num)))) := by
  have hR := hC.1
  have hC0 := hC
  have hS : Sm σ σ := Sm.rfl
  have hA : ∀ j : Nat, ¬ j = 0 → gi σ 64 j = gi σ 64 j := fun _ _ => rfl
  have hf0 := hf
  refine MM.of (loc := [(0, .ref 64), (1, .int 3), (2, .int 0), (3, .int x), (4, .int (nI dp))]) (by decide +kernel) rfl (Nat.le_of_ble_eq_true rfl) ?_
  refine V_iload dA_run_0 rfl ?_
  refine V_bipush (v := 40) dA_run_2 (by decide) ?_
  refine V_icmp_lt (tgt := 9) dA_run_4 rfl (fun _ => ?_) (fun h => absurd h (not_not_intro (nI_lt (a := dp) (b := 40) (by omega) (by decide))))
  refine V_iload_n dA_run_9 rfl ?_
  refine V_iload_n dA_run_10 rfl ?_
  refine V_callS (as := [.int 3, .int 0]) (rest := []) (bs' := 0) rfl dA_run_11 cmA_bodyFrom stA_bodyFrom mlA_37 rfl rfl c_bf_3_0 (by decide) (Nat.le_refl _) (by decide) (Nat.le_of_ble_eq_true rfl) ?_
  rintro _ _ _ ⟨rfl, rfl, rfl⟩ -
  refine V_one ?_
  refine V_istore (loc' := [(5, .int 10), (0, .ref 64), (1, .int 3), (2, .int 0), (3, .int x), (4, .int (nI dp))]) dA_run_14 (by decide) rfl ?_
  refine V_aload_n dA_run_16 rfl ?_
  refine V_iload dA_run_17 rfl ?_
  refine V_callV (as := [.int 10]) (rest := []) (bs' := 0) rfl dA_run_19 cmA_begin cvA_begin mlA_41 (Or.inl ⟨_, _, _, _, _, rfl, k64, by decide, rfl⟩) rfl rfl (c_begin hC (by decide) hr 10) (by decide) (Nat.le_refl _) (by decide) (Nat.le_of_ble_eq_true rfl) ?_
  rintro _ _ s1 ⟨rfl, rfl, hC, hS1, hA1⟩ -
  refine V_non ?_
  have hS := hS.trans hS1
  have hA : ∀ j : Nat, ¬ j = 0 → gi s1 64 j = gi σ 64 j := fun j h => (hA1 j h).trans (hA j h)
  have hf := hf0.to hA
  have hr : gi (bodyL 10 10 M) 76 57 = nI 11 := gi_eq
  refine V_aload_n dA_run_22 rfl ?_
  refine V_iload dA_run_23 rfl ?_
  refine V_iload_n dA_run_25 rfl ?_
  refine V_iload dA_run_26 rfl ?_
  refine V_iconst (v := 1) dA_run_28 (by decide) ?_
  refine V_iadd dA_run_29 ?_
  refine V_topI (x' := nI (dp + 1)) (nI_1 _) ?_
  refine V_callV (as := [.int 10, .int x, .int (nI (dp + 1))]) (rest := []) (bs' := 0) rfl dA_run_30 cmA_through cvA_through mlA_45 (Or.inl ⟨_, _, _, _, _, rfl, k64, by decide, rfl⟩) rfl rfl (c_thr_6_3_0_10 hC hf hr x (dp := dp + 1) (by omega)) (by decide) (Nat.le_refl _) (by decide) (Nat.le_of_ble_eq_true rfl) ?_
  rintro _ _ s2 ⟨rfl, rfl, hC, hS1, hA1⟩ -
  refine V_one ?_
  have hS := hS.trans hS1
  have hA : ∀ j : Nat, ¬ j = 0 → gi s2 64 j = gi σ 64 j := fun j h => (hA1 j h).trans (hA j h)
  exact V_iret dA_run_33 rfl rfl ⟨rfl, rfl, hC, hS, hA⟩
theorem c_thr_6_6_0_9 {l : Launch} {G : GT} {L : Nat → List Cl} {M σ : Hp} (hC : RC L M σ) {num v : Int32} (hf : fA σ 6 num v) (hr : gi M 76 57 = nI 10) (x : Int32) {dp : Nat} (hd : dp < 29) : MM l G mA_through 2 0 0 [.ref 64, .int 71, .int x, .int (nI dp)] KA σ (PA L (bodyL 10 10 M) σ (some (.int ((x + num) ^^^ v)))) := by
  have hR := hC.1
  have hC0 := hC
  have hS : Sm σ σ := Sm.rfl
  have hA : ∀ j : Nat, ¬ j = 0 → gi σ 64 j = gi σ 64 j := fun _ _ => rfl
  have hf0 := hf
  refine MM.of (loc := [(0, .ref 64), (1, .int 71), (2, .int x), (3, .int (nI dp))]) (by decide +kernel) rfl (Nat.le_of_ble_eq_true rfl) ?_
  refine V_iload_n dA_through_0 rfl ?_
  refine V_lsw (tgt := 235) dA_through_1 (by decide) rfl rfl ?_
  refine V_aload_n dA_through_235 rfl ?_
  refine V_iconst (v := 3) dA_through_236 (by decide) ?_
  refine V_iconst (v := 0) dA_through_237 (by decide) ?_
  refine V_iload_n dA_through_238 rfl ?_
  refine V_iload_n dA_through_239 rfl ?_
  refine V_callV (as := [.int 3, .int 0, .int x, .int (nI dp)]) (rest := []) (bs' := 0) rfl dA_through_240 cmA_run cvA_run mlA_33 (Or.inl ⟨_, _, _, _, _, rfl, k64, by decide, rfl⟩) rfl rfl (c_run_6_3_0_10 hC hf hr x (dp := dp) (by omega)) (by decide) (Nat.le_refl _) (by decide) (Nat.le_of_ble_eq_true rfl) ?_
  rintro _ _ s240 ⟨rfl, rfl, hC, hS1, hA1⟩ -
  refine V_one ?_
  have hS := hS.trans hS1
  have hA : ∀ j : Nat, ¬ j = 0 → gi s240 64 j = gi σ 64 j := fun j h => (hA1 j h).trans (hA j h)
  have hf := hf0.to hA
  have hr : gi (bodyL 10 10 M) 76 57 = nI 11 := gi_eq
  have hR := hC.1
  refine V_aload_n dA_through_243 rfl ?_
  refine V_getE (x := v) dA_through_244 flA_32 k64 rfl hf.2.2 ?_
  refine V_ixor dA_through_247 ?_
  exact V_iret dA_through_248 rfl rfl ⟨rfl, rfl, hC, hS, hA⟩
theorem c_run_6_6_0_9 {l : Launch} {G : GT} {L : Nat → List Cl} {M σ : Hp} (hC : RC L M σ) {num v : Int32} (hf : fA σ 6 num v) (hr : gi M 76 57 = nI 9) (x : Int32) {dp : Nat} (hd : dp < 28) : MM l G mA_run 3 0 0 [.ref 64, .int 6, .int 0, .int x, .int (nI dp)] KA σ (PA L (bodyL 10 10 (bodyL 9 71 M)) σ (some (.int ((x + num) ^^^ v)))) := by
  have hR := hC.1
  have hC0 := hC
  have hS : Sm σ σ := Sm.rfl
  have hA : ∀ j : Nat, ¬ j = 0 → gi σ 64 j = gi σ 64 j := fun _ _ => rfl
  have hf0 := hf
  refine MM.of (loc := [(0, .ref 64), (1, .int 6), (2, .int 0), (3, .int x), (4, .int (nI dp))]) (by decide +kernel) rfl (Nat.le_of_ble_eq_true rfl) ?_
  refine V_iload dA_run_0 rfl ?_
  refine V_bipush (v := 40) dA_run_2 (by decide) ?_
  refine V_icmp_lt (tgt := 9) dA_run_4 rfl (fun _ => ?_) (fun h => absurd h (not_not_intro (nI_lt (a := dp) (b := 40) (by omega) (by decide))))
  refine V_iload_n dA_run_9 rfl ?_
  refine V_iload_n dA_run_10 rfl ?_
  refine V_callS (as := [.int 6, .int 0]) (rest := []) (bs' := 0) rfl dA_run_11 cmA_bodyFrom stA_bodyFrom mlA_37 rfl rfl c_bf_6_0 (by decide) (Nat.le_refl _) (by decide) (Nat.le_of_ble_eq_true rfl) ?_
  rintro _ _ _ ⟨rfl, rfl, rfl⟩ -
  refine V_one ?_
  refine V_istore (loc' := [(5, .int 71), (0, .ref 64), (1, .int 6), (2, .int 0), (3, .int x), (4, .int (nI dp))]) dA_run_14 (by decide) rfl ?_
  refine V_aload_n dA_run_16 rfl ?_
  refine V_iload dA_run_17 rfl ?_
  refine V_callV (as := [.int 71]) (rest := []) (bs' := 0) rfl dA_run_19 cmA_begin cvA_begin mlA_41 (Or.inl ⟨_, _, _, _, _, rfl, k64, by decide, rfl⟩) rfl rfl (c_begin hC (by decide) hr 71) (by decide) (Nat.le_refl _) (by decide) (Nat.le_of_ble_eq_true rfl) ?_
  rintro _ _ s1 ⟨rfl, rfl, hC, hS1, hA1⟩ -
  refine V_non ?_
  have hS := hS.trans hS1
  have hA : ∀ j : Nat, ¬ j = 0 → gi s1 64 j = gi σ 64 j := fun j h => (hA1 j h).trans (hA j h)
  have hf := hf0.to hA
  have hr : gi (bodyL 9 71 M) 76 57 = nI 10 := gi_eq
  refine V_aload_n dA_run_22 rfl ?_
  refine V_iload dA_run_23 rfl ?_
  refine V_iload_n dA_run_25 rfl ?_
  refine V_iload dA_run_26 rfl ?_
  refine V_iconst (v := 1) dA_run_28 (by decide) ?_
  refine V_iadd dA_run_29 ?_
  refine V_topI (x' := nI (dp + 1)) (nI_1 _) ?_
  refine V_callV (as := [.int 71, .int x, .int (nI (dp + 1))]) (rest := []) (bs' := 0) rfl dA_run_30 cmA_through cvA_through mlA_45 (Or.inl ⟨_, _, _, _, _, rfl, k64, by decide, rfl⟩) rfl rfl (c_thr_6_6_0_9 hC hf hr x (dp := dp + 1) (by omega)) (by decide) (Nat.le_refl _) (by decide) (Nat.le_of_ble_eq_true rfl) ?_
  rintro _ _ s2 ⟨rfl, rfl, hC, hS1, hA1⟩ -
  refine V_one ?_
  have hS := hS.trans hS1
  have hA : ∀ j : Nat, ¬ j = 0 → gi s2 64 j = gi σ 64 j := fun j h => (hA1 j h).trans (hA j h)
  exact V_iret dA_run_33 rfl rfl ⟨rfl, rfl, hC, hS, hA⟩
theorem c_thr_6_3_1_8 {l : Launch} {G : GT} {L : Nat → List Cl} {M σ : Hp} (hC : RC L M σ) {num v : Int32} (hf : fA σ 6 num v) (hr : gi M 76 57 = nI 9) (x : Int32) {dp : Nat} (hd : dp < 27) : MM l G mA_through 4 0 0 [.ref 64, .int 11, .int x, .int (nI dp)] KA σ (PA L (bodyL 10 10 (bodyL 9 71 M)) σ (some (.int (((x + num) ^^^ v) - v)))) := by
  have hR := hC.1
  have hC0 := hC
  have hS : Sm σ σ := Sm.rfl
  have hA : ∀ j : Nat, ¬ j = 0 → gi σ 64 j = gi σ 64 j := fun _ _ => rfl
  have hf0 := hf
  refine MM.of (loc := [(0, .ref 64), (1, .int 11), (2, .int x), (3, .int (nI dp))]) (by decide +kernel) rfl (Nat.le_of_ble_eq_true rfl) ?_
  refine V_iload_n dA_through_0 rfl ?_
  refine V_lsw (tgt := 107) dA_through_1 (by decide) rfl rfl ?_
  refine V_aload_n dA_through_107 rfl ?_
  refine V_aload_n dA_through_108 rfl ?_
  refine V_getE (x := 6) dA_through_109 flA_24 k64 rfl hf.1 ?_
  refine V_iconst (v := 0) dA_through_112 (by decide) ?_
  refine V_iload_n dA_through_113 rfl ?_
  refine V_iload_n dA_through_114 rfl ?_
  refine V_callV (as := [.int 6, .int 0, .int x, .int (nI dp)]) (rest := []) (bs' := 0) rfl dA_through_115 cmA_run cvA_run mlA_33 (Or.inl ⟨_, _, _, _, _, rfl, k64, by decide, rfl⟩) rfl rfl (c_run_6_6_0_9 hC hf hr x (dp := dp) (by omega)) (by decide) (Nat.le_refl _) (by decide) (Nat.le_of_ble_eq_true rfl) ?_
  rintro _ _ s115 ⟨rfl, rfl, hC, hS1, hA1⟩ -
  refine V_one ?_
  have hS := hS.trans hS1
  have hA : ∀ j : Nat, ¬ j = 0 → gi s115 64 j = gi σ 64 j := fun j h => (hA1 j h).trans (hA j h)
  have hf := hf0.to hA
  have hr : gi (bodyL 10 10 (bodyL 9 71 M)) 76 57 = nI 11 := gi_eq
  have hR := hC.1
  refine V_aload_n dA_through_118 rfl ?_
  refine V_getE (x := v) dA_through_119 flA_32 k64 rfl hf.2.2 ?_
  refine V_isub dA_through_122 ?_
  exact V_iret dA_through_123 rfl rfl ⟨rfl, rfl, hC, hS, hA⟩
theorem c_run_6_3_1_8 {l : Launch} {G : GT} {L : Nat → List Cl} {M σ : Hp} (hC : RC L M σ) {num v : Int32} (hf : fA σ 6 num v) (hr : gi M 76 57 = nI 8) (x : Int32) {dp : Nat} (hd : dp < 26) : MM l G mA_run 5 0 0 [.ref 64, .int 3, .int 1, .int x, .int (nI dp)] KA σ (PA L (bodyL 10 10 (bodyL 9 71 (bodyL 8 11 M))) σ (some (.int (((x + num) ^^^ v) - v)))) := by
  have hR := hC.1
  have hC0 := hC
  have hS : Sm σ σ := Sm.rfl
  have hA : ∀ j : Nat, ¬ j = 0 → gi σ 64 j = gi σ 64 j := fun _ _ => rfl
  have hf0 := hf
  refine MM.of (loc := [(0, .ref 64), (1, .int 3), (2, .int 1), (3, .int x), (4, .int (nI dp))]) (by decide +kernel) rfl (Nat.le_of_ble_eq_true rfl) ?_
  refine V_iload dA_run_0 rfl ?_
  refine V_bipush (v := 40) dA_run_2 (by decide) ?_
  refine V_icmp_lt (tgt := 9) dA_run_4 rfl (fun _ => ?_) (fun h => absurd h (not_not_intro (nI_lt (a := dp) (b := 40) (by omega) (by decide))))
  refine V_iload_n dA_run_9 rfl ?_
  refine V_iload_n dA_run_10 rfl ?_
  refine V_callS (as := [.int 3, .int 1]) (rest := []) (bs' := 0) rfl dA_run_11 cmA_bodyFrom stA_bodyFrom mlA_37 rfl rfl c_bf_3_1 (by decide) (Nat.le_refl _) (by decide) (Nat.le_of_ble_eq_true rfl) ?_
  rintro _ _ _ ⟨rfl, rfl, rfl⟩ -
  refine V_one ?_
  refine V_istore (loc' := [(5, .int 11), (0, .ref 64), (1, .int 3), (2, .int 1), (3, .int x), (4, .int (nI dp))]) dA_run_14 (by decide) rfl ?_
  refine V_aload_n dA_run_16 rfl ?_
  refine V_iload dA_run_17 rfl ?_
  refine V_callV (as := [.int 11]) (rest := []) (bs' := 0) rfl dA_run_19 cmA_begin cvA_begin mlA_41 (Or.inl ⟨_, _, _, _, _, rfl, k64, by decide, rfl⟩) rfl rfl (c_begin hC (by decide) hr 11) (by decide) (Nat.le_refl _) (by decide) (Nat.le_of_ble_eq_true rfl) ?_
  rintro _ _ s1 ⟨rfl, rfl, hC, hS1, hA1⟩ -
  refine V_non ?_
  have hS := hS.trans hS1
  have hA : ∀ j : Nat, ¬ j = 0 → gi s1 64 j = gi σ 64 j := fun j h => (hA1 j h).trans (hA j h)
  have hf := hf0.to hA
  have hr : gi (bodyL 8 11 M) 76 57 = nI 9 := gi_eq
  refine V_aload_n dA_run_22 rfl ?_
  refine V_iload dA_run_23 rfl ?_
  refine V_iload_n dA_run_25 rfl ?_
  refine V_iload dA_run_26 rfl ?_
  refine V_iconst (v := 1) dA_run_28 (by decide) ?_
  refine V_iadd dA_run_29 ?_
  refine V_topI (x' := nI (dp + 1)) (nI_1 _) ?_
  refine V_callV (as := [.int 11, .int x, .int (nI (dp + 1))]) (rest := []) (bs' := 0) rfl dA_run_30 cmA_through cvA_through mlA_45 (Or.inl ⟨_, _, _, _, _, rfl, k64, by decide, rfl⟩) rfl rfl (c_thr_6_3_1_8 hC hf hr x (dp := dp + 1) (by omega)) (by decide) (Nat.le_refl _) (by decide) (Nat.le_of_ble_eq_true rfl) ?_
  rintro _ _ s2 ⟨rfl, rfl, hC, hS1, hA1⟩ -
  refine V_one ?_
  have hS := hS.trans hS1
  have hA : ∀ j : Nat, ¬ j = 0 → gi s2 64 j = gi σ 64 j := fun j h => (hA1 j h).trans (hA j h)
  exact V_iret dA_run_33 rfl rfl ⟨rfl, rfl, hC, hS, hA⟩
theorem c_thr_6_3_0_11 {l : Launch} {G : GT} {L : Nat → List Cl} {M σ : Hp} (hC : RC L M σ) {num v : Int32} (hf : fA σ 6 num v) (hr : gi M 76 57 = nI 12) (x : Int32) {dp : Nat} (hd : dp < 31) : MM l G mA_through 0 0 0 [.ref 64, .int 10, .int x, .int (nI dp)] KA σ (PA L M σ (some (.int (x + num)))) := by
  have hR := hC.1
  have hC0 := hC
  have hS : Sm σ σ := Sm.rfl
  have hA : ∀ j : Nat, ¬ j = 0 → gi σ 64 j = gi σ 64 j := fun _ _ => rfl
  have hf0 := hf
  refine MM.of (loc := [(0, .ref 64), (1, .int 10), (2, .int x), (3, .int (nI dp))]) (by decide +kernel) rfl (Nat.le_of_ble_eq_true rfl) ?_
  refine V_iload_n dA_through_0 rfl ?_
  refine V_lsw (tgt := 100) dA_through_1 (by decide) rfl rfl ?_
  refine V_iload_n dA_through_100 rfl ?_
  refine V_aload_n dA_through_101 rfl ?_
  refine V_getE (x := num) dA_through_102 flA_28 k64 rfl hf.2.1 ?_
  refine V_iadd dA_through_105 ?_
  exact V_iret dA_through_106 rfl rfl ⟨rfl, rfl, hC, hS, hA⟩
theorem c_run_6_3_0_11 {l : Launch} {G : GT} {L : Nat → List Cl} {M σ : Hp} (hC : RC L M σ) {num v : Int32} (hf : fA σ 6 num v) (hr : gi M 76 57 = nI 11) (x : Int32) {dp : Nat} (hd : dp < 30) : MM l G mA_run 1 0 0 [.ref 64, .int 3, .int 0, .int x, .int (nI dp)] KA σ (PA L (bodyL 11 10 M) σ (some (.int (x + num)))) := by
  have hR := hC.1
  have hC0 := hC
  have hS : Sm σ σ := Sm.rfl
  have hA : ∀ j : Nat, ¬ j = 0 → gi σ 64 j = gi σ 64 j := fun _ _ => rfl
  have hf0 := hf
  refine MM.of (loc := [(0, .ref 64), (1, .int 3), (2, .int 0), (3, .int x), (4, .int (nI dp))]) (by decide +kernel) rfl (Nat.le_of_ble_eq_true rfl) ?_
  refine V_iload dA_run_0 rfl ?_
  refine V_bipush (v := 40) dA_run_2 (by decide) ?_
  refine V_icmp_lt (tgt := 9) dA_run_4 rfl (fun _ => ?_) (fun h => absurd h (not_not_intro (nI_lt (a := dp) (b := 40) (by omega) (by decide))))
  refine V_iload_n dA_run_9 rfl ?_
  refine V_iload_n dA_run_10 rfl ?_
  refine V_callS (as := [.int 3, .int 0]) (rest := []) (bs' := 0) rfl dA_run_11 cmA_bodyFrom stA_bodyFrom mlA_37 rfl rfl c_bf_3_0 (by decide) (Nat.le_refl _) (by decide) (Nat.le_of_ble_eq_true rfl) ?_
  rintro _ _ _ ⟨rfl, rfl, rfl⟩ -
  refine V_one ?_
  refine V_istore (loc' := [(5, .int 10), (0, .ref 64), (1, .int 3), (2, .int 0), (3, .int x), (4, .int (nI dp))]) dA_run_14 (by decide) rfl ?_
  refine V_aload_n dA_run_16 rfl ?_
  refine V_iload dA_run_17 rfl ?_
  refine V_callV (as := [.int 10]) (rest := []) (bs' := 0) rfl dA_run_19 cmA_begin cvA_begin mlA_41 (Or.inl ⟨_, _, _, _, _, rfl, k64, by decide, rfl⟩) rfl rfl (c_begin hC (by decide) hr 10) (by decide) (Nat.le_refl _) (by decide) (Nat.le_of_ble_eq_true rfl) ?_
  rintro _ _ s1 ⟨rfl, rfl, hC, hS1, hA1⟩ -
  refine V_non ?_
  have hS := hS.trans hS1
  have hA : ∀ j : Nat, ¬ j = 0 → gi s1 64 j = gi σ 64 j := fun j h => (hA1 j h).trans (hA j h)
  have hf := hf0.to hA
  have hr : gi (bodyL 11 10 M) 76 57 = nI 12 := gi_eq
  refine V_aload_n dA_run_22 rfl ?_
  refine V_iload dA_run_23 rfl ?_
  refine V_iload_n dA_run_25 rfl ?_
  refine V_iload dA_run_26 rfl ?_
  refine V_iconst (v := 1) dA_run_28 (by decide) ?_
  refine V_iadd dA_run_29 ?_
  refine V_topI (x' := nI (dp + 1)) (nI_1 _) ?_
  refine V_callV (as := [.int 10, .int x, .int (nI (dp + 1))]) (rest := []) (bs' := 0) rfl dA_run_30 cmA_through cvA_through mlA_45 (Or.inl ⟨_, _, _, _, _, rfl, k64, by decide, rfl⟩) rfl rfl (c_thr_6_3_0_11 hC hf hr x (dp := dp + 1) (by omega)) (by decide) (Nat.le_refl _) (by decide) (Nat.le_of_ble_eq_true rfl) ?_
  rintro _ _ s2 ⟨rfl, rfl, hC, hS1, hA1⟩ -
  refine V_one ?_
  have hS := hS.trans hS1
  have hA : ∀ j : Nat, ¬ j = 0 → gi s2 64 j = gi σ 64 j := fun j h => (hA1 j h).trans (hA j h)
  exact V_iret dA_run_33 rfl rfl ⟨rfl, rfl, hC, hS, hA⟩
theorem c_thr_6_6_1_7 {l : Launch} {G : GT} {L : Nat → List Cl} {M σ : Hp} (hC : RC L M σ) {num v : Int32} (hf : fA σ 6 num v) (hr : gi M 76 57 = nI 8) (x : Int32) {dp : Nat} (hd : dp < 25) : MM l G mA_through 6 0 0 [.ref 64, .int 70, .int x, .int (nI dp)] KA σ (PA L (bodyL 11 10 (bodyL 10 10 (bodyL 9 71 (bodyL 8 11 M)))) σ (some (.int ((((x + num) ^^^ v) - v) + (2 + num))))) := by
  have hR := hC.1
  have hC0 := hC
  have hS : Sm σ σ := Sm.rfl
  have hA : ∀ j : Nat, ¬ j = 0 → gi σ 64 j = gi σ 64 j := fun _ _ => rfl
  have hf0 := hf
  refine MM.of (loc := [(0, .ref 64), (1, .int 70), (2, .int x), (3, .int (nI dp))]) (by decide +kernel) rfl (Nat.le_of_ble_eq_true rfl) ?_
  refine V_iload_n dA_through_0 rfl ?_
  refine V_lsw (tgt := 217) dA_through_1 (by decide) rfl rfl ?_
  refine V_aload_n dA_through_217 rfl ?_
  refine V_iconst (v := 3) dA_through_218 (by decide) ?_
  refine V_iconst (v := 1) dA_through_219 (by decide) ?_
  refine V_iload_n dA_through_220 rfl ?_
  refine V_iload_n dA_through_221 rfl ?_
  refine V_callV (as := [.int 3, .int 1, .int x, .int (nI dp)]) (rest := []) (bs' := 0) rfl dA_through_222 cmA_run cvA_run mlA_33 (Or.inl ⟨_, _, _, _, _, rfl, k64, by decide, rfl⟩) rfl rfl (c_run_6_3_1_8 hC hf hr x (dp := dp) (by omega)) (by decide) (Nat.le_refl _) (by decide) (Nat.le_of_ble_eq_true rfl) ?_
  rintro _ _ s222 ⟨rfl, rfl, hC, hS1, hA1⟩ -
  refine V_one ?_
  have hS := hS.trans hS1
  have hA : ∀ j : Nat, ¬ j = 0 → gi s222 64 j = gi σ 64 j := fun j h => (hA1 j h).trans (hA j h)
  have hf := hf0.to hA
  have hr : gi (bodyL 10 10 (bodyL 9 71 (bodyL 8 11 M))) 76 57 = nI 11 := gi_eq
  have hR := hC.1
  refine V_aload_n dA_through_225 rfl ?_
  refine V_iconst (v := 3) dA_through_226 (by decide) ?_
  refine V_iconst (v := 0) dA_through_227 (by decide) ?_
  refine V_iconst (v := 2) dA_through_228 (by decide) ?_
  refine V_iload_n dA_through_229 rfl ?_
  refine V_callV (as := [.int 3, .int 0, .int 2, .int (nI dp)]) (rest := [.int (((x + num) ^^^ v) - v)]) (bs' := 0) rfl dA_through_230 cmA_run cvA_run mlA_33 (Or.inl ⟨_, _, _, _, _, rfl, k64, by decide, rfl⟩) rfl rfl (c_run_6_3_0_11 hC hf hr 2 (dp := dp) (by omega)) (by decide) (Nat.le_refl _) (by decide) (Nat.le_of_ble_eq_true rfl) ?_
  rintro _ _ s230 ⟨rfl, rfl, hC, hS1, hA1⟩ -
  refine V_one ?_
  have hS := hS.trans hS1
  have hA : ∀ j : Nat, ¬ j = 0 → gi s230 64 j = gi σ 64 j := fun j h => (hA1 j h).trans (hA j h)
  have hf := hf0.to hA
  have hr : gi (bodyL 11 10 (bodyL 10 10 (bodyL 9 71 (bodyL 8 11 M)))) 76 57 = nI 12 := gi_eq
  have hR := hC.1
  refine V_iadd dA_through_233 ?_
  exact V_iret dA_through_234 rfl rfl ⟨rfl, rfl, hC, hS, hA⟩
theorem c_run_6_6_1_7 {l : Launch} {G : GT} {L : Nat → List Cl} {M σ : Hp} (hC : RC L M σ) {num v : Int32} (hf : fA σ 6 num v) (hr : gi M 76 57 = nI 7) (x : Int32) {dp : Nat} (hd : dp < 24) : MM l G mA_run 7 0 0 [.ref 64, .int 6, .int 1, .int x, .int (nI dp)] KA σ (PA L (bodyL 11 10 (bodyL 10 10 (bodyL 9 71 (bodyL 8 11 (bodyL 7 70 M))))) σ (some (.int ((((x + num) ^^^ v) - v) + (2 + num))))) := by
  have hR := hC.1
  have hC0 := hC
  have hS : Sm σ σ := Sm.rfl
  have hA : ∀ j : Nat, ¬ j = 0 → gi σ 64 j = gi σ 64 j := fun _ _ => rfl
  have hf0 := hf
  refine MM.of (loc := [(0, .ref 64), (1, .int 6), (2, .int 1), (3, .int x), (4, .int (nI dp))]) (by decide +kernel) rfl (Nat.le_of_ble_eq_true rfl) ?_
  refine V_iload dA_run_0 rfl ?_
  refine V_bipush (v := 40) dA_run_2 (by decide) ?_
  refine V_icmp_lt (tgt := 9) dA_run_4 rfl (fun _ => ?_) (fun h => absurd h (not_not_intro (nI_lt (a := dp) (b := 40) (by omega) (by decide))))
  refine V_iload_n dA_run_9 rfl ?_
  refine V_iload_n dA_run_10 rfl ?_
  refine V_callS (as := [.int 6, .int 1]) (rest := []) (bs' := 0) rfl dA_run_11 cmA_bodyFrom stA_bodyFrom mlA_37 rfl rfl c_bf_6_1 (by decide) (Nat.le_refl _) (by decide) (Nat.le_of_ble_eq_true rfl) ?_
  rintro _ _ _ ⟨rfl, rfl, rfl⟩ -
  refine V_one ?_
  refine V_istore (loc' := [(5, .int 70), (0, .ref 64), (1, .int 6), (2, .int 1), (3, .int x), (4, .int (nI dp))]) dA_run_14 (by decide) rfl ?_
  refine V_aload_n dA_run_16 rfl ?_
  refine V_iload dA_run_17 rfl ?_
  refine V_callV (as := [.int 70]) (rest := []) (bs' := 0) rfl dA_run_19 cmA_begin cvA_begin mlA_41 (Or.inl ⟨_, _, _, _, _, rfl, k64, by decide, rfl⟩) rfl rfl (c_begin hC (by decide) hr 70) (by decide) (Nat.le_refl _) (by decide) (Nat.le_of_ble_eq_true rfl) ?_
  rintro _ _ s1 ⟨rfl, rfl, hC, hS1, hA1⟩ -
  refine V_non ?_
  have hS := hS.trans hS1
  have hA : ∀ j : Nat, ¬ j = 0 → gi s1 64 j = gi σ 64 j := fun j h => (hA1 j h).trans (hA j h)
  have hf := hf0.to hA
  have hr : gi (bodyL 7 70 M) 76 57 = nI 8 := gi_eq
  refine V_aload_n dA_run_22 rfl ?_
  refine V_iload dA_run_23 rfl ?_
  refine V_iload_n dA_run_25 rfl ?_
  refine V_iload dA_run_26 rfl ?_
  refine V_iconst (v := 1) dA_run_28 (by decide) ?_
  refine V_iadd dA_run_29 ?_
  refine V_topI (x' := nI (dp + 1)) (nI_1 _) ?_
  refine V_callV (as := [.int 70, .int x, .int (nI (dp + 1))]) (rest := []) (bs' := 0) rfl dA_run_30 cmA_through cvA_through mlA_45 (Or.inl ⟨_, _, _, _, _, rfl, k64, by decide, rfl⟩) rfl rfl (c_thr_6_6_1_7 hC hf hr x (dp := dp + 1) (by omega)) (by decide) (Nat.le_refl _) (by decide) (Nat.le_of_ble_eq_true rfl) ?_
  rintro _ _ s2 ⟨rfl, rfl, hC, hS1, hA1⟩ -
  refine V_one ?_
  have hS := hS.trans hS1
  have hA : ∀ j : Nat, ¬ j = 0 → gi s2 64 j = gi σ 64 j := fun j h => (hA1 j h).trans (hA j h)
  exact V_iret dA_run_33 rfl rfl ⟨rfl, rfl, hC, hS, hA⟩
theorem c_thr_6_6_2_0 {l : Launch} {G : GT} {L : Nat → List Cl} {M σ : Hp} (hC : RC L M σ) {num v : Int32} (hf : fA σ 6 num v) (hr : gi M 76 57 = nI 1) (x : Int32) {dp : Nat} (hd : dp < 21) : MM l G mA_through 10 0 0 [.ref 64, .int 40, .int x, .int (nI dp)] KA σ (PA L (bodyL 11 10 (bodyL 10 10 (bodyL 9 71 (bodyL 8 11 (bodyL 7 70 (bodyL 6 10 (bodyL 5 10 (bodyL 4 71 (bodyL 3 11 (bodyL 2 70 (bodyL 1 12 M))))))))))) σ (some (.int ((((((x + num) ^^^ v) - v) + (2 + num)) * 2) + ((((1 + num) ^^^ v) - v) + (2 + num)))))) := by
  have hR := hC.1
  have hC0 := hC
  have hS : Sm σ σ := Sm.rfl
  have hA : ∀ j : Nat, ¬ j = 0 → gi σ 64 j = gi σ 64 j := fun _ _ => rfl
  have hf0 := hf
  refine MM.of (loc := [(0, .ref 64), (1, .int 40), (2, .int x), (3, .int (nI dp))]) (by decide +kernel) rfl (Nat.le_of_ble_eq_true rfl) ?_
  refine V_iload_n dA_through_0 rfl ?_
  refine V_lsw (tgt := 161) dA_through_1 (by decide) rfl rfl ?_
  refine V_aload_n dA_through_161 rfl ?_
  refine V_iconst (v := 0) dA_through_162 (by decide) ?_
  refine V_iconst (v := 2) dA_through_163 (by decide) ?_
  refine V_iload_n dA_through_164 rfl ?_
  refine V_iload_n dA_through_165 rfl ?_
  refine V_callV (as := [.int 0, .int 2, .int x, .int (nI dp)]) (rest := []) (bs' := 0) rfl dA_through_166 cmA_run cvA_run mlA_33 (Or.inl ⟨_, _, _, _, _, rfl, k64, by decide, rfl⟩) rfl rfl (c_run_6_0_2_1 hC hf hr x (dp := dp) (by omega)) (by decide) (Nat.le_refl _) (by decide) (Nat.le_of_ble_eq_true rfl) ?_
  rintro _ _ s166 ⟨rfl, rfl, hC, hS1, hA1⟩ -
  refine V_one ?_
  have hS := hS.trans hS1
  have hA : ∀ j : Nat, ¬ j = 0 → gi s166 64 j = gi σ 64 j := fun j h => (hA1 j h).trans (hA j h)
  have hf := hf0.to hA
  have hr : gi (bodyL 6 10 (bodyL 5 10 (bodyL 4 71 (bodyL 3 11 (bodyL 2 70 (bodyL 1 12 M)))))) 76 57 = nI 7 := gi_eq
  have hR := hC.1
  refine V_aload_n dA_through_169 rfl ?_
  refine V_aload_n dA_through_170 rfl ?_
  refine V_getE (x := 6) dA_through_171 flA_24 k64 rfl hf.1 ?_
  refine V_iconst (v := 1) dA_through_174 (by decide) ?_
  refine V_iconst (v := 1) dA_through_175 (by decide) ?_
  refine V_iload_n dA_through_176 rfl ?_
  refine V_callV (as := [.int 6, .int 1, .int 1, .int (nI dp)]) (rest := [.int (((((x + num) ^^^ v) - v) + (2 + num)) * 2)]) (bs' := 0) rfl dA_through_177 cmA_run cvA_run mlA_33 (Or.inl ⟨_, _, _, _, _, rfl, k64, by decide, rfl⟩) rfl rfl (c_run_6_6_1_7 hC hf hr 1 (dp := dp) (by omega)) (by decide) (Nat.le_refl _) (by decide) (Nat.le_of_ble_eq_true rfl) ?_
  rintro _ _ s177 ⟨rfl, rfl, hC, hS1, hA1⟩ -
  refine V_one ?_
  have hS := hS.trans hS1
  have hA : ∀ j : Nat, ¬ j = 0 → gi s177 64 j = gi σ 64 j := fun j h => (hA1 j h).trans (hA j h)
  have hf := hf0.to hA
  have hr : gi (bodyL 11 10 (bodyL 10 10 (bodyL 9 71 (bodyL 8 11 (bodyL 7 70 (bodyL 6 10 (bodyL 5 10 (bodyL 4 71 (bodyL 3 11 (bodyL 2 70 (bodyL 1 12 M))))))))))) 76 57 = nI 12 := gi_eq
  have hR := hC.1
  refine V_iadd dA_through_180 ?_
  exact V_iret dA_through_181 rfl rfl ⟨rfl, rfl, hC, hS, hA⟩
theorem c_run_6_6_2_0 {l : Launch} {G : GT} {L : Nat → List Cl} {M σ : Hp} (hC : RC L M σ) {num v : Int32} (hf : fA σ 6 num v) (hr : gi M 76 57 = nI 0) (x : Int32) {dp : Nat} (hd : dp < 20) : MM l G mA_run 11 0 0 [.ref 64, .int 6, .int 2, .int x, .int (nI dp)] KA σ (PA L (bodyL 11 10 (bodyL 10 10 (bodyL 9 71 (bodyL 8 11 (bodyL 7 70 (bodyL 6 10 (bodyL 5 10 (bodyL 4 71 (bodyL 3 11 (bodyL 2 70 (bodyL 1 12 (bodyL 0 40 M)))))))))))) σ (some (.int ((((((x + num) ^^^ v) - v) + (2 + num)) * 2) + ((((1 + num) ^^^ v) - v) + (2 + num)))))) := by
  have hR := hC.1
  have hC0 := hC
  have hS : Sm σ σ := Sm.rfl
  have hA : ∀ j : Nat, ¬ j = 0 → gi σ 64 j = gi σ 64 j := fun _ _ => rfl
  have hf0 := hf
  refine MM.of (loc := [(0, .ref 64), (1, .int 6), (2, .int 2), (3, .int x), (4, .int (nI dp))]) (by decide +kernel) rfl (Nat.le_of_ble_eq_true rfl) ?_
  refine V_iload dA_run_0 rfl ?_
  refine V_bipush (v := 40) dA_run_2 (by decide) ?_
  refine V_icmp_lt (tgt := 9) dA_run_4 rfl (fun _ => ?_) (fun h => absurd h (not_not_intro (nI_lt (a := dp) (b := 40) (by omega) (by decide))))
  refine V_iload_n dA_run_9 rfl ?_
  refine V_iload_n dA_run_10 rfl ?_
  refine V_callS (as := [.int 6, .int 2]) (rest := []) (bs' := 0) rfl dA_run_11 cmA_bodyFrom stA_bodyFrom mlA_37 rfl rfl c_bf_6_2 (by decide) (Nat.le_refl _) (by decide) (Nat.le_of_ble_eq_true rfl) ?_
  rintro _ _ _ ⟨rfl, rfl, rfl⟩ -
  refine V_one ?_
  refine V_istore (loc' := [(5, .int 40), (0, .ref 64), (1, .int 6), (2, .int 2), (3, .int x), (4, .int (nI dp))]) dA_run_14 (by decide) rfl ?_
  refine V_aload_n dA_run_16 rfl ?_
  refine V_iload dA_run_17 rfl ?_
  refine V_callV (as := [.int 40]) (rest := []) (bs' := 0) rfl dA_run_19 cmA_begin cvA_begin mlA_41 (Or.inl ⟨_, _, _, _, _, rfl, k64, by decide, rfl⟩) rfl rfl (c_begin hC (by decide) hr 40) (by decide) (Nat.le_refl _) (by decide) (Nat.le_of_ble_eq_true rfl) ?_
  rintro _ _ s1 ⟨rfl, rfl, hC, hS1, hA1⟩ -
  refine V_non ?_
  have hS := hS.trans hS1
  have hA : ∀ j : Nat, ¬ j = 0 → gi s1 64 j = gi σ 64 j := fun j h => (hA1 j h).trans (hA j h)
  have hf := hf0.to hA
  have hr : gi (bodyL 0 40 M) 76 57 = nI 1 := gi_eq
  refine V_aload_n dA_run_22 rfl ?_
  refine V_iload dA_run_23 rfl ?_
  refine V_iload_n dA_run_25 rfl ?_
  refine V_iload dA_run_26 rfl ?_
  refine V_iconst (v := 1) dA_run_28 (by decide) ?_
  refine V_iadd dA_run_29 ?_
  refine V_topI (x' := nI (dp + 1)) (nI_1 _) ?_
  refine V_callV (as := [.int 40, .int x, .int (nI (dp + 1))]) (rest := []) (bs' := 0) rfl dA_run_30 cmA_through cvA_through mlA_45 (Or.inl ⟨_, _, _, _, _, rfl, k64, by decide, rfl⟩) rfl rfl (c_thr_6_6_2_0 hC hf hr x (dp := dp + 1) (by omega)) (by decide) (Nat.le_refl _) (by decide) (Nat.le_of_ble_eq_true rfl) ?_
  rintro _ _ s2 ⟨rfl, rfl, hC, hS1, hA1⟩ -
  refine V_one ?_
  have hS := hS.trans hS1
  have hA : ∀ j : Nat, ¬ j = 0 → gi s2 64 j = gi σ 64 j := fun j h => (hA1 j h).trans (hA j h)
  exact V_iret dA_run_33 rfl rfl ⟨rfl, rfl, hC, hS, hA⟩
