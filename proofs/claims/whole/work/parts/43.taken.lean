/-! taken -/
def undS (k : Nat) (x : Int32) : Prop := x = 0 ∨ x = nI k ∨ (x = 1 ∧ k = 4) ∨ (x = 2 ∧ k = 5) ∨ (x = 3 ∧ k = 6)
theorem c_isUnder0 {l : Launch} {G : GT} {σ : Hp} (x : Int32) (hx : 0 ≤ x) : MM l G mG_isUnder 0 0 0 [.int 0, .int x] KA σ (PZ (x = 0) KA σ) := by
  refine MM.of (loc := [(0, .int 0), (1, .int x)]) (by decide +kernel) rfl (Nat.le_of_ble_eq_true rfl) ?_
  refine V_iload_n dG_isUnder_0 rfl ?_
  refine V_istore_n (loc' := [(2, .int 0), (0, .int 0), (1, .int x)]) dG_isUnder_1 (by decide) rfl ?_
  refine V_iconst (v := 0) dG_isUnder_2 (by decide) ?_
  refine V_istore_n (loc' := [(3, .int 0), (2, .int 0), (0, .int 0), (1, .int x)]) dG_isUnder_3 (by decide) rfl ?_
  skip
  refine V_iload_n dG_isUnder_4 rfl ?_
  refine V_gsA rfl dG_isUnder_5 fwG_316 ?_
  refine V_tAl dG_isUnder_8 ?_
  refine V_icmp_ge (tgt := 45) dG_isUnder_9 rfl (fun h => absurd h (by decide)) (fun _ => ?_)
  refine V_iload_n dG_isUnder_12 rfl ?_
  refine V_iload_n dG_isUnder_13 rfl ?_
  skip
  refine V_icmp_ne (tgt := 19) dG_isUnder_14 rfl (fun c14_0 => ?_) (fun c14_0 => ?_)
  rotate_left
  · skip
    refine V_iconst (v := 1) dG_isUnder_17 (by decide) ?_
    exact V_zret dG_isUnder_18 rfl rfl rfl (Or.inl ⟨by simp [← c14_0], rfl, rfl, rfl⟩)
  refine V_iload_n dG_isUnder_19 rfl ?_
  refine V_if_lt (tgt := 31) dG_isUnder_20 rfl (fun h => absurd h (by decide)) (fun _ => ?_)
  refine V_iload_n dG_isUnder_23 rfl ?_
  refine V_gsA rfl dG_isUnder_24 fwG_316 ?_
  refine V_tAl dG_isUnder_27 ?_
  refine V_icmp_lt (tgt := 33) dG_isUnder_28 rfl (fun _ => ?_) (fun h => absurd h (by decide))
  refine V_gsA rfl dG_isUnder_33 fwG_316 ?_
  refine V_iload_n dG_isUnder_36 rfl ?_
  refine V_tA dG_isUnder_37 (vp_in_nI (n := 0) (N := 7) (by decide) (by decide)) ?_
  refine V_topI (x' := (-1)) (by decide) ?_
  refine V_istore_n (loc' := [(2, .int (-1)), (3, .int 0), (0, .int 0), (1, .int x)]) dG_isUnder_38 (by decide) rfl ?_
  refine V_iinc (v := 1) (loc' := [(3, .int 1), (2, .int (-1)), (0, .int 0), (1, .int x)]) dG_isUnder_39 rfl (by decide) (by decide) rfl ?_
  refine V_goto (tgt := 4) dG_isUnder_42 rfl ?_
  skip
  refine V_iload_n dG_isUnder_4 rfl ?_
  refine V_gsA rfl dG_isUnder_5 fwG_316 ?_
  refine V_tAl dG_isUnder_8 ?_
  refine V_icmp_ge (tgt := 45) dG_isUnder_9 rfl (fun h => absurd h (by decide)) (fun _ => ?_)
  refine V_iload_n dG_isUnder_12 rfl ?_
  refine V_iload_n dG_isUnder_13 rfl ?_
  skip
  refine V_icmp_ne (tgt := 19) dG_isUnder_14 rfl (fun c14_1 => ?_) (fun c14_1 => ?_)
  · skip
    refine V_iload_n dG_isUnder_19 rfl ?_
    refine V_if_lt (tgt := 31) dG_isUnder_20 rfl (fun _ => ?_) (fun h => absurd h (by decide))
    refine V_iconst (v := 0) dG_isUnder_31 (by decide) ?_
    exact V_zret dG_isUnder_32 rfl rfl rfl (Or.inr ⟨by simp_all [eq_comm], rfl, rfl, rfl⟩)
  · exact absurd c14_1 (fun q => by subst q; exact absurd hx (by decide))
theorem c_isUnder1 {l : Launch} {G : GT} {σ : Hp} (x : Int32) (hx : 0 ≤ x) : MM l G mG_isUnder 0 0 0 [.int 1, .int x] KA σ (PZ (x = 1 ∨ x = 0) KA σ) := by
  refine MM.of (loc := [(0, .int 1), (1, .int x)]) (by decide +kernel) rfl (Nat.le_of_ble_eq_true rfl) ?_
  refine V_iload_n dG_isUnder_0 rfl ?_
  refine V_istore_n (loc' := [(2, .int 1), (0, .int 1), (1, .int x)]) dG_isUnder_1 (by decide) rfl ?_
  refine V_iconst (v := 0) dG_isUnder_2 (by decide) ?_
  refine V_istore_n (loc' := [(3, .int 0), (2, .int 1), (0, .int 1), (1, .int x)]) dG_isUnder_3 (by decide) rfl ?_
  skip
  refine V_iload_n dG_isUnder_4 rfl ?_
  refine V_gsA rfl dG_isUnder_5 fwG_316 ?_
  refine V_tAl dG_isUnder_8 ?_
  refine V_icmp_ge (tgt := 45) dG_isUnder_9 rfl (fun h => absurd h (by decide)) (fun _ => ?_)
  refine V_iload_n dG_isUnder_12 rfl ?_
  refine V_iload_n dG_isUnder_13 rfl ?_
  skip
  refine V_icmp_ne (tgt := 19) dG_isUnder_14 rfl (fun c14_0 => ?_) (fun c14_0 => ?_)
  rotate_left
  · skip
    refine V_iconst (v := 1) dG_isUnder_17 (by decide) ?_
    exact V_zret dG_isUnder_18 rfl rfl rfl (Or.inl ⟨by simp [← c14_0], rfl, rfl, rfl⟩)
  refine V_iload_n dG_isUnder_19 rfl ?_
  refine V_if_lt (tgt := 31) dG_isUnder_20 rfl (fun h => absurd h (by decide)) (fun _ => ?_)
  refine V_iload_n dG_isUnder_23 rfl ?_
  refine V_gsA rfl dG_isUnder_24 fwG_316 ?_
  refine V_tAl dG_isUnder_27 ?_
  refine V_icmp_lt (tgt := 33) dG_isUnder_28 rfl (fun _ => ?_) (fun h => absurd h (by decide))
  refine V_gsA rfl dG_isUnder_33 fwG_316 ?_
  refine V_iload_n dG_isUnder_36 rfl ?_
  refine V_tA dG_isUnder_37 (vp_in_nI (n := 1) (N := 7) (by decide) (by decide)) ?_
  refine V_topI (x' := 0) (by decide) ?_
  refine V_istore_n (loc' := [(2, .int 0), (3, .int 0), (0, .int 1), (1, .int x)]) dG_isUnder_38 (by decide) rfl ?_
  refine V_iinc (v := 1) (loc' := [(3, .int 1), (2, .int 0), (0, .int 1), (1, .int x)]) dG_isUnder_39 rfl (by decide) (by decide) rfl ?_
  refine V_goto (tgt := 4) dG_isUnder_42 rfl ?_
  skip
  refine V_iload_n dG_isUnder_4 rfl ?_
  refine V_gsA rfl dG_isUnder_5 fwG_316 ?_
  refine V_tAl dG_isUnder_8 ?_
  refine V_icmp_ge (tgt := 45) dG_isUnder_9 rfl (fun h => absurd h (by decide)) (fun _ => ?_)
  refine V_iload_n dG_isUnder_12 rfl ?_
  refine V_iload_n dG_isUnder_13 rfl ?_
  skip
  refine V_icmp_ne (tgt := 19) dG_isUnder_14 rfl (fun c14_1 => ?_) (fun c14_1 => ?_)
  rotate_left
  · skip
    refine V_iconst (v := 1) dG_isUnder_17 (by decide) ?_
    exact V_zret dG_isUnder_18 rfl rfl rfl (Or.inl ⟨by simp [← c14_1], rfl, rfl, rfl⟩)
  refine V_iload_n dG_isUnder_19 rfl ?_
  refine V_if_lt (tgt := 31) dG_isUnder_20 rfl (fun h => absurd h (by decide)) (fun _ => ?_)
  refine V_iload_n dG_isUnder_23 rfl ?_
  refine V_gsA rfl dG_isUnder_24 fwG_316 ?_
  refine V_tAl dG_isUnder_27 ?_
  refine V_icmp_lt (tgt := 33) dG_isUnder_28 rfl (fun _ => ?_) (fun h => absurd h (by decide))
  refine V_gsA rfl dG_isUnder_33 fwG_316 ?_
  refine V_iload_n dG_isUnder_36 rfl ?_
  refine V_tA dG_isUnder_37 (vp_in_nI (n := 0) (N := 7) (by decide) (by decide)) ?_
  refine V_topI (x' := (-1)) (by decide) ?_
  refine V_istore_n (loc' := [(2, .int (-1)), (3, .int 1), (0, .int 1), (1, .int x)]) dG_isUnder_38 (by decide) rfl ?_
  refine V_iinc (v := 2) (loc' := [(3, .int 2), (2, .int (-1)), (0, .int 1), (1, .int x)]) dG_isUnder_39 rfl (by decide) (by decide) rfl ?_
  refine V_goto (tgt := 4) dG_isUnder_42 rfl ?_
  skip
  refine V_iload_n dG_isUnder_4 rfl ?_
  refine V_gsA rfl dG_isUnder_5 fwG_316 ?_
  refine V_tAl dG_isUnder_8 ?_
  refine V_icmp_ge (tgt := 45) dG_isUnder_9 rfl (fun h => absurd h (by decide)) (fun _ => ?_)
  refine V_iload_n dG_isUnder_12 rfl ?_
  refine V_iload_n dG_isUnder_13 rfl ?_
  skip
  refine V_icmp_ne (tgt := 19) dG_isUnder_14 rfl (fun c14_2 => ?_) (fun c14_2 => ?_)
  · skip
    refine V_iload_n dG_isUnder_19 rfl ?_
    refine V_if_lt (tgt := 31) dG_isUnder_20 rfl (fun _ => ?_) (fun h => absurd h (by decide))
    refine V_iconst (v := 0) dG_isUnder_31 (by decide) ?_
    exact V_zret dG_isUnder_32 rfl rfl rfl (Or.inr ⟨by simp_all [eq_comm], rfl, rfl, rfl⟩)
  · exact absurd c14_2 (fun q => by subst q; exact absurd hx (by decide))
theorem c_isUnder2 {l : Launch} {G : GT} {σ : Hp} (x : Int32) (hx : 0 ≤ x) : MM l G mG_isUnder 0 0 0 [.int 2, .int x] KA σ (PZ (x = 2 ∨ x = 0) KA σ) := by
  refine MM.of (loc := [(0, .int 2), (1, .int x)]) (by decide +kernel) rfl (Nat.le_of_ble_eq_true rfl) ?_
  refine V_iload_n dG_isUnder_0 rfl ?_
  refine V_istore_n (loc' := [(2, .int 2), (0, .int 2), (1, .int x)]) dG_isUnder_1 (by decide) rfl ?_
  refine V_iconst (v := 0) dG_isUnder_2 (by decide) ?_
  refine V_istore_n (loc' := [(3, .int 0), (2, .int 2), (0, .int 2), (1, .int x)]) dG_isUnder_3 (by decide) rfl ?_
  skip
  refine V_iload_n dG_isUnder_4 rfl ?_
  refine V_gsA rfl dG_isUnder_5 fwG_316 ?_
  refine V_tAl dG_isUnder_8 ?_
  refine V_icmp_ge (tgt := 45) dG_isUnder_9 rfl (fun h => absurd h (by decide)) (fun _ => ?_)
  refine V_iload_n dG_isUnder_12 rfl ?_
  refine V_iload_n dG_isUnder_13 rfl ?_
  skip
  refine V_icmp_ne (tgt := 19) dG_isUnder_14 rfl (fun c14_0 => ?_) (fun c14_0 => ?_)
  rotate_left
  · skip
    refine V_iconst (v := 1) dG_isUnder_17 (by decide) ?_
    exact V_zret dG_isUnder_18 rfl rfl rfl (Or.inl ⟨by simp [← c14_0], rfl, rfl, rfl⟩)
  refine V_iload_n dG_isUnder_19 rfl ?_
  refine V_if_lt (tgt := 31) dG_isUnder_20 rfl (fun h => absurd h (by decide)) (fun _ => ?_)
  refine V_iload_n dG_isUnder_23 rfl ?_
  refine V_gsA rfl dG_isUnder_24 fwG_316 ?_
  refine V_tAl dG_isUnder_27 ?_
  refine V_icmp_lt (tgt := 33) dG_isUnder_28 rfl (fun _ => ?_) (fun h => absurd h (by decide))
  refine V_gsA rfl dG_isUnder_33 fwG_316 ?_
  refine V_iload_n dG_isUnder_36 rfl ?_
  refine V_tA dG_isUnder_37 (vp_in_nI (n := 2) (N := 7) (by decide) (by decide)) ?_
  refine V_topI (x' := 0) (by decide) ?_
  refine V_istore_n (loc' := [(2, .int 0), (3, .int 0), (0, .int 2), (1, .int x)]) dG_isUnder_38 (by decide) rfl ?_
  refine V_iinc (v := 1) (loc' := [(3, .int 1), (2, .int 0), (0, .int 2), (1, .int x)]) dG_isUnder_39 rfl (by decide) (by decide) rfl ?_
  refine V_goto (tgt := 4) dG_isUnder_42 rfl ?_
  skip
  refine V_iload_n dG_isUnder_4 rfl ?_
  refine V_gsA rfl dG_isUnder_5 fwG_316 ?_
  refine V_tAl dG_isUnder_8 ?_
  refine V_icmp_ge (tgt := 45) dG_isUnder_9 rfl (fun h => absurd h (by decide)) (fun _ => ?_)
  refine V_iload_n dG_isUnder_12 rfl ?_
  refine V_iload_n dG_isUnder_13 rfl ?_
  skip
  refine V_icmp_ne (tgt := 19) dG_isUnder_14 rfl (fun c14_1 => ?_) (fun c14_1 => ?_)
  rotate_left
  · skip
    refine V_iconst (v := 1) dG_isUnder_17 (by decide) ?_
    exact V_zret dG_isUnder_18 rfl rfl rfl (Or.inl ⟨by simp [← c14_1], rfl, rfl, rfl⟩)
  refine V_iload_n dG_isUnder_19 rfl ?_
  refine V_if_lt (tgt := 31) dG_isUnder_20 rfl (fun h => absurd h (by decide)) (fun _ => ?_)
  refine V_iload_n dG_isUnder_23 rfl ?_
  refine V_gsA rfl dG_isUnder_24 fwG_316 ?_
  refine V_tAl dG_isUnder_27 ?_
  refine V_icmp_lt (tgt := 33) dG_isUnder_28 rfl (fun _ => ?_) (fun h => absurd h (by decide))
  refine V_gsA rfl dG_isUnder_33 fwG_316 ?_
  refine V_iload_n dG_isUnder_36 rfl ?_
  refine V_tA dG_isUnder_37 (vp_in_nI (n := 0) (N := 7) (by decide) (by decide)) ?_
  refine V_topI (x' := (-1)) (by decide) ?_
  refine V_istore_n (loc' := [(2, .int (-1)), (3, .int 1), (0, .int 2), (1, .int x)]) dG_isUnder_38 (by decide) rfl ?_
  refine V_iinc (v := 2) (loc' := [(3, .int 2), (2, .int (-1)), (0, .int 2), (1, .int x)]) dG_isUnder_39 rfl (by decide) (by decide) rfl ?_
  refine V_goto (tgt := 4) dG_isUnder_42 rfl ?_
  skip
  refine V_iload_n dG_isUnder_4 rfl ?_
  refine V_gsA rfl dG_isUnder_5 fwG_316 ?_
  refine V_tAl dG_isUnder_8 ?_
  refine V_icmp_ge (tgt := 45) dG_isUnder_9 rfl (fun h => absurd h (by decide)) (fun _ => ?_)
  refine V_iload_n dG_isUnder_12 rfl ?_
  refine V_iload_n dG_isUnder_13 rfl ?_
  skip
  refine V_icmp_ne (tgt := 19) dG_isUnder_14 rfl (fun c14_2 => ?_) (fun c14_2 => ?_)
  · skip
    refine V_iload_n dG_isUnder_19 rfl ?_
    refine V_if_lt (tgt := 31) dG_isUnder_20 rfl (fun _ => ?_) (fun h => absurd h (by decide))
    refine V_iconst (v := 0) dG_isUnder_31 (by decide) ?_
    exact V_zret dG_isUnder_32 rfl rfl rfl (Or.inr ⟨by simp_all [eq_comm], rfl, rfl, rfl⟩)
  · exact absurd c14_2 (fun q => by subst q; exact absurd hx (by decide))
theorem c_isUnder3 {l : Launch} {G : GT} {σ : Hp} (x : Int32) (hx : 0 ≤ x) : MM l G mG_isUnder 0 0 0 [.int 3, .int x] KA σ (PZ (x = 3 ∨ x = 0) KA σ) := by
  refine MM.of (loc := [(0, .int 3), (1, .int x)]) (by decide +kernel) rfl (Nat.le_of_ble_eq_true rfl) ?_
  refine V_iload_n dG_isUnder_0 rfl ?_
  refine V_istore_n (loc' := [(2, .int 3), (0, .int 3), (1, .int x)]) dG_isUnder_1 (by decide) rfl ?_
  refine V_iconst (v := 0) dG_isUnder_2 (by decide) ?_
  refine V_istore_n (loc' := [(3, .int 0), (2, .int 3), (0, .int 3), (1, .int x)]) dG_isUnder_3 (by decide) rfl ?_
  skip
  refine V_iload_n dG_isUnder_4 rfl ?_
  refine V_gsA rfl dG_isUnder_5 fwG_316 ?_
  refine V_tAl dG_isUnder_8 ?_
  refine V_icmp_ge (tgt := 45) dG_isUnder_9 rfl (fun h => absurd h (by decide)) (fun _ => ?_)
  refine V_iload_n dG_isUnder_12 rfl ?_
  refine V_iload_n dG_isUnder_13 rfl ?_
  skip
  refine V_icmp_ne (tgt := 19) dG_isUnder_14 rfl (fun c14_0 => ?_) (fun c14_0 => ?_)
  rotate_left
  · skip
    refine V_iconst (v := 1) dG_isUnder_17 (by decide) ?_
    exact V_zret dG_isUnder_18 rfl rfl rfl (Or.inl ⟨by simp [← c14_0], rfl, rfl, rfl⟩)
  refine V_iload_n dG_isUnder_19 rfl ?_
  refine V_if_lt (tgt := 31) dG_isUnder_20 rfl (fun h => absurd h (by decide)) (fun _ => ?_)
  refine V_iload_n dG_isUnder_23 rfl ?_
  refine V_gsA rfl dG_isUnder_24 fwG_316 ?_
  refine V_tAl dG_isUnder_27 ?_
  refine V_icmp_lt (tgt := 33) dG_isUnder_28 rfl (fun _ => ?_) (fun h => absurd h (by decide))
  refine V_gsA rfl dG_isUnder_33 fwG_316 ?_
  refine V_iload_n dG_isUnder_36 rfl ?_
  refine V_tA dG_isUnder_37 (vp_in_nI (n := 3) (N := 7) (by decide) (by decide)) ?_
  refine V_topI (x' := 0) (by decide) ?_
  refine V_istore_n (loc' := [(2, .int 0), (3, .int 0), (0, .int 3), (1, .int x)]) dG_isUnder_38 (by decide) rfl ?_
  refine V_iinc (v := 1) (loc' := [(3, .int 1), (2, .int 0), (0, .int 3), (1, .int x)]) dG_isUnder_39 rfl (by decide) (by decide) rfl ?_
  refine V_goto (tgt := 4) dG_isUnder_42 rfl ?_
  skip
  refine V_iload_n dG_isUnder_4 rfl ?_
  refine V_gsA rfl dG_isUnder_5 fwG_316 ?_
  refine V_tAl dG_isUnder_8 ?_
  refine V_icmp_ge (tgt := 45) dG_isUnder_9 rfl (fun h => absurd h (by decide)) (fun _ => ?_)
  refine V_iload_n dG_isUnder_12 rfl ?_
  refine V_iload_n dG_isUnder_13 rfl ?_
  skip
  refine V_icmp_ne (tgt := 19) dG_isUnder_14 rfl (fun c14_1 => ?_) (fun c14_1 => ?_)
  rotate_left
  · skip
    refine V_iconst (v := 1) dG_isUnder_17 (by decide) ?_
    exact V_zret dG_isUnder_18 rfl rfl rfl (Or.inl ⟨by simp [← c14_1], rfl, rfl, rfl⟩)
  refine V_iload_n dG_isUnder_19 rfl ?_
  refine V_if_lt (tgt := 31) dG_isUnder_20 rfl (fun h => absurd h (by decide)) (fun _ => ?_)
  refine V_iload_n dG_isUnder_23 rfl ?_
  refine V_gsA rfl dG_isUnder_24 fwG_316 ?_
  refine V_tAl dG_isUnder_27 ?_
  refine V_icmp_lt (tgt := 33) dG_isUnder_28 rfl (fun _ => ?_) (fun h => absurd h (by decide))
  refine V_gsA rfl dG_isUnder_33 fwG_316 ?_
  refine V_iload_n dG_isUnder_36 rfl ?_
  refine V_tA dG_isUnder_37 (vp_in_nI (n := 0) (N := 7) (by decide) (by decide)) ?_
  refine V_topI (x' := (-1)) (by decide) ?_
  refine V_istore_n (loc' := [(2, .int (-1)), (3, .int 1), (0, .int 3), (1, .int x)]) dG_isUnder_38 (by decide) rfl ?_
  refine V_iinc (v := 2) (loc' := [(3, .int 2), (2, .int (-1)), (0, .int 3), (1, .int x)]) dG_isUnder_39 rfl (by decide) (by decide) rfl ?_
  refine V_goto (tgt := 4) dG_isUnder_42 rfl ?_
  skip
  refine V_iload_n dG_isUnder_4 rfl ?_
  refine V_gsA rfl dG_isUnder_5 fwG_316 ?_
  refine V_tAl dG_isUnder_8 ?_
  refine V_icmp_ge (tgt := 45) dG_isUnder_9 rfl (fun h => absurd h (by decide)) (fun _ => ?_)
  refine V_iload_n dG_isUnder_12 rfl ?_
  refine V_iload_n dG_isUnder_13 rfl ?_
  skip
  refine V_icmp_ne (tgt := 19) dG_isUnder_14 rfl (fun c14_2 => ?_) (fun c14_2 => ?_)
  · skip
    refine V_iload_n dG_isUnder_19 rfl ?_
    refine V_if_lt (tgt := 31) dG_isUnder_20 rfl (fun _ => ?_) (fun h => absurd h (by decide))
    refine V_iconst (v := 0) dG_isUnder_31 (by decide) ?_
    exact V_zret dG_isUnder_32 rfl rfl rfl (Or.inr ⟨by simp_all [eq_comm], rfl, rfl, rfl⟩)
  · exact absurd c14_2 (fun q => by subst q; exact absurd hx (by decide))
theorem c_isUnder4 {l : Launch} {G : GT} {σ : Hp} (x : Int32) (hx : 0 ≤ x) : MM l G mG_isUnder 0 0 0 [.int 4, .int x] KA σ (PZ (x = 4 ∨ x = 1 ∨ x = 0) KA σ) := by
  refine MM.of (loc := [(0, .int 4), (1, .int x)]) (by decide +kernel) rfl (Nat.le_of_ble_eq_true rfl) ?_
  refine V_iload_n dG_isUnder_0 rfl ?_
  refine V_istore_n (loc' := [(2, .int 4), (0, .int 4), (1, .int x)]) dG_isUnder_1 (by decide) rfl ?_
  refine V_iconst (v := 0) dG_isUnder_2 (by decide) ?_
  refine V_istore_n (loc' := [(3, .int 0), (2, .int 4), (0, .int 4), (1, .int x)]) dG_isUnder_3 (by decide) rfl ?_
  skip
  refine V_iload_n dG_isUnder_4 rfl ?_
  refine V_gsA rfl dG_isUnder_5 fwG_316 ?_
  refine V_tAl dG_isUnder_8 ?_
  refine V_icmp_ge (tgt := 45) dG_isUnder_9 rfl (fun h => absurd h (by decide)) (fun _ => ?_)
  refine V_iload_n dG_isUnder_12 rfl ?_
  refine V_iload_n dG_isUnder_13 rfl ?_
  skip
  refine V_icmp_ne (tgt := 19) dG_isUnder_14 rfl (fun c14_0 => ?_) (fun c14_0 => ?_)
  rotate_left
  · skip
    refine V_iconst (v := 1) dG_isUnder_17 (by decide) ?_
    exact V_zret dG_isUnder_18 rfl rfl rfl (Or.inl ⟨by simp [← c14_0], rfl, rfl, rfl⟩)
  refine V_iload_n dG_isUnder_19 rfl ?_
  refine V_if_lt (tgt := 31) dG_isUnder_20 rfl (fun h => absurd h (by decide)) (fun _ => ?_)
  refine V_iload_n dG_isUnder_23 rfl ?_
  refine V_gsA rfl dG_isUnder_24 fwG_316 ?_
  refine V_tAl dG_isUnder_27 ?_
  refine V_icmp_lt (tgt := 33) dG_isUnder_28 rfl (fun _ => ?_) (fun h => absurd h (by decide))
  refine V_gsA rfl dG_isUnder_33 fwG_316 ?_
  refine V_iload_n dG_isUnder_36 rfl ?_
  refine V_tA dG_isUnder_37 (vp_in_nI (n := 4) (N := 7) (by decide) (by decide)) ?_
  refine V_topI (x' := 1) (by decide) ?_
  refine V_istore_n (loc' := [(2, .int 1), (3, .int 0), (0, .int 4), (1, .int x)]) dG_isUnder_38 (by decide) rfl ?_
  refine V_iinc (v := 1) (loc' := [(3, .int 1), (2, .int 1), (0, .int 4), (1, .int x)]) dG_isUnder_39 rfl (by decide) (by decide) rfl ?_
  refine V_goto (tgt := 4) dG_isUnder_42 rfl ?_
  skip
  refine V_iload_n dG_isUnder_4 rfl ?_
  refine V_gsA rfl dG_isUnder_5 fwG_316 ?_
  refine V_tAl dG_isUnder_8 ?_
  refine V_icmp_ge (tgt := 45) dG_isUnder_9 rfl (fun h => absurd h (by decide)) (fun _ => ?_)
  refine V_iload_n dG_isUnder_12 rfl ?_
  refine V_iload_n dG_isUnder_13 rfl ?_
  skip
  refine V_icmp_ne (tgt := 19) dG_isUnder_14 rfl (fun c14_1 => ?_) (fun c14_1 => ?_)
  rotate_left
  · skip
    refine V_iconst (v := 1) dG_isUnder_17 (by decide) ?_
    exact V_zret dG_isUnder_18 rfl rfl rfl (Or.inl ⟨by simp [← c14_1], rfl, rfl, rfl⟩)
  refine V_iload_n dG_isUnder_19 rfl ?_
  refine V_if_lt (tgt := 31) dG_isUnder_20 rfl (fun h => absurd h (by decide)) (fun _ => ?_)
  refine V_iload_n dG_isUnder_23 rfl ?_
  refine V_gsA rfl dG_isUnder_24 fwG_316 ?_
  refine V_tAl dG_isUnder_27 ?_
  refine V_icmp_lt (tgt := 33) dG_isUnder_28 rfl (fun _ => ?_) (fun h => absurd h (by decide))
  refine V_gsA rfl dG_isUnder_33 fwG_316 ?_
  refine V_iload_n dG_isUnder_36 rfl ?_
  refine V_tA dG_isUnder_37 (vp_in_nI (n := 1) (N := 7) (by decide) (by decide)) ?_
  refine V_topI (x' := 0) (by decide) ?_
  refine V_istore_n (loc' := [(2, .int 0), (3, .int 1), (0, .int 4), (1, .int x)]) dG_isUnder_38 (by decide) rfl ?_
  refine V_iinc (v := 2) (loc' := [(3, .int 2), (2, .int 0), (0, .int 4), (1, .int x)]) dG_isUnder_39 rfl (by decide) (by decide) rfl ?_
  refine V_goto (tgt := 4) dG_isUnder_42 rfl ?_
  skip
  refine V_iload_n dG_isUnder_4 rfl ?_
  refine V_gsA rfl dG_isUnder_5 fwG_316 ?_
  refine V_tAl dG_isUnder_8 ?_
  refine V_icmp_ge (tgt := 45) dG_isUnder_9 rfl (fun h => absurd h (by decide)) (fun _ => ?_)
  refine V_iload_n dG_isUnder_12 rfl ?_
  refine V_iload_n dG_isUnder_13 rfl ?_
  skip
  refine V_icmp_ne (tgt := 19) dG_isUnder_14 rfl (fun c14_2 => ?_) (fun c14_2 => ?_)
  rotate_left
  · skip
    refine V_iconst (v := 1) dG_isUnder_17 (by decide) ?_
    exact V_zret dG_isUnder_18 rfl rfl rfl (Or.inl ⟨by simp [← c14_2], rfl, rfl, rfl⟩)
  refine V_iload_n dG_isUnder_19 rfl ?_
  refine V_if_lt (tgt := 31) dG_isUnder_20 rfl (fun h => absurd h (by decide)) (fun _ => ?_)
  refine V_iload_n dG_isUnder_23 rfl ?_
  refine V_gsA rfl dG_isUnder_24 fwG_316 ?_
  refine V_tAl dG_isUnder_27 ?_
  refine V_icmp_lt (tgt := 33) dG_isUnder_28 rfl (fun _ => ?_) (fun h => absurd h (by decide))
  refine V_gsA rfl dG_isUnder_33 fwG_316 ?_
  refine V_iload_n dG_isUnder_36 rfl ?_
  refine V_tA dG_isUnder_37 (vp_in_nI (n := 0) (N := 7) (by decide) (by decide)) ?_
  refine V_topI (x' := (-1)) (by decide) ?_
  refine V_istore_n (loc' := [(2, .int (-1)), (3, .int 2), (0, .int 4), (1, .int x)]) dG_isUnder_38 (by decide) rfl ?_
  refine V_iinc (v := 3) (loc' := [(3, .int 3), (2, .int (-1)), (0, .int 4), (1, .int x)]) dG_isUnder_39 rfl (by decide) (by decide) rfl ?_
  refine V_goto (tgt := 4) dG_isUnder_42 rfl ?_
  skip
  refine V_iload_n dG_isUnder_4 rfl ?_
  refine V_gsA rfl dG_isUnder_5 fwG_316 ?_
  refine V_tAl dG_isUnder_8 ?_
  refine V_icmp_ge (tgt := 45) dG_isUnder_9 rfl (fun h => absurd h (by decide)) (fun _ => ?_)
  refine V_iload_n dG_isUnder_12 rfl ?_
  refine V_iload_n dG_isUnder_13 rfl ?_
  skip
  refine V_icmp_ne (tgt := 19) dG_isUnder_14 rfl (fun c14_3 => ?_) (fun c14_3 => ?_)
  · skip
    refine V_iload_n dG_isUnder_19 rfl ?_
    refine V_if_lt (tgt := 31) dG_isUnder_20 rfl (fun _ => ?_) (fun h => absurd h (by decide))
    refine V_iconst (v := 0) dG_isUnder_31 (by decide) ?_
    exact V_zret dG_isUnder_32 rfl rfl rfl (Or.inr ⟨by simp_all [eq_comm], rfl, rfl, rfl⟩)
  · exact absurd c14_3 (fun q => by subst q; exact absurd hx (by decide))
theorem c_isUnder5 {l : Launch} {G : GT} {σ : Hp} (x : Int32) (hx : 0 ≤ x) : MM l G mG_isUnder 0 0 0 [.int 5, .int x] KA σ (PZ (x = 5 ∨ x = 2 ∨ x = 0) KA σ) := by
  refine MM.of (loc := [(0, .int 5), (1, .int x)]) (by decide +kernel) rfl (Nat.le_of_ble_eq_true rfl) ?_
  refine V_iload_n dG_isUnder_0 rfl ?_
  refine V_istore_n (loc' := [(2, .int 5), (0, .int 5), (1, .int x)]) dG_isUnder_1 (by decide) rfl ?_
  refine V_iconst (v := 0) dG_isUnder_2 (by decide) ?_
  refine V_istore_n (loc' := [(3, .int 0), (2, .int 5), (0, .int 5), (1, .int x)]) dG_isUnder_3 (by decide) rfl ?_
  skip
  refine V_iload_n dG_isUnder_4 rfl ?_
  refine V_gsA rfl dG_isUnder_5 fwG_316 ?_
  refine V_tAl dG_isUnder_8 ?_
  refine V_icmp_ge (tgt := 45) dG_isUnder_9 rfl (fun h => absurd h (by decide)) (fun _ => ?_)
  refine V_iload_n dG_isUnder_12 rfl ?_
  refine V_iload_n dG_isUnder_13 rfl ?_
  skip
  refine V_icmp_ne (tgt := 19) dG_isUnder_14 rfl (fun c14_0 => ?_) (fun c14_0 => ?_)
  rotate_left
  · skip
    refine V_iconst (v := 1) dG_isUnder_17 (by decide) ?_
    exact V_zret dG_isUnder_18 rfl rfl rfl (Or.inl ⟨by simp [← c14_0], rfl, rfl, rfl⟩)
  refine V_iload_n dG_isUnder_19 rfl ?_
  refine V_if_lt (tgt := 31) dG_isUnder_20 rfl (fun h => absurd h (by decide)) (fun _ => ?_)
  refine V_iload_n dG_isUnder_23 rfl ?_
  refine V_gsA rfl dG_isUnder_24 fwG_316 ?_
  refine V_tAl dG_isUnder_27 ?_
  refine V_icmp_lt (tgt := 33) dG_isUnder_28 rfl (fun _ => ?_) (fun h => absurd h (by decide))
  refine V_gsA rfl dG_isUnder_33 fwG_316 ?_
  refine V_iload_n dG_isUnder_36 rfl ?_
  refine V_tA dG_isUnder_37 (vp_in_nI (n := 5) (N := 7) (by decide) (by decide)) ?_
  refine V_topI (x' := 2) (by decide) ?_
  refine V_istore_n (loc' := [(2, .int 2), (3, .int 0), (0, .int 5), (1, .int x)]) dG_isUnder_38 (by decide) rfl ?_
  refine V_iinc (v := 1) (loc' := [(3, .int 1), (2, .int 2), (0, .int 5), (1, .int x)]) dG_isUnder_39 rfl (by decide) (by decide) rfl ?_
  refine V_goto (tgt := 4) dG_isUnder_42 rfl ?_
  skip
  refine V_iload_n dG_isUnder_4 rfl ?_
  refine V_gsA rfl dG_isUnder_5 fwG_316 ?_
  refine V_tAl dG_isUnder_8 ?_
  refine V_icmp_ge (tgt := 45) dG_isUnder_9 rfl (fun h => absurd h (by decide)) (fun _ => ?_)
  refine V_iload_n dG_isUnder_12 rfl ?_
  refine V_iload_n dG_isUnder_13 rfl ?_
  skip
  refine V_icmp_ne (tgt := 19) dG_isUnder_14 rfl (fun c14_1 => ?_) (fun c14_1 => ?_)
  rotate_left
  · skip
    refine V_iconst (v := 1) dG_isUnder_17 (by decide) ?_
    exact V_zret dG_isUnder_18 rfl rfl rfl (Or.inl ⟨by simp [← c14_1], rfl, rfl, rfl⟩)
  refine V_iload_n dG_isUnder_19 rfl ?_
  refine V_if_lt (tgt := 31) dG_isUnder_20 rfl (fun h => absurd h (by decide)) (fun _ => ?_)
  refine V_iload_n dG_isUnder_23 rfl ?_
  refine V_gsA rfl dG_isUnder_24 fwG_316 ?_
  refine V_tAl dG_isUnder_27 ?_
  refine V_icmp_lt (tgt := 33) dG_isUnder_28 rfl (fun _ => ?_) (fun h => absurd h (by decide))
  refine V_gsA rfl dG_isUnder_33 fwG_316 ?_
  refine V_iload_n dG_isUnder_36 rfl ?_
  refine V_tA dG_isUnder_37 (vp_in_nI (n := 2) (N := 7) (by decide) (by decide)) ?_
  refine V_topI (x' := 0) (by decide) ?_
  refine V_istore_n (loc' := [(2, .int 0), (3, .int 1), (0, .int 5), (1, .int x)]) dG_isUnder_38 (by decide) rfl ?_
  refine V_iinc (v := 2) (loc' := [(3, .int 2), (2, .int 0), (0, .int 5), (1, .int x)]) dG_isUnder_39 rfl (by decide) (by decide) rfl ?_
  refine V_goto (tgt := 4) dG_isUnder_42 rfl ?_
  skip
  refine V_iload_n dG_isUnder_4 rfl ?_
  refine V_gsA rfl dG_isUnder_5 fwG_316 ?_
  refine V_tAl dG_isUnder_8 ?_
  refine V_icmp_ge (tgt := 45) dG_isUnder_9 rfl (fun h => absurd h (by decide)) (fun _ => ?_)
  refine V_iload_n dG_isUnder_12 rfl ?_
  refine V_iload_n dG_isUnder_13 rfl ?_
  skip
  refine V_icmp_ne (tgt := 19) dG_isUnder_14 rfl (fun c14_2 => ?_) (fun c14_2 => ?_)
  rotate_left
  · skip
    refine V_iconst (v := 1) dG_isUnder_17 (by decide) ?_
    exact V_zret dG_isUnder_18 rfl rfl rfl (Or.inl ⟨by simp [← c14_2], rfl, rfl, rfl⟩)
  refine V_iload_n dG_isUnder_19 rfl ?_
  refine V_if_lt (tgt := 31) dG_isUnder_20 rfl (fun h => absurd h (by decide)) (fun _ => ?_)
  refine V_iload_n dG_isUnder_23 rfl ?_
  refine V_gsA rfl dG_isUnder_24 fwG_316 ?_
  refine V_tAl dG_isUnder_27 ?_
  refine V_icmp_lt (tgt := 33) dG_isUnder_28 rfl (fun _ => ?_) (fun h => absurd h (by decide))
  refine V_gsA rfl dG_isUnder_33 fwG_316 ?_
  refine V_iload_n dG_isUnder_36 rfl ?_
  refine V_tA dG_isUnder_37 (vp_in_nI (n := 0) (N := 7) (by decide) (by decide)) ?_
  refine V_topI (x' := (-1)) (by decide) ?_
  refine V_istore_n (loc' := [(2, .int (-1)), (3, .int 2), (0, .int 5), (1, .int x)]) dG_isUnder_38 (by decide) rfl ?_
  refine V_iinc (v := 3) (loc' := [(3, .int 3), (2, .int (-1)), (0, .int 5), (1, .int x)]) dG_isUnder_39 rfl (by decide) (by decide) rfl ?_
  refine V_goto (tgt := 4) dG_isUnder_42 rfl ?_
  skip
  refine V_iload_n dG_isUnder_4 rfl ?_
  refine V_gsA rfl dG_isUnder_5 fwG_316 ?_
  refine V_tAl dG_isUnder_8 ?_
  refine V_icmp_ge (tgt := 45) dG_isUnder_9 rfl (fun h => absurd h (by decide)) (fun _ => ?_)
  refine V_iload_n dG_isUnder_12 rfl ?_
  refine V_iload_n dG_isUnder_13 rfl ?_
  skip
  refine V_icmp_ne (tgt := 19) dG_isUnder_14 rfl (fun c14_3 => ?_) (fun c14_3 => ?_)
  · skip
    refine V_iload_n dG_isUnder_19 rfl ?_
    refine V_if_lt (tgt := 31) dG_isUnder_20 rfl (fun _ => ?_) (fun h => absurd h (by decide))
    refine V_iconst (v := 0) dG_isUnder_31 (by decide) ?_
    exact V_zret dG_isUnder_32 rfl rfl rfl (Or.inr ⟨by simp_all [eq_comm], rfl, rfl, rfl⟩)
  · exact absurd c14_3 (fun q => by subst q; exact absurd hx (by decide))
theorem c_isUnder6 {l : Launch} {G : GT} {σ : Hp} (x : Int32) (hx : 0 ≤ x) : MM l G mG_isUnder 0 0 0 [.int 6, .int x] KA σ (PZ (x = 6 ∨ x = 3 ∨ x = 0) KA σ) := by
  refine MM.of (loc := [(0, .int 6), (1, .int x)]) (by decide +kernel) rfl (Nat.le_of_ble_eq_true rfl) ?_
  refine V_iload_n dG_isUnder_0 rfl ?_
  refine V_istore_n (loc' := [(2, .int 6), (0, .int 6), (1, .int x)]) dG_isUnder_1 (by decide) rfl ?_
  refine V_iconst (v := 0) dG_isUnder_2 (by decide) ?_
  refine V_istore_n (loc' := [(3, .int 0), (2, .int 6), (0, .int 6), (1, .int x)]) dG_isUnder_3 (by decide) rfl ?_
  skip
  refine V_iload_n dG_isUnder_4 rfl ?_
  refine V_gsA rfl dG_isUnder_5 fwG_316 ?_
  refine V_tAl dG_isUnder_8 ?_
  refine V_icmp_ge (tgt := 45) dG_isUnder_9 rfl (fun h => absurd h (by decide)) (fun _ => ?_)
  refine V_iload_n dG_isUnder_12 rfl ?_
  refine V_iload_n dG_isUnder_13 rfl ?_
  skip
  refine V_icmp_ne (tgt := 19) dG_isUnder_14 rfl (fun c14_0 => ?_) (fun c14_0 => ?_)
  rotate_left
  · skip
    refine V_iconst (v := 1) dG_isUnder_17 (by decide) ?_
    exact V_zret dG_isUnder_18 rfl rfl rfl (Or.inl ⟨by simp [← c14_0], rfl, rfl, rfl⟩)
  refine V_iload_n dG_isUnder_19 rfl ?_
  refine V_if_lt (tgt := 31) dG_isUnder_20 rfl (fun h => absurd h (by decide)) (fun _ => ?_)
  refine V_iload_n dG_isUnder_23 rfl ?_
  refine V_gsA rfl dG_isUnder_24 fwG_316 ?_
  refine V_tAl dG_isUnder_27 ?_
  refine V_icmp_lt (tgt := 33) dG_isUnder_28 rfl (fun _ => ?_) (fun h => absurd h (by decide))
  refine V_gsA rfl dG_isUnder_33 fwG_316 ?_
  refine V_iload_n dG_isUnder_36 rfl ?_
  refine V_tA dG_isUnder_37 (vp_in_nI (n := 6) (N := 7) (by decide) (by decide)) ?_
  refine V_topI (x' := 3) (by decide) ?_
  refine V_istore_n (loc' := [(2, .int 3), (3, .int 0), (0, .int 6), (1, .int x)]) dG_isUnder_38 (by decide) rfl ?_
  refine V_iinc (v := 1) (loc' := [(3, .int 1), (2, .int 3), (0, .int 6), (1, .int x)]) dG_isUnder_39 rfl (by decide) (by decide) rfl ?_
  refine V_goto (tgt := 4) dG_isUnder_42 rfl ?_
  skip
  refine V_iload_n dG_isUnder_4 rfl ?_
  refine V_gsA rfl dG_isUnder_5 fwG_316 ?_
  refine V_tAl dG_isUnder_8 ?_
  refine V_icmp_ge (tgt := 45) dG_isUnder_9 rfl (fun h => absurd h (by decide)) (fun _ => ?_)
  refine V_iload_n dG_isUnder_12 rfl ?_
  refine V_iload_n dG_isUnder_13 rfl ?_
  skip
  refine V_icmp_ne (tgt := 19) dG_isUnder_14 rfl (fun c14_1 => ?_) (fun c14_1 => ?_)
  rotate_left
  · skip
    refine V_iconst (v := 1) dG_isUnder_17 (by decide) ?_
    exact V_zret dG_isUnder_18 rfl rfl rfl (Or.inl ⟨by simp [← c14_1], rfl, rfl, rfl⟩)
  refine V_iload_n dG_isUnder_19 rfl ?_
  refine V_if_lt (tgt := 31) dG_isUnder_20 rfl (fun h => absurd h (by decide)) (fun _ => ?_)
  refine V_iload_n dG_isUnder_23 rfl ?_
  refine V_gsA rfl dG_isUnder_24 fwG_316 ?_
  refine V_tAl dG_isUnder_27 ?_
  refine V_icmp_lt (tgt := 33) dG_isUnder_28 rfl (fun _ => ?_) (fun h => absurd h (by decide))
  refine V_gsA rfl dG_isUnder_33 fwG_316 ?_
  refine V_iload_n dG_isUnder_36 rfl ?_
  refine V_tA dG_isUnder_37 (vp_in_nI (n := 3) (N := 7) (by decide) (by decide)) ?_
  refine V_topI (x' := 0) (by decide) ?_
  refine V_istore_n (loc' := [(2, .int 0), (3, .int 1), (0, .int 6), (1, .int x)]) dG_isUnder_38 (by decide) rfl ?_
  refine V_iinc (v := 2) (loc' := [(3, .int 2), (2, .int 0), (0, .int 6), (1, .int x)]) dG_isUnder_39 rfl (by decide) (by decide) rfl ?_
  refine V_goto (tgt := 4) dG_isUnder_42 rfl ?_
  skip
  refine V_iload_n dG_isUnder_4 rfl ?_
  refine V_gsA rfl dG_isUnder_5 fwG_316 ?_
  refine V_tAl dG_isUnder_8 ?_
  refine V_icmp_ge (tgt := 45) dG_isUnder_9 rfl (fun h => absurd h (by decide)) (fun _ => ?_)
  refine V_iload_n dG_isUnder_12 rfl ?_
  refine V_iload_n dG_isUnder_13 rfl ?_
  skip
  refine V_icmp_ne (tgt := 19) dG_isUnder_14 rfl (fun c14_2 => ?_) (fun c14_2 => ?_)
  rotate_left
  · skip
    refine V_iconst (v := 1) dG_isUnder_17 (by decide) ?_
    exact V_zret dG_isUnder_18 rfl rfl rfl (Or.inl ⟨by simp [← c14_2], rfl, rfl, rfl⟩)
  refine V_iload_n dG_isUnder_19 rfl ?_
  refine V_if_lt (tgt := 31) dG_isUnder_20 rfl (fun h => absurd h (by decide)) (fun _ => ?_)
  refine V_iload_n dG_isUnder_23 rfl ?_
  refine V_gsA rfl dG_isUnder_24 fwG_316 ?_
  refine V_tAl dG_isUnder_27 ?_
  refine V_icmp_lt (tgt := 33) dG_isUnder_28 rfl (fun _ => ?_) (fun h => absurd h (by decide))
  refine V_gsA rfl dG_isUnder_33 fwG_316 ?_
  refine V_iload_n dG_isUnder_36 rfl ?_
  refine V_tA dG_isUnder_37 (vp_in_nI (n := 0) (N := 7) (by decide) (by decide)) ?_
  refine V_topI (x' := (-1)) (by decide) ?_
  refine V_istore_n (loc' := [(2, .int (-1)), (3, .int 2), (0, .int 6), (1, .int x)]) dG_isUnder_38 (by decide) rfl ?_
  refine V_iinc (v := 3) (loc' := [(3, .int 3), (2, .int (-1)), (0, .int 6), (1, .int x)]) dG_isUnder_39 rfl (by decide) (by decide) rfl ?_
  refine V_goto (tgt := 4) dG_isUnder_42 rfl ?_
  skip
  refine V_iload_n dG_isUnder_4 rfl ?_
  refine V_gsA rfl dG_isUnder_5 fwG_316 ?_
  refine V_tAl dG_isUnder_8 ?_
  refine V_icmp_ge (tgt := 45) dG_isUnder_9 rfl (fun h => absurd h (by decide)) (fun _ => ?_)
  refine V_iload_n dG_isUnder_12 rfl ?_
  refine V_iload_n dG_isUnder_13 rfl ?_
  skip
  refine V_icmp_ne (tgt := 19) dG_isUnder_14 rfl (fun c14_3 => ?_) (fun c14_3 => ?_)
  · skip
    refine V_iload_n dG_isUnder_19 rfl ?_
    refine V_if_lt (tgt := 31) dG_isUnder_20 rfl (fun _ => ?_) (fun h => absurd h (by decide))
    refine V_iconst (v := 0) dG_isUnder_31 (by decide) ?_
    exact V_zret dG_isUnder_32 rfl rfl rfl (Or.inr ⟨by simp_all [eq_comm], rfl, rfl, rfl⟩)
  · exact absurd c14_3 (fun q => by subst q; exact absurd hx (by decide))
def undB (k : Nat) (x : Int32) : Bool := match k with
  | 0 => decide (x = 0)
  | 1 => decide (x = 1 ∨ x = 0)
  | 2 => decide (x = 2 ∨ x = 0)
  | 3 => decide (x = 3 ∨ x = 0)
  | 4 => decide (x = 4 ∨ x = 1 ∨ x = 0)
  | 5 => decide (x = 5 ∨ x = 2 ∨ x = 0)
  | 6 => decide (x = 6 ∨ x = 3 ∨ x = 0)
  | _ => false
theorem c_isUnder {l : Launch} {G : GT} {σ : Hp} {k : Nat} (hk : k < 7) (x : Int32) (hx : 0 ≤ x) : MM l G mG_isUnder 0 0 0 [.int (nI k), .int x] KA σ (PZ (undB k x = true) KA σ) := by
  match k, hk with
  | 0, _ =>
    have e : (undB 0 x = true) = (x = 0) := propext (by simp [undB])
    rw [e]
    exact c_isUnder0 x hx
  | 1, _ =>
    have e : (undB 1 x = true) = (x = 1 ∨ x = 0) := propext (by simp [undB])
    rw [e]
    exact c_isUnder1 x hx
  | 2, _ =>
    have e : (undB 2 x = true) = (x = 2 ∨ x = 0) := propext (by simp [undB])
    rw [e]
    exact c_isUnder2 x hx
  | 3, _ =>
    have e : (undB 3 x = true) = (x = 3 ∨ x = 0) := propext (by simp [undB])
    rw [e]
    exact c_isUnder3 x hx
  | 4, _ =>
    have e : (undB 4 x = true) = (x = 4 ∨ x = 1 ∨ x = 0) := propext (by simp [undB])
    rw [e]
    exact c_isUnder4 x hx
  | 5, _ =>
    have e : (undB 5 x = true) = (x = 5 ∨ x = 2 ∨ x = 0) := propext (by simp [undB])
    rw [e]
    exact c_isUnder5 x hx
  | 6, _ =>
    have e : (undB 6 x = true) = (x = 6 ∨ x = 3 ∨ x = 0) := propext (by simp [undB])
    rw [e]
    exact c_isUnder6 x hx
def q_taken (M : Hp) (e x : Int32) : Int32 × Hp := if 0 ≤ x ∧ x ≤ 6 then (if rng e (mE M) then (if undB (cN (gi M 78 (cN e))) x = true then (gi M 78 (cN e), M) else (-12, M)) else (-11, M)) else (-2, M)
theorem kN {L : Nat → List Cl} {M : Hp} (hI : Inv L M) {e : Nat} (he : e < mE M) : gi M 78 e = nI (cN (gi M 78 e)) ∧ cN (gi M 78 e) < 7 := (hI.2.1.2.2.2.2.2.2.2.2.1 e he).1
theorem g_taken {l : Launch} {G : GT} {L : Nat → List Cl} {M σ : Hp} (hC : RC L M σ) (hI : Inv L M) (e x : Int32) : MM l G mG_taken 1 0 0 [.ref 0, .int e, .int x] KA σ (PQ L σ (q_taken M e x)) := by
  have hR := hC.1
  have hC0 := hC
  have hS : Sm σ σ := Sm.rfl
  refine MM.of (loc := [(0, .ref 0), (1, .int e), (2, .int x)]) (by decide +kernel) rfl (Nat.le_of_ble_eq_true rfl) ?_
  refine V_iload_n dG_taken_0 rfl ?_
  refine V_bipush (v := 6) dG_taken_1 (by decide) ?_
  refine V_callS (as := [.int x, .int 6]) (rest := []) (bs' := 0) rfl dG_taken_3 cmG_isUpTo stG_isUpTo mlG_75 rfl rfl (c_isUpTo x 6) (by decide) (Nat.le_refl _) (by decide) (Nat.le_of_ble_eq_true rfl) ?_
  rintro _ _ _ (⟨hb3, rfl, rfl, rfl⟩ | ⟨hb3, rfl, rfl, rfl⟩) -
  · refine V_one ?_
    refine V_if_ne (tgt := 12) dG_taken_6 rfl (fun _ => ?_) (fun h => absurd h (by decide))
    refine V_aload_n dG_taken_12 rfl ?_
    refine V_getR (a := 1) dG_taken_13 flG_12 k0 rfl (r0_0 hR) ?_
    refine V_iload_n dG_taken_16 rfl ?_
    refine V_callV (as := [.int e]) (rest := []) (bs' := 0) rfl dG_taken_17 cmF_find cvF_find mlG_90 (Or.inl ⟨_, _, _, _, _, rfl, k1, by decide, rfl⟩) rfl rfl (c_find hC hI e) (by decide) (Nat.le_refl _) (by decide) (Nat.le_of_ble_eq_true rfl) ?_
    rintro _ _ _ (⟨j17, hj17, hx17, rfl, rfl, rfl⟩ | ⟨hb17, rfl, rfl, rfl⟩) -
    · refine V_one ?_
      have hb17 : rng e (mE M) := hx17 ▸ rng_n hj17 (sm9 hI)
      have h817 := lt9 hI hj17
      have hcn17 : cN e = j17 := by rw [hx17]; exact nI_cN (by omega)
      refine V_astore_n (loc' := [(3, .ref (8 + 2 * j17)), (0, .ref 0), (1, .int e), (2, .int x)]) dG_taken_20 (by decide) rfl ?_
      refine V_aload_n dG_taken_21 rfl ?_
      refine V_ifnonnull (tgt := 28) dG_taken_22 rfl ?_
      refine V_aload_n dG_taken_28 rfl ?_
      refine V_getE (x := nI (cN (gi M 78 j17))) dG_taken_29 flG_94 (kE _ h817) rfl ((eK hC h817).trans (kN hI hj17).1) ?_
      refine V_iload_n dG_taken_32 rfl ?_
      refine V_callS (as := [.int (nI (cN (gi M 78 j17))), .int x]) (rest := []) (bs' := 0) rfl dG_taken_33 cmG_isUnder stG_isUnder mlG_276 rfl rfl (c_isUnder (kN hI hj17).2 x hb3.1) (by decide) (Nat.le_refl _) (by decide) (Nat.le_of_ble_eq_true rfl) ?_
      rintro _ _ _ (⟨hb33, rfl, rfl, rfl⟩ | ⟨hb33, rfl, rfl, rfl⟩) -
      · refine V_one ?_
        refine V_if_eq (tgt := 46) dG_taken_36 rfl (fun h => absurd h (by decide)) (fun _ => ?_)
        refine V_aload_n dG_taken_39 rfl ?_
        refine V_getE (x := gi M 78 j17) dG_taken_40 flG_94 (kE _ h817) rfl (eK hC h817) ?_
        refine V_goto (tgt := 48) dG_taken_43 rfl ?_
        refine V_iret dG_taken_48 rfl rfl ?_
        have e : q_taken M e x = (gi M 78 j17, M) := by
          skip
          first
          | (simp only [q_taken, if_pos hb3, hcn17, if_pos hb17, if_pos hb33]; done)
          | (simp [q_taken, hb3, hb17, hcn17, hb33]; done)
          | (simp_all [q_taken]; done)
        rw [e]
        exact ⟨rfl, rfl, hC, hS⟩
      · refine V_one ?_
        refine V_if_eq (tgt := 46) dG_taken_36 rfl (fun _ => ?_) (fun h => absurd h (by decide))
        refine V_bipush (v := -12) dG_taken_46 (by decide) ?_
        refine V_iret dG_taken_48 rfl rfl ?_
        have e : q_taken M e x = ((-12), M) := by
          skip
          first
          | (simp only [q_taken, if_pos hb3, hcn17, if_pos hb17, if_neg hb33]; done)
          | (simp [q_taken, hb3, hb17, hcn17, hb33]; done)
          | (simp_all [q_taken]; done)
        rw [e]
        exact ⟨rfl, rfl, hC, hS⟩
    · refine V_one ?_
      refine V_astore_nN (loc' := [(3, .null), (0, .ref 0), (1, .int e), (2, .int x)]) dG_taken_20 (by decide) rfl ?_
      refine V_aload_nN dG_taken_21 rfl ?_
      refine V_ifnonnullN dG_taken_22 ?_
      refine V_bipush (v := -11) dG_taken_25 (by decide) ?_
      refine V_iret dG_taken_27 rfl rfl ?_
      have e : q_taken M e x = ((-11), M) := by
        skip
        first
        | (simp only [q_taken, if_pos hb3, if_neg hb17]; done)
        | (simp [q_taken, hb3, hb17]; done)
        | (simp_all [q_taken]; done)
      rw [e]
      exact ⟨rfl, rfl, hC, hS⟩
  · refine V_one ?_
    refine V_if_ne (tgt := 12) dG_taken_6 rfl (fun h => absurd h (by decide)) (fun _ => ?_)
    refine V_bipush (v := -2) dG_taken_9 (by decide) ?_
    refine V_iret dG_taken_11 rfl rfl ?_
    have e : q_taken M e x = ((-2), M) := by
      skip
      first
      | (simp only [q_taken, if_neg hb3]; done)
      | (simp [q_taken, hb3]; done)
      | (simp_all [q_taken]; done)
    rw [e]
    exact ⟨rfl, rfl, hC, hS⟩
theorem m_taken {l : Launch} {G : GT} {L : Nat → List Cl} {M σ : Hp} (hM : RM M σ) (hI : Inv L M) (e x : Int32) : MM l G mM_taken 2 0 0 [.ref 76, .int e, .int x] KA σ (PM σ (q_taken M e x)) := by
  have hR := hM.1
  have hM0 := hM
  have hS : Sc σ σ := Sc.rfl
  refine MM.of (loc := [(0, .ref 76), (1, .int e), (2, .int x)]) (by decide +kernel) rfl (Nat.le_of_ble_eq_true rfl) ?_
  refine V_aload_n dM_taken_0 rfl ?_
  refine V_iload_n dM_taken_1 rfl ?_
  refine V_iconst (v := 0) dM_taken_2 (by decide) ?_
  refine V_bipush (v := 6) dM_taken_3 (by decide) ?_
  refine V_callV (as := [.int x, .int 0, .int 6]) (rest := []) (bs' := 0) rfl dM_taken_5 cmM_in cvM_in mlM_203 (Or.inl ⟨_, _, _, _, _, rfl, k76, by decide, rfl⟩) rfl rfl (m_in x 0 6) (by decide) (Nat.le_refl _) (by decide) (Nat.le_of_ble_eq_true rfl) ?_
  rintro _ _ _ (⟨hb5, rfl, rfl, rfl⟩ | ⟨hb5, rfl, rfl, rfl⟩) -
  · refine V_one ?_
    refine V_if_ne (tgt := 14) dM_taken_8 rfl (fun _ => ?_) (fun h => absurd h (by decide))
    refine V_aload_n dM_taken_14 rfl ?_
    refine V_iload_n dM_taken_15 rfl ?_
    refine V_callV (as := [.int e]) (rest := []) (bs' := 0) rfl dM_taken_16 cmM_isEnvelope cvM_isEnvelope mlM_217 (Or.inl ⟨_, _, _, _, _, rfl, k76, by decide, rfl⟩) rfl rfl (m_isEnvelope hM hI.pw e) (by decide) (Nat.le_refl _) (by decide) (Nat.le_of_ble_eq_true rfl) ?_
    rintro _ _ _ (⟨hb16, rfl, rfl, rfl⟩ | ⟨hb16, rfl, rfl, rfl⟩) -
    · refine V_one ?_
      refine V_if_ne (tgt := 25) dM_taken_19 rfl (fun _ => ?_) (fun h => absurd h (by decide))
      obtain ⟨k, hkk⟩ : ∃ k, k = cN (gi M 78 (cN e)) := ⟨_, rfl⟩
      have hk7 : k < 7 := by rw [hkk]; exact (kN hI (rng_N hb16 (sm9 hI)).2).2
      have hkv : gi M 78 (cN e) = nI k := by rw [hkk]; exact (kN hI (rng_N hb16 (sm9 hI)).2).1
      match k, hk7, hkk, hkv with
      | 0, _, hkk, hkv =>
        refine V_aload_n dM_taken_25 rfl ?_
        refine V_getR (a := 78) dM_taken_26 flM_26 k76 rfl (r76_5 hR) ?_
        refine V_iload_n dM_taken_29 rfl ?_
        refine V_ialdN (j := cN e) dM_taken_30 k78 (rng_N hb16 (sm9 hI)).1 (by have := (rng_N hb16 (sm9 hI)).2; have := (iE hI).2; omega) (by decide) ?_
        refine V_topI (x' := 0) ((mR hM rfl).trans hkv) ?_
        refine V_istore_n (loc' := [(3, .int 0), (0, .ref 76), (1, .int e), (2, .int x)]) dM_taken_31 (by decide) rfl ?_
        refine V_iload_n dM_taken_32 rfl ?_
        refine V_if_eq (tgt := 72) dM_taken_33 rfl (fun c33 => ?_) (fun c33 => ?_)
        · skip
          refine V_iload_n dM_taken_72 rfl ?_
          refine V_goto (tgt := 78) dM_taken_73 rfl ?_
          refine V_iret dM_taken_78 rfl rfl ?_
          have e1 : q_taken M e x = (0, M) := by
            simp only [q_taken, if_pos hb5, if_pos hb16, hkv, (show cN (nI 0) = 0 from rfl)]
            first
            | (simp [undB, (show nI 0 = 0 from rfl), c33]; done)
            | exact absurd c43.symm c38
            | exact absurd c53.symm c38
            | exact absurd c63.symm c38
            | (subst c43; first | rfl | (simp [undB]; done))
            | (subst c53; first | rfl | (simp [undB]; done))
            | (subst c63; first | rfl | (simp [undB]; done))
          rw [e1]
          exact ⟨rfl, rfl, hM, hS⟩
        · skip
          refine V_iload_n dM_taken_36 rfl ?_
          refine V_iload_n dM_taken_37 rfl ?_
          refine V_icmp_eq (tgt := 72) dM_taken_38 rfl (fun c38 => ?_) (fun c38 => ?_)
          · skip
            refine V_iload_n dM_taken_72 rfl ?_
            refine V_goto (tgt := 78) dM_taken_73 rfl ?_
            refine V_iret dM_taken_78 rfl rfl ?_
            have e1 : q_taken M e x = (0, M) := by
              simp only [q_taken, if_pos hb5, if_pos hb16, hkv, (show cN (nI 0) = 0 from rfl)]
              first
              | (simp [undB, (show nI 0 = 0 from rfl), c33, ← c38]; done)
              | exact absurd c43.symm c38
              | exact absurd c53.symm c38
              | exact absurd c63.symm c38
              | (subst c43; first | rfl | (simp [undB]; done))
              | (subst c53; first | rfl | (simp [undB]; done))
              | (subst c63; first | rfl | (simp [undB]; done))
            rw [e1]
            exact ⟨rfl, rfl, hM, hS⟩
          · skip
            refine V_iload_n dM_taken_41 rfl ?_
            refine V_iconst (v := 1) dM_taken_42 (by decide) ?_
            refine V_icmp_ne (tgt := 51) dM_taken_43 rfl (fun c43 => ?_) (fun c43 => ?_)
            · skip
              refine V_iload_n dM_taken_51 rfl ?_
              refine V_iconst (v := 2) dM_taken_52 (by decide) ?_
              refine V_icmp_ne (tgt := 61) dM_taken_53 rfl (fun c53 => ?_) (fun c53 => ?_)
              · skip
                refine V_iload_n dM_taken_61 rfl ?_
                refine V_iconst (v := 3) dM_taken_62 (by decide) ?_
                refine V_icmp_ne (tgt := 76) dM_taken_63 rfl (fun c63 => ?_) (fun c63 => ?_)
                · skip
                  refine V_bipush (v := -12) dM_taken_76 (by decide) ?_
                  refine V_iret dM_taken_78 rfl rfl ?_
                  have e1 : q_taken M e x = ((-12), M) := by
                    simp only [q_taken, if_pos hb5, if_pos hb16, hkv, (show cN (nI 0) = 0 from rfl)]
                    first
                    | (simp [undB, (show nI 0 = 0 from rfl), c33, (show ¬ x = 0 from fun q => c38 q.symm), c43, c53, c63]; done)
                    | exact absurd c43.symm c38
                    | exact absurd c53.symm c38
                    | exact absurd c63.symm c38
                    | (subst c43; first | rfl | (simp [undB]; done))
                    | (subst c53; first | rfl | (simp [undB]; done))
                    | (subst c63; first | rfl | (simp [undB]; done))
                  rw [e1]
                  exact ⟨rfl, rfl, hM, hS⟩
                · skip
                  refine V_iload_n dM_taken_66 rfl ?_
                  refine V_bipush (v := 6) dM_taken_67 (by decide) ?_
                  refine V_icmp_ne (tgt := 76) dM_taken_69 rfl (fun _ => ?_) (fun h => absurd h (by decide))
                  refine V_bipush (v := -12) dM_taken_76 (by decide) ?_
                  refine V_iret dM_taken_78 rfl rfl ?_
                  have e1 : q_taken M e x = ((-12), M) := by
                    simp only [q_taken, if_pos hb5, if_pos hb16, hkv, (show cN (nI 0) = 0 from rfl)]
                    first
                    | (simp [undB, (show nI 0 = 0 from rfl), c33, (show ¬ x = 0 from fun q => c38 q.symm), c43, c53, c63]; done)
                    | exact absurd c43.symm c38
                    | exact absurd c53.symm c38
                    | exact absurd c63.symm c38
                    | (subst c43; first | rfl | (simp [undB]; done))
                    | (subst c53; first | rfl | (simp [undB]; done))
                    | (subst c63; first | rfl | (simp [undB]; done))
                  rw [e1]
                  exact ⟨rfl, rfl, hM, hS⟩
              · skip
                refine V_iload_n dM_taken_56 rfl ?_
                refine V_iconst (v := 5) dM_taken_57 (by decide) ?_
                refine V_icmp_eq (tgt := 72) dM_taken_58 rfl (fun h => absurd h (by decide)) (fun _ => ?_)
                refine V_iload_n dM_taken_61 rfl ?_
                refine V_iconst (v := 3) dM_taken_62 (by decide) ?_
                refine V_icmp_ne (tgt := 76) dM_taken_63 rfl (fun c63 => ?_) (fun c63 => ?_)
                · skip
                  refine V_bipush (v := -12) dM_taken_76 (by decide) ?_
                  refine V_iret dM_taken_78 rfl rfl ?_
                  have e1 : q_taken M e x = ((-12), M) := by
                    simp only [q_taken, if_pos hb5, if_pos hb16, hkv, (show cN (nI 0) = 0 from rfl)]
                    first
                    | (simp [undB, (show nI 0 = 0 from rfl), c33, (show ¬ x = 0 from fun q => c38 q.symm), c43, c53, c63]; done)
                    | exact absurd c43.symm c38
                    | exact absurd c53.symm c38
                    | exact absurd c63.symm c38
                    | (subst c43; first | rfl | (simp [undB]; done))
                    | (subst c53; first | rfl | (simp [undB]; done))
                    | (subst c63; first | rfl | (simp [undB]; done))
                  rw [e1]
                  exact ⟨rfl, rfl, hM, hS⟩
                · skip
                  refine V_iload_n dM_taken_66 rfl ?_
                  refine V_bipush (v := 6) dM_taken_67 (by decide) ?_
                  refine V_icmp_ne (tgt := 76) dM_taken_69 rfl (fun _ => ?_) (fun h => absurd h (by decide))
                  refine V_bipush (v := -12) dM_taken_76 (by decide) ?_
                  refine V_iret dM_taken_78 rfl rfl ?_
                  have e1 : q_taken M e x = ((-12), M) := by
                    simp only [q_taken, if_pos hb5, if_pos hb16, hkv, (show cN (nI 0) = 0 from rfl)]
                    first
                    | (simp [undB, (show nI 0 = 0 from rfl), c33, (show ¬ x = 0 from fun q => c38 q.symm), c43, c53, c63]; done)
                    | exact absurd c43.symm c38
                    | exact absurd c53.symm c38
                    | exact absurd c63.symm c38
                    | (subst c43; first | rfl | (simp [undB]; done))
                    | (subst c53; first | rfl | (simp [undB]; done))
                    | (subst c63; first | rfl | (simp [undB]; done))
                  rw [e1]
                  exact ⟨rfl, rfl, hM, hS⟩
            · skip
              refine V_iload_n dM_taken_46 rfl ?_
              refine V_iconst (v := 4) dM_taken_47 (by decide) ?_
              refine V_icmp_eq (tgt := 72) dM_taken_48 rfl (fun h => absurd h (by decide)) (fun _ => ?_)
              refine V_iload_n dM_taken_51 rfl ?_
              refine V_iconst (v := 2) dM_taken_52 (by decide) ?_
              refine V_icmp_ne (tgt := 61) dM_taken_53 rfl (fun c53 => ?_) (fun c53 => ?_)
              · skip
                refine V_iload_n dM_taken_61 rfl ?_
                refine V_iconst (v := 3) dM_taken_62 (by decide) ?_
                refine V_icmp_ne (tgt := 76) dM_taken_63 rfl (fun c63 => ?_) (fun c63 => ?_)
                · skip
                  refine V_bipush (v := -12) dM_taken_76 (by decide) ?_
                  refine V_iret dM_taken_78 rfl rfl ?_
                  have e1 : q_taken M e x = ((-12), M) := by
                    simp only [q_taken, if_pos hb5, if_pos hb16, hkv, (show cN (nI 0) = 0 from rfl)]
                    first
                    | (simp [undB, (show nI 0 = 0 from rfl), c33, (show ¬ x = 0 from fun q => c38 q.symm), c43, c53, c63]; done)
                    | exact absurd c43.symm c38
                    | exact absurd c53.symm c38
                    | exact absurd c63.symm c38
                    | (subst c43; first | rfl | (simp [undB]; done))
                    | (subst c53; first | rfl | (simp [undB]; done))
                    | (subst c63; first | rfl | (simp [undB]; done))
                  rw [e1]
                  exact ⟨rfl, rfl, hM, hS⟩
                · skip
                  refine V_iload_n dM_taken_66 rfl ?_
                  refine V_bipush (v := 6) dM_taken_67 (by decide) ?_
                  refine V_icmp_ne (tgt := 76) dM_taken_69 rfl (fun _ => ?_) (fun h => absurd h (by decide))
                  refine V_bipush (v := -12) dM_taken_76 (by decide) ?_
                  refine V_iret dM_taken_78 rfl rfl ?_
                  have e1 : q_taken M e x = ((-12), M) := by
                    simp only [q_taken, if_pos hb5, if_pos hb16, hkv, (show cN (nI 0) = 0 from rfl)]
                    first
                    | (simp [undB, (show nI 0 = 0 from rfl), c33, (show ¬ x = 0 from fun q => c38 q.symm), c43, c53, c63]; done)
                    | exact absurd c43.symm c38
                    | exact absurd c53.symm c38
                    | exact absurd c63.symm c38
                    | (subst c43; first | rfl | (simp [undB]; done))
                    | (subst c53; first | rfl | (simp [undB]; done))
                    | (subst c63; first | rfl | (simp [undB]; done))
                  rw [e1]
                  exact ⟨rfl, rfl, hM, hS⟩
              · skip
                refine V_iload_n dM_taken_56 rfl ?_
                refine V_iconst (v := 5) dM_taken_57 (by decide) ?_
                refine V_icmp_eq (tgt := 72) dM_taken_58 rfl (fun h => absurd h (by decide)) (fun _ => ?_)
                refine V_iload_n dM_taken_61 rfl ?_
                refine V_iconst (v := 3) dM_taken_62 (by decide) ?_
                refine V_icmp_ne (tgt := 76) dM_taken_63 rfl (fun c63 => ?_) (fun c63 => ?_)
                · skip
                  refine V_bipush (v := -12) dM_taken_76 (by decide) ?_
                  refine V_iret dM_taken_78 rfl rfl ?_
                  have e1 : q_taken M e x = ((-12), M) := by
                    simp only [q_taken, if_pos hb5, if_pos hb16, hkv, (show cN (nI 0) = 0 from rfl)]
                    first
                    | (simp [undB, (show nI 0 = 0 from rfl), c33, (show ¬ x = 0 from fun q => c38 q.symm), c43, c53, c63]; done)
                    | exact absurd c43.symm c38
                    | exact absurd c53.symm c38
                    | exact absurd c63.symm c38
                    | (subst c43; first | rfl | (simp [undB]; done))
                    | (subst c53; first | rfl | (simp [undB]; done))
                    | (subst c63; first | rfl | (simp [undB]; done))
                  rw [e1]
                  exact ⟨rfl, rfl, hM, hS⟩
                · skip
                  refine V_iload_n dM_taken_66 rfl ?_
                  refine V_bipush (v := 6) dM_taken_67 (by decide) ?_
                  refine V_icmp_ne (tgt := 76) dM_taken_69 rfl (fun _ => ?_) (fun h => absurd h (by decide))
                  refine V_bipush (v := -12) dM_taken_76 (by decide) ?_
                  refine V_iret dM_taken_78 rfl rfl ?_
                  have e1 : q_taken M e x = ((-12), M) := by
                    simp only [q_taken, if_pos hb5, if_pos hb16, hkv, (show cN (nI 0) = 0 from rfl)]
                    first
                    | (simp [undB, (show nI 0 = 0 from rfl), c33, (show ¬ x = 0 from fun q => c38 q.symm), c43, c53, c63]; done)
                    | exact absurd c43.symm c38
                    | exact absurd c53.symm c38
                    | exact absurd c63.symm c38
                    | (subst c43; first | rfl | (simp [undB]; done))
                    | (subst c53; first | rfl | (simp [undB]; done))
                    | (subst c63; first | rfl | (simp [undB]; done))
                  rw [e1]
                  exact ⟨rfl, rfl, hM, hS⟩
      | 1, _, hkk, hkv =>
        refine V_aload_n dM_taken_25 rfl ?_
        refine V_getR (a := 78) dM_taken_26 flM_26 k76 rfl (r76_5 hR) ?_
        refine V_iload_n dM_taken_29 rfl ?_
        refine V_ialdN (j := cN e) dM_taken_30 k78 (rng_N hb16 (sm9 hI)).1 (by have := (rng_N hb16 (sm9 hI)).2; have := (iE hI).2; omega) (by decide) ?_
        refine V_topI (x' := 1) ((mR hM rfl).trans hkv) ?_
        refine V_istore_n (loc' := [(3, .int 1), (0, .ref 76), (1, .int e), (2, .int x)]) dM_taken_31 (by decide) rfl ?_
        refine V_iload_n dM_taken_32 rfl ?_
        refine V_if_eq (tgt := 72) dM_taken_33 rfl (fun c33 => ?_) (fun c33 => ?_)
        · skip
          refine V_iload_n dM_taken_72 rfl ?_
          refine V_goto (tgt := 78) dM_taken_73 rfl ?_
          refine V_iret dM_taken_78 rfl rfl ?_
          have e1 : q_taken M e x = (1, M) := by
            simp only [q_taken, if_pos hb5, if_pos hb16, hkv, (show cN (nI 1) = 1 from rfl)]
            first
            | (simp [undB, (show nI 1 = 1 from rfl), c33]; done)
            | exact absurd c43.symm c38
            | exact absurd c53.symm c38
            | exact absurd c63.symm c38
            | (subst c43; first | rfl | (simp [undB]; done))
            | (subst c53; first | rfl | (simp [undB]; done))
            | (subst c63; first | rfl | (simp [undB]; done))
          rw [e1]
          exact ⟨rfl, rfl, hM, hS⟩
        · skip
          refine V_iload_n dM_taken_36 rfl ?_
          refine V_iload_n dM_taken_37 rfl ?_
          refine V_icmp_eq (tgt := 72) dM_taken_38 rfl (fun c38 => ?_) (fun c38 => ?_)
          · skip
            refine V_iload_n dM_taken_72 rfl ?_
            refine V_goto (tgt := 78) dM_taken_73 rfl ?_
            refine V_iret dM_taken_78 rfl rfl ?_
            have e1 : q_taken M e x = (1, M) := by
              simp only [q_taken, if_pos hb5, if_pos hb16, hkv, (show cN (nI 1) = 1 from rfl)]
              first
              | (simp [undB, (show nI 1 = 1 from rfl), c33, ← c38]; done)
              | exact absurd c43.symm c38
              | exact absurd c53.symm c38
              | exact absurd c63.symm c38
              | (subst c43; first | rfl | (simp [undB]; done))
              | (subst c53; first | rfl | (simp [undB]; done))
              | (subst c63; first | rfl | (simp [undB]; done))
            rw [e1]
            exact ⟨rfl, rfl, hM, hS⟩
          · skip
            refine V_iload_n dM_taken_41 rfl ?_
            refine V_iconst (v := 1) dM_taken_42 (by decide) ?_
            refine V_icmp_ne (tgt := 51) dM_taken_43 rfl (fun c43 => ?_) (fun c43 => ?_)
            · skip
              refine V_iload_n dM_taken_51 rfl ?_
              refine V_iconst (v := 2) dM_taken_52 (by decide) ?_
              refine V_icmp_ne (tgt := 61) dM_taken_53 rfl (fun c53 => ?_) (fun c53 => ?_)
              · skip
                refine V_iload_n dM_taken_61 rfl ?_
                refine V_iconst (v := 3) dM_taken_62 (by decide) ?_
                refine V_icmp_ne (tgt := 76) dM_taken_63 rfl (fun c63 => ?_) (fun c63 => ?_)
                · skip
                  refine V_bipush (v := -12) dM_taken_76 (by decide) ?_
                  refine V_iret dM_taken_78 rfl rfl ?_
                  have e1 : q_taken M e x = ((-12), M) := by
                    simp only [q_taken, if_pos hb5, if_pos hb16, hkv, (show cN (nI 1) = 1 from rfl)]
                    first
                    | (simp [undB, (show nI 1 = 1 from rfl), c33, (show ¬ x = 1 from fun q => c38 q.symm), c43, c53, c63]; done)
                    | exact absurd c43.symm c38
                    | exact absurd c53.symm c38
                    | exact absurd c63.symm c38
                    | (subst c43; first | rfl | (simp [undB]; done))
                    | (subst c53; first | rfl | (simp [undB]; done))
                    | (subst c63; first | rfl | (simp [undB]; done))
                  rw [e1]
                  exact ⟨rfl, rfl, hM, hS⟩
                · skip
                  refine V_iload_n dM_taken_66 rfl ?_
                  refine V_bipush (v := 6) dM_taken_67 (by decide) ?_
                  refine V_icmp_ne (tgt := 76) dM_taken_69 rfl (fun _ => ?_) (fun h => absurd h (by decide))
                  refine V_bipush (v := -12) dM_taken_76 (by decide) ?_
                  refine V_iret dM_taken_78 rfl rfl ?_
                  have e1 : q_taken M e x = ((-12), M) := by
                    simp only [q_taken, if_pos hb5, if_pos hb16, hkv, (show cN (nI 1) = 1 from rfl)]
                    first
                    | (simp [undB, (show nI 1 = 1 from rfl), c33, (show ¬ x = 1 from fun q => c38 q.symm), c43, c53, c63]; done)
                    | exact absurd c43.symm c38
                    | exact absurd c53.symm c38
                    | exact absurd c63.symm c38
                    | (subst c43; first | rfl | (simp [undB]; done))
                    | (subst c53; first | rfl | (simp [undB]; done))
                    | (subst c63; first | rfl | (simp [undB]; done))
                  rw [e1]
                  exact ⟨rfl, rfl, hM, hS⟩
              · skip
                refine V_iload_n dM_taken_56 rfl ?_
                refine V_iconst (v := 5) dM_taken_57 (by decide) ?_
                refine V_icmp_eq (tgt := 72) dM_taken_58 rfl (fun h => absurd h (by decide)) (fun _ => ?_)
                refine V_iload_n dM_taken_61 rfl ?_
                refine V_iconst (v := 3) dM_taken_62 (by decide) ?_
                refine V_icmp_ne (tgt := 76) dM_taken_63 rfl (fun c63 => ?_) (fun c63 => ?_)
                · skip
                  refine V_bipush (v := -12) dM_taken_76 (by decide) ?_
                  refine V_iret dM_taken_78 rfl rfl ?_
                  have e1 : q_taken M e x = ((-12), M) := by
                    simp only [q_taken, if_pos hb5, if_pos hb16, hkv, (show cN (nI 1) = 1 from rfl)]
                    first
                    | (simp [undB, (show nI 1 = 1 from rfl), c33, (show ¬ x = 1 from fun q => c38 q.symm), c43, c53, c63]; done)
                    | exact absurd c43.symm c38
                    | exact absurd c53.symm c38
                    | exact absurd c63.symm c38
                    | (subst c43; first | rfl | (simp [undB]; done))
                    | (subst c53; first | rfl | (simp [undB]; done))
                    | (subst c63; first | rfl | (simp [undB]; done))
                  rw [e1]
                  exact ⟨rfl, rfl, hM, hS⟩
                · skip
                  refine V_iload_n dM_taken_66 rfl ?_
                  refine V_bipush (v := 6) dM_taken_67 (by decide) ?_
                  refine V_icmp_ne (tgt := 76) dM_taken_69 rfl (fun _ => ?_) (fun h => absurd h (by decide))
                  refine V_bipush (v := -12) dM_taken_76 (by decide) ?_
                  refine V_iret dM_taken_78 rfl rfl ?_
                  have e1 : q_taken M e x = ((-12), M) := by
                    simp only [q_taken, if_pos hb5, if_pos hb16, hkv, (show cN (nI 1) = 1 from rfl)]
                    first
                    | (simp [undB, (show nI 1 = 1 from rfl), c33, (show ¬ x = 1 from fun q => c38 q.symm), c43, c53, c63]; done)
                    | exact absurd c43.symm c38
                    | exact absurd c53.symm c38
                    | exact absurd c63.symm c38
                    | (subst c43; first | rfl | (simp [undB]; done))
                    | (subst c53; first | rfl | (simp [undB]; done))
                    | (subst c63; first | rfl | (simp [undB]; done))
                  rw [e1]
                  exact ⟨rfl, rfl, hM, hS⟩
            · skip
              refine V_iload_n dM_taken_46 rfl ?_
              refine V_iconst (v := 4) dM_taken_47 (by decide) ?_
              refine V_icmp_eq (tgt := 72) dM_taken_48 rfl (fun h => absurd h (by decide)) (fun _ => ?_)
              refine V_iload_n dM_taken_51 rfl ?_
              refine V_iconst (v := 2) dM_taken_52 (by decide) ?_
              refine V_icmp_ne (tgt := 61) dM_taken_53 rfl (fun c53 => ?_) (fun c53 => ?_)
              · skip
                refine V_iload_n dM_taken_61 rfl ?_
                refine V_iconst (v := 3) dM_taken_62 (by decide) ?_
                refine V_icmp_ne (tgt := 76) dM_taken_63 rfl (fun c63 => ?_) (fun c63 => ?_)
                · skip
                  refine V_bipush (v := -12) dM_taken_76 (by decide) ?_
                  refine V_iret dM_taken_78 rfl rfl ?_
                  have e1 : q_taken M e x = ((-12), M) := by
                    simp only [q_taken, if_pos hb5, if_pos hb16, hkv, (show cN (nI 1) = 1 from rfl)]
                    first
                    | (simp [undB, (show nI 1 = 1 from rfl), c33, (show ¬ x = 1 from fun q => c38 q.symm), c43, c53, c63]; done)
                    | exact absurd c43.symm c38
                    | exact absurd c53.symm c38
                    | exact absurd c63.symm c38
                    | (subst c43; first | rfl | (simp [undB]; done))
                    | (subst c53; first | rfl | (simp [undB]; done))
                    | (subst c63; first | rfl | (simp [undB]; done))
                  rw [e1]
                  exact ⟨rfl, rfl, hM, hS⟩
                · skip
                  refine V_iload_n dM_taken_66 rfl ?_
                  refine V_bipush (v := 6) dM_taken_67 (by decide) ?_
                  refine V_icmp_ne (tgt := 76) dM_taken_69 rfl (fun _ => ?_) (fun h => absurd h (by decide))
                  refine V_bipush (v := -12) dM_taken_76 (by decide) ?_
                  refine V_iret dM_taken_78 rfl rfl ?_
                  have e1 : q_taken M e x = ((-12), M) := by
                    simp only [q_taken, if_pos hb5, if_pos hb16, hkv, (show cN (nI 1) = 1 from rfl)]
                    first
                    | (simp [undB, (show nI 1 = 1 from rfl), c33, (show ¬ x = 1 from fun q => c38 q.symm), c43, c53, c63]; done)
                    | exact absurd c43.symm c38
                    | exact absurd c53.symm c38
                    | exact absurd c63.symm c38
                    | (subst c43; first | rfl | (simp [undB]; done))
                    | (subst c53; first | rfl | (simp [undB]; done))
                    | (subst c63; first | rfl | (simp [undB]; done))
                  rw [e1]
                  exact ⟨rfl, rfl, hM, hS⟩
              · skip
                refine V_iload_n dM_taken_56 rfl ?_
                refine V_iconst (v := 5) dM_taken_57 (by decide) ?_
                refine V_icmp_eq (tgt := 72) dM_taken_58 rfl (fun h => absurd h (by decide)) (fun _ => ?_)
                refine V_iload_n dM_taken_61 rfl ?_
                refine V_iconst (v := 3) dM_taken_62 (by decide) ?_
                refine V_icmp_ne (tgt := 76) dM_taken_63 rfl (fun c63 => ?_) (fun c63 => ?_)
                · skip
                  refine V_bipush (v := -12) dM_taken_76 (by decide) ?_
                  refine V_iret dM_taken_78 rfl rfl ?_
                  have e1 : q_taken M e x = ((-12), M) := by
                    simp only [q_taken, if_pos hb5, if_pos hb16, hkv, (show cN (nI 1) = 1 from rfl)]
                    first
                    | (simp [undB, (show nI 1 = 1 from rfl), c33, (show ¬ x = 1 from fun q => c38 q.symm), c43, c53, c63]; done)
                    | exact absurd c43.symm c38
                    | exact absurd c53.symm c38
                    | exact absurd c63.symm c38
                    | (subst c43; first | rfl | (simp [undB]; done))
                    | (subst c53; first | rfl | (simp [undB]; done))
                    | (subst c63; first | rfl | (simp [undB]; done))
                  rw [e1]
                  exact ⟨rfl, rfl, hM, hS⟩
                · skip
                  refine V_iload_n dM_taken_66 rfl ?_
                  refine V_bipush (v := 6) dM_taken_67 (by decide) ?_
                  refine V_icmp_ne (tgt := 76) dM_taken_69 rfl (fun _ => ?_) (fun h => absurd h (by decide))
                  refine V_bipush (v := -12) dM_taken_76 (by decide) ?_
                  refine V_iret dM_taken_78 rfl rfl ?_
                  have e1 : q_taken M e x = ((-12), M) := by
                    simp only [q_taken, if_pos hb5, if_pos hb16, hkv, (show cN (nI 1) = 1 from rfl)]
                    first
                    | (simp [undB, (show nI 1 = 1 from rfl), c33, (show ¬ x = 1 from fun q => c38 q.symm), c43, c53, c63]; done)
                    | exact absurd c43.symm c38
                    | exact absurd c53.symm c38
                    | exact absurd c63.symm c38
                    | (subst c43; first | rfl | (simp [undB]; done))
                    | (subst c53; first | rfl | (simp [undB]; done))
                    | (subst c63; first | rfl | (simp [undB]; done))
                  rw [e1]
                  exact ⟨rfl, rfl, hM, hS⟩
      | 2, _, hkk, hkv =>
        refine V_aload_n dM_taken_25 rfl ?_
        refine V_getR (a := 78) dM_taken_26 flM_26 k76 rfl (r76_5 hR) ?_
        refine V_iload_n dM_taken_29 rfl ?_
        refine V_ialdN (j := cN e) dM_taken_30 k78 (rng_N hb16 (sm9 hI)).1 (by have := (rng_N hb16 (sm9 hI)).2; have := (iE hI).2; omega) (by decide) ?_
        refine V_topI (x' := 2) ((mR hM rfl).trans hkv) ?_
        refine V_istore_n (loc' := [(3, .int 2), (0, .ref 76), (1, .int e), (2, .int x)]) dM_taken_31 (by decide) rfl ?_
        refine V_iload_n dM_taken_32 rfl ?_
        refine V_if_eq (tgt := 72) dM_taken_33 rfl (fun c33 => ?_) (fun c33 => ?_)
        · skip
          refine V_iload_n dM_taken_72 rfl ?_
          refine V_goto (tgt := 78) dM_taken_73 rfl ?_
          refine V_iret dM_taken_78 rfl rfl ?_
          have e1 : q_taken M e x = (2, M) := by
            simp only [q_taken, if_pos hb5, if_pos hb16, hkv, (show cN (nI 2) = 2 from rfl)]
            first
            | (simp [undB, (show nI 2 = 2 from rfl), c33]; done)
            | exact absurd c43.symm c38
            | exact absurd c53.symm c38
            | exact absurd c63.symm c38
            | (subst c43; first | rfl | (simp [undB]; done))
            | (subst c53; first | rfl | (simp [undB]; done))
            | (subst c63; first | rfl | (simp [undB]; done))
          rw [e1]
          exact ⟨rfl, rfl, hM, hS⟩
        · skip
          refine V_iload_n dM_taken_36 rfl ?_
          refine V_iload_n dM_taken_37 rfl ?_
          refine V_icmp_eq (tgt := 72) dM_taken_38 rfl (fun c38 => ?_) (fun c38 => ?_)
          · skip
            refine V_iload_n dM_taken_72 rfl ?_
            refine V_goto (tgt := 78) dM_taken_73 rfl ?_
            refine V_iret dM_taken_78 rfl rfl ?_
            have e1 : q_taken M e x = (2, M) := by
              simp only [q_taken, if_pos hb5, if_pos hb16, hkv, (show cN (nI 2) = 2 from rfl)]
              first
              | (simp [undB, (show nI 2 = 2 from rfl), c33, ← c38]; done)
              | exact absurd c43.symm c38
              | exact absurd c53.symm c38
              | exact absurd c63.symm c38
              | (subst c43; first | rfl | (simp [undB]; done))
              | (subst c53; first | rfl | (simp [undB]; done))
              | (subst c63; first | rfl | (simp [undB]; done))
            rw [e1]
            exact ⟨rfl, rfl, hM, hS⟩
          · skip
            refine V_iload_n dM_taken_41 rfl ?_
            refine V_iconst (v := 1) dM_taken_42 (by decide) ?_
            refine V_icmp_ne (tgt := 51) dM_taken_43 rfl (fun c43 => ?_) (fun c43 => ?_)
            · skip
              refine V_iload_n dM_taken_51 rfl ?_
              refine V_iconst (v := 2) dM_taken_52 (by decide) ?_
              refine V_icmp_ne (tgt := 61) dM_taken_53 rfl (fun c53 => ?_) (fun c53 => ?_)
              · skip
                refine V_iload_n dM_taken_61 rfl ?_
                refine V_iconst (v := 3) dM_taken_62 (by decide) ?_
                refine V_icmp_ne (tgt := 76) dM_taken_63 rfl (fun c63 => ?_) (fun c63 => ?_)
                · skip
                  refine V_bipush (v := -12) dM_taken_76 (by decide) ?_
                  refine V_iret dM_taken_78 rfl rfl ?_
                  have e1 : q_taken M e x = ((-12), M) := by
                    simp only [q_taken, if_pos hb5, if_pos hb16, hkv, (show cN (nI 2) = 2 from rfl)]
                    first
                    | (simp [undB, (show nI 2 = 2 from rfl), c33, (show ¬ x = 2 from fun q => c38 q.symm), c43, c53, c63]; done)
                    | exact absurd c43.symm c38
                    | exact absurd c53.symm c38
                    | exact absurd c63.symm c38
                    | (subst c43; first | rfl | (simp [undB]; done))
                    | (subst c53; first | rfl | (simp [undB]; done))
                    | (subst c63; first | rfl | (simp [undB]; done))
                  rw [e1]
                  exact ⟨rfl, rfl, hM, hS⟩
                · skip
                  refine V_iload_n dM_taken_66 rfl ?_
                  refine V_bipush (v := 6) dM_taken_67 (by decide) ?_
                  refine V_icmp_ne (tgt := 76) dM_taken_69 rfl (fun _ => ?_) (fun h => absurd h (by decide))
                  refine V_bipush (v := -12) dM_taken_76 (by decide) ?_
                  refine V_iret dM_taken_78 rfl rfl ?_
                  have e1 : q_taken M e x = ((-12), M) := by
                    simp only [q_taken, if_pos hb5, if_pos hb16, hkv, (show cN (nI 2) = 2 from rfl)]
                    first
                    | (simp [undB, (show nI 2 = 2 from rfl), c33, (show ¬ x = 2 from fun q => c38 q.symm), c43, c53, c63]; done)
                    | exact absurd c43.symm c38
                    | exact absurd c53.symm c38
                    | exact absurd c63.symm c38
                    | (subst c43; first | rfl | (simp [undB]; done))
                    | (subst c53; first | rfl | (simp [undB]; done))
                    | (subst c63; first | rfl | (simp [undB]; done))
                  rw [e1]
                  exact ⟨rfl, rfl, hM, hS⟩
              · skip
                refine V_iload_n dM_taken_56 rfl ?_
                refine V_iconst (v := 5) dM_taken_57 (by decide) ?_
                refine V_icmp_eq (tgt := 72) dM_taken_58 rfl (fun h => absurd h (by decide)) (fun _ => ?_)
                refine V_iload_n dM_taken_61 rfl ?_
                refine V_iconst (v := 3) dM_taken_62 (by decide) ?_
                refine V_icmp_ne (tgt := 76) dM_taken_63 rfl (fun c63 => ?_) (fun c63 => ?_)
                · skip
                  refine V_bipush (v := -12) dM_taken_76 (by decide) ?_
                  refine V_iret dM_taken_78 rfl rfl ?_
                  have e1 : q_taken M e x = ((-12), M) := by
                    simp only [q_taken, if_pos hb5, if_pos hb16, hkv, (show cN (nI 2) = 2 from rfl)]
                    first
                    | (simp [undB, (show nI 2 = 2 from rfl), c33, (show ¬ x = 2 from fun q => c38 q.symm), c43, c53, c63]; done)
                    | exact absurd c43.symm c38
                    | exact absurd c53.symm c38
                    | exact absurd c63.symm c38
                    | (subst c43; first | rfl | (simp [undB]; done))
                    | (subst c53; first | rfl | (simp [undB]; done))
                    | (subst c63; first | rfl | (simp [undB]; done))
                  rw [e1]
                  exact ⟨rfl, rfl, hM, hS⟩
                · skip
                  refine V_iload_n dM_taken_66 rfl ?_
                  refine V_bipush (v := 6) dM_taken_67 (by decide) ?_
                  refine V_icmp_ne (tgt := 76) dM_taken_69 rfl (fun _ => ?_) (fun h => absurd h (by decide))
                  refine V_bipush (v := -12) dM_taken_76 (by decide) ?_
                  refine V_iret dM_taken_78 rfl rfl ?_
                  have e1 : q_taken M e x = ((-12), M) := by
                    simp only [q_taken, if_pos hb5, if_pos hb16, hkv, (show cN (nI 2) = 2 from rfl)]
                    first
                    | (simp [undB, (show nI 2 = 2 from rfl), c33, (show ¬ x = 2 from fun q => c38 q.symm), c43, c53, c63]; done)
                    | exact absurd c43.symm c38
                    | exact absurd c53.symm c38
                    | exact absurd c63.symm c38
                    | (subst c43; first | rfl | (simp [undB]; done))
                    | (subst c53; first | rfl | (simp [undB]; done))
                    | (subst c63; first | rfl | (simp [undB]; done))
                  rw [e1]
                  exact ⟨rfl, rfl, hM, hS⟩
            · skip
              refine V_iload_n dM_taken_46 rfl ?_
              refine V_iconst (v := 4) dM_taken_47 (by decide) ?_
              refine V_icmp_eq (tgt := 72) dM_taken_48 rfl (fun h => absurd h (by decide)) (fun _ => ?_)
              refine V_iload_n dM_taken_51 rfl ?_
              refine V_iconst (v := 2) dM_taken_52 (by decide) ?_
              refine V_icmp_ne (tgt := 61) dM_taken_53 rfl (fun c53 => ?_) (fun c53 => ?_)
              · skip
                refine V_iload_n dM_taken_61 rfl ?_
                refine V_iconst (v := 3) dM_taken_62 (by decide) ?_
                refine V_icmp_ne (tgt := 76) dM_taken_63 rfl (fun c63 => ?_) (fun c63 => ?_)
                · skip
                  refine V_bipush (v := -12) dM_taken_76 (by decide) ?_
                  refine V_iret dM_taken_78 rfl rfl ?_
                  have e1 : q_taken M e x = ((-12), M) := by
                    simp only [q_taken, if_pos hb5, if_pos hb16, hkv, (show cN (nI 2) = 2 from rfl)]
                    first
                    | (simp [undB, (show nI 2 = 2 from rfl), c33, (show ¬ x = 2 from fun q => c38 q.symm), c43, c53, c63]; done)
                    | exact absurd c43.symm c38
                    | exact absurd c53.symm c38
                    | exact absurd c63.symm c38
                    | (subst c43; first | rfl | (simp [undB]; done))
                    | (subst c53; first | rfl | (simp [undB]; done))
                    | (subst c63; first | rfl | (simp [undB]; done))
                  rw [e1]
                  exact ⟨rfl, rfl, hM, hS⟩
                · skip
                  refine V_iload_n dM_taken_66 rfl ?_
                  refine V_bipush (v := 6) dM_taken_67 (by decide) ?_
                  refine V_icmp_ne (tgt := 76) dM_taken_69 rfl (fun _ => ?_) (fun h => absurd h (by decide))
                  refine V_bipush (v := -12) dM_taken_76 (by decide) ?_
                  refine V_iret dM_taken_78 rfl rfl ?_
                  have e1 : q_taken M e x = ((-12), M) := by
                    simp only [q_taken, if_pos hb5, if_pos hb16, hkv, (show cN (nI 2) = 2 from rfl)]
                    first
                    | (simp [undB, (show nI 2 = 2 from rfl), c33, (show ¬ x = 2 from fun q => c38 q.symm), c43, c53, c63]; done)
                    | exact absurd c43.symm c38
                    | exact absurd c53.symm c38
                    | exact absurd c63.symm c38
                    | (subst c43; first | rfl | (simp [undB]; done))
                    | (subst c53; first | rfl | (simp [undB]; done))
                    | (subst c63; first | rfl | (simp [undB]; done))
                  rw [e1]
                  exact ⟨rfl, rfl, hM, hS⟩
              · skip
                refine V_iload_n dM_taken_56 rfl ?_
                refine V_iconst (v := 5) dM_taken_57 (by decide) ?_
                refine V_icmp_eq (tgt := 72) dM_taken_58 rfl (fun h => absurd h (by decide)) (fun _ => ?_)
                refine V_iload_n dM_taken_61 rfl ?_
                refine V_iconst (v := 3) dM_taken_62 (by decide) ?_
                refine V_icmp_ne (tgt := 76) dM_taken_63 rfl (fun c63 => ?_) (fun c63 => ?_)
                · skip
                  refine V_bipush (v := -12) dM_taken_76 (by decide) ?_
                  refine V_iret dM_taken_78 rfl rfl ?_
                  have e1 : q_taken M e x = ((-12), M) := by
                    simp only [q_taken, if_pos hb5, if_pos hb16, hkv, (show cN (nI 2) = 2 from rfl)]
                    first
                    | (simp [undB, (show nI 2 = 2 from rfl), c33, (show ¬ x = 2 from fun q => c38 q.symm), c43, c53, c63]; done)
                    | exact absurd c43.symm c38
                    | exact absurd c53.symm c38
                    | exact absurd c63.symm c38
                    | (subst c43; first | rfl | (simp [undB]; done))
                    | (subst c53; first | rfl | (simp [undB]; done))
                    | (subst c63; first | rfl | (simp [undB]; done))
                  rw [e1]
                  exact ⟨rfl, rfl, hM, hS⟩
                · skip
                  refine V_iload_n dM_taken_66 rfl ?_
                  refine V_bipush (v := 6) dM_taken_67 (by decide) ?_
                  refine V_icmp_ne (tgt := 76) dM_taken_69 rfl (fun _ => ?_) (fun h => absurd h (by decide))
                  refine V_bipush (v := -12) dM_taken_76 (by decide) ?_
                  refine V_iret dM_taken_78 rfl rfl ?_
                  have e1 : q_taken M e x = ((-12), M) := by
                    simp only [q_taken, if_pos hb5, if_pos hb16, hkv, (show cN (nI 2) = 2 from rfl)]
                    first
                    | (simp [undB, (show nI 2 = 2 from rfl), c33, (show ¬ x = 2 from fun q => c38 q.symm), c43, c53, c63]; done)
                    | exact absurd c43.symm c38
                    | exact absurd c53.symm c38
                    | exact absurd c63.symm c38
                    | (subst c43; first | rfl | (simp [undB]; done))
                    | (subst c53; first | rfl | (simp [undB]; done))
                    | (subst c63; first | rfl | (simp [undB]; done))
                  rw [e1]
                  exact ⟨rfl, rfl, hM, hS⟩
      | 3, _, hkk, hkv =>
        refine V_aload_n dM_taken_25 rfl ?_
        refine V_getR (a := 78) dM_taken_26 flM_26 k76 rfl (r76_5 hR) ?_
        refine V_iload_n dM_taken_29 rfl ?_
        refine V_ialdN (j := cN e) dM_taken_30 k78 (rng_N hb16 (sm9 hI)).1 (by have := (rng_N hb16 (sm9 hI)).2; have := (iE hI).2; omega) (by decide) ?_
        refine V_topI (x' := 3) ((mR hM rfl).trans hkv) ?_
        refine V_istore_n (loc' := [(3, .int 3), (0, .ref 76), (1, .int e), (2, .int x)]) dM_taken_31 (by decide) rfl ?_
        refine V_iload_n dM_taken_32 rfl ?_
        refine V_if_eq (tgt := 72) dM_taken_33 rfl (fun c33 => ?_) (fun c33 => ?_)
        · skip
          refine V_iload_n dM_taken_72 rfl ?_
          refine V_goto (tgt := 78) dM_taken_73 rfl ?_
          refine V_iret dM_taken_78 rfl rfl ?_
          have e1 : q_taken M e x = (3, M) := by
            simp only [q_taken, if_pos hb5, if_pos hb16, hkv, (show cN (nI 3) = 3 from rfl)]
            first
            | (simp [undB, (show nI 3 = 3 from rfl), c33]; done)
            | exact absurd c43.symm c38
            | exact absurd c53.symm c38
            | exact absurd c63.symm c38
            | (subst c43; first | rfl | (simp [undB]; done))
            | (subst c53; first | rfl | (simp [undB]; done))
            | (subst c63; first | rfl | (simp [undB]; done))
          rw [e1]
          exact ⟨rfl, rfl, hM, hS⟩
        · skip
          refine V_iload_n dM_taken_36 rfl ?_
          refine V_iload_n dM_taken_37 rfl ?_
          refine V_icmp_eq (tgt := 72) dM_taken_38 rfl (fun c38 => ?_) (fun c38 => ?_)
          · skip
            refine V_iload_n dM_taken_72 rfl ?_
            refine V_goto (tgt := 78) dM_taken_73 rfl ?_
            refine V_iret dM_taken_78 rfl rfl ?_
            have e1 : q_taken M e x = (3, M) := by
              simp only [q_taken, if_pos hb5, if_pos hb16, hkv, (show cN (nI 3) = 3 from rfl)]
              first
              | (simp [undB, (show nI 3 = 3 from rfl), c33, ← c38]; done)
              | exact absurd c43.symm c38
              | exact absurd c53.symm c38
              | exact absurd c63.symm c38
              | (subst c43; first | rfl | (simp [undB]; done))
              | (subst c53; first | rfl | (simp [undB]; done))
              | (subst c63; first | rfl | (simp [undB]; done))
            rw [e1]
            exact ⟨rfl, rfl, hM, hS⟩
          · skip
            refine V_iload_n dM_taken_41 rfl ?_
            refine V_iconst (v := 1) dM_taken_42 (by decide) ?_
            refine V_icmp_ne (tgt := 51) dM_taken_43 rfl (fun c43 => ?_) (fun c43 => ?_)
            · skip
              refine V_iload_n dM_taken_51 rfl ?_
              refine V_iconst (v := 2) dM_taken_52 (by decide) ?_
              refine V_icmp_ne (tgt := 61) dM_taken_53 rfl (fun c53 => ?_) (fun c53 => ?_)
              · skip
                refine V_iload_n dM_taken_61 rfl ?_
                refine V_iconst (v := 3) dM_taken_62 (by decide) ?_
                refine V_icmp_ne (tgt := 76) dM_taken_63 rfl (fun c63 => ?_) (fun c63 => ?_)
                · skip
                  refine V_bipush (v := -12) dM_taken_76 (by decide) ?_
                  refine V_iret dM_taken_78 rfl rfl ?_
                  have e1 : q_taken M e x = ((-12), M) := by
                    simp only [q_taken, if_pos hb5, if_pos hb16, hkv, (show cN (nI 3) = 3 from rfl)]
                    first
                    | (simp [undB, (show nI 3 = 3 from rfl), c33, (show ¬ x = 3 from fun q => c38 q.symm), c43, c53, c63]; done)
                    | exact absurd c43.symm c38
                    | exact absurd c53.symm c38
                    | exact absurd c63.symm c38
                    | (subst c43; first | rfl | (simp [undB]; done))
                    | (subst c53; first | rfl | (simp [undB]; done))
                    | (subst c63; first | rfl | (simp [undB]; done))
                  rw [e1]
                  exact ⟨rfl, rfl, hM, hS⟩
                · skip
                  refine V_iload_n dM_taken_66 rfl ?_
                  refine V_bipush (v := 6) dM_taken_67 (by decide) ?_
                  refine V_icmp_ne (tgt := 76) dM_taken_69 rfl (fun _ => ?_) (fun h => absurd h (by decide))
                  refine V_bipush (v := -12) dM_taken_76 (by decide) ?_
                  refine V_iret dM_taken_78 rfl rfl ?_
                  have e1 : q_taken M e x = ((-12), M) := by
                    simp only [q_taken, if_pos hb5, if_pos hb16, hkv, (show cN (nI 3) = 3 from rfl)]
                    first
                    | (simp [undB, (show nI 3 = 3 from rfl), c33, (show ¬ x = 3 from fun q => c38 q.symm), c43, c53, c63]; done)
                    | exact absurd c43.symm c38
                    | exact absurd c53.symm c38
                    | exact absurd c63.symm c38
                    | (subst c43; first | rfl | (simp [undB]; done))
                    | (subst c53; first | rfl | (simp [undB]; done))
                    | (subst c63; first | rfl | (simp [undB]; done))
                  rw [e1]
                  exact ⟨rfl, rfl, hM, hS⟩
              · skip
                refine V_iload_n dM_taken_56 rfl ?_
                refine V_iconst (v := 5) dM_taken_57 (by decide) ?_
                refine V_icmp_eq (tgt := 72) dM_taken_58 rfl (fun h => absurd h (by decide)) (fun _ => ?_)
                refine V_iload_n dM_taken_61 rfl ?_
                refine V_iconst (v := 3) dM_taken_62 (by decide) ?_
                refine V_icmp_ne (tgt := 76) dM_taken_63 rfl (fun c63 => ?_) (fun c63 => ?_)
                · skip
                  refine V_bipush (v := -12) dM_taken_76 (by decide) ?_
                  refine V_iret dM_taken_78 rfl rfl ?_
                  have e1 : q_taken M e x = ((-12), M) := by
                    simp only [q_taken, if_pos hb5, if_pos hb16, hkv, (show cN (nI 3) = 3 from rfl)]
                    first
                    | (simp [undB, (show nI 3 = 3 from rfl), c33, (show ¬ x = 3 from fun q => c38 q.symm), c43, c53, c63]; done)
                    | exact absurd c43.symm c38
                    | exact absurd c53.symm c38
                    | exact absurd c63.symm c38
                    | (subst c43; first | rfl | (simp [undB]; done))
                    | (subst c53; first | rfl | (simp [undB]; done))
                    | (subst c63; first | rfl | (simp [undB]; done))
                  rw [e1]
                  exact ⟨rfl, rfl, hM, hS⟩
                · skip
                  refine V_iload_n dM_taken_66 rfl ?_
                  refine V_bipush (v := 6) dM_taken_67 (by decide) ?_
                  refine V_icmp_ne (tgt := 76) dM_taken_69 rfl (fun _ => ?_) (fun h => absurd h (by decide))
                  refine V_bipush (v := -12) dM_taken_76 (by decide) ?_
                  refine V_iret dM_taken_78 rfl rfl ?_
                  have e1 : q_taken M e x = ((-12), M) := by
                    simp only [q_taken, if_pos hb5, if_pos hb16, hkv, (show cN (nI 3) = 3 from rfl)]
                    first
                    | (simp [undB, (show nI 3 = 3 from rfl), c33, (show ¬ x = 3 from fun q => c38 q.symm), c43, c53, c63]; done)
                    | exact absurd c43.symm c38
                    | exact absurd c53.symm c38
                    | exact absurd c63.symm c38
                    | (subst c43; first | rfl | (simp [undB]; done))
                    | (subst c53; first | rfl | (simp [undB]; done))
                    | (subst c63; first | rfl | (simp [undB]; done))
                  rw [e1]
                  exact ⟨rfl, rfl, hM, hS⟩
            · skip
              refine V_iload_n dM_taken_46 rfl ?_
              refine V_iconst (v := 4) dM_taken_47 (by decide) ?_
              refine V_icmp_eq (tgt := 72) dM_taken_48 rfl (fun h => absurd h (by decide)) (fun _ => ?_)
              refine V_iload_n dM_taken_51 rfl ?_
              refine V_iconst (v := 2) dM_taken_52 (by decide) ?_
              refine V_icmp_ne (tgt := 61) dM_taken_53 rfl (fun c53 => ?_) (fun c53 => ?_)
              · skip
                refine V_iload_n dM_taken_61 rfl ?_
                refine V_iconst (v := 3) dM_taken_62 (by decide) ?_
                refine V_icmp_ne (tgt := 76) dM_taken_63 rfl (fun c63 => ?_) (fun c63 => ?_)
                · skip
                  refine V_bipush (v := -12) dM_taken_76 (by decide) ?_
                  refine V_iret dM_taken_78 rfl rfl ?_
                  have e1 : q_taken M e x = ((-12), M) := by
                    simp only [q_taken, if_pos hb5, if_pos hb16, hkv, (show cN (nI 3) = 3 from rfl)]
                    first
                    | (simp [undB, (show nI 3 = 3 from rfl), c33, (show ¬ x = 3 from fun q => c38 q.symm), c43, c53, c63]; done)
                    | exact absurd c43.symm c38
                    | exact absurd c53.symm c38
                    | exact absurd c63.symm c38
                    | (subst c43; first | rfl | (simp [undB]; done))
                    | (subst c53; first | rfl | (simp [undB]; done))
                    | (subst c63; first | rfl | (simp [undB]; done))
                  rw [e1]
                  exact ⟨rfl, rfl, hM, hS⟩
                · skip
                  refine V_iload_n dM_taken_66 rfl ?_
                  refine V_bipush (v := 6) dM_taken_67 (by decide) ?_
                  refine V_icmp_ne (tgt := 76) dM_taken_69 rfl (fun _ => ?_) (fun h => absurd h (by decide))
                  refine V_bipush (v := -12) dM_taken_76 (by decide) ?_
                  refine V_iret dM_taken_78 rfl rfl ?_
                  have e1 : q_taken M e x = ((-12), M) := by
                    simp only [q_taken, if_pos hb5, if_pos hb16, hkv, (show cN (nI 3) = 3 from rfl)]
                    first
                    | (simp [undB, (show nI 3 = 3 from rfl), c33, (show ¬ x = 3 from fun q => c38 q.symm), c43, c53, c63]; done)
                    | exact absurd c43.symm c38
                    | exact absurd c53.symm c38
                    | exact absurd c63.symm c38
                    | (subst c43; first | rfl | (simp [undB]; done))
                    | (subst c53; first | rfl | (simp [undB]; done))
                    | (subst c63; first | rfl | (simp [undB]; done))
                  rw [e1]
                  exact ⟨rfl, rfl, hM, hS⟩
              · skip
                refine V_iload_n dM_taken_56 rfl ?_
                refine V_iconst (v := 5) dM_taken_57 (by decide) ?_
                refine V_icmp_eq (tgt := 72) dM_taken_58 rfl (fun h => absurd h (by decide)) (fun _ => ?_)
                refine V_iload_n dM_taken_61 rfl ?_
                refine V_iconst (v := 3) dM_taken_62 (by decide) ?_
                refine V_icmp_ne (tgt := 76) dM_taken_63 rfl (fun c63 => ?_) (fun c63 => ?_)
                · skip
                  refine V_bipush (v := -12) dM_taken_76 (by decide) ?_
                  refine V_iret dM_taken_78 rfl rfl ?_
                  have e1 : q_taken M e x = ((-12), M) := by
                    simp only [q_taken, if_pos hb5, if_pos hb16, hkv, (show cN (nI 3) = 3 from rfl)]
                    first
                    | (simp [undB, (show nI 3 = 3 from rfl), c33, (show ¬ x = 3 from fun q => c38 q.symm), c43, c53, c63]; done)
                    | exact absurd c43.symm c38
                    | exact absurd c53.symm c38
                    | exact absurd c63.symm c38
                    | (subst c43; first | rfl | (simp [undB]; done))
                    | (subst c53; first | rfl | (simp [undB]; done))
                    | (subst c63; first | rfl | (simp [undB]; done))
                  rw [e1]
                  exact ⟨rfl, rfl, hM, hS⟩
                · skip
                  refine V_iload_n dM_taken_66 rfl ?_
                  refine V_bipush (v := 6) dM_taken_67 (by decide) ?_
                  refine V_icmp_ne (tgt := 76) dM_taken_69 rfl (fun _ => ?_) (fun h => absurd h (by decide))
                  refine V_bipush (v := -12) dM_taken_76 (by decide) ?_
                  refine V_iret dM_taken_78 rfl rfl ?_
                  have e1 : q_taken M e x = ((-12), M) := by
                    simp only [q_taken, if_pos hb5, if_pos hb16, hkv, (show cN (nI 3) = 3 from rfl)]
                    first
                    | (simp [undB, (show nI 3 = 3 from rfl), c33, (show ¬ x = 3 from fun q => c38 q.symm), c43, c53, c63]; done)
                    | exact absurd c43.symm c38
                    | exact absurd c53.symm c38
                    | exact absurd c63.symm c38
                    | (subst c43; first | rfl | (simp [undB]; done))
                    | (subst c53; first | rfl | (simp [undB]; done))
                    | (subst c63; first | rfl | (simp [undB]; done))
                  rw [e1]
                  exact ⟨rfl, rfl, hM, hS⟩
      | 4, _, hkk, hkv =>
        refine V_aload_n dM_taken_25 rfl ?_
        refine V_getR (a := 78) dM_taken_26 flM_26 k76 rfl (r76_5 hR) ?_
        refine V_iload_n dM_taken_29 rfl ?_
        refine V_ialdN (j := cN e) dM_taken_30 k78 (rng_N hb16 (sm9 hI)).1 (by have := (rng_N hb16 (sm9 hI)).2; have := (iE hI).2; omega) (by decide) ?_
        refine V_topI (x' := 4) ((mR hM rfl).trans hkv) ?_
        refine V_istore_n (loc' := [(3, .int 4), (0, .ref 76), (1, .int e), (2, .int x)]) dM_taken_31 (by decide) rfl ?_
        refine V_iload_n dM_taken_32 rfl ?_
        refine V_if_eq (tgt := 72) dM_taken_33 rfl (fun c33 => ?_) (fun c33 => ?_)
        · skip
          refine V_iload_n dM_taken_72 rfl ?_
          refine V_goto (tgt := 78) dM_taken_73 rfl ?_
          refine V_iret dM_taken_78 rfl rfl ?_
          have e1 : q_taken M e x = (4, M) := by
            simp only [q_taken, if_pos hb5, if_pos hb16, hkv, (show cN (nI 4) = 4 from rfl)]
            first
            | (simp [undB, (show nI 4 = 4 from rfl), c33]; done)
            | exact absurd c43.symm c38
            | exact absurd c53.symm c38
            | exact absurd c63.symm c38
            | (subst c43; first | rfl | (simp [undB]; done))
            | (subst c53; first | rfl | (simp [undB]; done))
            | (subst c63; first | rfl | (simp [undB]; done))
          rw [e1]
          exact ⟨rfl, rfl, hM, hS⟩
        · skip
          refine V_iload_n dM_taken_36 rfl ?_
          refine V_iload_n dM_taken_37 rfl ?_
          refine V_icmp_eq (tgt := 72) dM_taken_38 rfl (fun c38 => ?_) (fun c38 => ?_)
          · skip
            refine V_iload_n dM_taken_72 rfl ?_
            refine V_goto (tgt := 78) dM_taken_73 rfl ?_
            refine V_iret dM_taken_78 rfl rfl ?_
            have e1 : q_taken M e x = (4, M) := by
              simp only [q_taken, if_pos hb5, if_pos hb16, hkv, (show cN (nI 4) = 4 from rfl)]
              first
              | (simp [undB, (show nI 4 = 4 from rfl), c33, ← c38]; done)
              | exact absurd c43.symm c38
              | exact absurd c53.symm c38
              | exact absurd c63.symm c38
              | (subst c43; first | rfl | (simp [undB]; done))
              | (subst c53; first | rfl | (simp [undB]; done))
              | (subst c63; first | rfl | (simp [undB]; done))
            rw [e1]
            exact ⟨rfl, rfl, hM, hS⟩
          · skip
            refine V_iload_n dM_taken_41 rfl ?_
            refine V_iconst (v := 1) dM_taken_42 (by decide) ?_
            refine V_icmp_ne (tgt := 51) dM_taken_43 rfl (fun c43 => ?_) (fun c43 => ?_)
            · skip
              refine V_iload_n dM_taken_51 rfl ?_
              refine V_iconst (v := 2) dM_taken_52 (by decide) ?_
              refine V_icmp_ne (tgt := 61) dM_taken_53 rfl (fun c53 => ?_) (fun c53 => ?_)
              · skip
                refine V_iload_n dM_taken_61 rfl ?_
                refine V_iconst (v := 3) dM_taken_62 (by decide) ?_
                refine V_icmp_ne (tgt := 76) dM_taken_63 rfl (fun c63 => ?_) (fun c63 => ?_)
                · skip
                  refine V_bipush (v := -12) dM_taken_76 (by decide) ?_
                  refine V_iret dM_taken_78 rfl rfl ?_
                  have e1 : q_taken M e x = ((-12), M) := by
                    simp only [q_taken, if_pos hb5, if_pos hb16, hkv, (show cN (nI 4) = 4 from rfl)]
                    first
                    | (simp [undB, (show nI 4 = 4 from rfl), c33, (show ¬ x = 4 from fun q => c38 q.symm), c43, c53, c63]; done)
                    | exact absurd c43.symm c38
                    | exact absurd c53.symm c38
                    | exact absurd c63.symm c38
                    | (subst c43; first | rfl | (simp [undB]; done))
                    | (subst c53; first | rfl | (simp [undB]; done))
                    | (subst c63; first | rfl | (simp [undB]; done))
                  rw [e1]
                  exact ⟨rfl, rfl, hM, hS⟩
                · skip
                  refine V_iload_n dM_taken_66 rfl ?_
                  refine V_bipush (v := 6) dM_taken_67 (by decide) ?_
                  refine V_icmp_ne (tgt := 76) dM_taken_69 rfl (fun _ => ?_) (fun h => absurd h (by decide))
                  refine V_bipush (v := -12) dM_taken_76 (by decide) ?_
                  refine V_iret dM_taken_78 rfl rfl ?_
                  have e1 : q_taken M e x = ((-12), M) := by
                    simp only [q_taken, if_pos hb5, if_pos hb16, hkv, (show cN (nI 4) = 4 from rfl)]
                    first
                    | (simp [undB, (show nI 4 = 4 from rfl), c33, (show ¬ x = 4 from fun q => c38 q.symm), c43, c53, c63]; done)
                    | exact absurd c43.symm c38
                    | exact absurd c53.symm c38
                    | exact absurd c63.symm c38
                    | (subst c43; first | rfl | (simp [undB]; done))
                    | (subst c53; first | rfl | (simp [undB]; done))
                    | (subst c63; first | rfl | (simp [undB]; done))
                  rw [e1]
                  exact ⟨rfl, rfl, hM, hS⟩
              · skip
                refine V_iload_n dM_taken_56 rfl ?_
                refine V_iconst (v := 5) dM_taken_57 (by decide) ?_
                refine V_icmp_eq (tgt := 72) dM_taken_58 rfl (fun h => absurd h (by decide)) (fun _ => ?_)
                refine V_iload_n dM_taken_61 rfl ?_
                refine V_iconst (v := 3) dM_taken_62 (by decide) ?_
                refine V_icmp_ne (tgt := 76) dM_taken_63 rfl (fun c63 => ?_) (fun c63 => ?_)
                · skip
                  refine V_bipush (v := -12) dM_taken_76 (by decide) ?_
                  refine V_iret dM_taken_78 rfl rfl ?_
                  have e1 : q_taken M e x = ((-12), M) := by
                    simp only [q_taken, if_pos hb5, if_pos hb16, hkv, (show cN (nI 4) = 4 from rfl)]
                    first
                    | (simp [undB, (show nI 4 = 4 from rfl), c33, (show ¬ x = 4 from fun q => c38 q.symm), c43, c53, c63]; done)
                    | exact absurd c43.symm c38
                    | exact absurd c53.symm c38
                    | exact absurd c63.symm c38
                    | (subst c43; first | rfl | (simp [undB]; done))
                    | (subst c53; first | rfl | (simp [undB]; done))
                    | (subst c63; first | rfl | (simp [undB]; done))
                  rw [e1]
                  exact ⟨rfl, rfl, hM, hS⟩
                · skip
                  refine V_iload_n dM_taken_66 rfl ?_
                  refine V_bipush (v := 6) dM_taken_67 (by decide) ?_
                  refine V_icmp_ne (tgt := 76) dM_taken_69 rfl (fun _ => ?_) (fun h => absurd h (by decide))
                  refine V_bipush (v := -12) dM_taken_76 (by decide) ?_
                  refine V_iret dM_taken_78 rfl rfl ?_
                  have e1 : q_taken M e x = ((-12), M) := by
                    simp only [q_taken, if_pos hb5, if_pos hb16, hkv, (show cN (nI 4) = 4 from rfl)]
                    first
                    | (simp [undB, (show nI 4 = 4 from rfl), c33, (show ¬ x = 4 from fun q => c38 q.symm), c43, c53, c63]; done)
                    | exact absurd c43.symm c38
                    | exact absurd c53.symm c38
                    | exact absurd c63.symm c38
                    | (subst c43; first | rfl | (simp [undB]; done))
                    | (subst c53; first | rfl | (simp [undB]; done))
                    | (subst c63; first | rfl | (simp [undB]; done))
                  rw [e1]
                  exact ⟨rfl, rfl, hM, hS⟩
            · skip
              refine V_iload_n dM_taken_46 rfl ?_
              refine V_iconst (v := 4) dM_taken_47 (by decide) ?_
              refine V_icmp_eq (tgt := 72) dM_taken_48 rfl (fun _ => ?_) (fun h => absurd h (by decide))
              refine V_iload_n dM_taken_72 rfl ?_
              refine V_goto (tgt := 78) dM_taken_73 rfl ?_
              refine V_iret dM_taken_78 rfl rfl ?_
              have e1 : q_taken M e x = (4, M) := by
                simp only [q_taken, if_pos hb5, if_pos hb16, hkv, (show cN (nI 4) = 4 from rfl)]
                first
                | (simp [undB, (show nI 4 = 4 from rfl), c33, (show ¬ x = 4 from fun q => c38 q.symm), c43]; done)
                | exact absurd c43.symm c38
                | exact absurd c53.symm c38
                | exact absurd c63.symm c38
                | (subst c43; first | rfl | (simp [undB]; done))
                | (subst c53; first | rfl | (simp [undB]; done))
                | (subst c63; first | rfl | (simp [undB]; done))
              rw [e1]
              exact ⟨rfl, rfl, hM, hS⟩
      | 5, _, hkk, hkv =>
        refine V_aload_n dM_taken_25 rfl ?_
        refine V_getR (a := 78) dM_taken_26 flM_26 k76 rfl (r76_5 hR) ?_
        refine V_iload_n dM_taken_29 rfl ?_
        refine V_ialdN (j := cN e) dM_taken_30 k78 (rng_N hb16 (sm9 hI)).1 (by have := (rng_N hb16 (sm9 hI)).2; have := (iE hI).2; omega) (by decide) ?_
        refine V_topI (x' := 5) ((mR hM rfl).trans hkv) ?_
        refine V_istore_n (loc' := [(3, .int 5), (0, .ref 76), (1, .int e), (2, .int x)]) dM_taken_31 (by decide) rfl ?_
        refine V_iload_n dM_taken_32 rfl ?_
        refine V_if_eq (tgt := 72) dM_taken_33 rfl (fun c33 => ?_) (fun c33 => ?_)
        · skip
          refine V_iload_n dM_taken_72 rfl ?_
          refine V_goto (tgt := 78) dM_taken_73 rfl ?_
          refine V_iret dM_taken_78 rfl rfl ?_
          have e1 : q_taken M e x = (5, M) := by
            simp only [q_taken, if_pos hb5, if_pos hb16, hkv, (show cN (nI 5) = 5 from rfl)]
            first
            | (simp [undB, (show nI 5 = 5 from rfl), c33]; done)
            | exact absurd c43.symm c38
            | exact absurd c53.symm c38
            | exact absurd c63.symm c38
            | (subst c43; first | rfl | (simp [undB]; done))
            | (subst c53; first | rfl | (simp [undB]; done))
            | (subst c63; first | rfl | (simp [undB]; done))
          rw [e1]
          exact ⟨rfl, rfl, hM, hS⟩
        · skip
          refine V_iload_n dM_taken_36 rfl ?_
          refine V_iload_n dM_taken_37 rfl ?_
          refine V_icmp_eq (tgt := 72) dM_taken_38 rfl (fun c38 => ?_) (fun c38 => ?_)
          · skip
            refine V_iload_n dM_taken_72 rfl ?_
            refine V_goto (tgt := 78) dM_taken_73 rfl ?_
            refine V_iret dM_taken_78 rfl rfl ?_
            have e1 : q_taken M e x = (5, M) := by
              simp only [q_taken, if_pos hb5, if_pos hb16, hkv, (show cN (nI 5) = 5 from rfl)]
              first
              | (simp [undB, (show nI 5 = 5 from rfl), c33, ← c38]; done)
              | exact absurd c43.symm c38
              | exact absurd c53.symm c38
              | exact absurd c63.symm c38
              | (subst c43; first | rfl | (simp [undB]; done))
              | (subst c53; first | rfl | (simp [undB]; done))
              | (subst c63; first | rfl | (simp [undB]; done))
            rw [e1]
            exact ⟨rfl, rfl, hM, hS⟩
          · skip
            refine V_iload_n dM_taken_41 rfl ?_
            refine V_iconst (v := 1) dM_taken_42 (by decide) ?_
            refine V_icmp_ne (tgt := 51) dM_taken_43 rfl (fun c43 => ?_) (fun c43 => ?_)
            · skip
              refine V_iload_n dM_taken_51 rfl ?_
              refine V_iconst (v := 2) dM_taken_52 (by decide) ?_
              refine V_icmp_ne (tgt := 61) dM_taken_53 rfl (fun c53 => ?_) (fun c53 => ?_)
              · skip
                refine V_iload_n dM_taken_61 rfl ?_
                refine V_iconst (v := 3) dM_taken_62 (by decide) ?_
                refine V_icmp_ne (tgt := 76) dM_taken_63 rfl (fun c63 => ?_) (fun c63 => ?_)
                · skip
                  refine V_bipush (v := -12) dM_taken_76 (by decide) ?_
                  refine V_iret dM_taken_78 rfl rfl ?_
                  have e1 : q_taken M e x = ((-12), M) := by
                    simp only [q_taken, if_pos hb5, if_pos hb16, hkv, (show cN (nI 5) = 5 from rfl)]
                    first
                    | (simp [undB, (show nI 5 = 5 from rfl), c33, (show ¬ x = 5 from fun q => c38 q.symm), c43, c53, c63]; done)
                    | exact absurd c43.symm c38
                    | exact absurd c53.symm c38
                    | exact absurd c63.symm c38
                    | (subst c43; first | rfl | (simp [undB]; done))
                    | (subst c53; first | rfl | (simp [undB]; done))
                    | (subst c63; first | rfl | (simp [undB]; done))
                  rw [e1]
                  exact ⟨rfl, rfl, hM, hS⟩
                · skip
                  refine V_iload_n dM_taken_66 rfl ?_
                  refine V_bipush (v := 6) dM_taken_67 (by decide) ?_
                  refine V_icmp_ne (tgt := 76) dM_taken_69 rfl (fun _ => ?_) (fun h => absurd h (by decide))
                  refine V_bipush (v := -12) dM_taken_76 (by decide) ?_
                  refine V_iret dM_taken_78 rfl rfl ?_
                  have e1 : q_taken M e x = ((-12), M) := by
                    simp only [q_taken, if_pos hb5, if_pos hb16, hkv, (show cN (nI 5) = 5 from rfl)]
                    first
                    | (simp [undB, (show nI 5 = 5 from rfl), c33, (show ¬ x = 5 from fun q => c38 q.symm), c43, c53, c63]; done)
                    | exact absurd c43.symm c38
                    | exact absurd c53.symm c38
                    | exact absurd c63.symm c38
                    | (subst c43; first | rfl | (simp [undB]; done))
                    | (subst c53; first | rfl | (simp [undB]; done))
                    | (subst c63; first | rfl | (simp [undB]; done))
                  rw [e1]
                  exact ⟨rfl, rfl, hM, hS⟩
              · skip
                refine V_iload_n dM_taken_56 rfl ?_
                refine V_iconst (v := 5) dM_taken_57 (by decide) ?_
                refine V_icmp_eq (tgt := 72) dM_taken_58 rfl (fun _ => ?_) (fun h => absurd h (by decide))
                refine V_iload_n dM_taken_72 rfl ?_
                refine V_goto (tgt := 78) dM_taken_73 rfl ?_
                refine V_iret dM_taken_78 rfl rfl ?_
                have e1 : q_taken M e x = (5, M) := by
                  simp only [q_taken, if_pos hb5, if_pos hb16, hkv, (show cN (nI 5) = 5 from rfl)]
                  first
                  | (simp [undB, (show nI 5 = 5 from rfl), c33, (show ¬ x = 5 from fun q => c38 q.symm), c43, c53]; done)
                  | exact absurd c43.symm c38
                  | exact absurd c53.symm c38
                  | exact absurd c63.symm c38
                  | (subst c43; first | rfl | (simp [undB]; done))
                  | (subst c53; first | rfl | (simp [undB]; done))
                  | (subst c63; first | rfl | (simp [undB]; done))
                rw [e1]
                exact ⟨rfl, rfl, hM, hS⟩
            · skip
              refine V_iload_n dM_taken_46 rfl ?_
              refine V_iconst (v := 4) dM_taken_47 (by decide) ?_
              refine V_icmp_eq (tgt := 72) dM_taken_48 rfl (fun h => absurd h (by decide)) (fun _ => ?_)
              refine V_iload_n dM_taken_51 rfl ?_
              refine V_iconst (v := 2) dM_taken_52 (by decide) ?_
              refine V_icmp_ne (tgt := 61) dM_taken_53 rfl (fun c53 => ?_) (fun c53 => ?_)
              · skip
                refine V_iload_n dM_taken_61 rfl ?_
                refine V_iconst (v := 3) dM_taken_62 (by decide) ?_
                refine V_icmp_ne (tgt := 76) dM_taken_63 rfl (fun c63 => ?_) (fun c63 => ?_)
                · skip
                  refine V_bipush (v := -12) dM_taken_76 (by decide) ?_
                  refine V_iret dM_taken_78 rfl rfl ?_
                  have e1 : q_taken M e x = ((-12), M) := by
                    simp only [q_taken, if_pos hb5, if_pos hb16, hkv, (show cN (nI 5) = 5 from rfl)]
                    first
                    | (simp [undB, (show nI 5 = 5 from rfl), c33, (show ¬ x = 5 from fun q => c38 q.symm), c43, c53, c63]; done)
                    | exact absurd c43.symm c38
                    | exact absurd c53.symm c38
                    | exact absurd c63.symm c38
                    | (subst c43; first | rfl | (simp [undB]; done))
                    | (subst c53; first | rfl | (simp [undB]; done))
                    | (subst c63; first | rfl | (simp [undB]; done))
                  rw [e1]
                  exact ⟨rfl, rfl, hM, hS⟩
                · skip
                  refine V_iload_n dM_taken_66 rfl ?_
                  refine V_bipush (v := 6) dM_taken_67 (by decide) ?_
                  refine V_icmp_ne (tgt := 76) dM_taken_69 rfl (fun _ => ?_) (fun h => absurd h (by decide))
                  refine V_bipush (v := -12) dM_taken_76 (by decide) ?_
                  refine V_iret dM_taken_78 rfl rfl ?_
                  have e1 : q_taken M e x = ((-12), M) := by
                    simp only [q_taken, if_pos hb5, if_pos hb16, hkv, (show cN (nI 5) = 5 from rfl)]
                    first
                    | (simp [undB, (show nI 5 = 5 from rfl), c33, (show ¬ x = 5 from fun q => c38 q.symm), c43, c53, c63]; done)
                    | exact absurd c43.symm c38
                    | exact absurd c53.symm c38
                    | exact absurd c63.symm c38
                    | (subst c43; first | rfl | (simp [undB]; done))
                    | (subst c53; first | rfl | (simp [undB]; done))
                    | (subst c63; first | rfl | (simp [undB]; done))
                  rw [e1]
                  exact ⟨rfl, rfl, hM, hS⟩
              · skip
                refine V_iload_n dM_taken_56 rfl ?_
                refine V_iconst (v := 5) dM_taken_57 (by decide) ?_
                refine V_icmp_eq (tgt := 72) dM_taken_58 rfl (fun _ => ?_) (fun h => absurd h (by decide))
                refine V_iload_n dM_taken_72 rfl ?_
                refine V_goto (tgt := 78) dM_taken_73 rfl ?_
                refine V_iret dM_taken_78 rfl rfl ?_
                have e1 : q_taken M e x = (5, M) := by
                  simp only [q_taken, if_pos hb5, if_pos hb16, hkv, (show cN (nI 5) = 5 from rfl)]
                  first
                  | (simp [undB, (show nI 5 = 5 from rfl), c33, (show ¬ x = 5 from fun q => c38 q.symm), c43, c53]; done)
                  | exact absurd c43.symm c38
                  | exact absurd c53.symm c38
                  | exact absurd c63.symm c38
                  | (subst c43; first | rfl | (simp [undB]; done))
                  | (subst c53; first | rfl | (simp [undB]; done))
                  | (subst c63; first | rfl | (simp [undB]; done))
                rw [e1]
                exact ⟨rfl, rfl, hM, hS⟩
      | 6, _, hkk, hkv =>
        refine V_aload_n dM_taken_25 rfl ?_
        refine V_getR (a := 78) dM_taken_26 flM_26 k76 rfl (r76_5 hR) ?_
        refine V_iload_n dM_taken_29 rfl ?_
        refine V_ialdN (j := cN e) dM_taken_30 k78 (rng_N hb16 (sm9 hI)).1 (by have := (rng_N hb16 (sm9 hI)).2; have := (iE hI).2; omega) (by decide) ?_
        refine V_topI (x' := 6) ((mR hM rfl).trans hkv) ?_
        refine V_istore_n (loc' := [(3, .int 6), (0, .ref 76), (1, .int e), (2, .int x)]) dM_taken_31 (by decide) rfl ?_
        refine V_iload_n dM_taken_32 rfl ?_
        refine V_if_eq (tgt := 72) dM_taken_33 rfl (fun c33 => ?_) (fun c33 => ?_)
        · skip
          refine V_iload_n dM_taken_72 rfl ?_
          refine V_goto (tgt := 78) dM_taken_73 rfl ?_
          refine V_iret dM_taken_78 rfl rfl ?_
          have e1 : q_taken M e x = (6, M) := by
            simp only [q_taken, if_pos hb5, if_pos hb16, hkv, (show cN (nI 6) = 6 from rfl)]
            first
            | (simp [undB, (show nI 6 = 6 from rfl), c33]; done)
            | exact absurd c43.symm c38
            | exact absurd c53.symm c38
            | exact absurd c63.symm c38
            | (subst c43; first | rfl | (simp [undB]; done))
            | (subst c53; first | rfl | (simp [undB]; done))
            | (subst c63; first | rfl | (simp [undB]; done))
          rw [e1]
          exact ⟨rfl, rfl, hM, hS⟩
        · skip
          refine V_iload_n dM_taken_36 rfl ?_
          refine V_iload_n dM_taken_37 rfl ?_
          refine V_icmp_eq (tgt := 72) dM_taken_38 rfl (fun c38 => ?_) (fun c38 => ?_)
          · skip
            refine V_iload_n dM_taken_72 rfl ?_
            refine V_goto (tgt := 78) dM_taken_73 rfl ?_
            refine V_iret dM_taken_78 rfl rfl ?_
            have e1 : q_taken M e x = (6, M) := by
              simp only [q_taken, if_pos hb5, if_pos hb16, hkv, (show cN (nI 6) = 6 from rfl)]
              first
              | (simp [undB, (show nI 6 = 6 from rfl), c33, ← c38]; done)
              | exact absurd c43.symm c38
              | exact absurd c53.symm c38
              | exact absurd c63.symm c38
              | (subst c43; first | rfl | (simp [undB]; done))
              | (subst c53; first | rfl | (simp [undB]; done))
              | (subst c63; first | rfl | (simp [undB]; done))
            rw [e1]
            exact ⟨rfl, rfl, hM, hS⟩
          · skip
            refine V_iload_n dM_taken_41 rfl ?_
            refine V_iconst (v := 1) dM_taken_42 (by decide) ?_
            refine V_icmp_ne (tgt := 51) dM_taken_43 rfl (fun c43 => ?_) (fun c43 => ?_)
            · skip
              refine V_iload_n dM_taken_51 rfl ?_
              refine V_iconst (v := 2) dM_taken_52 (by decide) ?_
              refine V_icmp_ne (tgt := 61) dM_taken_53 rfl (fun c53 => ?_) (fun c53 => ?_)
              · skip
                refine V_iload_n dM_taken_61 rfl ?_
                refine V_iconst (v := 3) dM_taken_62 (by decide) ?_
                refine V_icmp_ne (tgt := 76) dM_taken_63 rfl (fun c63 => ?_) (fun c63 => ?_)
                · skip
                  refine V_bipush (v := -12) dM_taken_76 (by decide) ?_
                  refine V_iret dM_taken_78 rfl rfl ?_
                  have e1 : q_taken M e x = ((-12), M) := by
                    simp only [q_taken, if_pos hb5, if_pos hb16, hkv, (show cN (nI 6) = 6 from rfl)]
                    first
                    | (simp [undB, (show nI 6 = 6 from rfl), c33, (show ¬ x = 6 from fun q => c38 q.symm), c43, c53, c63]; done)
                    | exact absurd c43.symm c38
                    | exact absurd c53.symm c38
                    | exact absurd c63.symm c38
                    | (subst c43; first | rfl | (simp [undB]; done))
                    | (subst c53; first | rfl | (simp [undB]; done))
                    | (subst c63; first | rfl | (simp [undB]; done))
                  rw [e1]
                  exact ⟨rfl, rfl, hM, hS⟩
                · skip
                  refine V_iload_n dM_taken_66 rfl ?_
                  refine V_bipush (v := 6) dM_taken_67 (by decide) ?_
                  refine V_icmp_ne (tgt := 76) dM_taken_69 rfl (fun h => absurd h (by decide)) (fun _ => ?_)
                  refine V_iload_n dM_taken_72 rfl ?_
                  refine V_goto (tgt := 78) dM_taken_73 rfl ?_
                  refine V_iret dM_taken_78 rfl rfl ?_
                  have e1 : q_taken M e x = (6, M) := by
                    simp only [q_taken, if_pos hb5, if_pos hb16, hkv, (show cN (nI 6) = 6 from rfl)]
                    first
                    | (simp [undB, (show nI 6 = 6 from rfl), c33, (show ¬ x = 6 from fun q => c38 q.symm), c43, c53, c63]; done)
                    | exact absurd c43.symm c38
                    | exact absurd c53.symm c38
                    | exact absurd c63.symm c38
                    | (subst c43; first | rfl | (simp [undB]; done))
                    | (subst c53; first | rfl | (simp [undB]; done))
                    | (subst c63; first | rfl | (simp [undB]; done))
                  rw [e1]
                  exact ⟨rfl, rfl, hM, hS⟩
              · skip
                refine V_iload_n dM_taken_56 rfl ?_
                refine V_iconst (v := 5) dM_taken_57 (by decide) ?_
                refine V_icmp_eq (tgt := 72) dM_taken_58 rfl (fun h => absurd h (by decide)) (fun _ => ?_)
                refine V_iload_n dM_taken_61 rfl ?_
                refine V_iconst (v := 3) dM_taken_62 (by decide) ?_
                refine V_icmp_ne (tgt := 76) dM_taken_63 rfl (fun c63 => ?_) (fun c63 => ?_)
                · skip
                  refine V_bipush (v := -12) dM_taken_76 (by decide) ?_
                  refine V_iret dM_taken_78 rfl rfl ?_
                  have e1 : q_taken M e x = ((-12), M) := by
                    simp only [q_taken, if_pos hb5, if_pos hb16, hkv, (show cN (nI 6) = 6 from rfl)]
                    first
                    | (simp [undB, (show nI 6 = 6 from rfl), c33, (show ¬ x = 6 from fun q => c38 q.symm), c43, c53, c63]; done)
                    | exact absurd c43.symm c38
                    | exact absurd c53.symm c38
                    | exact absurd c63.symm c38
                    | (subst c43; first | rfl | (simp [undB]; done))
                    | (subst c53; first | rfl | (simp [undB]; done))
                    | (subst c63; first | rfl | (simp [undB]; done))
                  rw [e1]
                  exact ⟨rfl, rfl, hM, hS⟩
                · skip
                  refine V_iload_n dM_taken_66 rfl ?_
                  refine V_bipush (v := 6) dM_taken_67 (by decide) ?_
                  refine V_icmp_ne (tgt := 76) dM_taken_69 rfl (fun h => absurd h (by decide)) (fun _ => ?_)
                  refine V_iload_n dM_taken_72 rfl ?_
                  refine V_goto (tgt := 78) dM_taken_73 rfl ?_
                  refine V_iret dM_taken_78 rfl rfl ?_
                  have e1 : q_taken M e x = (6, M) := by
                    simp only [q_taken, if_pos hb5, if_pos hb16, hkv, (show cN (nI 6) = 6 from rfl)]
                    first
                    | (simp [undB, (show nI 6 = 6 from rfl), c33, (show ¬ x = 6 from fun q => c38 q.symm), c43, c53, c63]; done)
                    | exact absurd c43.symm c38
                    | exact absurd c53.symm c38
                    | exact absurd c63.symm c38
                    | (subst c43; first | rfl | (simp [undB]; done))
                    | (subst c53; first | rfl | (simp [undB]; done))
                    | (subst c63; first | rfl | (simp [undB]; done))
                  rw [e1]
                  exact ⟨rfl, rfl, hM, hS⟩
            · skip
              refine V_iload_n dM_taken_46 rfl ?_
              refine V_iconst (v := 4) dM_taken_47 (by decide) ?_
              refine V_icmp_eq (tgt := 72) dM_taken_48 rfl (fun h => absurd h (by decide)) (fun _ => ?_)
              refine V_iload_n dM_taken_51 rfl ?_
              refine V_iconst (v := 2) dM_taken_52 (by decide) ?_
              refine V_icmp_ne (tgt := 61) dM_taken_53 rfl (fun c53 => ?_) (fun c53 => ?_)
              · skip
                refine V_iload_n dM_taken_61 rfl ?_
                refine V_iconst (v := 3) dM_taken_62 (by decide) ?_
                refine V_icmp_ne (tgt := 76) dM_taken_63 rfl (fun c63 => ?_) (fun c63 => ?_)
                · skip
                  refine V_bipush (v := -12) dM_taken_76 (by decide) ?_
                  refine V_iret dM_taken_78 rfl rfl ?_
                  have e1 : q_taken M e x = ((-12), M) := by
                    simp only [q_taken, if_pos hb5, if_pos hb16, hkv, (show cN (nI 6) = 6 from rfl)]
                    first
                    | (simp [undB, (show nI 6 = 6 from rfl), c33, (show ¬ x = 6 from fun q => c38 q.symm), c43, c53, c63]; done)
                    | exact absurd c43.symm c38
                    | exact absurd c53.symm c38
                    | exact absurd c63.symm c38
                    | (subst c43; first | rfl | (simp [undB]; done))
                    | (subst c53; first | rfl | (simp [undB]; done))
                    | (subst c63; first | rfl | (simp [undB]; done))
                  rw [e1]
                  exact ⟨rfl, rfl, hM, hS⟩
                · skip
                  refine V_iload_n dM_taken_66 rfl ?_
                  refine V_bipush (v := 6) dM_taken_67 (by decide) ?_
                  refine V_icmp_ne (tgt := 76) dM_taken_69 rfl (fun h => absurd h (by decide)) (fun _ => ?_)
                  refine V_iload_n dM_taken_72 rfl ?_
                  refine V_goto (tgt := 78) dM_taken_73 rfl ?_
                  refine V_iret dM_taken_78 rfl rfl ?_
                  have e1 : q_taken M e x = (6, M) := by
                    simp only [q_taken, if_pos hb5, if_pos hb16, hkv, (show cN (nI 6) = 6 from rfl)]
                    first
                    | (simp [undB, (show nI 6 = 6 from rfl), c33, (show ¬ x = 6 from fun q => c38 q.symm), c43, c53, c63]; done)
                    | exact absurd c43.symm c38
                    | exact absurd c53.symm c38
                    | exact absurd c63.symm c38
                    | (subst c43; first | rfl | (simp [undB]; done))
                    | (subst c53; first | rfl | (simp [undB]; done))
                    | (subst c63; first | rfl | (simp [undB]; done))
                  rw [e1]
                  exact ⟨rfl, rfl, hM, hS⟩
              · skip
                refine V_iload_n dM_taken_56 rfl ?_
                refine V_iconst (v := 5) dM_taken_57 (by decide) ?_
                refine V_icmp_eq (tgt := 72) dM_taken_58 rfl (fun h => absurd h (by decide)) (fun _ => ?_)
                refine V_iload_n dM_taken_61 rfl ?_
                refine V_iconst (v := 3) dM_taken_62 (by decide) ?_
                refine V_icmp_ne (tgt := 76) dM_taken_63 rfl (fun c63 => ?_) (fun c63 => ?_)
                · skip
                  refine V_bipush (v := -12) dM_taken_76 (by decide) ?_
                  refine V_iret dM_taken_78 rfl rfl ?_
                  have e1 : q_taken M e x = ((-12), M) := by
                    simp only [q_taken, if_pos hb5, if_pos hb16, hkv, (show cN (nI 6) = 6 from rfl)]
                    first
                    | (simp [undB, (show nI 6 = 6 from rfl), c33, (show ¬ x = 6 from fun q => c38 q.symm), c43, c53, c63]; done)
                    | exact absurd c43.symm c38
                    | exact absurd c53.symm c38
                    | exact absurd c63.symm c38
                    | (subst c43; first | rfl | (simp [undB]; done))
                    | (subst c53; first | rfl | (simp [undB]; done))
                    | (subst c63; first | rfl | (simp [undB]; done))
                  rw [e1]
                  exact ⟨rfl, rfl, hM, hS⟩
                · skip
                  refine V_iload_n dM_taken_66 rfl ?_
                  refine V_bipush (v := 6) dM_taken_67 (by decide) ?_
                  refine V_icmp_ne (tgt := 76) dM_taken_69 rfl (fun h => absurd h (by decide)) (fun _ => ?_)
                  refine V_iload_n dM_taken_72 rfl ?_
                  refine V_goto (tgt := 78) dM_taken_73 rfl ?_
                  refine V_iret dM_taken_78 rfl rfl ?_
                  have e1 : q_taken M e x = (6, M) := by
                    simp only [q_taken, if_pos hb5, if_pos hb16, hkv, (show cN (nI 6) = 6 from rfl)]
                    first
                    | (simp [undB, (show nI 6 = 6 from rfl), c33, (show ¬ x = 6 from fun q => c38 q.symm), c43, c53, c63]; done)
                    | exact absurd c43.symm c38
                    | exact absurd c53.symm c38
                    | exact absurd c63.symm c38
                    | (subst c43; first | rfl | (simp [undB]; done))
                    | (subst c53; first | rfl | (simp [undB]; done))
                    | (subst c63; first | rfl | (simp [undB]; done))
                  rw [e1]
                  exact ⟨rfl, rfl, hM, hS⟩
    · refine V_one ?_
      refine V_if_ne (tgt := 25) dM_taken_19 rfl (fun h => absurd h (by decide)) (fun _ => ?_)
      refine V_bipush (v := -11) dM_taken_22 (by decide) ?_
      refine V_iret dM_taken_24 rfl rfl ?_
      have e : q_taken M e x = ((-11), M) := by
        skip
        first
        | (simp only [q_taken, if_pos hb5, if_neg hb16]; done)
        | (simp [q_taken, hb5, hb16]; done)
        | (simp_all [q_taken]; done)
      rw [e]
      exact ⟨rfl, rfl, hM, hS⟩
  · refine V_one ?_
    refine V_if_ne (tgt := 14) dM_taken_8 rfl (fun h => absurd h (by decide)) (fun _ => ?_)
    refine V_bipush (v := -2) dM_taken_11 (by decide) ?_
    refine V_iret dM_taken_13 rfl rfl ?_
    have e : q_taken M e x = ((-2), M) := by
      skip
      first
      | (simp only [q_taken, if_neg hb5]; done)
      | (simp [q_taken, hb5]; done)
      | (simp_all [q_taken]; done)
    rw [e]
    exact ⟨rfl, rfl, hM, hS⟩
