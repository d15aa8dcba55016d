/-! taken -/
def undS (k : Nat) (x : Int32) : Prop := x = 0 ∨ x = nI k ∨ (x = 1 ∧ k = 4) ∨ (x = 2 ∧ k = 5) ∨ (x = 3 ∧ k = 6)
theorem c_isUnder0 {l : Launch} {G : GT} {σ : Hp} (x : Int32) (hx : 0 ≤ x) : MM l G mG_isUnder 0 0 0 [.int 0, .int x] KA σ (PZ (x = 0) KA σ) := by
  refine MM.of (loc := [(0, .int 0), (1, .int x)]) (by decide +kernel) rfl (Nat.le_of_ble_eq_true rfl) ?_
  refine V_iload_n dG_isUnder_0 rfl ?_
  refine V_istore_n (loc' := [(2, .int 0), (0, .int 0), (1, .int x)]) dG_isUnder_1 (by decide) rfl ?_
  refine V_iconst (v := 0) dG_isUnder_2 (by decide) ?_
  refine V_istore_n (loc' := [(3, .int 0), (2, .int 0), (0, .int 0), (1, .int x)]) dG_isUnder_3 (by decide) rfl ?_
  skip
  refine V_iload_n dG_isUnder_4 rfl ?_
  refine V_gsA rfl dG_isUnder_5 fwG_316 ?_
  refine V_tAl dG_isUnder_8 ?_
  refine V_icmp_ge (tgt := 45) dG_isUnder_9 rfl (fun h => absurd h (by decide)) (fun _ => ?_)
  refine V_iload_n dG_isUnder_12 rfl ?_
  refine V_iload_n dG_isUnder_13 rfl ?_
  skip
  refine V_icmp_ne (tgt := 19) dG_isUnder_14 rfl (fun c14_0 => ?_) (fun c14_0 => ?_)
  rotate_left
  · skip
    refine V_iconst (v := 1) dG_isUnder_17 (by decide) ?_
    exact V_zret dG_isUnder_18 rfl rfl rfl (Or.inl ⟨by simp [← c14_0], rfl, rfl, rfl⟩)
  refine V_iload_n dG_isUnder_19 rfl ?_
  refine V_if_lt (tgt := 31) dG_isUnder_20 rfl (fun h => absurd h (by decide)) (fun _ => ?_)
  refine V_iload_n dG_isUnder_23 rfl ?_
  refine V_gsA rfl dG_isUnder_24 fwG_316 ?_
  refine V_tAl dG_isUnder_27 ?_
  refine V_icmp_lt (tgt := 33) dG_isUnder_28 rfl (fun _ => ?_) (fun h => absurd h (by decide))
  refine V_gsA rfl dG_isUnder_33 fwG_316 ?_
  refine V_iload_n dG_isUnder_36 rfl ?_
  refine V_tA dG_isUnder_37 (vp_in_nI (n := 0) (N := 7) (by decide) (by decide)) ?_
  refine V_topI (x' := (-1)) (by decide) ?_
  refine V_istore_n (loc' := [(2, .int (-1)), (3, .int 0), (0, .int 0), (1, .int x)]) dG_isUnder_38 (by decide) rfl ?_
  refine V_iinc (v := 1) (loc' := [(3, .int 1), (2, .int (-1)), (0, .int 0), (1, .int x)]) dG_isUnder_39 rfl (by decide) (by decide) rfl ?_
  refine V_goto (tgt := 4) dG_isUnder_42 rfl ?_
  skip
  refine V_iload_n dG_isUnder_4 rfl ?_
  refine V_gsA rfl dG_isUnder_5 fwG_316 ?_
  refine V_tAl dG_isUnder_8 ?_
  refine V_icmp_ge (tgt := 45) dG_isUnder_9 rfl (fun h => absurd h (by decide)) (fun _ => ?_)
  refine V_iload_n dG_isUnder_12 rfl ?_
  refine V_iload_n dG_isUnder_13 rfl ?_
  skip
  refine V_icmp_ne (tgt := 19) dG_isUnder_14 rfl (fun c14_1 => ?_) (fun c14_1 => ?_)
  · skip
    refine V_iload_n dG_isUnder_19 rfl ?_
    refine V_if_lt (tgt := 31) dG_isUnder_20 rfl (fun _ => ?_) (fun h => absurd h (by decide))
    refine V_iconst (v := 0) dG_isUnder_31 (by decide) ?_
    exact V_zret dG_isUnder_32 rfl rfl rfl (Or.inr ⟨by simp_all [eq_comm], rfl, rfl, rfl⟩)
  · exact absurd c14_1 (fun q => by subst q; exact absurd hx (by decide))
theorem c_isUnder1 {l : Launch} {G : GT} {σ : Hp} (x : Int32) (hx : 0 ≤ x) : MM l G mG_isUnder 0 0 0 [.int 1, .int x] KA σ (PZ (x = 1 ∨ x = 0) KA σ) := by
  refine MM.of (loc := [(0, .int 1), (1, .int x)]) (by decide +kernel) rfl (Nat.le_of_ble_eq_true rfl) ?_
  refine V_iload_n dG_isUnder_0 rfl ?_
  refine V_istore_n (loc' := [(2, .int 1), (0, .int 1), (1, .int x)]) dG_isUnder_1 (by decide) rfl ?_
  refine V_iconst (v := 0) dG_isUnder_2 (by decide) ?_
  refine V_istore_n (loc' := [(3, .int 0), (2, .int 1), (0, .int 1), (1, .int x)]) dG_isUnder_3 (by decide) rfl ?_
  skip
  refine V_iload_n dG_isUnder_4 rfl ?_
  refine V_gsA rfl dG_isUnder_5 fwG_316 ?_
  refine V_tAl dG_isUnder_8 ?_
  refine V_icmp_ge (tgt := 45) dG_isUnder_9 rfl (fun h => absurd h (by decide)) (fun _ => ?_)
  refine V_iload_n dG_isUnder_12 rfl ?_
  refine V_iload_n dG_isUnder_13 rfl ?_
  skip
  refine V_icmp_ne (tgt := 19) dG_isUnder_14 rfl (fun c14_0 => ?_) (fun c14_0 => ?_)
  rotate_left
  · skip
    refine V_iconst (v := 1) dG_isUnder_17 (by decide) ?_
    exact V_zret dG_isUnder_18 rfl rfl rfl (Or.inl ⟨by simp [← c14_0], rfl, rfl, rfl⟩)
  refine V_iload_n dG_isUnder_19 rfl ?_
  refine V_if_lt (tgt := 31) dG_isUnder_20 rfl (fun h => absurd h (by decide)) (fun _ => ?_)
  refine V_iload_n dG_isUnder_23 rfl ?_
  refine V_gsA rfl dG_isUnder_24 fwG_316 ?_
  refine V_tAl dG_isUnder_27 ?_
  refine V_icmp_lt (tgt := 33) dG_isUnder_28 rfl (fun _ => ?_) (fun h => absurd h (by decide))
  refine V_gsA rfl dG_isUnder_33 fwG_316 ?_
  refine V_iload_n dG_isUnder_36 rfl ?_
  refine V_tA dG_isUnder_37 (vp_in_nI (n := 1) (N := 7) (by decide) (by decide)) ?_
  refine V_topI (x' := 0) (by decide) ?_
  refine V_istore_n (loc' := [(2, .int 0), (3, .int 0), (0, .int 1), (1, .int x)]) dG_isUnder_38 (by decide) rfl ?_
  refine V_iinc (v := 1) (loc' := [(3, .int 1), (2, .int 0), (0, .int 1), (1, .int x)]) dG_isUnder_39 rfl (by decide) (by decide) rfl ?_
  refine V_goto (tgt := 4) dG_isUnder_42 rfl ?_
  skip
  refine V_iload_n dG_isUnder_4 rfl ?_
  refine V_gsA rfl dG_isUnder_5 fwG_316 ?_
  refine V_tAl dG_isUnder_8 ?_
  refine V_icmp_ge (tgt := 45) dG_isUnder_9 rfl (fun h => absurd h (by decide)) (fun _ => ?_)
  refine V_iload_n dG_isUnder_12 rfl ?_
  refine V_iload_n dG_isUnder_13 rfl ?_
  skip
  refine V_icmp_ne (tgt := 19) dG_isUnder_14 rfl (fun c14_1 => ?_) (fun c14_1 => ?_)
  rotate_left
  · skip
    refine V_iconst (v := 1) dG_isUnder_17 (by decide) ?_
    exact V_zret dG_isUnder_18 rfl rfl rfl (Or.inl ⟨by simp [← c14_1], rfl, rfl, rfl⟩)
  refine V_iload_n dG_isUnder_19 rfl ?_
  refine V_if_lt (tgt := 31) dG_isUnder_20 rfl (fun h => absurd h (by decide)) (fun _ => ?_)
  refine V_iload_n dG_isUnder_23 rfl ?_
  refine V_gsA rfl dG_isUnder_24 fwG_316 ?_
  refine V_tAl dG_isUnder_27 ?_
  refine V_icmp_lt (tgt := 33) dG_isUnder_28 rfl (fun _ => ?_) (fun h => absurd h (by decide))
  refine V_gsA rfl dG_isUnder_33 fwG_316 ?_
  refine V_iload_n dG_isUnder_36 rfl ?_
  refine V_tA dG_isUnder_37 (vp_in_nI (n := 0) (N := 7) (by decide) (by decide)) ?_
  refine V_topI (x' := (-1)) (by decide) ?_
  refine V_istore_n (loc' := [(2, .int (-1)), (3, .int 1), (0, .int 1), (1, .int x)]) dG_isUnder_38 (by decide) rfl ?_
  refine V_iinc (v := 2) (loc' := [(3, .int 2), (2, .int (-1)), (0, .int 1), (1, .int x)]) dG_isUnder_39 rfl (by decide) (by decide) rfl ?_
  refine V_goto (tgt := 4) dG_isUnder_42 rfl ?_
  skip
  refine V_iload_n dG_isUnder_4 rfl ?_
  refine V_gsA rfl dG_isUnder_5 fwG_316 ?_
  refine V_tAl dG_isUnder_8 ?_
  refine V_icmp_ge (tgt := 45) dG_isUnder_9 rfl (fun h => absurd h (by decide)) (fun _ => ?_)
  refine V_iload_n dG_isUnder_12 rfl ?_
  refine V_iload_n dG_isUnder_13 rfl ?_
  skip
  refine V_icmp_ne (tgt := 19) dG_isUnder_14 rfl (fun c14_2 => ?_) (fun c14_2 => ?_)
  · skip
    refine V_iload_n dG_isUnder_19 rfl ?_
    refine V_if_lt (tgt := 31) dG_isUnder_20 rfl (fun _ => ?_) (fun h => absurd h (by decide))
    refine V_iconst (v := 0) dG_isUnder_31 (by decide) ?_
    exact V_zret dG_isUnder_32 rfl rfl rfl (Or.inr ⟨by simp_all [eq_comm], rfl, rfl, rfl⟩)
  · exact absurd c14_2 (fun q => by subst q; exact absurd hx (by decide))
theorem c_isUnder2 {l : Launch} {G : GT} {σ : Hp} (x : Int32) (hx : 0 ≤ x) : MM l G mG_isUnder 0 0 0 [.int 2, .int x] KA σ (PZ (x = 2 ∨ x = 0) KA σ) := by
  refine MM.of (loc := [(0, .int 2), (1, .int x)]) (by decide +kernel) rfl (Nat.le_of_ble_eq_true rfl) ?_
  refine V_iload_n dG_isUnder_0 rfl ?_
  refine V_istore_n (loc' := [(2, .int 2), (0, .int 2), (1, .int x)]) dG_isUnder_1 (by decide) rfl ?_
  refine V_iconst (v := 0) dG_isUnder_2 (by decide) ?_
  refine V_istore_n (loc' := [(3, .int 0), (2, .int 2), (0, .int 2), (1, .int x)]) dG_isUnder_3 (by decide) rfl ?_
  skip
  refine V_iload_n dG_isUnder_4 rfl ?_
  refine V_gsA rfl dG_isUnder_5 fwG_316 ?_
  refine V_tAl dG_isUnder_8 ?_
  refine V_icmp_ge (tgt := 45) dG_isUnder_9 rfl (fun h => absurd h (by decide)) (fun _ => ?_)
  refine V_iload_n dG_isUnder_12 rfl ?_
  refine V_iload_n dG_isUnder_13 rfl ?_
  skip
  refine V_icmp_ne (tgt := 19) dG_isUnder_14 rfl (fun c14_0 => ?_) (fun c14_0 => ?_)
  rotate_left
  · skip
    refine V_iconst (v := 1) dG_isUnder_17 (by decide) ?_
    exact V_zret dG_isUnder_18 rfl rfl rfl (Or.inl ⟨by simp [← c14_0], rfl, rfl, rfl⟩)
  refine V_iload_n dG_isUnder_19 rfl ?_
  refine V_if_lt (tgt := 31) dG_isUnder_20 rfl (fun h => absurd h (by decide)) (fun _ => ?_)
  refine V_iload_n dG_isUnder_23 rfl ?_
  refine V_gsA rfl dG_isUnder_24 fwG_316 ?_
  refine V_tAl dG_isUnder_27 ?_
  refine V_icmp_lt (tgt := 33) dG_isUnder_28 rfl (fun _ => ?_) (fun h => absurd h (by decide))
  refine V_gsA rfl dG_isUnder_33 fwG_316 ?_
  refine V_iload_n dG_isUnder_36 rfl ?_
  refine V_tA dG_isUnder_37 (vp_in_nI (n := 2) (N := 7) (by decide) (by decide)) ?_
  refine V_topI (x' := 0) (by decide) ?_
  refine V_istore_n (loc' := [(2, .int 0), (3, .int 0), (0, .int 2), (1, .int x)]) dG_isUnder_38 (by decide) rfl ?_
  refine V_iinc (v := 1) (loc' := [(3, .int 1), (2, .int 0), (0, .int 2), (1, .int x)]) dG_isUnder_39 rfl (by decide) (by decide) rfl ?_
  refine V_goto (tgt := 4) dG_isUnder_42 rfl ?_
  skip
  refine V_iload_n dG_isUnder_4 rfl ?_
  refine V_gsA rfl dG_isUnder_5 fwG_316 ?_
  refine V_tAl dG_isUnder_8 ?_
  refine V_icmp_ge (tgt := 45) dG_isUnder_9 rfl (fun h => absurd h (by decide)) (fun _ => ?_)
  refine V_iload_n dG_isUnder_12 rfl ?_
  refine V_iload_n dG_isUnder_13 rfl ?_
  skip
  refine V_icmp_ne (tgt := 19) dG_isUnder_14 rfl (fun c14_1 => ?_) (fun c14_1 => ?_)
  rotate_left
  · skip
    refine V_iconst (v := 1) dG_isUnder_17 (by decide) ?_
    exact V_zret dG_isUnder_18 rfl rfl rfl (Or.inl ⟨by simp [← c14_1], rfl, rfl, rfl⟩)
  refine V_iload_n dG_isUnder_19 rfl ?_
  refine V_if_lt (tgt := 31) dG_isUnder_20 rfl (fun h => absurd h (by decide)) (fun _ => ?_)
  refine V_iload_n dG_isUnder_23 rfl ?_
  refine V_gsA rfl dG_isUnder_24 fwG_316 ?_
  refine V_tAl dG_isUnder_27 ?_
  refine V_icmp_lt (tgt := 33) dG_isUnder_28 rfl (fun _ => ?_) (fun h => absurd h (by decide))
  refine V_gsA rfl dG_isUnder_33 fwG_316 ?_
  refine V_iload_n dG_isUnder_36 rfl ?_
  refine V_tA dG_isUnder_37 (vp_in_nI (n := 0) (N := 7) (by decide) (by decide)) ?_
  refine V_topI (x' := (-1)) (by decide) ?_
  refine V_istore_n (loc' := [(2, .int (-1)), (3, .int 1), (0, .int 2), (1, .int x)]) dG_isUnder_38 (by decide) rfl ?_
  refine V_iinc (v := 2) (loc' := [(3, .int 2), (2, .int (-1)), (0, .int 2), (1, .int x)]) dG_isUnder_39 rfl (by decide) (by decide) rfl ?_
  refine V_goto (tgt := 4) dG_isUnder_42 rfl ?_
  skip
  refine V_iload_n dG_isUnder_4 rfl ?_
  refine V_gsA rfl dG_isUnder_5 fwG_316 ?_
  refine V_tAl dG_isUnder_8 ?_
  refine V_icmp_ge (tgt := 45) dG_isUnder_9 rfl (fun h => absurd h (by decide)) (fun _ => ?_)
  refine V_iload_n dG_isUnder_12 rfl ?_
  refine V_iload_n dG_isUnder_13 rfl ?_
  skip
  refine V_icmp_ne (tgt := 19) dG_isUnder_14 rfl (fun c14_2 => ?_) (fun c14_2 => ?_)
  · skip
    refine V_iload_n dG_isUnder_19 rfl ?_
    refine V_if_lt (tgt := 31) dG_isUnder_20 rfl (fun _ => ?_) (fun h => absurd h (by decide))
    refine V_iconst (v := 0) dG_isUnder_31 (by decide) ?_
    exact V_zret dG_isUnder_32 rfl rfl rfl (Or.inr ⟨by simp_all [eq_comm], rfl, rfl, rfl⟩)
  · exact absurd c14_2 (fun q => by subst q; exact absurd hx (by decide))
theorem c_isUnder3 {l : Launch} {G : GT} {σ : Hp} (x : Int32) (hx : 0 ≤ x) : MM l G mG_isUnder 0 0 0 [.int 3, .int x] KA σ (PZ (x = 3 ∨ x = 0) KA σ) := by
  refine MM.of (loc := [(0, .int 3), (1, .int x)]) (by decide +kernel) rfl (Nat.le_of_ble_eq_true rfl) ?_
  refine V_iload_n dG_isUnder_0 rfl ?_
  refine V_istore_n (loc' := [(2, .int 3), (0, .int 3), (1, .int x)]) dG_isUnder_1 (by decide) rfl ?_
  refine V_iconst (v := 0) dG_isUnder_2 (by decide) ?_
  refine V_istore_n (loc' := [(3, .int 0), (2, .int 3), (0, .int 3), (1, .int x)]) dG_isUnder_3 (by decide) rfl ?_
  skip
  refine V_iload_n dG_isUnder_4 rfl ?_
  refine V_gsA rfl dG_isUnder_5 fwG_316 ?_
  refine V_tAl dG_isUnder_8 ?_
  refine V_icmp_ge (tgt := 45) dG_isUnder_9 rfl (fun h => absurd h (by decide)) (fun _ => ?_)
  refine V_iload_n dG_isUnder_12 rfl ?_
  refine V_iload_n dG_isUnder_13 rfl ?_
  skip
  refine V_icmp_ne (tgt := 19) dG_isUnder_14 rfl (fun c14_0 => ?_) (fun c14_0 => ?_)
  rotate_left
  · skip
    refine V_iconst (v := 1) dG_isUnder_17 (by decide) ?_
    exact V_zret dG_isUnder_18 rfl rfl rfl (Or.inl ⟨by simp [← c14_0], rfl, rfl, rfl⟩)
  refine V_iload_n dG_isUnder_19 rfl ?_
  refine V_if_lt (tgt := 31) dG_isUnder_20 rfl (fun h => absurd h (by decide)) (fun _ => ?_)
  refine V_iload_n dG_isUnder_23 rfl ?_
  refine V_gsA rfl dG_isUnder_24 fwG_316 ?_
  refine V_tAl dG_isUnder_27 ?_
  refine V_icmp_lt (tgt := 33) dG_isUnder_28 rfl (fun _ => ?_) (fun h => absurd h (by decide))
  refine V_gsA rfl dG_isUnder_33 fwG_316 ?_
  refine V_iload_n dG_isUnder_36 rfl ?_
  refine V_tA dG_isUnder_37 (vp_in_nI (n := 3) (N := 7) (by decide) (by decide)) ?_
  refine V_topI (x' := 0) (by decide) ?_
  refine V_istore_n (loc' := [(2, .int 0), (3, .int 0), (0, .int 3), (1, .int x)]) dG_isUnder_38 (by decide) rfl ?_
  refine V_iinc (v := 1) (loc' := [(3, .int 1), (2, .int 0), (0, .int 3), (1, .int x)]) dG_isUnder_39 rfl (by decide) (by decide) rfl ?_
  refine V_goto (tgt := 4) dG_isUnder_42 rfl ?_
  skip
  refine V_iload_n dG_isUnder_4 rfl ?_
  refine V_gsA rfl dG_isUnder_5 fwG_316 ?_
  refine V_tAl dG_isUnder_8 ?_
  refine V_icmp_ge (tgt := 45) dG_isUnder_9 rfl (fun h => absurd h (by decide)) (fun _ => ?_)
  refine V_iload_n dG_isUnder_12 rfl ?_
  refine V_iload_n dG_isUnder_13 rfl ?_
  skip
  refine V_icmp_ne (tgt := 19) dG_isUnder_14 rfl (fun c14_1 => ?_) (fun c14_1 => ?_)
  rotate_left
  · skip
    refine V_iconst (v := 1) dG_isUnder_17 (by decide) ?_
    exact V_zret dG_isUnder_18 rfl rfl rfl (Or.inl ⟨by simp [← c14_1], rfl, rfl, rfl⟩)
  refine V_iload_n dG_isUnder_19 rfl ?_
  refine V_if_lt (tgt := 31) dG_isUnder_20 rfl (fun h => absurd h (by decide)) (fun _ => ?_)
  refine V_iload_n dG_isUnder_23 rfl ?_
  refine V_gsA rfl dG_isUnder_24 fwG_316 ?_
  refine V_tAl dG_isUnder_27 ?_
  refine V_icmp_lt (tgt := 33) dG_isUnder_28 rfl (fun _ => ?_) (fun h => absurd h (by decide))
  refine V_gsA rfl dG_isUnder_33 fwG_316 ?_
  refine V_iload_n dG_isUnder_36 rfl ?_
  refine V_tA dG_isUnder_37 (vp_in_nI (n := 0) (N := 7) (by decide) (by decide)) ?_
  refine V_topI (x' := (-1)) (by decide) ?_
  refine V_istore_n (loc' := [(2, .int (-1)), (3, .int 1), (0, .int 3), (1, .int x)]) dG_isUnder_38 (by decide) rfl ?_
  refine V_iinc (v := 2) (loc' := [(3, .int 2), (2, .int (-1)), (0, .int 3), (1, .int x)]) dG_isUnder_39 rfl (by decide) (by decide) rfl ?_
  refine V_goto (tgt := 4) dG_isUnder_42 rfl ?_
  skip
  refine V_iload_n dG_isUnder_4 rfl ?_
  refine V_gsA rfl dG_isUnder_5 fwG_316 ?_
  refine V_tAl dG_isUnder_8 ?_
  refine V_icmp_ge (tgt := 45) dG_isUnder_9 rfl (fun h => absurd h (by decide)) (fun _ => ?_)
  refine V_iload_n dG_isUnder_12 rfl ?_
  refine V_iload_n dG_isUnder_13 rfl ?_
  skip
  refine V_icmp_ne (tgt := 19) dG_isUnder_14 rfl (fun c14_2 => ?_) (fun c14_2 => ?_)
  · skip
    refine V_iload_n dG_isUnder_19 rfl ?_
    refine V_if_lt (tgt := 31) dG_isUnder_20 rfl (fun _ => ?_) (fun h => absurd h (by decide))
    refine V_iconst (v := 0) dG_isUnder_31 (by decide) ?_
    exact V_zret dG_isUnder_32 rfl rfl rfl (Or.inr ⟨by simp_all [eq_comm], rfl, rfl, rfl⟩)
  · exact absurd c14_2 (fun q => by subst q; exact absurd hx (by decide))
theorem c_isUnder4 {l : Launch} {G : GT} {σ : Hp} (x : Int32) (hx : 0 ≤ x) : MM l G mG_isUnder 0 0 0 [.int 4, .int x] KA σ (PZ (x = 4 ∨ x = 1 ∨ x = 0) KA σ) := by
  refine MM.of (loc := [(0, .int 4), (1, .int x)]) (by decide +kernel) rfl (Nat.le_of_ble_eq_true rfl) ?_
  refine V_iload_n dG_isUnder_0 rfl ?_
  refine V_istore_n (loc' := [(2, .int 4), (0, .int 4), (1, .int x)]) dG_isUnder_1 (by decide) rfl ?_
  refine V_iconst (v := 0) dG_isUnder_2 (by decide) ?_
  refine V_istore_n (loc' := [(3, .int 0), (2, .int 4), (0, .int 4), (1, .int x)]) dG_isUnder_3 (by decide) rfl ?_
  skip
  refine V_iload_n dG_isUnder_4 rfl ?_
  refine V_gsA rfl dG_isUnder_5 fwG_316 ?_
  refine V_tAl dG_isUnder_8 ?_
  refine V_icmp_ge (tgt := 45) dG_isUnder_9 rfl (fun h => absurd h (by decide)) (fun _ => ?_)
  refine V_iload_n dG_isUnder_12 rfl ?_
  refine V_iload_n dG_isUnder_13 rfl ?_
  skip
  refine V_icmp_ne (tgt := 19) dG_isUnder_14 rfl (fun c14_0 => ?_) (fun c14_0 => ?_)
  rotate_left
  · skip
    refine V_iconst (v := 1) dG_isUnder_17 (by decide) ?_
    exact V_zret dG_isUnder_18 rfl rfl rfl (Or.inl ⟨by simp [← c14_0], rfl, rfl, rfl⟩)
  refine V_iload_n dG_isUnder_19 rfl ?_
  refine V_if_lt (tgt := 31) dG_isUnder_20 rfl (fun h => absurd h (by decide)) (fun _ => ?_)
  refine V_iload_n dG_isUnder_23 rfl ?_
  refine V_gsA rfl dG_isUnder_24 fwG_316 ?_
  refine V_tAl dG_isUnder_27 ?_
  refine V_icmp_lt (tgt := 33) dG_isUnder_28 rfl (fun _ => ?_) (fun h => absurd h (by decide))
  refine V_gsA rfl dG_isUnder_33 fwG_316 ?_
  refine V_iload_n dG_isUnder_36 rfl ?_
  refine V_tA dG_isUnder_37 (vp_in_nI (n := 4) (N := 7) (by decide) (by decide)) ?_
  refine V_topI (x' := 1) (by decide) ?_
  refine V_istore_n (loc' := [(2, .int 1), (3, .int 0), (0, .int 4), (1, .int x)]) dG_isUnder_38 (by decide) rfl ?_
  refine V_iinc (v := 1) (loc' := [(3, .int 1), (2, .int 1), (0, .int 4), (1, .int x)]) dG_isUnder_39 rfl (by decide) (by decide) rfl ?_
  refine V_goto (tgt := 4) dG_isUnder_42 rfl ?_
  skip
  refine V_iload_n dG_isUnder_4 rfl ?_
  refine V_gsA rfl dG_isUnder_5 fwG_316 ?_
  refine V_tAl dG_isUnder_8 ?_
  refine V_icmp_ge (tgt := 45) dG_isUnder_9 rfl (fun h => absurd h (by decide)) (fun _ => ?_)
  refine V_iload_n dG_isUnder_12 rfl ?_
  refine V_iload_n dG_isUnder_13 rfl ?_
  skip
  refine V_icmp_ne (tgt := 19) dG_isUnder_14 rfl (fun c14_1 => ?_) (fun c14_1 => ?_)
  rotate_left
  · skip
    refine V_iconst (v := 1) dG_isUnder_17 (by decide) ?_
    exact V_zret dG_isUnder_18 rfl rfl rfl (Or.inl ⟨by simp [← c14_1], rfl, rfl, rfl⟩)
  refine V_iload_n dG_isUnder_19 rfl ?_
  refine V_if_lt (tgt := 31) dG_isUnder_20 rfl (fun h => absurd h (by decide)) (fun _ => ?_)
  refine V_iload_n dG_isUnder_23 rfl ?_
  refine V_gsA rfl dG_isUnder_24 fwG_316 ?_
  refine V_tAl dG_isUnder_27 ?_
  refine V_icmp_lt (tgt := 33) dG_isUnder_28 rfl (fun _ => ?_) (fun h => absurd h (by decide))
  refine V_gsA rfl dG_isUnder_33 fwG_316 ?_
  refine V_iload_n dG_isUnder_36 rfl ?_
  refine V_tA dG_isUnder_37 (vp_in_nI (n := 1) (N := 7) (by decide) (by decide)) ?_
  refine V_topI (x' := 0) (by decide) ?_
  refine V_istore_n (loc' := [(2, .int 0), (3, .int 1), (0, .int 4), (1, .int x)]) dG_isUnder_38 (by decide) rfl ?_
  refine V_iinc (v := 2) (loc' := [(3, .int 2), (2, .int 0), (0, .int 4), (1, .int x)]) dG_isUnder_39 rfl (by decide) (by decide) rfl ?_
  refine V_goto (tgt := 4) dG_isUnder_42 rfl ?_
  skip
  refine V_iload_n dG_isUnder_4 rfl ?_
  refine V_gsA rfl dG_isUnder_5 fwG_316 ?_
  refine V_tAl dG_isUnder_8 ?_
  refine V_icmp_ge (tgt := 45) dG_isUnder_9 rfl (fun h => absurd h (by decide)) (fun _ => ?_)
  refine V_iload_n dG_isUnder_12 rfl ?_
  refine V_iload_n dG_isUnder_13 rfl ?_
  skip
  refine V_icmp_ne (tgt := 19) dG_isUnder_14 rfl (fun c14_2 => ?_) (fun c14_2 => ?_)
  rotate_left
  · skip
    refine V_iconst (v := 1) dG_isUnder_17 (by decide) ?_
    exact V_zret dG_isUnder_18 rfl rfl rfl (Or.inl ⟨by simp [← c14_2], rfl, rfl, rfl⟩)
  refine V_iload_n dG_isUnder_19 rfl ?_
  refine V_if_lt (tgt := 31) dG_isUnder_20 rfl (fun h => absurd h (by decide)) (fun _ => ?_)
  refine V_iload_n dG_isUnder_23 rfl ?_
  refine V_gsA rfl dG_isUnder_24 fwG_316 ?_
  refine V_tAl dG_isUnder_27 ?_
  refine V_icmp_lt (tgt := 33) dG_isUnder_28 rfl (fun _ => ?_) (fun h => absurd h (by decide))
  refine V_gsA rfl dG_isUnder_33 fwG_316 ?_
  refine V_iload_n dG_isUnder_36 rfl ?_
  refine V_tA dG_isUnder_37 (vp_in_nI (n := 0) (N := 7) (by decide) (by decide)) ?_
  refine V_topI (x' := (-1)) (by decide) ?_
  refine V_istore_n (loc' := [(2, .int (-1)), (3, .int 2), (0, .int 4), (1, .int x)]) dG_isUnder_38 (by decide) rfl ?_
  refine V_iinc (v := 3) (loc' := [(3, .int 3), (2, .int (-1)), (0, .int 4), (1, .int x)]) dG_isUnder_39 rfl (by decide) (by decide) rfl ?_
  refine V_goto (tgt := 4) dG_isUnder_42 rfl ?_
  skip
  refine V_iload_n dG_isUnder_4 rfl ?_
  refine V_gsA rfl dG_isUnder_5 fwG_316 ?_
  refine V_tAl dG_isUnder_8 ?_
  refine V_icmp_ge (tgt := 45) dG_isUnder_9 rfl (fun h => absurd h (by decide)) (fun _ => ?_)
  refine V_iload_n dG_isUnder_12 rfl ?_
  refine V_iload_n dG_isUnder_13 rfl ?_
  skip
  refine V_icmp_ne (tgt := 19) dG_isUnder_14 rfl (fun c14_3 => ?_) (fun c14_3 => ?_)
  · skip
    refine V_iload_n dG_isUnder_19 rfl ?_
    refine V_if_lt (tgt := 31) dG_isUnder_20 rfl (fun _ => ?_) (fun h => absurd h (by decide))
    refine V_iconst (v := 0) dG_isUnder_31 (by decide) ?_
    exact V_zret dG_isUnder_32 rfl rfl rfl (Or.inr ⟨by simp_all [eq_comm], rfl, rfl, rfl⟩)
  · exact absurd c14_3 (fun q => by subst q; exact absurd hx (by decide))
theorem c_isUnder5 {l : Launch} {G : GT} {σ : Hp} (x : Int32) (hx : 0 ≤ x) : MM l G mG_isUnder 0 0 0 [.int 5, .int x] KA σ (PZ (x = 5 ∨ x = 2 ∨ x = 0) KA σ) := by
  refine MM.of (loc := [(0, .int 5), (1, .int x)]) (by decide +kernel) rfl (Nat.le_of_ble_eq_true rfl) ?_
  refine V_iload_n dG_isUnder_0 rfl ?_
  refine V_istore_n (loc' := [(2, .int 5), (0, .int 5), (1, .int x)]) dG_isUnder_1 (by decide) rfl ?_
  refine V_iconst (v := 0) dG_isUnder_2 (by decide) ?_
  refine V_istore_n (loc' := [(3, .int 0), (2, .int 5), (0, .int 5), (1, .int x)]) dG_isUnder_3 (by decide) rfl ?_
  skip
  refine V_iload_n dG_isUnder_4 rfl ?_
  refine V_gsA rfl dG_isUnder_5 fwG_316 ?_
  refine V_tAl dG_isUnder_8 ?_
  refine V_icmp_ge (tgt := 45) dG_isUnder_9 rfl (fun h => absurd h (by decide)) (fun _ => ?_)
  refine V_iload_n dG_isUnder_12 rfl ?_
  refine V_iload_n dG_isUnder_13 rfl ?_
  skip
  refine V_icmp_ne (tgt := 19) dG_isUnder_14 rfl (fun c14_0 => ?_) (fun c14_0 => ?_)
  rotate_left
  · skip
    refine V_iconst (v := 1) dG_isUnder_17 (by decide) ?_
    exact V_zret dG_isUnder_18 rfl rfl rfl (Or.inl ⟨by simp [← c14_0], rfl, rfl, rfl⟩)
  refine V_iload_n dG_isUnder_19 rfl ?_
  refine V_if_lt (tgt := 31) dG_isUnder_20 rfl (fun h => absurd h (by decide)) (fun _ => ?_)
  refine V_iload_n dG_isUnder_23 rfl ?_
  refine V_gsA rfl dG_isUnder_24 fwG_316 ?_
  refine V_tAl dG_isUnder_27 ?_
  refine V_icmp_lt (tgt := 33) dG_isUnder_28 rfl (fun _ => ?_) (fun h => absurd h (by decide))
  refine V_gsA rfl dG_isUnder_33 fwG_316 ?_
  refine V_iload_n dG_isUnder_36 rfl ?_
  refine V_tA dG_isUnder_37 (vp_in_nI (n := 5) (N := 7) (by decide) (by decide)) ?_
  refine V_topI (x' := 2) (by decide) ?_
  refine V_istore_n (loc' := [(2, .int 2), (3, .int 0), (0, .int 5), (1, .int x)]) dG_isUnder_38 (by decide) rfl ?_
  refine V_iinc (v := 1) (loc' := [(3, .int 1), (2, .int 2), (0, .int 5), (1, .int x)]) dG_isUnder_39 rfl (by decide) (by decide) rfl ?_
  refine V_goto (tgt := 4) dG_isUnder_42 rfl ?_
  skip
  refine V_iload_n dG_isUnder_4 rfl ?_
  refine V_gsA rfl dG_isUnder_5 fwG_316 ?_
  refine V_tAl dG_isUnder_8 ?_
  refine V_icmp_ge (tgt := 45) dG_isUnder_9 rfl (fun h => absurd h (by decide)) (fun _ => ?_)
  refine V_iload_n dG_isUnder_12 rfl ?_
  refine V_iload_n dG_isUnder_13 rfl ?_
  skip
  refine V_icmp_ne (tgt := 19) dG_isUnder_14 rfl (fun c14_1 => ?_) (fun c14_1 => ?_)
  rotate_left
  · skip
    refine V_iconst (v := 1) dG_isUnder_17 (by decide) ?_
    exact V_zret dG_isUnder_18 rfl rfl rfl (Or.inl ⟨by simp [← c14_1], rfl, rfl, rfl⟩)
  refine V_iload_n dG_isUnder_19 rfl ?_
  refine V_if_lt (tgt := 31) dG_isUnder_20 rfl (fun h => absurd h (by decide)) (fun _ => ?_)
  refine V_iload_n dG_isUnder_23 rfl ?_
  refine V_gsA rfl dG_isUnder_24 fwG_316 ?_
  refine V_tAl dG_isUnder_27 ?_
  refine V_icmp_lt (tgt := 33) dG_isUnder_28 rfl (fun _ => ?_) (fun h => absurd h (by decide))
  refine V_gsA rfl dG_isUnder_33 fwG_316 ?_
  refine V_iload_n dG_isUnder_36 rfl ?_
  refine V_tA dG_isUnder_37 (vp_in_nI (n := 2) (N := 7) (by decide) (by decide)) ?_
  refine V_topI (x' := 0) (by decide) ?_
  refine V_istore_n (loc' := [(2, .int 0), (3, .int 1), (0, .int 5), (1, .int x)]) dG_isUnder_38 (by decide) rfl ?_
  refine V_iinc (v := 2) (loc' := [(3, .int 2), (2, .int 0), (0, .int 5), (1, .int x)]) dG_isUnder_39 rfl (by decide) (by decide) rfl ?_
  refine V_goto (tgt := 4) dG_isUnder_42 rfl ?_
  skip
  refine V_iload_n dG_isUnder_4 rfl ?_
  refine V_gsA rfl dG_isUnder_5 fwG_316 ?_
  refine V_tAl dG_isUnder_8 ?_
  refine V_icmp_ge (tgt := 45) dG_isUnder_9 rfl (fun h => absurd h (by decide)) (fun _ => ?_)
  refine V_iload_n dG_isUnder_12 rfl ?_
  refine V_iload_n dG_isUnder_13 rfl ?_
  skip
  refine V_icmp_ne (tgt := 19) dG_isUnder_14 rfl (fun c14_2 => ?_) (fun c14_2 => ?_)
  rotate_left
  · skip
    refine V_iconst (v := 1) dG_isUnder_17 (by decide) ?_
    exact V_zret dG_isUnder_18 rfl rfl rfl (Or.inl ⟨by simp [← c14_2], rfl, rfl, rfl⟩)
  refine V_iload_n dG_isUnder_19 rfl ?_
  refine V_if_lt (tgt := 31) dG_isUnder_20 rfl (fun h => absurd h (by decide)) (fun _ => ?_)
  refine V_iload_n dG_isUnder_23 rfl ?_
  refine V_gsA rfl dG_isUnder_24 fwG_316 ?_
  refine V_tAl dG_isUnder_27 ?_
  refine V_icmp_lt (tgt := 33) dG_isUnder_28 rfl (fun _ => ?_) (fun h => absurd h (by decide))
  refine V_gsA rfl dG_isUnder_33 fwG_316 ?_
  refine V_iload_n dG_isUnder_36 rfl ?_
  refine V_tA dG_isUnder_37 (vp_in_nI (n := 0) (N := 7) (by decide) (by decide)) ?_
  refine V_topI (x' := (-1)) (by decide) ?_
  refine V_istore_n (loc' := [(2, .int (-1)), (3, .int 2), (0, .int 5), (1, .int x)]) dG_isUnder_38 (by decide) rfl ?_
  refine V_iinc (v := 3) (loc' := [(3, .int 3), (2, .int (-1)), (0, .int 5), (1, .int x)]) dG_isUnder_39 rfl (by decide) (by decide) rfl ?_
  refine V_goto (tgt := 4) dG_isUnder_42 rfl ?_
  skip
  refine V_iload_n dG_isUnder_4 rfl ?_
  refine V_gsA rfl dG_isUnder_5 fwG_316 ?_
  refine V_tAl dG_isUnder_8 ?_
  refine V_icmp_ge (tgt := 45) dG_isUnder_9 rfl (fun h => absurd h (by decide)) (fun _ => ?_)
  refine V_iload_n dG_isUnder_12 rfl ?_
  refine V_iload_n dG_isUnder_13 rfl ?_
  skip
  refine V_icmp_ne (tgt := 19) dG_isUnder_14 rfl (fun c14_3 => ?_) (fun c14_3 => ?_)
  · skip
    refine V_iload_n dG_isUnder_19 rfl ?_
    refine V_if_lt (tgt := 31) dG_isUnder_20 rfl (fun _ => ?_) (fun h => absurd h (by decide))
    refine V_iconst (v := 0) dG_isUnder_31 (by decide) ?_
    exact V_zret dG_isUnder_32 rfl rfl rfl (Or.inr ⟨by simp_all [eq_comm], rfl, rfl, rfl⟩)
  · exact absurd c14_3 (fun q => by subst q; exact absurd hx (by decide))
theorem c_isUnder6 {l : Launch} {G : GT} {σ : Hp} (x : Int32) (hx : 0 ≤ x) : MM l G mG_isUnder 0 0 0 [.int 6, .int x] KA σ (PZ (x = 6 ∨ x = 3 ∨ x = 0) KA σ) := by
  refine MM.of (loc := [(0, .int 6), (1, .int x)]) (by decide +kernel) rfl (Nat.le_of_ble_eq_true rfl) ?_
  refine V_iload_n dG_isUnder_0 rfl ?_
  refine V_istore_n (loc' := [(2, .int 6), (0, .int 6), (1, .int x)]) dG_isUnder_1 (by decide) rfl ?_
  refine V_iconst (v := 0) dG_isUnder_2 (by decide) ?_
  refine V_istore_n (loc' := [(3, .int 0), (2, .int 6), (0, .int 6), (1, .int x)]) dG_isUnder_3 (by decide) rfl ?_
  skip
  refine V_iload_n dG_isUnder_4 rfl ?_
  refine V_gsA rfl dG_isUnder_5 fwG_316 ?_
  refine V_tAl dG_isUnder_8 ?_
  refine V_icmp_ge (tgt := 45) dG_isUnder_9 rfl (fun h => absurd h (by decide)) (fun _ => ?_)
  refine V_iload_n dG_isUnder_12 rfl ?_
  refine V_iload_n dG_isUnder_13 rfl ?_
  skip
  refine V_icmp_ne (tgt := 19) dG_isUnder_14 rfl (fun c14_0 => ?_) (fun c14_0 => ?_)
  rotate_left
  · skip
    refine V_iconst (v := 1) dG_isUnder_17 (by decide) ?_
    exact V_zret dG_isUnder_18 rfl rfl rfl (Or.inl ⟨by simp [← c14_0], rfl, rfl, rfl⟩)
  refine V_iload_n dG_isUnder_19 rfl ?_
  refine V_if_lt (tgt := 31) dG_isUnder_20 rfl (fun h => absurd h (by decide)) (fun _ => ?_)
  refine V_iload_n dG_isUnder_23 rfl ?_
  refine V_gsA rfl dG_isUnder_24 fwG_316 ?_
  refine V_tAl dG_isUnder_27 ?_
  refine V_icmp_lt (tgt := 33) dG_isUnder_28 rfl (fun _ => ?_) (fun h => absurd h (by decide))
  refine V_gsA rfl dG_isUnder_33 fwG_316 ?_
  refine V_iload_n dG_isUnder_36 rfl ?_
  refine V_tA dG_isUnder_37 (vp_in_nI (n := 6) (N := 7) (by decide) (by decide)) ?_
  refine V_topI (x' := 3) (by decide) ?_
  refine V_istore_n (loc' := [(2, .int 3), (3, .int 0), (0, .int 6), (1, .int x)]) dG_isUnder_38 (by decide) rfl ?_
  refine V_iinc (v := 1) (loc' := [(3, .int 1), (2, .int 3), (0, .int 6), (1, .int x)]) dG_isUnder_39 rfl (by decide) (by decide) rfl ?_
  refine V_goto (tgt := 4) dG_isUnder_42 rfl ?_
  skip
  refine V_iload_n dG_isUnder_4 rfl ?_
  refine V_gsA rfl dG_isUnder_5 fwG_316 ?_
  refine V_tAl dG_isUnder_8 ?_
  refine V_icmp_ge (tgt := 45) dG_isUnder_9 rfl (fun h => absurd h (by decide)) (fun _ => ?_)
  refine V_iload_n dG_isUnder_12 rfl ?_
  refine V_iload_n dG_isUnder_13 rfl ?_
  skip
  refine V_icmp_ne (tgt := 19) dG_isUnder_14 rfl (fun c14_1 => ?_) (fun c14_1 => ?_)
  rotate_left
  · skip
    refine V_iconst (v := 1) dG_isUnder_17 (by decide) ?_
    exact V_zret dG_isUnder_18 rfl rfl rfl (Or.inl ⟨by simp [← c14_1], rfl, rfl, rfl⟩)
  refine V_iload_n dG_isUnder_19 rfl ?_
  refine V_if_lt (tgt := 31) dG_isUnder_20 rfl (fun h => absurd h (by decide)) (fun _ => ?_)
  refine V_iload_n dG_isUnder_23 rfl ?_
  refine V_gsA rfl dG_isUnder_24 fwG_316 ?_
  refine V_tAl dG_isUnder_27 ?_
  refine V_icmp_lt (tgt := 33) dG_isUnder_28 rfl (fun _ => ?_) (fun h => absurd h (by decide))
  refine V_gsA rfl dG_isUnder_33 fwG_316 ?_
  refine V_iload_n dG_isUnder_36 rfl ?_
  refine V_tA dG_isUnder_37 (vp_in_nI (n := 3) (N := 7) (by decide) (by decide)) ?_
  refine V_topI (x' := 0) (by decide) ?_
  refine V_istore_n (loc' := [(2, .int 0), (3, .int 1), (0, .int 6), (1, .int x)]) dG_isUnder_38 (by decide) rfl ?_
  refine V_iinc (v := 2) (loc' := [(3, .int 2), (2, .int 0), (0, .int 6), (1, .int x)]) dG_isUnder_39 rfl (by decide) (by decide) rfl ?_
  refine V_goto (tgt := 4) dG_isUnder_42 rfl ?_
  skip
  refine V_iload_n dG_isUnder_4 rfl ?_
  refine V_gsA rfl dG_isUnder_5 fwG_316 ?_
  refine V_tAl dG_isUnder_8 ?_
  refine V_icmp_ge (tgt := 45) dG_isUnder_9 rfl (fun h => absurd h (by decide)) (fun _ => ?_)
  refine V_iload_n dG_isUnder_12 rfl ?_
  refine V_iload_n dG_isUnder_13 rfl ?_
  skip
  refine V_icmp_ne (tgt := 19) dG_isUnder_14 rfl (fun c14_2 => ?_) (fun c14_2 => ?_)
  rotate_left
  · skip
    refine V_iconst (v := 1) dG_isUnder_17 (by decide) ?_
    exact V_zret dG_isUnder_18 rfl rfl rfl (Or.inl ⟨by simp [← c14_2], rfl, rfl, rfl⟩)
  refine V_iload_n dG_isUnder_19 rfl ?_
  refine V_if_lt (tgt := 31) dG_isUnder_20 rfl (fun h => absurd h (by decide)) (fun _ => ?_)
  refine V_iload_n dG_isUnder_23 rfl ?_
  refine V_gsA rfl dG_isUnder_24 fwG_316 ?_
  refine V_tAl dG_isUnder_27 ?_
  refine V_icmp_lt (tgt := 33) dG_isUnder_28 rfl (fun _ => ?_) (fun h => absurd h (by decide))
  refine V_gsA rfl dG_isUnder_33 fwG_316 ?_
  refine V_iload_n dG_isUnder_36 rfl ?_
  refine V_tA dG_isUnder_37 (vp_in_nI (n := 0) (N := 7) (by decide) (by decide)) ?_
  refine V_topI (x' := (-1)) (by decide) ?_
  refine V_istore_n (loc' := [(2, .int (-1)), (3, .int 2), (0, .int 6), (1, .int x)]) dG_isUnder_38 (by decide) rfl ?_
  refine V_iinc (v := 3) (loc' := [(3, .int 3), (2, .int (-1)), (0, .int 6), (1, .int x)]) dG_isUnder_39 rfl (by decide) (by decide) rfl ?_
  refine V_goto (tgt := 4) dG_isUnder_42 rfl ?_
  skip
  refine V_iload_n dG_isUnder_4 rfl ?_
  refine V_gsA rfl dG_isUnder_5 fwG_316 ?_
  refine V_tAl dG_isUnder_8 ?_
  refine V_icmp_ge (tgt := 45) dG_isUnder_9 rfl (fun h => absurd h (by decide)) (fun _ => ?_)
  refine V_iload_n dG_isUnder_12 rfl ?_
  refine V_iload_n dG_isUnder_13 rfl ?_
  skip
  refine V_icmp_ne (tgt := 19) dG_isUnder_14 rfl (fun c14_3 => ?_) (fun c14_3 => ?_)
  · skip
    refine V_iload_n dG_isUnder_19 rfl ?_
    refine V_if_lt (tgt := 31) dG_isUnder_20 rfl (fun _ => ?_) (fun h => absurd h (by decide))
    refine V_iconst (v := 0) dG_isUnder_31 (by decide) ?_
    exact V_zret dG_isUnder_32 rfl rfl rfl (Or.inr ⟨by simp_all [eq_comm], rfl, rfl, rfl⟩)
  · exact absurd c14_3 (fun q => by subst q; exact absurd hx (by decide))
