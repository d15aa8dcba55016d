/-! more rows: by natural numbers; what a call hands back -/
def PE (v : Option Value) (kds : List Kd) (σ : Hp) : Option Value → List Kd → Hp → Prop := fun r k s => r = v ∧ kds = k ∧ σ = s
def PZ (P : Prop) (kds : List Kd) (σ : Hp) : Option Value → List Kd → Hp → Prop := fun r k s => (P ∧ r = some (.int 1) ∧ kds = k ∧ σ = s) ∨ (¬ P ∧ r = some (.int 0) ∧ kds = k ∧ σ = s)
theorem nI_inc (n : Nat) : nI n + Int32.ofInt 1 = nI (n + 1) := (nI_succ n).symm
theorem lp_up {P : Nat → Prop} (e : Nat) (he : P e) (hs : ∀ n, n < e → P (n + 1) → P n) : ∀ n, n ≤ e → P n := by
  intro n hn
  obtain ⟨j, rfl⟩ : ∃ j, e = n + j := ⟨e - n, by omega⟩
  clear hn
  induction j generalizing n with
  | zero => exact he
  | succ j ih =>
    refine hs n (by omega) (ih (n + 1) ?_ ?_)
    · rw [show n + 1 + j = n + (j + 1) by omega]; exact he
    · intro m hm; exact hs m (by omega)
theorem gi_ne {σ : Hp} {k j k' j' : Nat} {x : Int32} (h : k' ≠ k) : gi (si σ k j x) k' j' = gi σ k' j' := by simp [gi, si, h]
theorem gi_nj {σ : Hp} {k j k' j' : Nat} {x : Int32} (h : j' ≠ j) : gi (si σ k j x) k' j' = gi σ k' j' := by simp [gi, si, h]
theorem gi_eq {σ : Hp} {k j : Nat} {x : Int32} : gi (si σ k j x) k j = x := by simp [gi, si]
theorem gl_si {σ : Hp} {k j k' j' : Nat} {x : Int32} : gl (si σ k j x) k' j' = gl σ k' j' := rfl
theorem gi_sl {σ : Hp} {k j k' j' : Nat} {x : Int64} : gi (sl σ k j x) k' j' = gi σ k' j' := rfl
theorem gl_ne {σ : Hp} {k j k' j' : Nat} {x : Int64} (h : k' ≠ k) : gl (sl σ k j x) k' j' = gl σ k' j' := by simp [gl, sl, h]
theorem si_same {σ : Hp} {k j : Nat} : si σ k j (gi σ k j) = σ := by
  obtain ⟨a, b⟩ := σ
  unfold si gi
  congr 1
  funext x y
  by_cases h : x = k ∧ y = j
  · rw [if_pos h, h.1, h.2]
  · rw [if_neg h]
theorem si_si {σ : Hp} {k j : Nat} {x y : Int32} : si (si σ k j x) k j y = si σ k j y := by
  obtain ⟨a, b⟩ := σ
  unfold si
  congr 1
  funext u v
  by_cases h : u = k ∧ v = j
  · rw [if_pos h, if_pos h]
  · simp [h]
theorem mx_s : Cond.static Lib.Math.max.name ∈ lw_g := tk3 13 (by decide +kernel) rfl
theorem mx_i : Cond.initialized "java/lang/Math" ∈ lw_g := iniJM
theorem mx_c : Cond.code Lib.Math.max.name Lib.Math.max.code 2 (some .int) ∈ lw_g := tk3 14 (by decide +kernel) rfl
theorem mn_s : Cond.static Lib.Math.min.name ∈ lw_g := tk3 16 (by decide +kernel) rfl
theorem mn_c : Cond.code Lib.Math.min.name Lib.Math.min.code 2 (some .int) ∈ lw_g := tk3 17 (by decide +kernel) rfl
section VX
variable {l : Launch} {G : GT} {me : MT} {R : Room} {nE bs pc : Nat} {loc loc' : List (Nat × Value)} {stk : List Value} {kds : List Kd} {σ : Hp} {Post : Option Value → List Kd → Hp → Prop}
theorem V_topI {x x' : Int32} (h : x = x') (k : V l G me R nE bs pc loc (.int x' :: stk) kds σ Post) : V l G me R nE bs pc loc (.int x :: stk) kds σ Post := h ▸ k
theorem V_topL {x x' : Int64} (h : x = x') (k : V l G me R nE bs pc loc (.long x' :: stk) kds σ Post) : V l G me R nE bs pc loc (.long x :: stk) kds σ Post := h ▸ k
theorem V_eqL (h : loc = loc') (k : V l G me R nE bs pc loc' stk kds σ Post) : V l G me R nE bs pc loc stk kds σ Post := h ▸ k
theorem V_eqS {σ' : Hp} (h : σ = σ') (k : V l G me R nE bs pc loc stk kds σ' Post) : V l G me R nE bs pc loc stk kds σ Post := h ▸ k
theorem V_one {v : Value} (k : V l G me R nE bs pc loc (v :: stk) kds σ Post) : V l G me R nE bs pc loc ((some v).toList ++ stk) kds σ Post := k
theorem V_non (k : V l G me R nE bs pc loc stk kds σ Post) : V l G me R nE bs pc loc ((none : Option Value).toList ++ stk) kds σ Post := k
theorem V_getE {idx c n j k : Nat} {x : Int32} (hd : decode me.2.1 pc = .ok (.getfield idx, 3)) (hl0 : FLK me.1.cls idx c n j) (hk : kds[k]? = some (c, n)) (hr : isR c j = false) (hx : gi σ k j = x) (kk : V l G me R nE bs (pc + 3) loc (.int x :: stk) kds σ Post) : V l G me R nE bs pc loc (.ref k :: stk) kds σ Post :=
  V_getI hd hl0 hk hr (hx ▸ kk)
theorem V_ialdN {k n j : Nat} {i : Int32} (hd : decode me.2.1 pc = .ok (.iaload, 1)) (hk : kds[k]? = some (20, n)) (hi : i = nI j) (hj : j < n) (hn : n < 2 ^ 31) (kk : V l G me R nE bs (pc + 1) loc (.int (gi σ k j) :: stk) kds σ Post) : V l G me R nE bs pc loc (.int i :: .ref k :: stk) kds σ Post := by
  subst hi
  refine V_iald hd hk (vp_in_nI hj hn) ?_
  rw [nI_clamp (by omega)]
  exact kk
theorem V_zaldN {k n j : Nat} {i : Int32} (hd : decode me.2.1 pc = .ok (.baload, 1)) (hk : kds[k]? = some (21, n)) (hi : i = nI j) (hj : j < n) (hn : n < 2 ^ 31) (kk : V l G me R nE bs (pc + 1) loc (.int (gi σ k j) :: stk) kds σ Post) : V l G me R nE bs pc loc (.int i :: .ref k :: stk) kds σ Post := by
  subst hi
  refine V_zald hd hk (vp_in_nI hj hn) ?_
  rw [nI_clamp (by omega)]
  exact kk
theorem V_laldN {k n j : Nat} {i : Int32} (hd : decode me.2.1 pc = .ok (.laload, 1)) (hk : kds[k]? = some (22, n)) (hi : i = nI j) (hj : j < n) (hn : n < 2 ^ 31) (kk : V l G me R nE bs (pc + 1) loc (.long (gl σ k j) :: stk) kds σ Post) : V l G me R nE bs pc loc (.int i :: .ref k :: stk) kds σ Post := by
  subst hi
  refine V_lald hd hk (vp_in_nI hj hn) ?_
  rw [nI_clamp (by omega)]
  exact kk
theorem V_aaldN {k n j a : Nat} {i : Int32} (hd : decode me.2.1 pc = .ok (.aaload, 1)) (hk : kds[k]? = some (23, n)) (hi : i = nI j) (hj : j < n) (hn : n < 2 ^ 31) (hv : gr σ k j = some a) (kk : V l G me R nE bs (pc + 1) loc (.ref a :: stk) kds σ Post) : V l G me R nE bs pc loc (.int i :: .ref k :: stk) kds σ Post := by
  subst hi
  exact V_aald hd hk (vp_in_nI hj hn) (by rw [nI_clamp (by omega)]; exact hv) kk
theorem V_aaldAN {k n j a t : Nat} {i : Int32} (hd : decode me.2.1 pc = .ok (.aaload, 1)) (hk : kds[k]? = some (t, n)) (ht : t = 24 ∨ t = 25) (hi : i = nI j) (hj : j < n) (hn : n < 2 ^ 31) (hv : gr σ k j = some a) (kk : V l G me R nE bs (pc + 1) loc (.ref a :: stk) kds σ Post) : V l G me R nE bs pc loc (.int i :: .ref k :: stk) kds σ Post := by
  subst hi
  exact V_aaldA hd hk ht (vp_in_nI hj hn) (by rw [nI_clamp (by omega)]; exact hv) kk
theorem V_iastN {k n j : Nat} {i x : Int32} (hd : decode me.2.1 pc = .ok (.iastore, 1)) (hk : kds[k]? = some (20, n)) (hi : i = nI j) (hj : j < n) (hn : n < 2 ^ 31) (kk : V l G me R nE bs (pc + 1) loc stk kds (si σ k j x) Post) : V l G me R nE bs pc loc (.int x :: .int i :: .ref k :: stk) kds σ Post := by
  subst hi
  refine V_iast hd hk (vp_in_nI hj hn) ?_
  rw [nI_clamp (by omega)]
  exact kk
theorem V_zastN {k n j : Nat} {i x : Int32} (hd : decode me.2.1 pc = .ok (.bastore, 1)) (hk : kds[k]? = some (21, n)) (hi : i = nI j) (hj : j < n) (hn : n < 2 ^ 31) (hx : x = 0 ∨ x = 1) (kk : V l G me R nE bs (pc + 1) loc stk kds (si σ k j x) Post) : V l G me R nE bs pc loc (.int x :: .int i :: .ref k :: stk) kds σ Post := by
  subst hi
  refine V_zast hd hk (vp_in_nI hj hn) hx ?_
  rw [nI_clamp (by omega)]
  exact kk
theorem V_lastN {k n j : Nat} {i : Int32} {x : Int64} (hd : decode me.2.1 pc = .ok (.lastore, 1)) (hk : kds[k]? = some (22, n)) (hi : i = nI j) (hj : j < n) (hn : n < 2 ^ 31) (kk : V l G me R nE bs (pc + 1) loc stk kds (sl σ k j x) Post) : V l G me R nE bs pc loc (.long x :: .int i :: .ref k :: stk) kds σ Post := by
  subst hi
  refine V_last hd hk (vp_in_nI hj hn) ?_
  rw [nI_clamp (by omega)]
  exact kk
theorem V_astore_nN {k : Fin 4} (hd : decode me.2.1 pc = .ok (.astore_n k, 1)) (hn : (k : Nat) < me.2.2.1) (hp : put1 (k : Nat) .null loc = loc') (k2 : V l G me R nE bs (pc + 1) loc' stk kds σ Post) : V l G me R nE bs pc loc (.null :: stk) kds σ Post := fun p e s m args below meth c H locs cells slots Q ls hC hl hP hS hc hs hret =>
  lv_astore_nN hC.1 hC.2.1 hd rfl hl hn (lo_put1 (G := G) hp) (fun ls hl => k2 p e s m args below meth c H locs cells slots Q ls hC hl hP hS hc hs hret)
theorem V_astoreN {i : Nat} (hd : decode me.2.1 pc = .ok (.astore i, 2)) (hn : i < me.2.2.1) (hp : put1 i .null loc = loc') (k2 : V l G me R nE bs (pc + 2) loc' stk kds σ Post) : V l G me R nE bs pc loc (.null :: stk) kds σ Post := fun p e s m args below meth c H locs cells slots Q ls hC hl hP hS hc hs hret =>
  lv_astoreN hC.1 hC.2.1 hd hl hn (lo_put1 (G := G) hp) (fun ls hl => k2 p e s m args below meth c H locs cells slots Q ls hC hl hP hS hc hs hret)
theorem V_aload_nN {k : Fin 4} (hd : decode me.2.1 pc = .ok (.aload_n k, 1)) (hk : lk loc (k : Nat) = some .null) (k : V l G me R nE bs (pc + 1) loc (.null :: stk) kds σ Post) : V l G me R nE bs pc loc (stk) kds σ Post := fun p e s m args below meth c H locs cells slots Q ls hC hl hP hS hc hs hret =>
  lv_aload_nN hC.1 hC.2.1 hd rfl (lo_at hl hk) (k p e s m args below meth c H locs cells slots Q ls hC hl hP hS hc hs hret)
theorem V_aloadN {i : Nat} (hd : decode me.2.1 pc = .ok (.aload i, 2)) (hk : lk loc i = some .null) (k : V l G me R nE bs (pc + 2) loc (.null :: stk) kds σ Post) : V l G me R nE bs pc loc (stk) kds σ Post := fun p e s m args below meth c H locs cells slots Q ls hC hl hP hS hc hs hret =>
  lv_aloadN hC.1 hC.2.1 hd (lo_at hl hk) (k p e s m args below meth c H locs cells slots Q ls hC hl hP hS hc hs hret)
theorem V_max {own : String} {idx : Nat} {x y : Int32} (ho : me.1.cls = own) (hd : decode me.2.1 pc = .ok (.invokestatic idx, 3)) (hl0 : Cond.methodLink own idx Lib.Math.max.name ∈ lw_g) (hR : 1 ≤ R.frames ∧ 21 ≤ R.locals) (hw : (stk.map fun v => v.category).sum ≤ 8) (hn : kds.length ≤ nE) (kk : V l G me R nE bs (pc + 3) loc (.int (if x < y then y else x) :: stk) kds σ Post) : V l G me R nE bs pc loc (.int y :: .int x :: stk) kds σ Post := by
  intro p e s m args below meth c H locs cells slots Q ls hC hl hP hS hc hs hret
  subst ho
  have hts := hC.2.2.2.2.2.1
  have hle := hC.2.2.2.2.2.2.2.2.2.2
  exact va_mmax hC.1 hC.2.1 (by rw [hC.2.2.2.1]; exact hl.1.symm) hC.2.2.2.2.1 (hts _ hl0) (hts _ mx_s) (hts _ mx_i) (hts _ mx_c) hR.1 (by rw [av_cats]; omega) (by omega) (by omega) hd (kk p e s m args below meth c H locs cells slots Q ls hC hl hP hS hc hs hret)
theorem V_min {own : String} {idx : Nat} {x y : Int32} (ho : me.1.cls = own) (hd : decode me.2.1 pc = .ok (.invokestatic idx, 3)) (hl0 : Cond.methodLink own idx Lib.Math.min.name ∈ lw_g) (hR : 1 ≤ R.frames ∧ 21 ≤ R.locals) (hw : (stk.map fun v => v.category).sum ≤ 8) (hn : kds.length ≤ nE) (kk : V l G me R nE bs (pc + 3) loc (.int (if y < x then y else x) :: stk) kds σ Post) : V l G me R nE bs pc loc (.int y :: .int x :: stk) kds σ Post := by
  intro p e s m args below meth c H locs cells slots Q ls hC hl hP hS hc hs hret
  subst ho
  have hts := hC.2.2.2.2.2.1
  have hle := hC.2.2.2.2.2.2.2.2.2.2
  exact va_mmin hC.1 hC.2.1 (by rw [hC.2.2.2.1]; exact hl.1.symm) hC.2.2.2.2.1 (hts _ hl0) (hts _ mn_s) (hts _ mx_i) (hts _ mn_c) hR.1 (by rw [av_cats]; omega) (by omega) (by omega) hd (kk p e s m args below meth c H locs cells slots Q ls hC hl hP hS hc hs hret)
end VX
