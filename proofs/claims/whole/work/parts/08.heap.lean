/-! the heap: fields, arrays, static tables, texts -/
theorem el_obj {G : GT} {σ : Hp} {c n k : Nat} (h : c < 20) : elem G σ (c, n) k = .inr (c, (List.range n).map (fval G σ k c)) := by
  unfold elem
  rw [if_pos h]
theorem fv_get {G : GT} {σ : Hp} {k c n j : Nat} (h : j < n) : ((List.range n).map (fval G σ k c))[j]? = some (fval G σ k c j) := by
  rw [List.getElem?_map, List.getElem?_range h]
  rfl
theorem fv_set {G : GT} {σ σ' : Hp} {k c n j : Nat} (v : Value) (hv : fval G σ' k c j = v) (ho : ∀ i, i ≠ j → fval G σ' k c i = fval G σ k c i) : ((List.range n).map (fval G σ k c)).set j v = (List.range n).map (fval G σ' k c) := by
  apply List.ext_getElem?
  intro i
  by_cases hi : j = i
  · subst hi
    by_cases hj : j < n
    · rw [List.getElem?_set_self (by simpa using hj), fv_get hj, hv]
    · rw [List.getElem?_eq_none (by simp; omega), List.getElem?_eq_none (by simp; omega)]
  · rw [List.getElem?_set_ne hi, List.getElem?_map, List.getElem?_map]
    by_cases hi2 : i < n
    · rw [List.getElem?_range hi2]
      simp only [Option.map_some]
      rw [ho i (Ne.symm hi)]
    · rw [List.getElem?_eq_none (by simp; omega)]
      rfl
section VH
variable {l : Launch} {G : GT} {me : MT} {R : Room} {nE bs pc : Nat} {loc loc' : List (Nat × Value)} {stk : List Value} {kds : List Kd} {σ : Hp} {Post : Option Value → List Kd → Hp → Prop}
theorem V_get {idx c n j k : Nat} {v : Value} (hd : decode me.2.1 pc = .ok (.getfield idx, 3)) (hl0 : FLK me.1.cls idx c n j) (hk : kds[k]? = some (c, n)) (hv : fval G σ k c j = av G v) (kk : V l G me R nE bs (pc + 3) loc (v :: stk) kds σ Post) : V l G me R nE bs pc loc (.ref k :: stk) kds σ Post := by
  intro p e s m args below meth c0 H locs cells slots Q ls hC hl hP hS hc hs hret
  obtain ⟨C, T, h1, h2, h3, h4, h5⟩ := hl0
  have hw := w_get (G := G) (σ := σ) hk
  rw [el_obj h3] at hw
  exact va_get (D := gD G) (ci := c) (C := C) (T := T) (N := n) hC.1 hC.2.1 hC.2.2.2.2.2.1 h5 hC.2.2.2.2.1 hC.2.2.2.2.2.2.2.2.1.1.1 hP k hw h1 j h2 (hC.2.2.2.2.2.1 _ h4) (fun x h => h) ((fv_get h2).trans (congrArg some hv)) hd (kk p e s m args below meth c0 H locs cells slots Q ls hC hl hP hS hc hs hret)
theorem V_getI {idx c n j k : Nat} (hd : decode me.2.1 pc = .ok (.getfield idx, 3)) (hl0 : FLK me.1.cls idx c n j) (hk : kds[k]? = some (c, n)) (hr : isR c j = false) (kk : V l G me R nE bs (pc + 3) loc (.int (gi σ k j) :: stk) kds σ Post) : V l G me R nE bs pc loc (.ref k :: stk) kds σ Post :=
  V_get hd hl0 hk (by simp [fval, hr, av]) kk
theorem V_getR {idx c n j k a : Nat} (hd : decode me.2.1 pc = .ok (.getfield idx, 3)) (hl0 : FLK me.1.cls idx c n j) (hk : kds[k]? = some (c, n)) (hr : isR c j = true) (hv : gr σ k j = some a) (kk : V l G me R nE bs (pc + 3) loc (.ref a :: stk) kds σ Post) : V l G me R nE bs pc loc (.ref k :: stk) kds σ Post :=
  V_get hd hl0 hk (by simp [fval, hr, av, hv, va_rf]) kk
theorem V_put {idx c n j k : Nat} {x : Value} {d : String} {ty : FieldType} {fin : Bool} {σ' : Hp} (hd : decode me.2.1 pc = .ok (.putfield idx, 3)) (hl0 : FLK me.1.cls idx c n j) (hf : FPK me.1.cls c n j fin d ty) (hfin : fin = false ∨ me.1.name = "<init>") (hk : kds[k]? = some (c, n)) (hn : narrow ty (av G x) = av G x) (hfit : fits ty (av G x) = true) (hv : fval G σ' k c j = av G x) (ho : ∀ i, i ≠ j → fval G σ' k c i = fval G σ k c i) (ho2 : ∀ (k' : Nat) (kd' : Kd), k' ≠ k → elem G σ' kd' k' = elem G σ kd' k')
    (kk : V l G me R nE bs (pc + 3) loc stk kds σ' Post) : V l G me R nE bs pc loc (x :: .ref k :: stk) kds σ Post := by
  intro p e s m args below meth c0 H locs cells slots Q ls hC hl hP hS hc hs hret
  obtain ⟨C, T, h1, h2, h3, h4, h5⟩ := hl0
  obtain ⟨C', T', tt, g1, g2, g3, g4, g5, g6, g7⟩ := hf
  cases h1.symm.trans g1
  have hw := w_get (G := G) (σ := σ) hk
  rw [el_obj h3] at hw
  have hK := hC.2.2.2.2.2.2.2.2.1.1.1
  have hts := hC.2.2.2.2.2.1
  have step : ∀ (H1 : Heap) (locs1 : List Loc), va_P (gD G) cls ((world G kds σ).set k (gB G + k, .inr (c, ((List.range n).map (fval G σ k c)).set j (av G x)))) H1 → va_D (gA G) ((world G kds σ).set k (gB G + k, .inr (c, ((List.range n).map (fval G σ k c)).set j (av G x)))) → va_S (gA G) s.heap H1 locs1 → W p l e R s m args below meth c0 H1 locs1 cells slots Q (F0 m (pc + 3) ls (stk.map (av G))) := by
    intro H1 locs1 hP1 _ hS1
    rw [w_set (σ' := σ') hk (by rw [el_obj h3, fv_set _ hv ho]) ho2] at hP1
    exact kk p e s m args below meth c0 H1 locs1 cells slots Q ls hC hl hP1 hS1 hc hs hret
  by_cases hb : fin = false
  · subst hb
    exact va_put (D := gD G) (ci := c) (C := C) (T := T) (N := n) hC.1 hC.2.1 hts h5 tt g2 g3 hC.2.2.2.2.1 hK hP (w_D G kds σ) hS k hw h1 j h2 (hts _ h4) (fun _ h => h) g4 (by rw [g5]; exact g6) hn hfit (by simpa using h2) hd step
  · have hi : me.1.name = "<init>" := hfin.resolve_left hb
    have hb2 : fin = true := by cases fin <;> simp_all
    subst hb2
    exact va_putF (D := gD G) (ci := c) (C := C) (T := T) (N := n) hC.1 hC.2.1 hts h5 tt g2 g3 hC.2.2.2.2.1 hK hP (w_D G kds σ) hS k hw h1 j h2 (hts _ h4) (fun _ h => h) g4 (hC.2.2.2.2.2.2.2.1.trans hi) (g7 rfl) (by rw [g5]; exact g6) hn hfit (by simpa using h2) hd step
theorem V_putI {idx c n j k : Nat} {x : Int32} {fin : Bool} (hd : decode me.2.1 pc = .ok (.putfield idx, 3)) (hl0 : FLK me.1.cls idx c n j) (hf : FPK me.1.cls c n j fin "I" .int) (hfin : fin = false ∨ me.1.name = "<init>") (hk : kds[k]? = some (c, n)) (hr : isR c j = false)
    (kk : V l G me R nE bs (pc + 3) loc stk kds (si σ k j x) Post) : V l G me R nE bs pc loc (.int x :: .ref k :: stk) kds σ Post :=
  V_put hd hl0 hf hfin hk rfl rfl (by simp [fval, hr, av, gi, si]) (fun i hi => by simp [fval, gi, gr, si, hi]) (fun k' kd' h => el_ne k' kd' h) kk
theorem V_putZ {idx c n j k : Nat} {x : Int32} {fin : Bool} (hd : decode me.2.1 pc = .ok (.putfield idx, 3)) (hl0 : FLK me.1.cls idx c n j) (hf : FPK me.1.cls c n j fin "Z" .boolean) (hfin : fin = false ∨ me.1.name = "<init>") (hk : kds[k]? = some (c, n)) (hr : isR c j = false) (hx : x = 0 ∨ x = 1)
    (kk : V l G me R nE bs (pc + 3) loc stk kds (si σ k j x) Post) : V l G me R nE bs pc loc (.int x :: .ref k :: stk) kds σ Post :=
  V_put hd hl0 hf hfin hk (by rcases hx with rfl | rfl <;> rfl) (by rcases hx with rfl | rfl <;> rfl) (by simp [fval, hr, av, gi, si]) (fun i hi => by simp [fval, gi, gr, si, hi]) (fun k' kd' h => el_ne k' kd' h) kk
theorem V_putR {idx c n j k a : Nat} {d : String} {ty : FieldType} {fin : Bool} (hd : decode me.2.1 pc = .ok (.putfield idx, 3)) (hl0 : FLK me.1.cls idx c n j) (hf : FPK me.1.cls c n j fin d ty) (hty : (∃ C, ty = .object C) ∨ ∃ t, ty = .array t) (hfin : fin = false ∨ me.1.name = "<init>") (hk : kds[k]? = some (c, n)) (hr : isR c j = true)
    (kk : V l G me R nE bs (pc + 3) loc stk kds (sr σ k j (some a)) Post) : V l G me R nE bs pc loc (.ref a :: .ref k :: stk) kds σ Post :=
  V_put hd hl0 hf hfin hk (by rcases hty with ⟨C, rfl⟩ | ⟨t, rfl⟩ <;> rfl) (by rcases hty with ⟨C, rfl⟩ | ⟨t, rfl⟩ <;> rfl) (by simp [fval, hr, av, gr, sr, va_rf]) (fun i hi => by simp [fval, gi, gr, sr, hi]) (fun k' kd' h => el_neR k' kd' h) kk
theorem el_i {G : GT} {σ : Hp} {n k : Nat} : elem G σ (20, n) k = .inl (gC G 20, n, .inl (fun j => gi σ k j)) := rfl
theorem el_z {G : GT} {σ : Hp} {n k : Nat} : elem G σ (21, n) k = .inl (gC G 21, n, .inl (fun j => gi σ k j)) := rfl
theorem el_l {G : GT} {σ : Hp} {n k : Nat} : elem G σ (22, n) k = .inl (gC G 22, n, .inr (.inl (fun j => gl σ k j))) := rfl
theorem el_r {G : GT} {σ : Hp} {t n k : Nat} (h : 23 ≤ t) : elem G σ (t, n) k = .inl (gC G t, n, .inr (.inr (.inr (.inr (fun j => (gr σ k j).map (gB G + ·)))))) := by
  unfold elem
  rw [if_neg (by show ¬ t < 20; omega), if_neg (by show ¬ t = 22; omega), if_pos (by show 23 ≤ t; exact h)]
theorem V_iald {k n : Nat} {i : Int32} (hd : decode me.2.1 pc = .ok (.iaload, 1)) (hk : kds[k]? = some (20, n)) (hi : vp_in i n) (kk : V l G me R nE bs (pc + 1) loc (.int (gi σ k i.toNatClampNeg) :: stk) kds σ Post) : V l G me R nE bs pc loc (.int i :: .ref k :: stk) kds σ Post := fun p e s m args below meth c H locs cells slots Q ls hC hl hP hS hc hs hret =>
  va_iald (D := gD G) hC.1 hC.2.1 hC.2.2.2.2.2.2.2.2.1.1.1 hP k 0 (w_get hk) rfl hi hd (kk p e s m args below meth c H locs cells slots Q ls hC hl hP hS hc hs hret)
theorem V_zald {k n : Nat} {i : Int32} (hd : decode me.2.1 pc = .ok (.baload, 1)) (hk : kds[k]? = some (21, n)) (hi : vp_in i n) (kk : V l G me R nE bs (pc + 1) loc (.int (gi σ k i.toNatClampNeg) :: stk) kds σ Post) : V l G me R nE bs pc loc (.int i :: .ref k :: stk) kds σ Post := fun p e s m args below meth c H locs cells slots Q ls hC hl hP hS hc hs hret =>
  va_zald (D := gD G) hC.1 hC.2.1 hC.2.2.2.2.2.2.2.2.1.1.1 hP k 1 (w_get hk) rfl hi hd (kk p e s m args below meth c H locs cells slots Q ls hC hl hP hS hc hs hret)
theorem V_lald {k n : Nat} {i : Int32} (hd : decode me.2.1 pc = .ok (.laload, 1)) (hk : kds[k]? = some (22, n)) (hi : vp_in i n) (kk : V l G me R nE bs (pc + 1) loc (.long (gl σ k i.toNatClampNeg) :: stk) kds σ Post) : V l G me R nE bs pc loc (.int i :: .ref k :: stk) kds σ Post := fun p e s m args below meth c H locs cells slots Q ls hC hl hP hS hc hs hret =>
  va_lald (D := gD G) hC.1 hC.2.1 hC.2.2.2.2.2.2.2.2.1.1.1 hP k 2 (w_get hk) rfl hi hd (kk p e s m args below meth c H locs cells slots Q ls hC hl hP hS hc hs hret)
theorem V_aald {k n a : Nat} {i : Int32} (hd : decode me.2.1 pc = .ok (.aaload, 1)) (hk : kds[k]? = some (23, n)) (hi : vp_in i n) (hv : gr σ k i.toNatClampNeg = some a) (kk : V l G me R nE bs (pc + 1) loc (.ref a :: stk) kds σ Post) : V l G me R nE bs pc loc (.int i :: .ref k :: stk) kds σ Post := fun p e s m args below meth c H locs cells slots Q ls hC hl hP hS hc hs hret =>
  va_aldq (D := gD G) hC.1 hC.2.1 hC.2.2.2.2.2.2.2.2.1.1.1 hP k 3 (w_get hk) rfl hi hd (by rw [hv]; exact kk p e s m args below meth c H locs cells slots Q ls hC hl hP hS hc hs hret)
theorem V_aaldA {k n a t : Nat} {i : Int32} (hd : decode me.2.1 pc = .ok (.aaload, 1)) (hk : kds[k]? = some (t, n)) (ht : t = 24 ∨ t = 25) (hi : vp_in i n) (hv : gr σ k i.toNatClampNeg = some a) (kk : V l G me R nE bs (pc + 1) loc (.ref a :: stk) kds σ Post) : V l G me R nE bs pc loc (.int i :: .ref k :: stk) kds σ Post := by
  intro p e s m args below meth c H locs cells slots Q ls hC hl hP hS hc hs hret
  have hlt : i.toNatClampNeg < n := Nat.not_le.mp fun q => hi (Or.inr q)
  have hw := w_get (G := G) (σ := σ) hk
  rw [el_r (by omega)] at hw
  have hcell : H[gB G + k]? = some (vp_cell (gC G t) (n, .inr (.inr (.inr (.inr (fun j => (gr σ k j).map (gB G + ·))))))) := hP k _ hw
  have hK := hC.2.2.2.2.2.2.2.2.1.1.1.2
  have hof : ∃ ty : FieldType, s.isArrayOf (vp_cell (gC G t) (n, .inr (.inr (.inr (.inr (fun j => (gr σ k j).map (gB G + ·))))))) (.array ty) := by
    rcases ht with rfl | rfl
    · exact ⟨_, (hK 4 _ rfl).1 n (fun j => va_rf ((gr σ k j).map (gB G + ·)))⟩
    · exact ⟨_, (hK 5 _ rfl).1 n (fun j => va_rf ((gr σ k j).map (gB G + ·)))⟩
  obtain ⟨ty, hof⟩ := hof
  exact W.aald (v := .ref (gB G + a)) (ty := .array ty) hC.1 hC.2.1 hcell hof rfl (fun q => by cases q) (by show ¬ (i < 0 ∨ (arrV _ _ _).slots.size ≤ _); rw [arrV_size]; exact hi) (by show (arrV _ _ _).slots[_]? = _; rw [arrV_read _ _ hlt]; show some (va_rf ((gr σ k i.toNatClampNeg).map (gB G + ·))) = _; rw [hv]; rfl) rfl rfl hd (kk p e s m args below meth c H locs cells slots Q ls hC hl hP hS hc hs hret)
theorem V_alen {k n t t0 : Nat} {ty : FieldType} {v : Int32} (hd : decode me.2.1 pc = .ok (.arraylength, 1)) (hk : kds[k]? = some (t, n)) (ht : 20 ≤ t) (ht0 : (tysG G)[t0]? = some (gC G t, ty)) (hv : Int32.ofNat n = v) (kk : V l G me R nE bs (pc + 1) loc (.int v :: stk) kds σ Post) : V l G me R nE bs pc loc (.ref k :: stk) kds σ Post := by
  intro p e s m args below meth c H locs cells slots Q ls hC hl hP hS hc hs hret
  have hw := w_get (G := G) (σ := σ) hk
  have he : ∃ x : vp_A, elem G σ (t, n) k = .inl (gC G t, x) ∧ x.1 = n := by
    unfold elem
    rw [if_neg (by show ¬ t < 20; omega)]
    split
    · exact ⟨_, rfl, rfl⟩
    · split
      · exact ⟨_, rfl, rfl⟩
      · exact ⟨_, rfl, rfl⟩
  obtain ⟨x, he, hx⟩ := he
  rw [he] at hw
  exact va_alen (D := gD G) hC.1 hC.2.1 hC.2.2.2.2.2.2.2.2.1.1.1 hP k t0 hw ht0 (by rw [hx]; exact hv) hd (kk p e s m args below meth c H locs cells slots Q ls hC hl hP hS hc hs hret)
theorem up_i {σ : Hp} {k i : Nat} {x : Int32} : (fun j => gi (si σ k i x) k j) = upd (fun j => gi σ k j) i x := by
  funext j
  simp [gi, si, upd]
theorem up_l {σ : Hp} {k i : Nat} {x : Int64} : (fun j => gl (sl σ k i x) k j) = vp_updL (fun j => gl σ k j) i x := by
  funext j
  simp [gl, sl, vp_updL]
theorem up_r {G : GT} {σ : Hp} {k i : Nat} {x : Option Nat} : (fun j => (gr (sr σ k i x) k j).map (gB G + ·)) = va_up (fun j => (gr σ k j).map (gB G + ·)) i (x.map (gB G + ·)) := by
  funext j
  by_cases h : j = i
  · simp [gr, sr, va_up, h]
  · simp [gr, sr, va_up, h]
theorem V_iast {k n : Nat} {i x : Int32} (hd : decode me.2.1 pc = .ok (.iastore, 1)) (hk : kds[k]? = some (20, n)) (hi : vp_in i n) (kk : V l G me R nE bs (pc + 1) loc stk kds (si σ k i.toNatClampNeg x) Post) : V l G me R nE bs pc loc (.int x :: .int i :: .ref k :: stk) kds σ Post := by
  intro p e s m args below meth c H locs cells slots Q ls hC hl hP hS hc hs hret
  refine va_iast (D := gD G) hC.1 hC.2.1 hC.2.2.2.2.2.2.2.2.1.1.1 hP (w_D G kds σ) hS k 0 (w_get hk) rfl hi hd (fun H1 locs1 hP1 _ hS1 => ?_)
  rw [w_set (σ' := si σ k i.toNatClampNeg x) hk (by rw [el_i, up_i]) (fun k' kd' h => el_ne k' kd' h)] at hP1
  exact kk p e s m args below meth c H1 locs1 cells slots Q ls hC hl hP1 hS1 hc hs hret
theorem V_zast {k n : Nat} {i x : Int32} (hd : decode me.2.1 pc = .ok (.bastore, 1)) (hk : kds[k]? = some (21, n)) (hi : vp_in i n) (hx : x = 0 ∨ x = 1) (kk : V l G me R nE bs (pc + 1) loc stk kds (si σ k i.toNatClampNeg x) Post) : V l G me R nE bs pc loc (.int x :: .int i :: .ref k :: stk) kds σ Post := by
  intro p e s m args below meth c H locs cells slots Q ls hC hl hP hS hc hs hret
  have hx2 : vp_nar .boolean x = x := by rcases hx with rfl | rfl <;> rfl
  refine va_zast (D := gD G) hC.1 hC.2.1 hC.2.2.2.2.2.2.2.2.1.1.1 hP (w_D G kds σ) hS k 1 (w_get hk) rfl hi hd (fun H1 locs1 hP1 _ hS1 => ?_)
  rw [hx2, w_set (σ' := si σ k i.toNatClampNeg x) hk (by rw [el_z, up_i]) (fun k' kd' h => el_ne k' kd' h)] at hP1
  exact kk p e s m args below meth c H1 locs1 cells slots Q ls hC hl hP1 hS1 hc hs hret
theorem V_last {k n : Nat} {i : Int32} {x : Int64} (hd : decode me.2.1 pc = .ok (.lastore, 1)) (hk : kds[k]? = some (22, n)) (hi : vp_in i n) (kk : V l G me R nE bs (pc + 1) loc stk kds (sl σ k i.toNatClampNeg x) Post) : V l G me R nE bs pc loc (.long x :: .int i :: .ref k :: stk) kds σ Post := by
  intro p e s m args below meth c H locs cells slots Q ls hC hl hP hS hc hs hret
  refine va_last (D := gD G) hC.1 hC.2.1 hC.2.2.2.2.2.2.2.2.1.1.1 hP (w_D G kds σ) hS k 2 (w_get hk) rfl hi hd (fun H1 locs1 hP1 _ hS1 => ?_)
  rw [w_set (σ' := sl σ k i.toNatClampNeg x) hk (by rw [el_l, up_l]) (fun k' kd' h => el_neL k' kd' h)] at hP1
  exact kk p e s m args below meth c H1 locs1 cells slots Q ls hC hl hP1 hS1 hc hs hret
theorem V_aast {k n a n2 : Nat} {i : Int32} (hd : decode me.2.1 pc = .ok (.aastore, 1)) (hk : kds[k]? = some (23, n)) (ha : kds[a]? = some (1, n2)) (hi : vp_in i n) (kk : V l G me R nE bs (pc + 1) loc stk kds (sr σ k i.toNatClampNeg (some a)) Post) : V l G me R nE bs pc loc (.ref a :: .int i :: .ref k :: stk) kds σ Post := by
  intro p e s m args below meth c H locs cells slots Q ls hC hl hP hS hc hs hret
  have hw := w_get (G := G) (σ := σ) ha
  rw [el_obj (by omega)] at hw
  refine va_astq (D := gD G) (r := ("GuessFair$Envelope", FE, 7)) hC.1 hC.2.1 hC.2.2.2.2.2.2.2.2.1.1.1 hP (w_D G kds σ) hS k 3 a 1 (w_get hk) rfl hw rfl hi hd (fun H1 locs1 hP1 _ hS1 => ?_)
  rw [w_set (σ' := sr σ k i.toNatClampNeg (some a)) hk (by rw [el_r (by omega), up_r]; rfl) (fun k' kd' h => el_neR k' kd' h)] at hP1
  exact kk p e s m args below meth c H1 locs1 cells slots Q ls hC hl hP1 hS1 hc hs hret
/-- the script -/
theorem V_sald {i : Int32} (hd : decode me.2.1 pc = .ok (.iaload, 1)) (hi : vp_in i (gL G)) (kk : V l G me R nE bs (pc + 1) loc (.int (gX G i.toNatClampNeg) :: stk) kds σ Post) : V l G me R nE bs pc loc (.int i :: .float 0 :: stk) kds σ Post := fun p e s m args below meth c H locs cells slots Q ls hC hl hP hS hc hs hret =>
  va_sld hC.1 hC.2.1 hC.2.2.2.2.2.2.2.2.1.2.1.1 (Nat.lt_of_lt_of_le hC.2.2.2.2.2.2.2.2.1.2.1.2 hC.2.2.2.2.2.2.2.2.2.1) (Nat.not_le.mpr hC.2.2.2.2.2.2.2.2.1.2.1.2) hS hi hd (kk p e s m args below meth c H locs cells slots Q ls hC hl hP hS hc hs hret)
theorem V_slen (hd : decode me.2.1 pc = .ok (.arraylength, 1)) (kk : V l G me R nE bs (pc + 1) loc (.int (Int32.ofNat (gL G)) :: stk) kds σ Post) : V l G me R nE bs pc loc (.float 0 :: stk) kds σ Post := fun p e s m args below meth c H locs cells slots Q ls hC hl hP hS hc hs hret =>
  va_slen hC.1 hC.2.1 hC.2.2.2.2.2.2.2.2.1.2.1.1 (Nat.lt_of_lt_of_le hC.2.2.2.2.2.2.2.2.1.2.1.2 hC.2.2.2.2.2.2.2.2.2.1) (Nat.not_le.mpr hC.2.2.2.2.2.2.2.2.1.2.1.2) hS hd (kk p e s m args below meth c H locs cells slots Q ls hC hl hP hS hc hs hret)
/-- the static tables: 1 ABOVE, 2 BODIES -/
theorem V_gsA {own : String} {idx : Nat} (ho : me.1.cls = own) (hd : decode me.2.1 pc = .ok (.getstatic idx, 3)) (hw : Cond.fieldLink own idx "GuessFair" "ABOVE" "[I" ∈ lw_g) (kk : V l G me R nE bs (pc + 3) loc (.float 1 :: stk) kds σ Post) : V l G me R nE bs pc loc stk kds σ Post := fun p e s m args below meth c H locs cells slots Q ls hC hl hP hS hc hs hret =>
  va_gets hC.1 hC.2.1 hC.2.2.2.2.2.2.2.2.1.2.2.1.1 hS (ho ▸ hC.2.2.2.2.1) (hC.2.2.2.2.2.1 _ hw) (fun _ h => h) hd (kk p e s m args below meth c H locs cells slots Q ls hC hl hP hS hc hs hret)
theorem V_gsAN (ho : me.1.cls = "GuessFair$Acts") (hd : decode me.2.1 pc = .ok (.getstatic 49, 3)) (kk : V l G me R nE bs (pc + 3) loc (.float 1 :: stk) kds σ Post) : V l G me R nE bs pc loc stk kds σ Post := fun p e s m args below meth c H locs cells slots Q ls hC hl hP hS hc hs hret =>
  va_getsN hC.1 hC.2.1 hC.2.2.2.2.2.2.2.2.1.2.2.1.1 hS (ho ▸ hC.2.2.2.2.1) (va_Nw.use rfl (hC.2.2.2.2.2.2.2.2.1.1.2.2.1 _ List.mem_cons_self)) (fun _ h => h) hd (kk p e s m args below meth c H locs cells slots Q ls hC hl hP hS hc hs hret)
theorem V_gsB {idx : Nat} (ho : me.1.cls = "GuessFair$Acts") (hd : decode me.2.1 pc = .ok (.getstatic idx, 3)) (hw : Cond.fieldLink "GuessFair$Acts" idx "GuessFair$Acts" "BODIES" "[I" ∈ lw_g) (kk : V l G me R nE bs (pc + 3) loc (.float 2 :: stk) kds σ Post) : V l G me R nE bs pc loc stk kds σ Post := fun p e s m args below meth c H locs cells slots Q ls hC hl hP hS hc hs hret =>
  va_gets hC.1 hC.2.1 hC.2.2.2.2.2.2.2.2.1.2.2.2.1.1 hS (ho ▸ hC.2.2.2.2.1) (hC.2.2.2.2.2.1 _ hw) (fun _ h => h) hd (kk p e s m args below meth c H locs cells slots Q ls hC hl hP hS hc hs hret)
theorem V_tA {i : Int32} (hd : decode me.2.1 pc = .ok (.iaload, 1)) (hi : vp_in i 7) (kk : V l G me R nE bs (pc + 1) loc (.int (abvT.getD i.toNatClampNeg 0) :: stk) kds σ Post) : V l G me R nE bs pc loc (.int i :: .float 1 :: stk) kds σ Post := fun p e s m args below meth c H locs cells slots Q ls hC hl hP hS hc hs hret =>
  va_ti hC.1 hC.2.1 hC.2.2.2.2.2.2.2.2.1.2.2.1.2 hS hi rfl hd (kk p e s m args below meth c H locs cells slots Q ls hC hl hP hS hc hs hret)
theorem V_tAl (hd : decode me.2.1 pc = .ok (.arraylength, 1)) (kk : V l G me R nE bs (pc + 1) loc (.int 7 :: stk) kds σ Post) : V l G me R nE bs pc loc (.float 1 :: stk) kds σ Post := fun p e s m args below meth c H locs cells slots Q ls hC hl hP hS hc hs hret =>
  va_tlen hC.1 hC.2.1 hC.2.2.2.2.2.2.2.2.1.2.2.1.2 hS rfl hd (kk p e s m args below meth c H locs cells slots Q ls hC hl hP hS hc hs hret)
theorem V_tB {i : Int32} (hd : decode me.2.1 pc = .ok (.iaload, 1)) (hi : vp_in i 21) (kk : V l G me R nE bs (pc + 1) loc (.int (bdsT.getD i.toNatClampNeg 0) :: stk) kds σ Post) : V l G me R nE bs pc loc (.int i :: .float 2 :: stk) kds σ Post := fun p e s m args below meth c H locs cells slots Q ls hC hl hP hS hc hs hret =>
  va_ti hC.1 hC.2.1 hC.2.2.2.2.2.2.2.2.1.2.2.2.1.2 hS hi rfl hd (kk p e s m args below meth c H locs cells slots Q ls hC hl hP hS hc hs hret)
theorem V_tBl (hd : decode me.2.1 pc = .ok (.arraylength, 1)) (kk : V l G me R nE bs (pc + 1) loc (.int 21 :: stk) kds σ Post) : V l G me R nE bs pc loc (.float 2 :: stk) kds σ Post := fun p e s m args below meth c H locs cells slots Q ls hC hl hP hS hc hs hret =>
  va_tlen hC.1 hC.2.1 hC.2.2.2.2.2.2.2.2.1.2.2.2.1.2 hS rfl hd (kk p e s m args below meth c H locs cells slots Q ls hC hl hP hS hc hs hret)
end VH
