/-! ===== BEGIN new T[n][m]: the outer array a place, the inner ones among the pooled ===== -/
/-- f, but v at every address of l -/
def vr_up {α : Type} (f : Nat → α) (l : List Nat) (v : α) : Nat → α := fun a => if a ∈ l then v else f a
theorem vr_up_in {α : Type} {f : Nat → α} {l : List Nat} {v : α} {a : Nat} (h : a ∈ l) : vr_up f l v a = v := if_pos h
theorem vr_up_ne {α : Type} {f : Nat → α} {l : List Nat} {v : α} {a : Nat} (h : a ∉ l) : vr_up f l v a = f a := if_neg h
theorem vr_rows {L l : List Nat} {f : Nat → va_E} {e : va_E} (h : ∀ a, a ∈ l → a ∉ L) : va_pl L f ++ l.map (fun a => (a, e)) = va_pl (L ++ l) (vr_up f l e) := by
  unfold va_pl
  rw [List.map_append]
  congr 1
  · apply List.map_congr_left
    intro a ha
    rw [vr_up_ne (fun q => h a q ha)]
  · apply List.map_congr_left
    intro a ha
    rw [vr_up_in ha]
theorem vr_lay {X rows : va_W} {x : Nat × va_E} {pl : va_W} {D : va_G} {cl : List vw_C} {H : Heap} (hP : va_P D cl (((X ++ pl) ++ [x]) ++ rows) H) : va_P D cl ((X ++ [x]) ++ (pl ++ rows)) H := by
  rw [List.append_assoc (X ++ pl)] at hP
  have h := va_P.swap hP
  rw [← List.append_assoc X] at h
  have h2 := va_P.swap h
  rw [List.append_assoc (X ++ [x])] at h2
  exact h2
theorem vr_layD {X rows : va_W} {x : Nat × va_E} {pl : va_W} {A : Nat → Prop} (hD : va_D A (((X ++ pl) ++ [x]) ++ rows)) : va_D A ((X ++ [x]) ++ (pl ++ rows)) := by
  rw [List.append_assoc (X ++ pl)] at hD
  have h := va_D.swap hD
  rw [← List.append_assoc X] at h
  have h2 := va_D.swap h
  rw [List.append_assoc (X ++ [x])] at h2
  exact h2
theorem vr_outer (c : ClassId) (N h0 : Nat) : ∀ i : Nat, Jvm.Free.Multi.outerC c N h0 i = arrV c N (fun j => va_rf (if j < i then some (h0 + 1 + j) else none))
  | 0 => by
    show ({ cls := c, slots := Array.replicate N .null, vm := .none } : Cell) = _
    rw [arrV_new]
    refine congrArg (arrV c N) (funext fun j => ?_)
    simp [va_rf]
  | i + 1 => by
    show (Jvm.Free.Multi.outerC c N h0 i).setSlot i (.ref (h0 + 1 + i)) = _
    rw [vr_outer c N h0 i, arrV_store]
    refine congrArg (arrV c N) (funext fun j => ?_)
    by_cases e : j = i
    · subst e
      simp [updV, va_rf]
    · by_cases h : j < i
      · simp [updV, e, h, Nat.lt_succ_of_lt h]
      · simp [updV, e, h, show ¬ j < i + 1 by omega]
section VGM
variable {p : Program} {l : Launch} {e : Env} {R : Room} {s : State} {m : MethodId} {args : Array Value} {below : List Frame} {meth : Method} {c : Code} {H : Heap} {locs : List Loc} {cells slots : Nat} {Q : State → Prop}
variable {cc : ByteArray} {pc : Nat} {ls : Array Slot} {rest : List Value} {D : va_G} {cl : List vw_C} {A : Nat → Prop} {a : Nat} {tys : List (ClassId × FieldType)} {ws : va_W} {H0 : Heap}
theorem va_mna {X : va_W} {L : List Nat} {f : Nat → va_E} {cc : ByteArray} (hexec : p.tables.exec = Jvm.exec) (hb : c.code = cc) {own : String} {index : Nat} {ty : FieldType} {cy : ClassId} (hown : s.vm.findClass own = some m.cls) (hclink : (Cond.classLink own index ("[" ++ (FieldType.array ty).toString)).before args s = true) (hover : va_AOA ty s) (harr : (Cond.arrayClass ty).before args s = true) (hcy : s.vm.findClass (FieldType.array ty).toString = some cy)
    (hK : va_K D cl tys s) (hP : va_P D cl (X ++ va_pl L f) H) (hD : va_D A (X ++ va_pl L f)) (hS : va_S A H0 H locs) (hA : ∀ q, H0.size ≤ q → A q) {n k : Int32} {N' K' : Nat} {z : vp_A} (hn : ¬ n < 0) (hk : ¬ k < 0) (hN : n.toNatClampNeg = N') (hM : k.toNatClampNeg = K')
    (hb1 : N' * 4 ≤ 536870912) (hb2 : K' * componentBytes ty ≤ 536870912) (hb3 : K' ≤ 536870912) (hdf : fits ty (defaultValue ty) = true) (hdd : (defaultValue ty).isDefault = true) (hcells : cells + (1 + N') ≤ R.cells) (hslots : slots + (N' + N' * K') ≤ R.slots) (hz : ∀ c : ClassId, Jvm.Free.Multi.innerC c K' (defaultValue ty) = vp_cell c z) (hdg : decode cc pc = .ok (.multianewarray index 2, 4))
    (kk : ∀ (q : Nat) (r : Nat → Nat) (cA : ClassId) (H1 : Heap), q = H.size → r = (fun i => H.size + 1 + i) → (∀ i j : Nat, i < N' → j < N' → r i = r j → i = j) → (∀ i : Nat, i < N' → r i ∉ L) → va_K D cl (tys ++ [(cA, .array ty)]) s →
      va_P D cl ((X ++ [(q, .inl (cA, N', .inr (.inr (.inr (.inr (fun i => if i < N' then some (r i) else none))))))]) ++ va_pl (L ++ (List.range N').map r) (vr_up f ((List.range N').map r) (.inl (cy, z)))) H1 → va_D A ((X ++ [(q, .inl (cA, N', .inr (.inr (.inr (.inr (fun i => if i < N' then some (r i) else none))))))]) ++ va_pl (L ++ (List.range N').map r) (vr_up f ((List.range N').map r) (.inl (cy, z)))) → va_S A H0 H1 locs →
      W p l e R s m args below meth c H1 locs (cells + 1 + N') (slots + N' + N' * K') Q (F0 m (pc + 4) ls (.ref q :: rest))) : W p l e R s m args below meth c H locs cells slots Q (F0 m pc ls (.int k :: .int n :: rest)) := by
  subst hN
  subst hM
  intro T hT Xs
  obtain ⟨vm₁, cA, comp, -, fA, fC, hO, -, X', step⟩ := Xs.multianewarray2F hexec hown hclink (va_AOA.use hover) harr (g := F0 m pc ls (.int k :: .int n :: rest)) rfl (by rw [hb]; exact hdg) rfl hn hk hb1 hb2 hb3 hdf hdd hcells hslots
  have ec : some cy = some comp := hcy.symm.trans fC
  cases ec
  generalize hF : Jvm.Free.Multi.fill (T.setVm vm₁) cA cy n.toNatClampNeg k.toNatClampNeg (defaultValue ty) n.toNatClampNeg = F at X' step
  have hTh : (T.setVm vm₁).heap = H := hT
  obtain ⟨f1, f2, -, -⟩ := Jvm.Free.Multi.fill_facts (T.setVm vm₁) cA cy n.toNatClampNeg k.toNatClampNeg (defaultValue ty) n.toNatClampNeg
  rw [hF, hTh] at f1 f2
  have hold : ∀ x : Nat, x < H.size → F.heap[x]? = H[x]? := fun x hx => by
    have := Jvm.Free.Multi.fill_old (T.setVm vm₁) cA cy n.toNatClampNeg k.toNatClampNeg (defaultValue ty) (a := x) (by rw [hTh]; exact hx) n.toNatClampNeg
    rw [hF, hTh] at this
    exact this
  have hrow : ∀ j : Nat, j < n.toNatClampNeg → F.heap[H.size + 1 + j]? = some (vp_cell cy z) := fun j hj => by
    have := Jvm.Free.Multi.fill_inner (T.setVm vm₁) cA cy n.toNatClampNeg k.toNatClampNeg (defaultValue ty) n.toNatClampNeg j hj
    rw [hF, hTh, hz] at this
    exact this
  have hout : Jvm.Free.Multi.outerC cA n.toNatClampNeg H.size n.toNatClampNeg = vp_cell cA (n.toNatClampNeg, .inr (.inr (.inr (.inr (fun i => if i < n.toNatClampNeg then some (H.size + 1 + i) else none))))) := by
    rw [vp_cell_q]
    exact vr_outer cA n.toNatClampNeg H.size n.toNatClampNeg
  rw [hout] at f2
  have hlt : ∀ a, a ∈ L → a < H.size := fun a ha => by
    obtain ⟨k9, hk9⟩ := va_pl_get (X := X) (f := f) ha
    exact (hP k9 _ hk9).lt
  have hnl : ∀ i : Nat, i < n.toNatClampNeg → H.size + 1 + i ∉ L := fun i _ h => by
    have := hlt _ h
    omega
  have hnm : ∀ a, a ∈ (List.range n.toNatClampNeg).map (fun i => H.size + 1 + i) → a ∉ L := fun a ha h => by
    obtain ⟨i, -, rfl⟩ := List.mem_map.mp ha
    have := hlt _ h
    omega
  have hP0 : va_P D cl (X ++ va_pl L f) F.heap := hP.kept (fun k9 x hx => hold x.1 ((hP k9 x hx).lt))
  have hP1 : va_P D cl ((X ++ va_pl L f) ++ [(H.size, .inl (cA, n.toNatClampNeg, .inr (.inr (.inr (.inr (fun i => if i < n.toNatClampNeg then some (H.size + 1 + i) else none))))))]) F.heap := hP0.app (fun k9 x hx => by
    have h0 : k9 < 1 := (List.getElem?_eq_some_iff.mp hx).1
    rw [show k9 = 0 by omega] at hx
    cases hx
    exact f2)
  have hP2 : va_P D cl (((X ++ va_pl L f) ++ [(H.size, .inl (cA, n.toNatClampNeg, .inr (.inr (.inr (.inr (fun i => if i < n.toNatClampNeg then some (H.size + 1 + i) else none))))))]) ++ ((List.range n.toNatClampNeg).map (fun i => H.size + 1 + i)).map (fun a => (a, .inl (cy, z)))) F.heap := hP1.app (fun k9 x hx => by
    obtain ⟨a, ha, rfl⟩ := List.mem_map.mp (List.mem_of_getElem? hx)
    obtain ⟨i, hi, rfl⟩ := List.mem_map.mp ha
    exact hrow i (List.mem_range.mp hi))
  have hD2 : va_D A (((X ++ va_pl L f) ++ [(H.size, .inl (cA, n.toNatClampNeg, .inr (.inr (.inr (.inr (fun i => if i < n.toNatClampNeg then some (H.size + 1 + i) else none))))))]) ++ ((List.range n.toNatClampNeg).map (fun i => H.size + 1 + i)).map (fun a => (a, .inl (cy, z)))) := by
    have hD1 := hD.push (e := .inl (cA, n.toNatClampNeg, .inr (.inr (.inr (.inr (fun i => if i < n.toNatClampNeg then some (H.size + 1 + i) else none)))))) hP rfl (hA _ hS.1)
    generalize hW1 : (X ++ va_pl L f) ++ [(H.size, .inl (cA, n.toNatClampNeg, .inr (.inr (.inr (.inr (fun i => if i < n.toNatClampNeg then some (H.size + 1 + i) else none))))))] = W1 at hD1 hP1 ⊢
    have hle : ∀ (k9 : Nat) (x : Nat × va_E), W1[k9]? = some x → x.1 ≤ H.size := fun k9 x hx => by
      rw [← hW1] at hx
      by_cases hl : k9 < (X ++ va_pl L f).length
      · rw [List.getElem?_append_left hl] at hx
        exact Nat.le_of_lt ((hP k9 x hx).lt)
      · rw [List.getElem?_append_right (by omega)] at hx
        have h0 : k9 - (X ++ va_pl L f).length < 1 := (List.getElem?_eq_some_iff.mp hx).1
        rw [show k9 - (X ++ va_pl L f).length = 0 by omega] at hx
        cases hx
        exact Nat.le_refl _
    have hr : ∀ (k9 : Nat) (x : Nat × va_E), (((List.range n.toNatClampNeg).map (fun i => H.size + 1 + i)).map (fun a => ((a, .inl (cy, z)) : Nat × va_E)))[k9]? = some x → x.1 = H.size + 1 + k9 := fun k9 x hx => by
      rw [List.getElem?_map, List.getElem?_map] at hx
      by_cases h9 : k9 < n.toNatClampNeg
      · rw [List.getElem?_range h9] at hx
        cases hx
        rfl
      · have hn0 : (List.range n.toNatClampNeg)[k9]? = none := List.getElem?_eq_none (by rw [List.length_range]; omega)
        rw [hn0] at hx
        cases hx
    refine ⟨fun i j x y hi hj hxy => ?_, fun k9 x hx => ?_⟩
    · by_cases h1 : i < W1.length <;> by_cases h2 : j < W1.length
      · rw [List.getElem?_append_left h1] at hi
        rw [List.getElem?_append_left h2] at hj
        exact hD1.1 i j x y hi hj hxy
      · rw [List.getElem?_append_left h1] at hi
        rw [List.getElem?_append_right (by omega)] at hj
        have := hle _ _ hi
        have := hr _ _ hj
        omega
      · rw [List.getElem?_append_right (by omega)] at hi
        rw [List.getElem?_append_left h2] at hj
        have := hle _ _ hj
        have := hr _ _ hi
        omega
      · rw [List.getElem?_append_right (by omega)] at hi hj
        have := hr _ _ hi
        have := hr _ _ hj
        omega
    · by_cases h1 : k9 < W1.length
      · rw [List.getElem?_append_left h1] at hx
        exact hD1.2 k9 x hx
      · rw [List.getElem?_append_right (by omega)] at hx
        have := hr _ _ hx
        exact hA _ (by have := hS.1; omega)
  have hAr : ArrOfT s cA (.array ty) := fun N9 z9 => by
    obtain ⟨-, k9, hk9, cm9, hkk9⟩ := (hO 0 0 0).1
    exact ⟨(fun q hq => by cases hq), k9, hk9, cm9, hkk9⟩
  have hK2 : va_K D cl (tys ++ [(cA, .array ty)]) s := ⟨hK.1, fun k9 x hx => by
    by_cases hl : k9 < tys.length
    · rw [List.getElem?_append_left hl] at hx
      exact hK.2 k9 x hx
    · rw [List.getElem?_append_right (by omega)] at hx
      have h0 : k9 - tys.length < 1 := (List.getElem?_eq_some_iff.mp hx).1
      rw [show k9 - tys.length = 0 by omega] at hx
      cases hx
      exact ⟨hAr, fA⟩⟩
  obtain ⟨t, a1, b1⟩ := kk H.size (fun i => H.size + 1 + i) cA F.heap rfl rfl (fun i j _ _ h => by have h9 : H.size + 1 + i = H.size + 1 + j := h; omega) hnl hK2 (by rw [← vr_rows hnm]; exact vr_lay hP2) (by rw [← vr_rows hnm]; exact vr_layD hD2) ⟨by rw [f1]; have := hS.1; omega, fun x h1 h2 => (hold x (Nat.lt_of_lt_of_le h1 hS.1)).trans (hS.2.1 x h1 h2), hS.2.2⟩ F rfl X'
  refine ⟨t, step t ?_, b1⟩
  have e : T.heap.size = H.size := by rw [hT]
  rw [e]
  exact a1
end VGM

/-! new cells -/
def Zr (σ : Hp) (n : Nat) : Prop := ∀ k : Nat, n ≤ k → ∀ j : Nat, gi σ k j = 0 ∧ gl σ k j = 0 ∧ gr σ k j = none
def hp0 : Hp := (fun _ _ => 0, fun _ _ => 0, fun _ _ => none)
theorem Zr0 (n : Nat) : Zr hp0 n := fun _ _ _ => ⟨rfl, rfl, rfl⟩
theorem Zr.mono {σ : Hp} {n n' : Nat} (h : Zr σ n) (hn : n ≤ n') : Zr σ n' := fun k hk j => h k (by omega) j
theorem Zr.i {σ : Hp} {n k j : Nat} {x : Int32} (h : Zr σ n) (hk : k < n) : Zr (si σ k j x) n := fun k' hk' j' => ⟨by have := (h k' hk' j').1; simp only [gi, si] at this ⊢; rw [if_neg (by omega)]; exact this, (h k' hk' j').2⟩
theorem Zr.r {σ : Hp} {n k j : Nat} {x : Option Nat} (h : Zr σ n) (hk : k < n) : Zr (sr σ k j x) n := fun k' hk' j' => ⟨(h k' hk' j').1, (h k' hk' j').2.1, by have := (h k' hk' j').2.2; simp only [gr, sr] at this ⊢; rw [if_neg (by omega)]; exact this⟩
theorem fresh_at {G : GT} {kds : List Kd} {σ : Hp} {q : Nat} {e : va_E} {A : Nat → Prop} {H1 : Heap} {D : va_G} {cl : List vw_C} (hA : A = gA G) (hD : va_D A (world G kds σ ++ [(q, e)])) (hP : va_P D cl (world G kds σ ++ [(q, e)]) H1) (hz : H1.size ≤ gB G + kds.length + 1) : q = gB G + kds.length := by
  subst hA
  have hl : (world G kds σ ++ [(q, e)])[kds.length]? = some (q, e) := by
    rw [List.getElem?_append_right (by rw [w_len]; exact Nat.le_refl _), w_len, Nat.sub_self]
    rfl
  have h1 : gB G ≤ q := hD.2 _ _ hl
  have h2 : q < H1.size := (hP _ _ hl).lt
  by_cases h3 : q - gB G < kds.length
  · have h4 : (world G kds σ ++ [(q, e)])[q - gB G]? = some (gB G + (q - gB G), elem G σ kds[q - gB G] (q - gB G)) := by
      rw [List.getElem?_append_left (by rw [w_len]; exact h3)]
      exact w_get (List.getElem?_eq_getElem h3)
    have := hD.1 _ _ _ _ hl h4 (by show q = gB G + (q - gB G); omega)
    omega
  · omega
section VN
variable {l : Launch} {G : GT} {me : MT} {R : Room} {nE bs pc : Nat} {loc : List (Nat × Value)} {stk : List Value} {kds : List Kd} {σ : Hp} {Post : Option Value → List Kd → Hp → Prop}
theorem zr_obj {c n k : Nat} (hz : Zr σ k) (c20 : c < 20) : elem G σ (c, n) k = .inr (c, (List.range n).map (fun j => if isR c j = true then .null else .int 0)) := by
  rw [el_obj c20]
  congr 2
  apply List.map_congr_left
  intro j _
  have h := hz k (Nat.le_refl _) j
  simp only [fval, h.1, h.2.2]
  rfl
theorem V_new {own C : String} {T : u_T} {idx c n bs' : Nat} (tt : Nat → FieldType) (ho : me.1.cls = own) (hd : decode me.2.1 pc = .ok (.new idx, 3)) (hcl : Cond.classLink own idx C ∈ lw_g) (hin : Cond.instantiable C n ∈ lw_g) (hini : Cond.initialized C ∈ lw_g) (hc0 : cls[c]? = some (C, T, n)) (h20 : c < 20) (hws : ∀ w ∈ u_ws C T n, w ∈ lw_g) (hty : ∀ k, k < n → parseFieldDescriptor (T k).2.2.1 = some (tt k)) (hdv : ∀ j, j < n → defaultValue (tt j) = if isR c j = true then .null else .int 0) (hz : Zr σ kds.length) (hk : kds.length + 1 ≤ nE) (hb : n + bs' ≤ bs)
    (kk : V l G me R nE bs' (pc + 3) loc (.ref kds.length :: stk) (kds ++ [(c, n)]) σ Post) : V l G me R nE bs pc loc stk kds σ Post := by
  intro p e s m args below meth c0 H locs cells slots Q ls hC hl hP hS hc hs hret
  subst ho
  have hts := hC.2.2.2.2.2.1
  have hle := hC.2.2.2.2.2.2.2.2.2.2
  refine va_new (D := gD G) (ci := c) (C := C) (T := T) (N := n) (fs := (List.range n).map (fun j => if isR c j = true then .null else .int 0)) hC.1 hC.2.1 hts hws tt hty hC.2.2.2.2.1 (hts _ hcl) (hts _ hin) (hts _ hini) hC.2.2.2.2.2.2.2.2.1.1.1 hP (w_D G kds σ) hS (fun q hq => Nat.le_trans hC.2.2.2.2.2.2.2.2.2.1 hq) hc0 ?_ (by omega) (by omega) hd (fun q H1 hP1 hD1 hS1 => ?_)
  · intro j hj
    rw [hdv j hj, vp_V, List.getD_eq_getElem?_getD, List.getElem?_map, List.getElem?_range hj]
    rfl
  · refine W.sz fun hz1 => ?_
    have hq := fresh_at rfl hD1 hP1 (by omega)
    subst hq
    rw [w_push (kd := (c, n)) (σ' := σ) (zr_obj hz h20) (fun _ _ _ => rfl)] at hP1
    have := kk p e s m args below meth c0 H1 locs (cells + 1) (slots + n) Q ls hC hl hP1 hS1 (by rw [List.length_append]; show s.heap.size + (cells + 1) = gB G + (kds.length + 1); omega) (by omega) hret
    exact this
theorem V_newa {t bs' N : Nat} {n : Int32} {at0 : ArrayType} {ty : FieldType} {t0 : Nat} {z : va_E} (hd : decode me.2.1 pc = .ok (.newarray at0, 2)) (hty : newarray.typeOf at0 = ty) (hac : Cond.arrayClass ty ∈ lw_g) (ht0 : (tysG G)[t0]? = some (gC G t, ty)) (hty2 : ty = .int ∨ ty = .boolean ∨ ty = .long) (hn : ¬ n < 0) (hN : n.toNatClampNeg = N) (hb3 : N ≤ 1000) (a0 : vp_A) (ha : ∀ cA : ClassId, vp_cell cA a0 = arrV cA N (fun _ => defaultValue ty)) (he : elem G σ (t, N) kds.length = .inl (gC G t, a0)) (hk : kds.length + 1 ≤ nE) (hb : N + bs' ≤ bs)
    (kk : V l G me R nE bs' (pc + 2) loc (.ref kds.length :: stk) (kds ++ [(t, N)]) σ Post) : V l G me R nE bs pc loc (.int n :: stk) kds σ Post := by
  intro p e s m args below meth c0 H locs cells slots Q ls hC hl hP hS hc hs hret
  have hts := hC.2.2.2.2.2.1
  have hle := hC.2.2.2.2.2.2.2.2.2.2
  have hK := hC.2.2.2.2.2.2.2.2.1.1.1
  subst hty
  refine va_newa (D := gD G) (a0 := a0) (N' := N) hC.1 hC.2.1 (hts _ hac) rfl hK hP (w_D G kds σ) hS (fun q hq => Nat.le_trans hC.2.2.2.2.2.2.2.2.2.1 hq) ha hn hN (by rcases hty2 with h | h | h <;> rw [h] <;> simp [componentBytes] <;> omega) (by omega) (by omega) hd (fun q cA H1 hK1 hP1 hD1 hS1 => ?_)
  have hcA : cA = gC G t := by
    have h1 := (hK1.2 (tysG G).length (cA, newarray.typeOf at0) (by rw [List.getElem?_append_right (Nat.le_refl _), Nat.sub_self]; rfl)).2
    have h2 := (hK.2 t0 _ ht0).2
    rcases hty2 with h | h | h <;> rw [h] at h1 h2 <;> exact Option.some.inj (h1.symm.trans h2)
  subst hcA
  refine W.sz fun hz1 => ?_
  have hq := fresh_at rfl hD1 hP1 (by omega)
  subst hq
  rw [w_push (kd := (t, N)) (σ' := σ) he (fun _ _ _ => rfl)] at hP1
  exact kk p e s m args below meth c0 H1 locs (cells + 1) (slots + N) Q ls hC hl hP1 hS1 (by rw [List.length_append]; show s.heap.size + (cells + 1) = gB G + (kds.length + 1); omega) (by omega) hret
theorem V_newI {bs' N : Nat} {n : Int32} (hd : decode me.2.1 pc = .ok (.newarray .int, 2)) (hac : Cond.arrayClass .int ∈ lw_g) (hz : Zr σ kds.length) (hn : ¬ n < 0) (hN : n.toNatClampNeg = N) (hb3 : N ≤ 1000) (hk : kds.length + 1 ≤ nE) (hb : N + bs' ≤ bs)
    (kk : V l G me R nE bs' (pc + 2) loc (.ref kds.length :: stk) (kds ++ [(20, N)]) σ Post) : V l G me R nE bs pc loc (.int n :: stk) kds σ Post :=
  V_newa (t := 20) (t0 := 0) (z := .inr (0, [])) hd rfl hac rfl (Or.inl rfl) hn hN hb3 (N, .inl (fun _ => 0)) (fun _ => rfl) (by rw [el_i]; congr 4; funext j; exact (hz _ (Nat.le_refl _) j).1) hk hb kk
theorem V_newZ {bs' N : Nat} {n : Int32} (hd : decode me.2.1 pc = .ok (.newarray .boolean, 2)) (hac : Cond.arrayClass .boolean ∈ lw_g) (hz : Zr σ kds.length) (hn : ¬ n < 0) (hN : n.toNatClampNeg = N) (hb3 : N ≤ 1000) (hk : kds.length + 1 ≤ nE) (hb : N + bs' ≤ bs)
    (kk : V l G me R nE bs' (pc + 2) loc (.ref kds.length :: stk) (kds ++ [(21, N)]) σ Post) : V l G me R nE bs pc loc (.int n :: stk) kds σ Post :=
  V_newa (t := 21) (t0 := 1) (z := .inr (0, [])) hd rfl hac rfl (Or.inr (Or.inl rfl)) hn hN hb3 (N, .inl (fun _ => 0)) (fun _ => rfl) (by rw [el_z]; congr 4; funext j; exact (hz _ (Nat.le_refl _) j).1) hk hb kk
theorem V_newJ {bs' N : Nat} {n : Int32} (hd : decode me.2.1 pc = .ok (.newarray .long, 2)) (hac : Cond.arrayClass .long ∈ lw_g) (hz : Zr σ kds.length) (hn : ¬ n < 0) (hN : n.toNatClampNeg = N) (hb3 : N ≤ 1000) (hk : kds.length + 1 ≤ nE) (hb : N + bs' ≤ bs)
    (kk : V l G me R nE bs' (pc + 2) loc (.ref kds.length :: stk) (kds ++ [(22, N)]) σ Post) : V l G me R nE bs pc loc (.int n :: stk) kds σ Post :=
  V_newa (t := 22) (t0 := 2) (z := .inr (0, [])) hd rfl hac rfl (Or.inr (Or.inr rfl)) hn hN hb3 (N, .inr (.inl (fun _ => 0))) (fun _ => rfl) (by rw [el_l]; congr 5; funext j; exact (hz _ (Nat.le_refl _) j).2.1) hk hb kk
theorem V_newE {own : String} {idx bs' N : Nat} {n : Int32} (ho : me.1.cls = own) (hd : decode me.2.1 pc = .ok (.anewarray idx, 3)) (hcl : Cond.classLink own idx "GuessFair$Envelope" ∈ lw_g) (hz : Zr σ kds.length) (hn : ¬ n < 0) (hN : n.toNatClampNeg = N) (hb3 : N ≤ 1000) (hk : kds.length + 1 ≤ nE) (hb : N + bs' ≤ bs)
    (kk : V l G me R nE bs' (pc + 3) loc (.ref kds.length :: stk) (kds ++ [(23, N)]) σ Post) : V l G me R nE bs pc loc (.int n :: stk) kds σ Post := by
  intro p e s m args below meth c0 H locs cells slots Q ls hC hl hP hS hc hs hret
  subst ho
  have hts := hC.2.2.2.2.2.1
  have hle := hC.2.2.2.2.2.2.2.2.2.2
  have hK := hC.2.2.2.2.2.2.2.2.1.1.1
  refine va_newq (D := gD G) (N' := N) hC.1 hC.2.1 hC.2.2.2.2.1 (hts _ hcl) hC.2.2.2.2.2.2.2.2.1.1.2.2.2.1 hK hP (w_D G kds σ) hS (fun q hq => Nat.le_trans hC.2.2.2.2.2.2.2.2.2.1 hq) hn hN (by omega) (by omega) (by omega) hd (fun q cA H1 hK1 hP1 hD1 hS1 => ?_)
  have hcA : cA = gC G 23 := by
    obtain ⟨-, -, -, -, -, h1⟩ := (hK1.2 (tysG G).length (cA, .object "GuessFair$Envelope") (by rw [List.getElem?_append_right (Nat.le_refl _), Nat.sub_self]; rfl)).2
    obtain ⟨-, -, -, -, -, h2⟩ := (hK.2 3 _ rfl).2
    exact Option.some.inj (h1.symm.trans h2)
  subst hcA
  refine W.sz fun hz1 => ?_
  have hq := fresh_at rfl hD1 hP1 (by omega)
  subst hq
  rw [w_push (kd := (23, N)) (σ' := σ) (by rw [el_r (by omega)]; congr 8; funext j; rw [(hz _ (Nat.le_refl _) j).2.2]; rfl) (fun _ _ _ => rfl)] at hP1
  exact kk p e s m args below meth c0 H1 locs (cells + 1) (slots + N) Q ls hC hl hP1 hS1 (by rw [List.length_append]; show s.heap.size + (cells + 1) = gB G + (kds.length + 1); omega) (by omega) hret
/-- an array of arrays, and its rows behind it -/
def srm (σ : Hp) (k N : Nat) : Hp := (σ.1, σ.2.1, fun a b => if a = k ∧ b < N then some (k + 1 + b) else σ.2.2 a b)
theorem el_neM {σ : Hp} {k N : Nat} (k' : Nat) (kd : Kd) (h : k' ≠ k) : elem G (srm σ k N) kd k' = elem G σ kd k' := by
  have e : gr (srm σ k N) k' = gr σ k' := by funext b; simp [gr, srm, h]
  have e2 : gl (srm σ k N) = gl σ := rfl
  have e3 : gi (srm σ k N) = gi σ := rfl
  unfold elem fval
  rw [e2, e3]
  simp only [e]
theorem Zr.m {σ : Hp} {n k N : Nat} (h : Zr σ n) (hk : k < n) : Zr (srm σ k N) n := fun k' hk' j' => ⟨(h k' hk' j').1, (h k' hk' j').2.1, by have := (h k' hk' j').2.2; simp only [gr, srm] at this ⊢; rw [if_neg (by omega)]; exact this⟩
theorem w_mna {t t1 N K : Nat} {e1 : va_E} {f : Nat → va_E} (ht : 23 ≤ t) (hz : Zr σ kds.length) (he : ∀ i : Nat, i < N → elem G σ (t1, K) (kds.length + 1 + i) = e1) :
    ((world G kds σ ++ [(gB G + kds.length, .inl (gC G t, N, .inr (.inr (.inr (.inr (fun i => if i < N then some (gB G + kds.length + 1 + i) else none))))))]) ++ va_pl (([] : List Nat) ++ (List.range N).map (fun i => gB G + kds.length + 1 + i)) (vr_up f ((List.range N).map (fun i => gB G + kds.length + 1 + i)) e1)) = world G (kds ++ (t, N) :: List.replicate N (t1, K)) (srm σ kds.length N) := by
  have hlen : (kds ++ (t, N) :: List.replicate N (t1, K)).length = kds.length + 1 + N := by simp; omega
  apply List.ext_getElem?
  intro i
  by_cases h1 : i < kds.length
  · rw [List.getElem?_append_left (by rw [List.length_append, w_len]; omega), List.getElem?_append_left (by rw [w_len]; exact h1), w_get (List.getElem?_eq_getElem h1)]
    have h2 : (kds ++ (t, N) :: List.replicate N (t1, K))[i]? = some kds[i] := by rw [List.getElem?_append_left h1]; exact List.getElem?_eq_getElem h1
    rw [w_get h2, el_neM _ _ (by omega)]
  · by_cases h2 : i = kds.length
    · subst h2
      have h3 : (kds ++ (t, N) :: List.replicate N (t1, K))[kds.length]? = some (t, N) := by simp
      rw [w_get h3, List.getElem?_append_left (by rw [List.length_append, w_len]; simp), List.getElem?_append_right (by rw [w_len]; exact Nat.le_refl _), w_len, Nat.sub_self, el_r ht]
      show some _ = some _
      congr 9
      funext j
      by_cases hj : j < N
      · simp [gr, srm, hj]
        omega
      · have := (hz _ (Nat.le_refl _) j).2.2
        simp only [gr] at this
        simp [gr, srm, hj, this]
    · by_cases h3 : i < kds.length + 1 + N
      · obtain ⟨j, rfl⟩ : ∃ j, i = kds.length + 1 + j := ⟨i - (kds.length + 1), by omega⟩
        have hj : j < N := by omega
        have h4 : (kds ++ (t, N) :: List.replicate N (t1, K))[kds.length + 1 + j]? = some (t1, K) := by
          rw [List.getElem?_append_right (by omega), show kds.length + 1 + j - kds.length = j + 1 by omega, List.getElem?_cons_succ, List.getElem?_replicate, if_pos hj]
        have hm : gB G + kds.length + 1 + j ∈ (List.range N).map (fun i => gB G + kds.length + 1 + i) := List.mem_map.mpr ⟨j, List.mem_range.mpr hj, rfl⟩
        rw [w_get h4, List.getElem?_append_right (by rw [List.length_append, w_len]; simp <;> omega), List.length_append, w_len, show kds.length + 1 + j - (kds.length + [((gB G + kds.length, .inl (gC G t, N, .inr (.inr (.inr (.inr (fun i => if i < N then some (gB G + kds.length + 1 + i) else none)))))) : Nat × va_E)].length) = j by simp <;> omega]
        unfold va_pl
        rw [List.nil_append, List.getElem?_map, List.getElem?_map, List.getElem?_range hj]
        simp only [Option.map_some]
        rw [vr_up_in hm, el_neM _ _ (by omega), he j hj]
        congr 2
        omega
      · rw [List.getElem?_eq_none (by rw [List.length_append, List.length_append, w_len]; unfold va_pl; simp; omega), List.getElem?_eq_none (by rw [w_len, hlen]; omega)]
theorem V_mna {own : String} {ty : FieldType} {t0 t t1 N K bs' idx : Nat} {n k : Int32} {z : vp_A} (ho : me.1.cls = own) (hd : decode me.2.1 pc = .ok (.multianewarray idx 2, 4)) (hcl : Cond.classLink own idx ("[" ++ (FieldType.array ty).toString) ∈ lw_g) (hac : Cond.arrayClass ty ∈ lw_g) (hty : (ty = .int ∧ t = 24 ∧ t1 = 20 ∧ t0 = 0) ∨ (ty = .long ∧ t = 25 ∧ t1 = 22 ∧ t0 = 2)) (hz : Zr σ kds.length) (hn : ¬ n < 0) (hk0 : ¬ k < 0) (hN : n.toNatClampNeg = N) (hK0 : k.toNatClampNeg = K) (hN3 : N ≤ 1000) (hK3 : K ≤ 1000) (he : ∀ i : Nat, i < N → elem G σ (t1, K) (kds.length + 1 + i) = .inl (gC G t1, z)) (hzz : ∀ c : ClassId, Jvm.Free.Multi.innerC c K (defaultValue ty) = vp_cell c z) (hk : kds.length + 1 + N ≤ nE) (hb : N + N * K + bs' ≤ bs)
    (kk : V l G me R nE bs' (pc + 4) loc (.ref kds.length :: stk) (kds ++ (t, N) :: List.replicate N (t1, K)) (srm σ kds.length N) Post) : V l G me R nE bs pc loc (.int k :: .int n :: stk) kds σ Post := by
  intro p e s m args below meth c0 H locs cells slots Q ls hC hl hP hS hc hs hret
  subst ho
  have hts := hC.2.2.2.2.2.1
  have hle := hC.2.2.2.2.2.2.2.2.2.2
  have hKn := hC.2.2.2.2.2.2.2.2.1.1
  have hK := hKn.1
  have hAO : va_AOA ty s := by
    rcases hty with ⟨rfl, -⟩ | ⟨rfl, -⟩
    · exact hKn.2.2.2.2.1
    · exact hKn.2.2.2.2.2
  have h23 : 23 ≤ t := by omega
  have hcy : s.vm.findClass (FieldType.array ty).toString = some (gC G t1) := by
    rcases hty with ⟨rfl, -, rfl, rfl⟩ | ⟨rfl, -, rfl, rfl⟩
    · exact (hK.2 0 _ rfl).2
    · exact (hK.2 2 _ rfl).2
  refine W.sz fun hz0 => ?_
  have hHs := w_size hP (Nat.le_trans hC.2.2.2.2.2.2.2.2.2.1 hS.1)
  have e0 : world G kds σ = world G kds σ ++ va_pl [] (fun _ => .inr (0, [])) := by simp [va_pl]
  refine va_mna (D := gD G) (cl := cls) (tys := tysG G) (X := world G kds σ) (L := []) (f := fun _ => .inr (0, [])) (ty := ty) (cy := gC G t1) (N' := N) (K' := K) (z := z) hC.1 hC.2.1 hC.2.2.2.2.1 (hts _ hcl) hAO (hts _ hac) hcy hK (by rw [← e0]; exact hP) (by rw [← e0]; exact w_D G kds σ) hS (fun q hq => Nat.le_trans hC.2.2.2.2.2.2.2.2.2.1 hq) hn hk0 hN hK0 (by omega) (by rcases hty with ⟨rfl, -⟩ | ⟨rfl, -⟩ <;> simp [componentBytes] <;> omega) (by omega) (by rcases hty with ⟨rfl, -⟩ | ⟨rfl, -⟩ <;> rfl) (by rcases hty with ⟨rfl, -⟩ | ⟨rfl, -⟩ <;> rfl) (by omega) (by omega) hzz hd (fun q r cA H1 hq hr _ _ hK1 hP1 hD1 hS1 => ?_)
  have hH : H.size = gB G + kds.length := by omega
  rw [hH] at hq hr
  subst hq
  subst hr
  have hcA : cA = gC G t := by
    have h1 := (hK1.2 (tysG G).length (cA, .array ty) (by rw [List.getElem?_append_right (Nat.le_refl _), Nat.sub_self]; rfl)).2
    rcases hty with ⟨rfl, rfl, -⟩ | ⟨rfl, rfl, -⟩
    · exact Option.some.inj (h1.symm.trans (hK.2 4 _ rfl).2)
    · exact Option.some.inj (h1.symm.trans (hK.2 5 _ rfl).2)
  subst hcA
  rw [w_mna (t1 := t1) (K := K) h23 hz he] at hP1
  exact kk p e s m args below meth c0 H1 locs (cells + 1 + N) (slots + N + N * K) Q ls hC hl hP1 hS1 (by simp; omega) (by omega) hret
end VN
