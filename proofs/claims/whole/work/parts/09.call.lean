/-! calls: M says that a method, called so, comes back with Post -/
def PreM (G : GT) (kds : List Kd) (σ : Hp) (U : State) : Prop := U.heap.size = gB G + kds.length ∧ va_P (gD G) cls (world G kds σ) U.heap ∧ Kn G U
def PostM (G : GT) (kds : List Kd) (dn : Nat) (Post : Option Value → List Kd → Hp → Prop) : Array Value → State → Outcome → State → Prop := fun _ st oc t =>
  ∃ (v : Option Value) (kds' : List Kd) (σ' : Hp), oc = .returned (v.map (av G)) ∧ Post v kds' σ' ∧ kds'.length = kds.length + dn ∧ va_P (gD G) cls (world G kds' σ') t.heap ∧ va_F (gA G) st t
def MM (l : Launch) (G : GT) (me : MT) (d dn ds : Nat) (as : List Value) (kds : List Kd) (σ : Hp) (Post : Option Value → List Kd → Hp → Prop) : Prop :=
  Met l me.1 (wsM me) (rmd d dn ds) (va_Pc (as.map (av G)) (PreM G kds σ)) (PostM G kds dn Post) dn ds (gA G)
theorem lv_args_av (G : GT) : ∀ (as : List Value) (i : Nat), lv_args i (as.map (av G)) = loG G (lv_args i as)
  | [], _ => rfl
  | v :: vs, i => by
    show (i, av G v) :: lv_args (if (av G v).category = 2 then i + 2 else i + 1) (vs.map (av G)) = _
    rw [av_cat, lv_args_av G vs]
    rfl
theorem sl_av (G : GT) : ∀ as : List Value, (lg_sl (as.map (av G))).length = (lg_sl as).length
  | [] => rfl
  | v :: vs => by
    have ih := sl_av G vs
    simp only [lg_sl, List.map_cons, List.flatMap_cons, List.length_append] at ih ⊢
    rw [ih, av_cat]
    split <;> rfl
/-- a method's contract out of the walk of its body -/
theorem MM.of {l : Launch} {G : GT} {me : MT} {d dn ds : Nat} {as : List Value} {loc : List (Nat × Value)} {kds : List Kd} {σ : Hp} {Post : Option Value → List Kd → Hp → Prop} (hy : plainName me.1.cls = true) (hloc : lv_args 0 as = loc) (hlen : (lg_sl as).length ≤ me.2.2.1)
    (h : V l G me (rmd d dn ds) (kds.length + dn) ds 0 loc [] kds σ Post) : MM l G me d dn ds as kds σ Post := by
  refine Met.ofW (cc := me.2.1) (maxL := me.2.2.1) (ret := me.2.2.2) hy rfl ?_
  intro p e s m args below meth c s₁ B hml hv
  obtain ⟨rfl, hsz, hP, hK⟩ := hv
  have hts := atoms_spec (ws := wsM me) B.pre
  have hl := lv_entry (as.map (av G)) (n := me.2.2.1) (by rw [sl_av]; exact hlen)
  rw [lg_entry_eq]
  generalize (lg_sl (as.map (av G)) ++ List.replicate (me.2.2.1 - (lg_sl (as.map (av G))).length) Slot.unset).toArray = ls at hl ⊢
  rw [lv_args_av, hloc] at hl
  refine h p e s m _ below meth c s.heap [] 0 0 _ ls ⟨B.exec, B.bytes, B.returns, hml, findClass_of_methodNamed B.named, fun w hw => hts w (List.mem_cons_of_mem _ hw), B.notSynchronized, (name_of_methodNamed B.named B.method).1, hK, by omega, by show _ ≤ s.heap.size + dn; omega⟩ hl hP va_S.rf (by omega) (by show 0 + ds ≤ ds; omega) ?_
  intro v kds' σ' H locs cells slots pc ls' stk hpost hn hret hP' hS' hc hs
  have hcell : cells = dn := by omega
  subst hcell
  refine W.widen (k := cells) (n := ds) (Nat.le_refl _) hs ?_
  have hq : ∀ t : State, t.heap = H → PostM G kds cells Post (List.map (av G) as).toArray s (.returned (v.map (av G))) t := fun t ht => ⟨v, kds', σ', rfl, hpost, by omega, by rw [ht]; exact hP', hS'.F ht⟩
  rcases hret with ⟨h1, h2, rfl, rfl⟩ | ⟨x, ty, h1, h2, h3, rfl, rfl⟩ | ⟨x, h1, h2, rfl, rfl⟩ | ⟨x, C, h1, h2, h3, rfl, rfl⟩
  · exact W.vret B.exec B.bytes (B.returns.trans h2) (fun t ht _ => hq t ht) hS'.2.2 h1 B.notSynchronized
  · exact W.zret B.exec B.bytes (B.returns.trans h2) h3 (fun t ht _ => hq t ht) hS'.2.2 h1 B.notSynchronized
  · exact W.lret B.exec B.bytes (B.returns.trans h2) (fun t ht _ => hq t ht) hS'.2.2 h1 B.notSynchronized
  · refine W.aret B.exec B.bytes (B.returns.trans h2) (Or.inl ⟨C, rfl⟩) ?_ (fun t ht _ => hq t ht) hS'.2.2 h1 B.notSynchronized
    rcases h3 with rfl | ⟨k, rfl⟩
    · exact Or.inl rfl
    · exact Or.inr ⟨_, rfl⟩
theorem good_m {y : MT} (h : Cond.code y.1 y.2.1 y.2.2.1 y.2.2.2 ∈ lw_g) : GoodIn lw_g (wsM y) := by
  intro w hw
  rcases List.mem_cons.mp hw with rfl | hw
  · exact good_g _ h
  · exact good_g _ hw
/-- what a call needs of the receiver -/
def Rcv (kds : List Kd) (C : String) (b : Value) : Prop := (∃ (k c n : Nat) (T : u_T) (N : Nat), b = .ref k ∧ kds[k]? = some (c, n) ∧ c < 20 ∧ cls[c]? = some (C, T, N)) ∨ ∃ i : Nat, i < 5 ∧ b = .float (UInt32.ofNat (10 + i)) ∧ C = "java/lang/String"
section VC
variable {l : Launch} {G : GT} {me y : MT} {R : Room} {nE bs pc : Nat} {loc loc' : List (Nat × Value)} {stk rest as : List Value} {kds : List Kd} {σ : Hp} {Post Post' : Option Value → List Kd → Hp → Prop}
theorem pre_blind : FrameBlind (va_Pc (as.map (av G)) (PreM G kds σ)) := fun a U g mk h => ⟨h.1, h.2.1, h.2.2.1, kn_call h.2.2.2 g mk a⟩
theorem av_f (G : GT) (u : UInt32) : av G (.float u) = .ref (gO G u.toNat) := rfl
theorem V_run {dn ds bs' : Nat} {p : Program} {e : Env} {s : State} {m : MethodId} {args : Array Value} {below : List Frame} {meth : Method} {c : Code} {H : Heap} {locs : List Loc} {cells slots : Nat} {Q : State → Prop} {ls : Array Slot} (hC : Cx G me R nE p s m args meth c) (hl : lv_has ls me.2.2.1 (loG G loc)) (hS : va_S (gA G) s.heap H locs) (hc : s.heap.size + cells = gB G + kds.length) (hs : slots + bs ≤ R.slots) (hb : ds + bs' ≤ bs) (hret : RH l G me R nE Post p e s m args below meth c Q)
    (hrun : va_Run p l e R s m args below meth c H locs cells slots dn ds (F0 m pc ls (stk.map (av G))) (rest.map (av G)) (PostM G kds dn Post' (as.map (av G)).toArray) (gA G))
    (kk : ∀ (r : Option Value) (kds' : List Kd) (σ' : Hp), Post' r kds' σ' → kds'.length = kds.length + dn → V l G me R nE bs' (pc + 3) loc (r.toList ++ rest) kds' σ' Post) : W p l e R s m args below meth c H locs cells slots Q (F0 m pc ls (stk.map (av G))) := by
  intro T hT X
  obtain ⟨v, st₀, t, T', L, h0, X', hL, e1, e2, ⟨r, kds', σ', hv, hpost, hn, hP', hz, hk⟩, st⟩ := hrun T hT X
  cases hv
  rw [h0] at hz hk
  have hS2 : va_S (gA G) s.heap t.heap (locs ++ L) := ⟨Nat.le_trans hS.1 hz, fun q h1 h2 => by rw [hk q (Nat.lt_of_lt_of_le h1 hS.1) h2]; exact hS.2.1 q h1 h2, fun q hq => by
    rcases List.mem_append.mp hq with h | h
    · exact hS.2.2 q h
    · exact hL q h⟩
  have hw := kk r kds' σ' hpost hn p e s m args below meth c t.heap (locs ++ L) (cells + dn) (slots + ds) Q ls hC hl hP' hS2 (by omega) (by omega) hret
  obtain ⟨t2, a1, b1⟩ := hw T' e1 X'
  refine ⟨t2, st t2 ?_, b1⟩
  have e3 : (r.map (av G)).toList ++ rest.map (av G) = (r.toList ++ rest).map (av G) := by cases r <;> simp
  rw [e3]
  exact a1
theorem pre_at {U s : State} {p : Program} {m : MethodId} {args : Array Value} {meth : Method} {c : Code} {H : Heap} {locs : List Loc} {cells : Nat} (hC : Cx G me R nE p s m args meth c) (hP : va_P (gD G) cls (world G kds σ) H) (hS : va_S (gA G) s.heap H locs) (hc : s.heap.size + cells = gB G + kds.length) (hz : H.size ≤ s.heap.size + cells) (hU : U.heap = H) (hW : s.WarmedH U.vm) : va_Pc (as.map (av G)) (PreM G kds σ) (as.map (av G)).toArray U := by
  have hle := w_size hP (Nat.le_trans hC.2.2.2.2.2.2.2.2.2.1 hS.1)
  refine ⟨rfl, by rw [hU]; omega, by rw [hU]; exact hP, kn_move hC.2.2.2.2.2.2.2.2.1 hW (fun q hq => ?_)⟩
  rw [hU]
  exact hS.2.1 q (Nat.lt_of_lt_of_le hq hC.2.2.2.2.2.2.2.2.2.1) (Nat.not_le.mpr hq)
/-- invokestatic -/
theorem V_callS {own : String} {idx d dn ds bs' n : Nat} (ho : me.1.cls = own) (hd : decode me.2.1 pc = .ok (.invokestatic idx, 3)) (hy : CM y n) (hst : Cond.static y.1 ∈ lw_g) (hl0 : Cond.methodLink own idx y.1 ∈ lw_g) (hstk : stk = as.reverse ++ rest) (hn : as.length = n) (hM : MM l G y d dn ds as kds σ Post') (hR : d + 1 ≤ R.frames ∧ 8 + (y.2.2.1 + 11) + 64 * d ≤ R.locals) (hk : kds.length + dn ≤ nE) (hb : ds + bs' ≤ bs) (hw : (rest.map fun v => v.category).sum ≤ 8)
    (kk : ∀ (r : Option Value) (kds' : List Kd) (σ' : Hp), Post' r kds' σ' → kds'.length = kds.length + dn → V l G me R nE bs' (pc + 3) loc (r.toList ++ rest) kds' σ' Post) : V l G me R nE bs pc loc stk kds σ Post := by
  intro p e s m args below meth c H locs cells slots Q ls hC hl hP hS hc hs hret
  subst ho
  refine W.sz fun hz => ?_
  have hts := hC.2.2.2.2.2.1
  have cw : CallB R s args me.1.cls idx y.1 y.2.1 y.2.2.1 y.2.2.2 (wsM y) (rmd d dn ds) dn ds n ∧ (Cond.static y.1).before args s = true := ⟨callB_of n hts (good_m hy.1) rfl rfl rfl (hts _ hy.2.1) (hts _ hl0) hy.2.2 hR, hts _ hst⟩
  refine V_run (as := as) (rest := rest) (bs' := bs') hC hl hS hc hs hb hret (va_runS (As := as.map (av G)) (nL := me.2.2.1) ⟨hC.1, hC.2.1, hC.2.2.2.1, hC.2.2.2.2.1, hts⟩ hM cw ⟨pre_blind, fun U hU hW => pre_at hC hP hS hc hz hU hW⟩ rfl (by rw [List.length_map]; exact hn) hl.1 (by rw [hstk]; simp) (by show 2 * 0 + _ ≤ 8; rw [av_cats]; omega) hd ⟨?_, by omega⟩) kk
  have := hC.2.2.2.2.2.2.2.2.2.2
  omega
/-- invokestatic of a nest mate's private method -/
theorem V_callSN {own host : String} {idx d dn ds bs' n : Nat} (ho : me.1.cls = own) (hd : decode me.2.1 pc = .ok (.invokestatic idx, 3)) (hy : CM y n) (hst : Cond.static y.1 ∈ lw_g) (hl0 : Cond.methodLinkNest own idx y.1 host ∈ nestW) (hstk : stk = as.reverse ++ rest) (hn : as.length = n) (hM : MM l G y d dn ds as kds σ Post') (hR : d + 1 ≤ R.frames ∧ 8 + (y.2.2.1 + 11) + 64 * d ≤ R.locals) (hk : kds.length + dn ≤ nE) (hb : ds + bs' ≤ bs) (hw : (rest.map fun v => v.category).sum ≤ 8)
    (kk : ∀ (r : Option Value) (kds' : List Kd) (σ' : Hp), Post' r kds' σ' → kds'.length = kds.length + dn → V l G me R nE bs' (pc + 3) loc (r.toList ++ rest) kds' σ' Post) : V l G me R nE bs pc loc stk kds σ Post := by
  intro p e s m args below meth c H locs cells slots Q ls hC hl hP hS hc hs hret
  subst ho
  refine W.sz fun hz => ?_
  have hts := hC.2.2.2.2.2.1
  have cw : va_CN R s args me.1.cls idx y.1 host y.2.1 y.2.2.1 y.2.2.2 (wsM y) (rmd d dn ds) dn ds n ∧ (Cond.static y.1).before args s = true ∧ True := ⟨va_cnB n hts (good_m hy.1) rfl rfl rfl (hC.2.2.2.2.2.2.2.2.1.1.2.2.1 _ hl0) (hts _ hy.2.1) hy.2.2 hR, hts _ hst, trivial⟩
  refine V_run (as := as) (rest := rest) (bs' := bs') hC hl hS hc hs hb hret (va_runSN (As := as.map (av G)) (nL := me.2.2.1) ⟨hC.1, hC.2.1, hC.2.2.2.1, hC.2.2.2.2.1, hts⟩ hM cw ⟨pre_blind, fun U hU hW => pre_at hC hP hS hc hz hU hW⟩ rfl (by rw [List.length_map]; exact hn) hl.1 (by rw [hstk]; simp) (by show 2 * 0 + _ ≤ 8; rw [av_cats]; omega) hd ⟨?_, by omega⟩) kk
  have := hC.2.2.2.2.2.2.2.2.2.2
  omega
theorem recv {s : State} {p : Program} {m : MethodId} {args : Array Value} {meth : Method} {c : Code} {H : Heap} {locs : List Loc} {C : String} {b : Value} (hC : Cx G me R nE p s m args meth c) (hP : va_P (gD G) cls (world G kds σ) H) (hS : va_S (gA G) s.heap H locs) (hr : Rcv kds C b) : ∃ a : Nat, av G b = .ref a ∧ ∃ cellB : Cell, H[a]? = some cellB ∧ cellB.vm.isStatics = false ∧ s.vm.findClass C = some cellB.cls := by
  rcases hr with ⟨k, cn, n, T, N, rfl, hk, h20, hcl⟩ | ⟨i, hi, rfl, rfl⟩
  · have hw := w_get (G := G) (σ := σ) hk
    rw [el_obj h20] at hw
    exact ⟨gB G + k, rfl, va_recv hC.2.2.2.2.2.2.2.2.1.1.1 hP hcl hw⟩
  · refine ⟨gO G (10 + i), ?_, vk_recv (adK := fun i => gO G (10 + i)) (adV := fun i => gO G (20 + i)) (i := i) hC.2.2.2.2.2.2.2.2.1.2.2.2.2.1 hi hS⟩
    rw [av_f]
    congr 2
    have : i = 0 ∨ i = 1 ∨ i = 2 ∨ i = 3 ∨ i = 4 := by omega
    rcases this with rfl | rfl | rfl | rfl | rfl <;> rfl
/-- invokevirtual -/
theorem V_callV {own : String} {b : Value} {idx d dn ds bs' n : Nat} (ho : me.1.cls = own) (hd : decode me.2.1 pc = .ok (.invokevirtual idx, 3)) (hy : CM y n) (hv : CV y) (hl0 : Cond.methodLink own idx y.1 ∈ lw_g) (hr : Rcv kds y.1.cls b) (hstk : stk = as.reverse ++ b :: rest) (hn : as.length = n) (hM : MM l G y d dn ds (b :: as) kds σ Post') (hR : d + 1 ≤ R.frames ∧ 8 + (y.2.2.1 + 11) + 64 * d ≤ R.locals) (hk : kds.length + dn ≤ nE) (hb : ds + bs' ≤ bs) (hw : (rest.map fun v => v.category).sum ≤ 8)
    (kk : ∀ (r : Option Value) (kds' : List Kd) (σ' : Hp), Post' r kds' σ' → kds'.length = kds.length + dn → V l G me R nE bs' (pc + 3) loc (r.toList ++ rest) kds' σ' Post) : V l G me R nE bs pc loc stk kds σ Post := by
  intro p e s m args below meth c H locs cells slots Q ls hC hl hP hS hc hs hret
  subst ho
  refine W.sz fun hz => ?_
  have hts := hC.2.2.2.2.2.1
  obtain ⟨a, ha, hcell⟩ := recv hC hP hS hr
  have cw : CallW R s args me.1.cls y.1.cls idx y.1 y.2.1 y.2.2.1 y.2.2.2 (wsM y) (rmd d dn ds) dn ds n := ⟨callB_of n hts (good_m hy.1) rfl rfl rfl (hts _ hy.2.1) (hts _ hl0) hy.2.2 hR, hts _ hv.1, hts _ hv.2⟩
  refine V_run (as := b :: as) (rest := rest) (bs' := bs') hC hl hS hc hs hb hret ?_ kk
  have hb2 : (b :: as).map (av G) = .ref a :: as.map (av G) := by rw [List.map_cons, ha]
  rw [hb2]
  refine va_runV (As := as.map (av G)) (nL := me.2.2.1) ⟨hC.1, hC.2.1, hC.2.2.2.1, hC.2.2.2.2.1, hts⟩ hM cw ⟨pre_blind, hcell, fun U hU hW => ?_⟩ rfl (by rw [List.length_map]; exact hn) hl.1 (by rw [hstk]; simp [ha]) (by show 2 * 0 + _ ≤ 8; rw [av_cats]; omega) hd ⟨?_, by omega⟩
  · have h9 := pre_at (as := b :: as) hC hP hS hc hz hU hW
    rw [hb2] at h9 ⊢
    exact h9
  · have := hC.2.2.2.2.2.2.2.2.2.2
    omega
/-- invokespecial of a constructor -/
theorem V_callI {own : String} {k idx d dn ds bs' n : Nat} (ho : me.1.cls = own) (hd : decode me.2.1 pc = .ok (.invokespecial idx, 3)) (hy : CM y n) (hi : Cond.instanceMethod y.1 ∈ lw_g ∧ y.1.name = "<init>" ∧ y.2.2.2 = none) (hl0 : Cond.methodLink own idx y.1 ∈ lw_g) (hstk : stk = as.reverse ++ .ref k :: rest) (hn : as.length = n) (hM : MM l G y d dn ds (.ref k :: as) kds σ Post') (hR : d + 1 ≤ R.frames ∧ 8 + (y.2.2.1 + 11) + 64 * d ≤ R.locals) (hk : kds.length + dn ≤ nE) (hb : ds + bs' ≤ bs) (hw : (rest.map fun v => v.category).sum ≤ 8)
    (kk : ∀ (r : Option Value) (kds' : List Kd) (σ' : Hp), Post' r kds' σ' → kds'.length = kds.length + dn → V l G me R nE bs' (pc + 3) loc (r.toList ++ rest) kds' σ' Post) : V l G me R nE bs pc loc stk kds σ Post := by
  intro p e s m args below meth c H locs cells slots Q ls hC hl hP hS hc hs hret
  subst ho
  refine W.sz fun hz => ?_
  have hts := hC.2.2.2.2.2.1
  have hyc : Cond.code y.1 y.2.1 y.2.2.1 none ∈ lw_g := by rw [← hi.2.2]; exact hy.1
  have cw : CallB R s args me.1.cls idx y.1 y.2.1 y.2.2.1 none (wsM y) (rmd d dn ds) dn ds n ∧ y.1.name = "<init>" ∧ (Cond.instanceMethod y.1).before args s = true := ⟨callB_of n hts (good_m hy.1) (by unfold wsM; rw [hi.2.2]) rfl rfl (hts _ hy.2.1) (hts _ hl0) hy.2.2 hR, hi.2.1, hts _ hi.1⟩
  refine V_run (as := .ref k :: as) (rest := rest) (bs' := bs') hC hl hS hc hs hb hret (va_runI (b := gB G + k) (As := as.map (av G)) (nL := me.2.2.1) ⟨hC.1, hC.2.1, hC.2.2.2.1, hC.2.2.2.2.1, hts⟩ hM cw ⟨pre_blind, fun U hU hW => pre_at (as := .ref k :: as) hC hP hS hc hz hU hW⟩ rfl (by rw [List.length_map]; exact hn) hl.1 (by rw [hstk]; simp [av]) (by show 2 * 0 + _ ≤ 8; rw [av_cats]; omega) hd ⟨?_, by omega⟩) kk
  have := hC.2.2.2.2.2.2.2.2.2.2
  omega
theorem V_callIN {own host : String} {k idx d dn ds bs' n : Nat} (ho : me.1.cls = own) (hd : decode me.2.1 pc = .ok (.invokespecial idx, 3)) (hy : CM y n) (hi : Cond.instanceMethod y.1 ∈ lw_g ∧ y.1.name = "<init>" ∧ y.2.2.2 = none) (hl0 : Cond.methodLinkNest own idx y.1 host ∈ nestW) (hstk : stk = as.reverse ++ .ref k :: rest) (hn : as.length = n) (hM : MM l G y d dn ds (.ref k :: as) kds σ Post') (hR : d + 1 ≤ R.frames ∧ 8 + (y.2.2.1 + 11) + 64 * d ≤ R.locals) (hk : kds.length + dn ≤ nE) (hb : ds + bs' ≤ bs) (hw : (rest.map fun v => v.category).sum ≤ 8)
    (kk : ∀ (r : Option Value) (kds' : List Kd) (σ' : Hp), Post' r kds' σ' → kds'.length = kds.length + dn → V l G me R nE bs' (pc + 3) loc (r.toList ++ rest) kds' σ' Post) : V l G me R nE bs pc loc stk kds σ Post := by
  intro p e s m args below meth c H locs cells slots Q ls hC hl hP hS hc hs hret
  subst ho
  refine W.sz fun hz => ?_
  have hts := hC.2.2.2.2.2.1
  have cw : va_CN R s args me.1.cls idx y.1 host y.2.1 y.2.2.1 none (wsM y) (rmd d dn ds) dn ds n ∧ y.1.name = "<init>" ∧ (Cond.instanceMethod y.1).before args s = true := ⟨va_cnB n hts (good_m hy.1) (by unfold wsM; rw [hi.2.2]) rfl rfl (hC.2.2.2.2.2.2.2.2.1.1.2.2.1 _ hl0) (hts _ hy.2.1) hy.2.2 hR, hi.2.1, hts _ hi.1⟩
  refine V_run (as := .ref k :: as) (rest := rest) (bs' := bs') hC hl hS hc hs hb hret (va_runIN (b := gB G + k) (As := as.map (av G)) (nL := me.2.2.1) ⟨hC.1, hC.2.1, hC.2.2.2.1, hC.2.2.2.2.1, hts⟩ hM cw ⟨pre_blind, fun U hU hW => pre_at (as := .ref k :: as) hC hP hS hc hz hU hW⟩ rfl (by rw [List.length_map]; exact hn) hl.1 (by rw [hstk]; simp [av]) (by show 2 * 0 + _ ≤ 8; rw [av_cats]; omega) hd ⟨?_, by omega⟩) kk
  have := hC.2.2.2.2.2.2.2.2.2.2
  omega
/-- Object.<init> -/
theorem V_obj {k idx : Nat} {own : String} (ho : me.1.cls = own) (hd : decode me.2.1 pc = .ok (.invokespecial idx, 3)) (hl0 : Cond.methodLink own idx objectInit ∈ lw_g) (h1 : Cond.instanceMethod objectInit ∈ lw_g) (h2 : Cond.code objectInit ⟨#[0xb1]⟩ 1 none ∈ lw_g) (hR : 1 ≤ R.frames ∧ 20 ≤ R.locals) (hw : (rest.map fun v => v.category).sum ≤ 8) (kk : V l G me R nE bs (pc + 3) loc rest kds σ Post) : V l G me R nE bs pc loc (.ref k :: rest) kds σ Post := by
  intro p e s m args below meth c H locs cells slots Q ls hC hl hP hS hc hs hret
  subst ho
  have hts := hC.2.2.2.2.2.1
  refine W.objInit hC.1 hC.2.1 hC.2.2.2.2.1 (hts _ hl0) (hts _ h1) (hts _ h2) rfl (by rw [hC.2.2.2.1]; exact hl.1) rfl hd hR.1 (by show 2 * 0 + _ + 12 ≤ _; rw [av_cats]; omega) (kk p e s m args below meth c H locs cells slots Q ls hC hl hP hS hc hs hret)
/-- System.arraycopy of ints, of longs -/
theorem cp_i {σ : Hp} {k0 k1 sp dp n : Nat} : (fun j => gi (ci σ k0 k1 sp dp n) k1 j) = va_cpy (fun j => gi σ k0 j) (fun j => gi σ k1 j) sp dp n := by
  funext j
  simp [gi, ci, va_cpy]
theorem cp_l {σ : Hp} {k0 k1 sp dp n : Nat} : (fun j => gl (cl64 σ k0 k1 sp dp n) k1 j) = va_cpy (fun j => gl σ k0 j) (fun j => gl σ k1 j) sp dp n := by
  funext j
  simp [gl, cl64, va_cpy]
theorem el_neC {k0 k1 sp dp n : Nat} (k' : Nat) (kd : Kd) (h : k' ≠ k1) : elem G (ci σ k0 k1 sp dp n) kd k' = elem G σ kd k' := by
  have e : gi (ci σ k0 k1 sp dp n) k' = gi σ k' := by funext b; simp [gi, ci, h]
  have e2 : gr (ci σ k0 k1 sp dp n) = gr σ := rfl
  have e3 : gl (ci σ k0 k1 sp dp n) = gl σ := rfl
  unfold elem fval
  rw [e2, e3]
  simp only [e]
theorem el_neCL {k0 k1 sp dp n : Nat} (k' : Nat) (kd : Kd) (h : k' ≠ k1) : elem G (cl64 σ k0 k1 sp dp n) kd k' = elem G σ kd k' := by
  have e : gl (cl64 σ k0 k1 sp dp n) k' = gl σ k' := by funext b; simp [gl, cl64, h]
  have e2 : gr (cl64 σ k0 k1 sp dp n) = gr σ := rfl
  have e3 : gi (cl64 σ k0 k1 sp dp n) = gi σ := rfl
  unfold elem fval
  rw [e2, e3]
  simp only [e]
theorem nfw {G : GT} {R : Room} {rest : List Value} (hw : (rest.map fun v => v.category).sum ≤ 8) (hR : 26 ≤ R.locals) : ((rest.map (av G)).map fun v => v.category).sum + (nativeFrameWords "java/lang/System" "arraycopy" 5 + 11) ≤ R.locals := by
  have h : nativeFrameWords "java/lang/System" "arraycopy" 5 = 7 := by decide
  rw [av_cats, h]
  omega
theorem V_copyi {own : String} {idx k0 k1 n0 n1 : Nat} {sp dp n : Int32} (ho : me.1.cls = own) (hd : decode me.2.1 pc = .ok (.invokestatic idx, 3)) (hl0 : Cond.methodLink own idx arraycopyName ∈ lw_g) (g1 : Cond.native arraycopyName ∈ lw_g) (g2 : Cond.static arraycopyName ∈ lw_g) (g3 : Cond.initialized "java/lang/System" ∈ lw_g) (hk0 : kds[k0]? = some (20, n0)) (hk1 : kds[k1]? = some (20, n1)) (h1 : ¬ sp < 0) (h2 : ¬ dp < 0) (h3 : ¬ n < 0) (h4 : sp.toNatClampNeg + n.toNatClampNeg ≤ n0) (h5 : dp.toNatClampNeg + n.toNatClampNeg ≤ n1) (hR : 1 ≤ R.frames ∧ 26 ≤ R.locals) (hw : (rest.map fun v => v.category).sum ≤ 8)
    (kk : V l G me R nE bs (pc + 3) loc rest kds (ci σ k0 k1 sp.toNatClampNeg dp.toNatClampNeg n.toNatClampNeg) Post) : V l G me R nE bs pc loc (.int n :: .int dp :: .ref k1 :: .int sp :: .ref k0 :: rest) kds σ Post := by
  intro p e s m args below meth c H locs cells slots Q ls hC hl hP hS hc hs hret
  subst ho
  have hts := hC.2.2.2.2.2.1
  refine va_copyi (D := gD G) hC.1 hC.2.1 (by rw [hC.2.2.2.1]; exact hl.1.symm) hC.2.2.2.2.1 (hts _ hl0) (hts _ g1) (hts _ g2) (hts _ g3) hC.2.2.2.2.2.2.2.2.1.1.1 hP (w_D G kds σ) hS k0 k1 0 0 (w_get hk0) (w_get hk1) rfl rfl rfl h1 h2 h3 h4 h5 (fun _ _ => rfl) hR.1 (nfw (G := G) hw hR.2) hd (fun H1 locs1 hP1 _ hS1 => ?_)
  rw [w_set (σ' := ci σ k0 k1 sp.toNatClampNeg dp.toNatClampNeg n.toNatClampNeg) hk1 (by rw [el_i, cp_i]) (fun k' kd' h => el_neC k' kd' h)] at hP1
  exact kk p e s m args below meth c H1 locs1 cells slots Q ls hC hl hP1 hS1 hc hs hret
theorem V_copyl {own : String} {idx k0 k1 n0 n1 : Nat} {sp dp n : Int32} (ho : me.1.cls = own) (hd : decode me.2.1 pc = .ok (.invokestatic idx, 3)) (hl0 : Cond.methodLink own idx arraycopyName ∈ lw_g) (g1 : Cond.native arraycopyName ∈ lw_g) (g2 : Cond.static arraycopyName ∈ lw_g) (g3 : Cond.initialized "java/lang/System" ∈ lw_g) (hk0 : kds[k0]? = some (22, n0)) (hk1 : kds[k1]? = some (22, n1)) (h1 : ¬ sp < 0) (h2 : ¬ dp < 0) (h3 : ¬ n < 0) (h4 : sp.toNatClampNeg + n.toNatClampNeg ≤ n0) (h5 : dp.toNatClampNeg + n.toNatClampNeg ≤ n1) (hR : 1 ≤ R.frames ∧ 26 ≤ R.locals) (hw : (rest.map fun v => v.category).sum ≤ 8)
    (kk : V l G me R nE bs (pc + 3) loc rest kds (cl64 σ k0 k1 sp.toNatClampNeg dp.toNatClampNeg n.toNatClampNeg) Post) : V l G me R nE bs pc loc (.int n :: .int dp :: .ref k1 :: .int sp :: .ref k0 :: rest) kds σ Post := by
  intro p e s m args below meth c H locs cells slots Q ls hC hl hP hS hc hs hret
  subst ho
  have hts := hC.2.2.2.2.2.1
  refine va_copyl (D := gD G) hC.1 hC.2.1 (by rw [hC.2.2.2.1]; exact hl.1.symm) hC.2.2.2.2.1 (hts _ hl0) (hts _ g1) (hts _ g2) (hts _ g3) hC.2.2.2.2.2.2.2.2.1.1.1 hP (w_D G kds σ) hS k0 k1 2 2 (w_get hk0) (w_get hk1) rfl rfl rfl h1 h2 h3 h4 h5 (fun _ _ => rfl) hR.1 (nfw (G := G) hw hR.2) hd (fun H1 locs1 hP1 _ hS1 => ?_)
  rw [w_set (σ' := cl64 σ k0 k1 sp.toNatClampNeg dp.toNatClampNeg n.toNatClampNeg) hk1 (by rw [el_l, cp_l]) (fun k' kd' h => el_neCL k' kd' h)] at hP1
  exact kk p e s m args below meth c H1 locs1 cells slots Q ls hC hl hP1 hS1 hc hs hret
/-- texts -/
theorem of_i {i : Nat} (hi : i < 5) (b : Nat) (hb : b ≤ 100) : (UInt32.ofNat (b + i)).toNat = b + i := by
  rw [UInt32.toNat_ofNat']
  exact Nat.mod_eq_of_lt (by omega)
theorem V_ldcS {i idx : Nat} {tx : String} (ho : me.1.cls = "GuessFair$LawReader") (hi : i < 5) (hx : strX.getD i (0, "") = (idx, tx)) (hd : decode me.2.1 pc = .ok (.ldc idx, 2)) (kk : V l G me R nE bs (pc + 2) loc (.float (UInt32.ofNat (10 + i)) :: stk) kds σ Post) : V l G me R nE bs pc loc stk kds σ Post := by
  intro p e s m args below meth c H locs cells slots Q ls hC hl hP hS hc hs hret
  have h1 := hC.2.2.2.2.2.2.2.2.1.1.2.1 i hi
  rw [hx] at h1
  refine va_ldcS hC.1 hC.2.1 (ho ▸ hC.2.2.2.2.1) h1 hd ?_
  have := kk p e s m args below meth c H locs cells slots Q ls hC hl hP hS hc hs hret
  simp only [List.map_cons, av_f, of_i hi 10 (by omega)] at this
  exact this
theorem V_strC {i : Nat} (ho : me.1.cls = "java/lang/String") (hi : i < 5) (hd : decode me.2.1 pc = .ok (.getfield 15, 3)) (hw : Cond.fieldLink "java/lang/String" 15 "java/lang/String" "coder" "B" ∈ lw_g) (kk : V l G me R nE bs (pc + 3) loc (.int 0 :: stk) kds σ Post) : V l G me R nE bs pc loc (.float (UInt32.ofNat (10 + i)) :: stk) kds σ Post := by
  intro p e s m args below meth c H locs cells slots Q ls hC hl hP hS hc hs hret
  simp only [List.map_cons, av_f, of_i hi 10 (by omega)]
  exact vk_getf hC.1 hC.2.1 (hC.2.2.2.2.2.2.2.2.1.2.2.2.2.1.1 i hi).2.1 hS (ho ▸ hC.2.2.2.2.1) (hC.2.2.2.2.2.1 _ hw) (fun _ h => h) hd (kk p e s m args below meth c H locs cells slots Q ls hC hl hP hS hc hs hret)
theorem V_strV {i : Nat} (ho : me.1.cls = "java/lang/String") (hi : i < 5) (hd : decode me.2.1 pc = .ok (.getfield 9, 3)) (hw : Cond.fieldLink "java/lang/String" 9 "java/lang/String" "value" "[B" ∈ lw_g) (kk : V l G me R nE bs (pc + 3) loc (.float (UInt32.ofNat (20 + i)) :: stk) kds σ Post) : V l G me R nE bs pc loc (.float (UInt32.ofNat (10 + i)) :: stk) kds σ Post := by
  intro p e s m args below meth c H locs cells slots Q ls hC hl hP hS hc hs hret
  have := kk p e s m args below meth c H locs cells slots Q ls hC hl hP hS hc hs hret
  simp only [List.map_cons, av_f, of_i hi 10 (by omega), of_i hi 20 (by omega)] at this ⊢
  exact vk_getf hC.1 hC.2.1 (hC.2.2.2.2.2.2.2.2.1.2.2.2.2.1.1 i hi).2.2.1 hS (ho ▸ hC.2.2.2.2.1) (hC.2.2.2.2.2.1 _ hw) (fun _ h => h) hd this
theorem V_tbl {i : Nat} (hi : i < 5) (hd : decode me.2.1 pc = .ok (.arraylength, 1)) (kk : V l G me R nE bs (pc + 1) loc (.int (Int32.ofNat (strL.getD i 0)) :: stk) kds σ Post) : V l G me R nE bs pc loc (.float (UInt32.ofNat (20 + i)) :: stk) kds σ Post := by
  intro p e s m args below meth c H locs cells slots Q ls hC hl hP hS hc hs hret
  simp only [List.map_cons, av_f, of_i hi 20 (by omega)]
  exact va_tlen hC.1 hC.2.1 (hC.2.2.2.2.2.2.2.2.1.2.2.2.2.1.1 i hi).2.2.2 hS rfl hd (kk p e s m args below meth c H locs cells slots Q ls hC hl hP hS hc hs hret)
theorem V_tb {i : Nat} {j : Int32} (hi : i < 5) (hd : decode me.2.1 pc = .ok (.baload, 1)) (hj : vp_in j (strL.getD i 0)) (kk : V l G me R nE bs (pc + 1) loc (.int ((strB.getD i []).getD j.toNatClampNeg 0) :: stk) kds σ Post) : V l G me R nE bs pc loc (.int j :: .float (UInt32.ofNat (20 + i)) :: stk) kds σ Post := by
  intro p e s m args below meth c H locs cells slots Q ls hC hl hP hS hc hs hret
  simp only [List.map_cons, av_f, of_i hi 20 (by omega)]
  exact va_tb hC.1 hC.2.1 (hC.2.2.2.2.2.2.2.2.1.2.2.2.2.1.1 i hi).2.2.2 hS hj rfl hd (kk p e s m args below meth c H locs cells slots Q ls hC hl hP hS hc hs hret)
theorem V_gsC {idx : Nat} (ho : me.1.cls = "java/lang/String") (hd : decode me.2.1 pc = .ok (.getstatic idx, 3)) (hw : Cond.fieldLink "java/lang/String" idx "java/lang/String" "COMPACT_STRINGS" "Z" ∈ lw_g) (kk : V l G me R nE bs (pc + 3) loc (.int 1 :: stk) kds σ Post) : V l G me R nE bs pc loc stk kds σ Post := fun p e s m args below meth c H locs cells slots Q ls hC hl hP hS hc hs hret =>
  va_gets hC.1 hC.2.1 hC.2.2.2.2.2.2.2.2.1.2.2.2.2.2.1 hS (ho ▸ hC.2.2.2.2.1) (hC.2.2.2.2.2.1 _ hw) (fun _ h => h) hd (kk p e s m args below meth c H locs cells slots Q ls hC hl hP hS hc hs hret)
theorem V_gsF {idx : Nat} (ho : me.1.cls = "java/lang/String") (hd : decode me.2.1 pc = .ok (.getstatic idx, 3)) (hw : Cond.fieldLink "java/lang/String" idx "jdk/internal/util/Preconditions" "SIOOBE_FORMATTER" "Ljava/util/function/BiFunction;" ∈ lw_g) (kk : ∀ v : Value, v = .null ∨ v = .float 30 → V l G me R nE bs (pc + 3) loc (v :: stk) kds σ Post) : V l G me R nE bs pc loc stk kds σ Post := by
  intro p e s m args below meth c H locs cells slots Q ls hC hl hP hS hc hs hret
  rcases hC.2.2.2.2.2.2.2.2.1.2.2.2.2.2.2 with h | h
  · exact va_gets hC.1 hC.2.1 h hS (ho ▸ hC.2.2.2.2.1) (hC.2.2.2.2.2.1 _ hw) (fun _ h => h) hd (kk .null (Or.inl rfl) p e s m args below meth c H locs cells slots Q ls hC hl hP hS hc hs hret)
  · exact va_gets hC.1 hC.2.1 h hS (ho ▸ hC.2.2.2.2.1) (hC.2.2.2.2.2.1 _ hw) (fun _ h => h) hd (kk (.float 30) (Or.inr rfl) p e s m args below meth c H locs cells slots Q ls hC hl hP hS hc hs hret)
end VC
