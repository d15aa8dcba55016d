/-! the abstract machine: a heap of cells by numbers; V: from here the method comes to a return with Post -/
abbrev Hp : Type := (Nat → Nat → Int32) × (Nat → Nat → Int64) × (Nat → Nat → Option Nat)
abbrev Kd : Type := Nat × Nat
abbrev GT : Type := Nat × va_G × (Nat → ClassId) × (Nat → Nat) × Nat × (Nat → Int32)
def gB (G : GT) : Nat := G.1
def gD (G : GT) : va_G := G.2.1
def gC (G : GT) : Nat → ClassId := G.2.2.1
def gO (G : GT) : Nat → Nat := G.2.2.2.1
def gL (G : GT) : Nat := G.2.2.2.2.1
def gX (G : GT) : Nat → Int32 := G.2.2.2.2.2
def gA (G : GT) : Nat → Prop := fun q => gB G ≤ q
def gi (σ : Hp) : Nat → Nat → Int32 := σ.1
def gl (σ : Hp) : Nat → Nat → Int64 := σ.2.1
def gr (σ : Hp) : Nat → Nat → Option Nat := σ.2.2
def si (σ : Hp) (k j : Nat) (x : Int32) : Hp := (fun a b => if a = k ∧ b = j then x else σ.1 a b, σ.2)
def sl (σ : Hp) (k j : Nat) (x : Int64) : Hp := (σ.1, fun a b => if a = k ∧ b = j then x else σ.2.1 a b, σ.2.2)
def sr (σ : Hp) (k j : Nat) (x : Option Nat) : Hp := (σ.1, σ.2.1, fun a b => if a = k ∧ b = j then x else σ.2.2 a b)
/-- a run of ints, of longs, copied -/
def ci (σ : Hp) (k0 k1 sp dp n : Nat) : Hp := (fun a b => if a = k1 ∧ dp ≤ b ∧ b < dp + n then σ.1 k0 (sp + (b - dp)) else σ.1 a b, σ.2)
def cl64 (σ : Hp) (k0 k1 sp dp n : Nat) : Hp := (σ.1, fun a b => if a = k1 ∧ dp ≤ b ∧ b < dp + n then σ.2.1 k0 (sp + (b - dp)) else σ.2.1 a b, σ.2.2)
def av (G : GT) : Value → Value
  | .ref k => .ref (gB G + k)
  | .float u => .ref (gO G u.toNat)
  | .int x => .int x
  | .long x => .long x
  | .double x => .double x
  | .null => .null
  | .retAddr a => .retAddr a
def fval (G : GT) (σ : Hp) (k c j : Nat) : Value := if isR c j = true then va_rf ((gr σ k j).map (gB G + ·)) else .int (gi σ k j)
def elem (G : GT) (σ : Hp) (kd : Kd) (k : Nat) : va_E :=
  if kd.1 < 20 then .inr (kd.1, (List.range kd.2).map (fval G σ k kd.1))
  else if kd.1 = 22 then .inl (gC G kd.1, kd.2, .inr (.inl (fun j => gl σ k j)))
  else if 23 ≤ kd.1 then .inl (gC G kd.1, kd.2, .inr (.inr (.inr (.inr (fun j => (gr σ k j).map (gB G + ·))))))
  else .inl (gC G kd.1, kd.2, .inl (fun j => gi σ k j))
def world (G : GT) (kds : List Kd) (σ : Hp) : va_W := (List.range kds.length).map (fun k => (gB G + k, elem G σ ((kds[k]?).getD (0, 0)) k))
theorem w_len (G : GT) (kds : List Kd) (σ : Hp) : (world G kds σ).length = kds.length := by simp [world]
theorem w_get {G : GT} {kds : List Kd} {σ : Hp} {k : Nat} {kd : Kd} (h : kds[k]? = some kd) : (world G kds σ)[k]? = some (gB G + k, elem G σ kd k) := by
  have hk : k < kds.length := (List.getElem?_eq_some_iff.mp h).1
  rw [world, List.getElem?_map, List.getElem?_range hk]
  simp [h]
theorem w_of {G : GT} {kds : List Kd} {σ : Hp} {k : Nat} {q : Nat × va_E} (h : (world G kds σ)[k]? = some q) : q.1 = gB G + k ∧ k < kds.length := by
  have hk : k < kds.length := by rw [← w_len G kds σ]; exact (List.getElem?_eq_some_iff.mp h).1
  rw [world, List.getElem?_map, List.getElem?_range hk] at h
  simp at h
  exact ⟨by rw [← h], hk⟩
theorem w_D (G : GT) (kds : List Kd) (σ : Hp) : va_D (gA G) (world G kds σ) := by
  refine ⟨fun i j p q hi hj hpq => ?_, fun k q hk => ?_⟩
  · have h1 := (w_of hi).1
    have h2 := (w_of hj).1
    omega
  · show gB G ≤ q.1
    rw [(w_of hk).1]
    omega
theorem w_set {G : GT} {kds : List Kd} {σ σ' : Hp} {k : Nat} {kd : Kd} {e' : va_E} (h : kds[k]? = some kd) (he : elem G σ' kd k = e') (ho : ∀ (k' : Nat) (kd' : Kd), k' ≠ k → elem G σ' kd' k' = elem G σ kd' k') : (world G kds σ).set k (gB G + k, e') = world G kds σ' := by
  have hk : k < kds.length := (List.getElem?_eq_some_iff.mp h).1
  apply List.ext_getElem?
  intro i
  by_cases hik : k = i
  · subst hik
    rw [List.getElem?_set_self (by rw [w_len]; exact hk), w_get h, he]
  · rw [List.getElem?_set_ne hik]
    by_cases hi : i < kds.length
    · rw [w_get (List.getElem?_eq_getElem hi), w_get (List.getElem?_eq_getElem hi), ho i _ (Ne.symm hik)]
    · rw [List.getElem?_eq_none (by rw [w_len]; omega), List.getElem?_eq_none (by rw [w_len]; omega)]
theorem w_push {G : GT} {kds : List Kd} {σ σ' : Hp} {kd : Kd} {e' : va_E} (he : elem G σ' kd kds.length = e') (ho : ∀ (k' : Nat) (kd' : Kd), k' ≠ kds.length → elem G σ' kd' k' = elem G σ kd' k') : world G kds σ ++ [(gB G + kds.length, e')] = world G (kds ++ [kd]) σ' := by
  apply List.ext_getElem?
  intro i
  by_cases hi : i < kds.length
  · have h1 : (kds ++ [kd])[i]? = some kds[i] := by rw [List.getElem?_append_left hi]; exact List.getElem?_eq_getElem hi
    rw [List.getElem?_append_left (by rw [w_len]; exact hi), w_get (List.getElem?_eq_getElem hi), w_get h1, ho i _ (by omega)]
  · rw [List.getElem?_append_right (by rw [w_len]; omega), w_len]
    by_cases hi2 : i = kds.length
    · subst hi2
      have h1 : (kds ++ [kd])[kds.length]? = some kd := by simp
      rw [w_get h1, he]
      simp
    · rw [List.getElem?_eq_none (by simp; omega), List.getElem?_eq_none (by rw [w_len]; simp; omega)]
theorem el_ne {G : GT} {σ : Hp} {k j : Nat} {x : Int32} (k' : Nat) (kd : Kd) (h : k' ≠ k) : elem G (si σ k j x) kd k' = elem G σ kd k' := by
  have e : gi (si σ k j x) k' = gi σ k' := by funext b; simp [gi, si, h]
  have e2 : gr (si σ k j x) = gr σ := rfl
  have e3 : gl (si σ k j x) = gl σ := rfl
  unfold elem fval
  rw [e2, e3]
  simp only [e]
theorem el_neL {G : GT} {σ : Hp} {k j : Nat} {x : Int64} (k' : Nat) (kd : Kd) (h : k' ≠ k) : elem G (sl σ k j x) kd k' = elem G σ kd k' := by
  have e : gl (sl σ k j x) k' = gl σ k' := by funext b; simp [gl, sl, h]
  have e2 : gr (sl σ k j x) = gr σ := rfl
  have e3 : gi (sl σ k j x) = gi σ := rfl
  unfold elem fval
  rw [e2, e3]
  simp only [e]
theorem el_neR {G : GT} {σ : Hp} {k j : Nat} {x : Option Nat} (k' : Nat) (kd : Kd) (h : k' ≠ k) : elem G (sr σ k j x) kd k' = elem G σ kd k' := by
  have e : gr (sr σ k j x) k' = gr σ k' := by funext b; simp [gr, sr, h]
  have e2 : gl (sr σ k j x) = gl σ := rfl
  have e3 : gi (sr σ k j x) = gi σ := rfl
  unfold elem fval
  rw [e2, e3]
  simp only [e]
def tysG (G : GT) : List (ClassId × FieldType) := [(gC G 20, .int), (gC G 21, .boolean), (gC G 22, .long), (gC G 23, .object "GuessFair$Envelope"), (gC G 24, .array .int), (gC G 25, .array .long)]
def strL : List Nat := [5, 5, 4, 6, 3]
def strB : List (List Int32) := [[98, 97, 115, 101, 32], [109, 111, 114, 101, 32], [116, 97, 120, 32], [101, 107, 115, 119, 99, 100], [60, 61, 62]]
def strX : List (Nat × String) := [(43, "base "), (54, "more "), (56, "tax "), (77, "ekswcd"), (85, "<=>")]
def abvT : List Int32 := [-1, 0, 0, 0, 1, 2, 3]
def bdsT : List Int32 := [10, 11, 12, 0, 20, 0, 30, 0, 0, 0, 0, 40, 50, 51, 0, 0, 0, 60, 71, 70, 0]
def nestW : List Cond := [.fieldLinkNest "GuessFair$Acts" 49 "GuessFair" "ABOVE" "[I" "GuessFair", .methodLinkNest "GuessFair$Fair" 27 ⟨"GuessFair$Rows", "<init>", "()V"⟩ "GuessFair", .methodLinkNest "GuessFair" 23 ⟨"GuessFair$Laws", "<init>", "()V"⟩ "GuessFair", .methodLinkNest "GuessFair" 48 ⟨"GuessFair$Acts", "<init>", "()V"⟩ "GuessFair", .methodLinkNest "GuessFair$Fair" 84 ⟨"GuessFair", "hasBit", "(II)Z"⟩ "GuessFair", .methodLinkNest "GuessFair$Payer" 77 ⟨"GuessFair", "hasBit", "(II)Z"⟩ "GuessFair", .methodLinkNest "GuessFair$Laws" 57 ⟨"GuessFair", "hasBit", "(II)Z"⟩ "GuessFair", .methodLinkNest "GuessFair$Stakes" 47 ⟨"GuessFair", "hasBit", "(II)Z"⟩ "GuessFair"]
/-- what is known of the state from outside the world: the classes, the script, the static tables, the texts -/
def KnS (G : GT) (U : State) (H : Heap) : Prop := (va_X (gO G 0) (gL G) (gX G) U H ∧ gO G 0 < gB G) ∧
  (va_Z "GuessFair" "ABOVE" "[I" (.ref (gO G 1)) (gA G) U H ∧ va_T .int (gO G 1) 7 (fun j => .int (abvT.getD j 0)) (gA G) U H) ∧
  (va_Z "GuessFair$Acts" "BODIES" "[I" (.ref (gO G 2)) (gA G) U H ∧ va_T .int (gO G 2) 21 (fun j => .int (bdsT.getD j 0)) (gA G) U H) ∧
  vk_S 5 strL strB (fun i => gO G (10 + i)) (fun i => gO G (20 + i)) (gA G) U H ∧
  va_Z "java/lang/String" "COMPACT_STRINGS" "Z" (.int 1) (gA G) U H ∧ (va_Z "jdk/internal/util/Preconditions" "SIOOBE_FORMATTER" "Ljava/util/function/BiFunction;" .null (gA G) U H ∨ va_Z "jdk/internal/util/Preconditions" "SIOOBE_FORMATTER" "Ljava/util/function/BiFunction;" (.ref (gO G 30)) (gA G) U H)
def va_AOA (ty : FieldType) (U : State) : Prop := (Cond.arrayOver (.array ty)).before #[] U = true
theorem va_AOA.use {ty : FieldType} {A : Array Value} {U : State} (h : va_AOA ty U) : (Cond.arrayOver (.array ty)).before A U = true := h
theorem va_AOA.moved {ty : FieldType} {u U : State} (hvm : u.vm.Alike U.vm) (h : va_AOA ty u) : va_AOA ty U := arrayOver_alikeB hvm h
def KnT (G : GT) (U : State) : Prop := va_K (gD G) cls (tysG G) U ∧ (∀ i : Nat, i < 5 → vk_R "GuessFair$LawReader" (strX.getD i (0, "")).1 (strX.getD i (0, "")).2 (gO G (10 + i)) U) ∧ (∀ w ∈ nestW, va_Nw w U) ∧ va_AO "GuessFair$Envelope" U ∧ va_AOA .int U ∧ va_AOA .long U
def Kn (G : GT) (U : State) : Prop := KnT G U ∧ KnS G U U.heap
theorem kn_move {G : GT} {s U : State} (h : Kn G s) (hW : s.WarmedH U.vm) (hh : ∀ q : Nat, q < gB G → U.heap[q]? = s.heap[q]?) : Kn G U := by
  obtain ⟨⟨h1, h2, h3, h4, h4a, h4b⟩, ⟨h5, h6⟩, ⟨h7, h8⟩, ⟨h9, h10⟩, h11, h12, h13⟩ := h
  have hk : ∀ a : Nat, a < s.heap.size → ¬ gA G a → U.heap[a]? = s.heap[a]? := fun a _ ha => hh a (Nat.not_le.mp ha)
  have hA := hW.alike
  refine ⟨⟨h1.moved hA, fun i hi => (h2 i hi).warm hW, ?_, h4.moved hA, h4a.moved hA, h4b.moved hA⟩, ⟨va_X.kept (va_X.moved hA h5) (hh _ h6), h6⟩, ⟨(va_Z.moved hA h7).kept hk, (va_T.moved hA h8).kept hk⟩, ⟨(va_Z.moved hA h9).kept hk, (va_T.moved hA h10).kept hk⟩, (vk_S.moved hA h11).kept hk, (va_Z.moved hA h12).kept hk, h13.imp (fun h => (va_Z.moved hA h).kept hk) (fun h => (va_Z.moved hA h).kept hk)⟩
  intro w hw
  have h9 := h3 w hw
  simp only [nestW, List.mem_cons, List.not_mem_nil, or_false] at hw
  rcases hw with rfl | rfl | rfl | rfl | rfl | rfl | rfl | rfl
  · exact va_Nw.warmF hW h9
  all_goals exact va_Nw.warmM hW h9
theorem kn_call {G : GT} {U : State} (h : Kn G U) (g : JFrame) (mk : MethodId) (a : Array Value) : Kn G (U.calling g mk a) := kn_move h (State.WarmedH.refl U) (fun _ _ => rfl)
theorem good_g : GoodIn lw_g lw_g := fun w hw => ⟨hw, good_of_word (List.mem_filter.mp hw).2⟩
def wsM (me : MT) : List Cond := .code me.1 me.2.1 me.2.2.1 me.2.2.2 :: lw_g
def rmd (d dn ds : Nat) : Room := { frames := d, cells := dn, slots := ds, locals := 64 * d }
def Cx (G : GT) (me : MT) (R : Room) (nE : Nat) (p : Program) (s : State) (m : MethodId) (args : Array Value) (meth : Method) (c : Code) : Prop :=
  p.tables.exec = Jvm.exec ∧ c.code = me.2.1 ∧ meth.sig.returnType = me.2.2.2 ∧ c.maxLocals = me.2.2.1 ∧ s.vm.findClass me.1.cls = some m.cls ∧ (∀ w ∈ lw_g, w.before args s = true) ∧ meth.locks = false ∧ meth.name = me.1.name ∧ Kn G s ∧ gB G ≤ s.heap.size ∧ gB G + nE ≤ s.heap.size + R.cells
/-- a return of v -/
def Ret (me : MT) (pc : Nat) (v : Option Value) (stk : List Value) : Prop :=
  (decode me.2.1 pc = .ok (.return_, 1) ∧ me.2.2.2 = none ∧ v = none ∧ stk = []) ∨
  (∃ (x : Int32) (ty : FieldType), decode me.2.1 pc = .ok (.ireturn, 1) ∧ me.2.2.2 = some ty ∧ narrow ty (.int x) = .int x ∧ v = some (.int x) ∧ stk = [.int x]) ∨
  (∃ x : Int64, decode me.2.1 pc = .ok (.lreturn, 1) ∧ me.2.2.2 = some .long ∧ v = some (.long x) ∧ stk = [.long x]) ∨
  (∃ (x : Value) (C : String), decode me.2.1 pc = .ok (.areturn, 1) ∧ me.2.2.2 = some (.object C) ∧ (x = .null ∨ ∃ k, x = .ref k) ∧ v = some x ∧ stk = [x])
def loG (G : GT) (loc : List (Nat × Value)) : List (Nat × Value) := loc.map (fun q => (q.1, av G q.2))
def RH (l : Launch) (G : GT) (me : MT) (R : Room) (nE : Nat) (Post : Option Value → List Kd → Hp → Prop) (p : Program) (e : Env) (s : State) (m : MethodId) (args : Array Value) (below : List Frame) (meth : Method) (c : Code) (Q : State → Prop) : Prop :=
  ∀ (v : Option Value) (kds : List Kd) (σ : Hp) (H : Heap) (locs : List Loc) (cells slots pc : Nat) (ls : Array Slot) (stk : List Value), Post v kds σ → kds.length = nE → Ret me pc v stk → va_P (gD G) cls (world G kds σ) H → va_S (gA G) s.heap H locs → s.heap.size + cells = gB G + nE → slots ≤ R.slots →
    W p l e R s m args below meth c H locs cells slots Q (F0 m pc ls (stk.map (av G)))
def V (l : Launch) (G : GT) (me : MT) (R : Room) (nE bs pc : Nat) (loc : List (Nat × Value)) (stk : List Value) (kds : List Kd) (σ : Hp) (Post : Option Value → List Kd → Hp → Prop) : Prop :=
  ∀ (p : Program) (e : Env) (s : State) (m : MethodId) (args : Array Value) (below : List Frame) (meth : Method) (c : Code) (H : Heap) (locs : List Loc) (cells slots : Nat) (Q : State → Prop) (ls : Array Slot), Cx G me R nE p s m args meth c → lv_has ls me.2.2.1 (loG G loc) → va_P (gD G) cls (world G kds σ) H → va_S (gA G) s.heap H locs →
    s.heap.size + cells = gB G + kds.length → slots + bs ≤ R.slots → RH l G me R nE Post p e s m args below meth c Q →
    W p l e R s m args below meth c H locs cells slots Q (F0 m pc ls (stk.map (av G)))
def lk : List (Nat × Value) → Nat → Option Value
  | [], _ => none
  | (k, v) :: l, n => bif Nat.beq k n then some v else lk l n
theorem lk_mem : ∀ {l : List (Nat × Value)} {n : Nat} {v : Value}, lk l n = some v → (n, v) ∈ l
  | [], _, _, h => by simp [lk] at h
  | (k, w) :: l, n, v, h => by
    unfold lk at h
    cases hb : Nat.beq k n with
    | true =>
      rw [hb] at h
      have e := Nat.eq_of_beq_eq_true hb
      cases h
      subst e
      exact List.mem_cons_self
    | false =>
      rw [hb] at h
      exact List.mem_cons_of_mem _ (lk_mem h)
theorem lo_at {G : GT} {ls : Array Slot} {nL : Nat} {loc : List (Nat × Value)} {n : Nat} {v : Value} (h : lv_has ls nL (loG G loc)) (hk : lk loc n = some v) : ls[n]? = some (.val (av G v)) := h.2.2 (n, av G v) (List.mem_map.mpr ⟨(n, v), lk_mem hk, rfl⟩)
theorem av_cat (G : GT) (v : Value) : (av G v).category = v.category := by cases v <;> rfl
def put1 (i : Nat) (v : Value) (loc : List (Nat × Value)) : List (Nat × Value) := (i, v) :: loc.filter (fun q => !(q.1 == i) && !(q.1 + 1 == i && q.2.category == 2))
def put2 (i : Nat) (v : Value) (loc : List (Nat × Value)) : List (Nat × Value) := (i, v) :: loc.filter (fun q => !(q.1 == i) && (!(q.1 == i + 1) && !(q.1 + 1 == i && q.2.category == 2)))
theorem lo_put1 {G : GT} {i : Nat} {v : Value} {loc loc' : List (Nat × Value)} (h : put1 i v loc = loc') : (i, av G v) :: (loG G loc).filter (fun q => !(q.1 == i) && !(q.1 + 1 == i && q.2.category == 2)) = loG G loc' := by
  subst h
  simp only [put1, loG, List.map_cons, List.filter_map, Function.comp_def, av_cat]
theorem lo_put2 {G : GT} {i : Nat} {v : Value} {loc loc' : List (Nat × Value)} (h : put2 i v loc = loc') : (i, av G v) :: (loG G loc).filter (fun q => !(q.1 == i) && (!(q.1 == i + 1) && !(q.1 + 1 == i && q.2.category == 2))) = loG G loc' := by
  subst h
  simp only [put2, loG, List.map_cons, List.filter_map, Function.comp_def, av_cat]
theorem av_cats (G : GT) (l : List Value) : ((l.map (av G)).map fun v => v.category).sum = (l.map fun v => v.category).sum := by
  rw [List.map_map]
  congr 1
  exact List.map_congr_left (fun v _ => av_cat G v)
theorem w_size {G : GT} {kds : List Kd} {σ : Hp} {H : Heap} (hP : va_P (gD G) cls (world G kds σ) H) (h0 : gB G ≤ H.size) : gB G + kds.length ≤ H.size := by
  cases hk : kds.length with
  | zero => omega
  | succ n =>
    have h1 : kds[n]? = some kds[n] := List.getElem?_eq_getElem (by omega)
    have h2 := (hP n _ (w_get h1)).lt
    simp only at h2
    omega
section WSZ
variable {p : Program} {l : Launch} {e : Env} {R : Room} {s : State} {m : MethodId} {args : Array Value} {below : List Frame} {meth : Method} {c : Code} {H : Heap} {locs : List Loc} {cells slots : Nat} {Q : State → Prop}
theorem W.sz {g : JFrame} (k : H.size ≤ s.heap.size + cells → W p l e R s m args below meth c H locs cells slots Q g) : W p l e R s m args below meth c H locs cells slots Q g := by
  intro T hT X
  have h := X.heapSize
  rw [hT] at h
  exact k h T hT X
end WSZ
section VR
variable {l : Launch} {G : GT} {me : MT} {R : Room} {nE bs pc : Nat} {loc loc' : List (Nat × Value)} {stk : List Value} {kds : List Kd} {σ : Hp} {Post : Option Value → List Kd → Hp → Prop}
theorem V_iconst {n : Int} {v : Int32} (hd : decode me.2.1 pc = .ok (.iconst n, 1)) (hv : Int32.ofInt n = v) (k : V l G me R nE bs (pc + 1) loc (.int v :: stk) kds σ Post) : V l G me R nE bs pc loc (stk) kds σ Post := fun p e s m args below meth c H locs cells slots Q ls hC hl hP hS hc hs hret =>
  lv_iconst hC.1 hC.2.1 hd hv (k p e s m args below meth c H locs cells slots Q ls hC hl hP hS hc hs hret)
theorem V_bipush {n : Int} {v : Int32} (hd : decode me.2.1 pc = .ok (.bipush n, 2)) (hv : (Int8.ofInt n).toInt32 = v) (k : V l G me R nE bs (pc + 2) loc (.int v :: stk) kds σ Post) : V l G me R nE bs pc loc (stk) kds σ Post := fun p e s m args below meth c H locs cells slots Q ls hC hl hP hS hc hs hret =>
  lv_bipush hC.1 hC.2.1 hd hv (k p e s m args below meth c H locs cells slots Q ls hC hl hP hS hc hs hret)
theorem V_sipush {n : Int} {v : Int32} (hd : decode me.2.1 pc = .ok (.sipush n, 3)) (hv : (Int16.ofInt n).toInt32 = v) (k : V l G me R nE bs (pc + 3) loc (.int v :: stk) kds σ Post) : V l G me R nE bs pc loc (stk) kds σ Post := fun p e s m args below meth c H locs cells slots Q ls hC hl hP hS hc hs hret =>
  lv_sipush hC.1 hC.2.1 hd hv (k p e s m args below meth c H locs cells slots Q ls hC hl hP hS hc hs hret)
theorem V_lconst {n : Fin 2} {v : Int64} (hd : decode me.2.1 pc = .ok (.lconst n, 1)) (hv : Int64.ofNat (n : Nat) = v) (k : V l G me R nE bs (pc + 1) loc (.long v :: stk) kds σ Post) : V l G me R nE bs pc loc (stk) kds σ Post := fun p e s m args below meth c H locs cells slots Q ls hC hl hP hS hc hs hret =>
  lv_lconst hC.1 hC.2.1 hd hv (k p e s m args below meth c H locs cells slots Q ls hC hl hP hS hc hs hret)
theorem V_null (hd : decode me.2.1 pc = .ok (.aconst_null, 1)) (k : V l G me R nE bs (pc + 1) loc (.null :: stk) kds σ Post) : V l G me R nE bs pc loc (stk) kds σ Post := fun p e s m args below meth c H locs cells slots Q ls hC hl hP hS hc hs hret =>
  lv_null hC.1 hC.2.1 hd (k p e s m args below meth c H locs cells slots Q ls hC hl hP hS hc hs hret)
theorem V_iadd {x y : Int32} (hd : decode me.2.1 pc = .ok (.iadd, 1)) (k : V l G me R nE bs (pc + 1) loc (.int (x + y) :: stk) kds σ Post) : V l G me R nE bs pc loc (.int y :: .int x :: stk) kds σ Post := fun p e s m args below meth c H locs cells slots Q ls hC hl hP hS hc hs hret =>
  lv_iadd hC.1 hC.2.1 hd (k p e s m args below meth c H locs cells slots Q ls hC hl hP hS hc hs hret)
theorem V_isub {x y : Int32} (hd : decode me.2.1 pc = .ok (.isub, 1)) (k : V l G me R nE bs (pc + 1) loc (.int (x - y) :: stk) kds σ Post) : V l G me R nE bs pc loc (.int y :: .int x :: stk) kds σ Post := fun p e s m args below meth c H locs cells slots Q ls hC hl hP hS hc hs hret =>
  lv_isub hC.1 hC.2.1 hd (k p e s m args below meth c H locs cells slots Q ls hC hl hP hS hc hs hret)
theorem V_imul {x y : Int32} (hd : decode me.2.1 pc = .ok (.imul, 1)) (k : V l G me R nE bs (pc + 1) loc (.int (x * y) :: stk) kds σ Post) : V l G me R nE bs pc loc (.int y :: .int x :: stk) kds σ Post := fun p e s m args below meth c H locs cells slots Q ls hC hl hP hS hc hs hret =>
  lv_imul hC.1 hC.2.1 hd (k p e s m args below meth c H locs cells slots Q ls hC hl hP hS hc hs hret)
theorem V_iand {x y : Int32} (hd : decode me.2.1 pc = .ok (.iand, 1)) (k : V l G me R nE bs (pc + 1) loc (.int (x &&& y) :: stk) kds σ Post) : V l G me R nE bs pc loc (.int y :: .int x :: stk) kds σ Post := fun p e s m args below meth c H locs cells slots Q ls hC hl hP hS hc hs hret =>
  lv_iand hC.1 hC.2.1 hd (k p e s m args below meth c H locs cells slots Q ls hC hl hP hS hc hs hret)
theorem V_ior {x y : Int32} (hd : decode me.2.1 pc = .ok (.ior, 1)) (k : V l G me R nE bs (pc + 1) loc (.int (x ||| y) :: stk) kds σ Post) : V l G me R nE bs pc loc (.int y :: .int x :: stk) kds σ Post := fun p e s m args below meth c H locs cells slots Q ls hC hl hP hS hc hs hret =>
  lv_ior hC.1 hC.2.1 hd (k p e s m args below meth c H locs cells slots Q ls hC hl hP hS hc hs hret)
theorem V_ixor {x y : Int32} (hd : decode me.2.1 pc = .ok (.ixor, 1)) (k : V l G me R nE bs (pc + 1) loc (.int (x ^^^ y) :: stk) kds σ Post) : V l G me R nE bs pc loc (.int y :: .int x :: stk) kds σ Post := fun p e s m args below meth c H locs cells slots Q ls hC hl hP hS hc hs hret =>
  lv_ixor hC.1 hC.2.1 hd (k p e s m args below meth c H locs cells slots Q ls hC hl hP hS hc hs hret)
theorem V_ishl {x y : Int32} (hd : decode me.2.1 pc = .ok (.ishl, 1)) (k : V l G me R nE bs (pc + 1) loc (.int (x <<< (y &&& 31)) :: stk) kds σ Post) : V l G me R nE bs pc loc (.int y :: .int x :: stk) kds σ Post := fun p e s m args below meth c H locs cells slots Q ls hC hl hP hS hc hs hret =>
  lv_ishl hC.1 hC.2.1 hd (k p e s m args below meth c H locs cells slots Q ls hC hl hP hS hc hs hret)
theorem V_ishr {x y : Int32} (hd : decode me.2.1 pc = .ok (.ishr, 1)) (k : V l G me R nE bs (pc + 1) loc (.int (x >>> (y &&& 31)) :: stk) kds σ Post) : V l G me R nE bs pc loc (.int y :: .int x :: stk) kds σ Post := fun p e s m args below meth c H locs cells slots Q ls hC hl hP hS hc hs hret =>
  lv_ishr hC.1 hC.2.1 hd (k p e s m args below meth c H locs cells slots Q ls hC hl hP hS hc hs hret)
theorem V_iushr {x y : Int32} (hd : decode me.2.1 pc = .ok (.iushr, 1)) (k : V l G me R nE bs (pc + 1) loc (.int ((x.toUInt32 >>> (y.toUInt32 &&& Int32.toUInt32 31)).toInt32) :: stk) kds σ Post) : V l G me R nE bs pc loc (.int y :: .int x :: stk) kds σ Post := fun p e s m args below meth c H locs cells slots Q ls hC hl hP hS hc hs hret =>
  lv_iushr hC.1 hC.2.1 hd rfl (k p e s m args below meth c H locs cells slots Q ls hC hl hP hS hc hs hret)
theorem V_idiv {x y : Int32} (hd : decode me.2.1 pc = .ok (.idiv, 1)) (hne : ¬ y = 0) (k : V l G me R nE bs (pc + 1) loc (.int (x / y) :: stk) kds σ Post) : V l G me R nE bs pc loc (.int y :: .int x :: stk) kds σ Post := fun p e s m args below meth c H locs cells slots Q ls hC hl hP hS hc hs hret =>
  lv_idiv hC.1 hC.2.1 hd hne (k p e s m args below meth c H locs cells slots Q ls hC hl hP hS hc hs hret)
theorem V_irem {x y : Int32} (hd : decode me.2.1 pc = .ok (.irem, 1)) (hne : ¬ y = 0) (k : V l G me R nE bs (pc + 1) loc (.int (x - x / y * y) :: stk) kds σ Post) : V l G me R nE bs pc loc (.int y :: .int x :: stk) kds σ Post := fun p e s m args below meth c H locs cells slots Q ls hC hl hP hS hc hs hret =>
  lv_irem hC.1 hC.2.1 hd hne (k p e s m args below meth c H locs cells slots Q ls hC hl hP hS hc hs hret)
theorem V_ineg {x : Int32} (hd : decode me.2.1 pc = .ok (.ineg, 1)) (k : V l G me R nE bs (pc + 1) loc (.int (-x) :: stk) kds σ Post) : V l G me R nE bs pc loc (.int x :: stk) kds σ Post := fun p e s m args below meth c H locs cells slots Q ls hC hl hP hS hc hs hret =>
  lv_ineg hC.1 hC.2.1 hd (k p e s m args below meth c H locs cells slots Q ls hC hl hP hS hc hs hret)
theorem V_land {x y : Int64} (hd : decode me.2.1 pc = .ok (.land, 1)) (k : V l G me R nE bs (pc + 1) loc (.long (x &&& y) :: stk) kds σ Post) : V l G me R nE bs pc loc (.long y :: .long x :: stk) kds σ Post := fun p e s m args below meth c H locs cells slots Q ls hC hl hP hS hc hs hret =>
  lv_land hC.1 hC.2.1 hd (k p e s m args below meth c H locs cells slots Q ls hC hl hP hS hc hs hret)
theorem V_lor {x y : Int64} (hd : decode me.2.1 pc = .ok (.lor, 1)) (k : V l G me R nE bs (pc + 1) loc (.long (x ||| y) :: stk) kds σ Post) : V l G me R nE bs pc loc (.long y :: .long x :: stk) kds σ Post := fun p e s m args below meth c H locs cells slots Q ls hC hl hP hS hc hs hret =>
  lv_lor hC.1 hC.2.1 hd (k p e s m args below meth c H locs cells slots Q ls hC hl hP hS hc hs hret)
theorem V_lshl {x : Int64} {y : Int32} (hd : decode me.2.1 pc = .ok (.lshl, 1)) (k : V l G me R nE bs (pc + 1) loc (.long (x <<< (y.toInt64 &&& 63)) :: stk) kds σ Post) : V l G me R nE bs pc loc (.int y :: .long x :: stk) kds σ Post := fun p e s m args below meth c H locs cells slots Q ls hC hl hP hS hc hs hret =>
  lv_lshl hC.1 hC.2.1 hd rfl (k p e s m args below meth c H locs cells slots Q ls hC hl hP hS hc hs hret)
theorem V_lcmp {x y : Int64} (hd : decode me.2.1 pc = .ok (.lcmp, 1)) (k : V l G me R nE bs (pc + 1) loc (.int (lg_cmp x y) :: stk) kds σ Post) : V l G me R nE bs pc loc (.long y :: .long x :: stk) kds σ Post := fun p e s m args below meth c H locs cells slots Q ls hC hl hP hS hc hs hret =>
  W.lcmp hC.1 hC.2.1 hd (k p e s m args below meth c H locs cells slots Q ls hC hl hP hS hc hs hret)
theorem V_i2l {x : Int32} (hd : decode me.2.1 pc = .ok (.i2l, 1)) (k : V l G me R nE bs (pc + 1) loc (.long x.toInt64 :: stk) kds σ Post) : V l G me R nE bs pc loc (.int x :: stk) kds σ Post := fun p e s m args below meth c H locs cells slots Q ls hC hl hP hS hc hs hret =>
  lv_i2l hC.1 hC.2.1 hd rfl (k p e s m args below meth c H locs cells slots Q ls hC hl hP hS hc hs hret)
theorem V_l2i {x : Int64} (hd : decode me.2.1 pc = .ok (.l2i, 1)) (k : V l G me R nE bs (pc + 1) loc (.int x.toInt32 :: stk) kds σ Post) : V l G me R nE bs pc loc (.long x :: stk) kds σ Post := fun p e s m args below meth c H locs cells slots Q ls hC hl hP hS hc hs hret =>
  lv_l2i hC.1 hC.2.1 hd rfl (k p e s m args below meth c H locs cells slots Q ls hC hl hP hS hc hs hret)
theorem V_i2b {x : Int32} (hd : decode me.2.1 pc = .ok (.i2b, 1)) (k : V l G me R nE bs (pc + 1) loc (.int x.toInt8.toInt32 :: stk) kds σ Post) : V l G me R nE bs pc loc (.int x :: stk) kds σ Post := fun p e s m args below meth c H locs cells slots Q ls hC hl hP hS hc hs hret =>
  lv_i2b hC.1 hC.2.1 hd rfl (k p e s m args below meth c H locs cells slots Q ls hC hl hP hS hc hs hret)
theorem V_i2s {x : Int32} (hd : decode me.2.1 pc = .ok (.i2s, 1)) (k : V l G me R nE bs (pc + 1) loc (.int x.toInt16.toInt32 :: stk) kds σ Post) : V l G me R nE bs pc loc (.int x :: stk) kds σ Post := fun p e s m args below meth c H locs cells slots Q ls hC hl hP hS hc hs hret =>
  lv_i2s hC.1 hC.2.1 hd rfl (k p e s m args below meth c H locs cells slots Q ls hC hl hP hS hc hs hret)
theorem V_i2c {x : Int32} (hd : decode me.2.1 pc = .ok (.i2c, 1)) (k : V l G me R nE bs (pc + 1) loc (.int (x.toUInt32 % 65536).toInt32 :: stk) kds σ Post) : V l G me R nE bs pc loc (.int x :: stk) kds σ Post := fun p e s m args below meth c H locs cells slots Q ls hC hl hP hS hc hs hret =>
  lv_i2c hC.1 hC.2.1 hd rfl (k p e s m args below meth c H locs cells slots Q ls hC hl hP hS hc hs hret)
theorem V_dup {va : Value} (hd : decode me.2.1 pc = .ok (.dup, 1)) (hva : va.category = 1) (k : V l G me R nE bs (pc + 1) loc (va :: va :: stk) kds σ Post) : V l G me R nE bs pc loc (va :: stk) kds σ Post := fun p e s m args below meth c H locs cells slots Q ls hC hl hP hS hc hs hret =>
  lv_dup hC.1 hC.2.1 hd ((av_cat G va).trans hva) (k p e s m args below meth c H locs cells slots Q ls hC hl hP hS hc hs hret)
theorem V_pop {va : Value} (hd : decode me.2.1 pc = .ok (.pop, 1)) (hva : va.category = 1) (k : V l G me R nE bs (pc + 1) loc (stk) kds σ Post) : V l G me R nE bs pc loc (va :: stk) kds σ Post := fun p e s m args below meth c H locs cells slots Q ls hC hl hP hS hc hs hret =>
  lv_pop hC.1 hC.2.1 hd ((av_cat G va).trans hva) (k p e s m args below meth c H locs cells slots Q ls hC hl hP hS hc hs hret)
theorem V_iload_n {k : Fin 4} {x : Int32} (hd : decode me.2.1 pc = .ok (.iload_n k, 1)) (hk : lk loc (k : Nat) = some (.int x)) (k : V l G me R nE bs (pc + 1) loc (.int x :: stk) kds σ Post) : V l G me R nE bs pc loc (stk) kds σ Post := fun p e s m args below meth c H locs cells slots Q ls hC hl hP hS hc hs hret =>
  lv_iload_n hC.1 hC.2.1 hd rfl (lo_at hl hk) (k p e s m args below meth c H locs cells slots Q ls hC hl hP hS hc hs hret)
theorem V_iload {i : Nat} {x : Int32} (hd : decode me.2.1 pc = .ok (.iload i, 2)) (hk : lk loc i = some (.int x)) (k : V l G me R nE bs (pc + 2) loc (.int x :: stk) kds σ Post) : V l G me R nE bs pc loc (stk) kds σ Post := fun p e s m args below meth c H locs cells slots Q ls hC hl hP hS hc hs hret =>
  lv_iload hC.1 hC.2.1 hd (lo_at hl hk) (k p e s m args below meth c H locs cells slots Q ls hC hl hP hS hc hs hret)
theorem V_lload_n {k : Fin 4} {x : Int64} (hd : decode me.2.1 pc = .ok (.lload_n k, 1)) (hk : lk loc (k : Nat) = some (.long x)) (k : V l G me R nE bs (pc + 1) loc (.long x :: stk) kds σ Post) : V l G me R nE bs pc loc (stk) kds σ Post := fun p e s m args below meth c H locs cells slots Q ls hC hl hP hS hc hs hret =>
  lv_lload_n hC.1 hC.2.1 hd rfl (lo_at hl hk) (k p e s m args below meth c H locs cells slots Q ls hC hl hP hS hc hs hret)
theorem V_lload {i : Nat} {x : Int64} (hd : decode me.2.1 pc = .ok (.lload i, 2)) (hk : lk loc i = some (.long x)) (k : V l G me R nE bs (pc + 2) loc (.long x :: stk) kds σ Post) : V l G me R nE bs pc loc (stk) kds σ Post := fun p e s m args below meth c H locs cells slots Q ls hC hl hP hS hc hs hret =>
  lv_lload hC.1 hC.2.1 hd (lo_at hl hk) (k p e s m args below meth c H locs cells slots Q ls hC hl hP hS hc hs hret)
theorem V_aload_n {k : Fin 4} {x : Nat} (hd : decode me.2.1 pc = .ok (.aload_n k, 1)) (hk : lk loc (k : Nat) = some (.ref x)) (k : V l G me R nE bs (pc + 1) loc (.ref x :: stk) kds σ Post) : V l G me R nE bs pc loc (stk) kds σ Post := fun p e s m args below meth c H locs cells slots Q ls hC hl hP hS hc hs hret =>
  lv_aload_n hC.1 hC.2.1 hd rfl (lo_at hl hk) (k p e s m args below meth c H locs cells slots Q ls hC hl hP hS hc hs hret)
theorem V_aload {i : Nat} {x : Nat} (hd : decode me.2.1 pc = .ok (.aload i, 2)) (hk : lk loc i = some (.ref x)) (k : V l G me R nE bs (pc + 2) loc (.ref x :: stk) kds σ Post) : V l G me R nE bs pc loc (stk) kds σ Post := fun p e s m args below meth c H locs cells slots Q ls hC hl hP hS hc hs hret =>
  lv_aload hC.1 hC.2.1 hd (lo_at hl hk) (k p e s m args below meth c H locs cells slots Q ls hC hl hP hS hc hs hret)
theorem V_aload_nO {k : Fin 4} {x : UInt32} (hd : decode me.2.1 pc = .ok (.aload_n k, 1)) (hk : lk loc (k : Nat) = some (.float x)) (k : V l G me R nE bs (pc + 1) loc (.float x :: stk) kds σ Post) : V l G me R nE bs pc loc (stk) kds σ Post := fun p e s m args below meth c H locs cells slots Q ls hC hl hP hS hc hs hret =>
  lv_aload_n hC.1 hC.2.1 hd rfl (lo_at hl hk) (k p e s m args below meth c H locs cells slots Q ls hC hl hP hS hc hs hret)
theorem V_istore_n {k : Fin 4} {x : Int32} (hd : decode me.2.1 pc = .ok (.istore_n k, 1)) (hn : (k : Nat) < me.2.2.1) (hp : put1 (k : Nat) (.int x) loc = loc') (k2 : V l G me R nE bs (pc + 1) loc' stk kds σ Post) : V l G me R nE bs pc loc (.int x :: stk) kds σ Post := fun p e s m args below meth c H locs cells slots Q ls hC hl hP hS hc hs hret =>
  lv_istore_n hC.1 hC.2.1 hd rfl hl hn (lo_put1 (G := G) hp) (fun ls hl => k2 p e s m args below meth c H locs cells slots Q ls hC hl hP hS hc hs hret)
theorem V_istore {i : Nat} {x : Int32} (hd : decode me.2.1 pc = .ok (.istore i, 2)) (hn : i < me.2.2.1) (hp : put1 i (.int x) loc = loc') (k2 : V l G me R nE bs (pc + 2) loc' stk kds σ Post) : V l G me R nE bs pc loc (.int x :: stk) kds σ Post := fun p e s m args below meth c H locs cells slots Q ls hC hl hP hS hc hs hret =>
  lv_istore hC.1 hC.2.1 hd hl hn (lo_put1 (G := G) hp) (fun ls hl => k2 p e s m args below meth c H locs cells slots Q ls hC hl hP hS hc hs hret)
theorem V_astore_n {k : Fin 4} {x : Nat} (hd : decode me.2.1 pc = .ok (.astore_n k, 1)) (hn : (k : Nat) < me.2.2.1) (hp : put1 (k : Nat) (.ref x) loc = loc') (k2 : V l G me R nE bs (pc + 1) loc' stk kds σ Post) : V l G me R nE bs pc loc (.ref x :: stk) kds σ Post := fun p e s m args below meth c H locs cells slots Q ls hC hl hP hS hc hs hret =>
  lv_astore_n hC.1 hC.2.1 hd rfl hl hn (lo_put1 (G := G) hp) (fun ls hl => k2 p e s m args below meth c H locs cells slots Q ls hC hl hP hS hc hs hret)
theorem V_astore {i : Nat} {x : Nat} (hd : decode me.2.1 pc = .ok (.astore i, 2)) (hn : i < me.2.2.1) (hp : put1 i (.ref x) loc = loc') (k2 : V l G me R nE bs (pc + 2) loc' stk kds σ Post) : V l G me R nE bs pc loc (.ref x :: stk) kds σ Post := fun p e s m args below meth c H locs cells slots Q ls hC hl hP hS hc hs hret =>
  lv_astore hC.1 hC.2.1 hd hl hn (lo_put1 (G := G) hp) (fun ls hl => k2 p e s m args below meth c H locs cells slots Q ls hC hl hP hS hc hs hret)
theorem V_lstore_n {k : Fin 4} {x : Int64} (hd : decode me.2.1 pc = .ok (.lstore_n k, 1)) (hn : (k : Nat) + 1 < me.2.2.1) (hp : put2 (k : Nat) (.long x) loc = loc') (k2 : V l G me R nE bs (pc + 1) loc' stk kds σ Post) : V l G me R nE bs pc loc (.long x :: stk) kds σ Post := fun p e s m args below meth c H locs cells slots Q ls hC hl hP hS hc hs hret =>
  lv_lstore_n hC.1 hC.2.1 hd rfl hl hn (lo_put2 (G := G) hp) (fun ls hl => k2 p e s m args below meth c H locs cells slots Q ls hC hl hP hS hc hs hret)
theorem lo_ix : ∀ {loc : List (Nat × Value)} {n : Nat} {v : Value}, lk loc n = some v → ∃ j : Nat, loc[j]? = some (n, v) := fun h => List.getElem?_of_mem (lk_mem h)
theorem V_iinc {i : Nat} {n : Int} {x v : Int32} (hd : decode me.2.1 pc = .ok (.iinc i n, 3)) (hk : lk loc i = some (.int x)) (hv : x + Int32.ofInt n = v) (hn : i < me.2.2.1) (hp : put1 i (.int v) loc = loc') (k2 : V l G me R nE bs (pc + 3) loc' stk kds σ Post) : V l G me R nE bs pc loc stk kds σ Post := by
  intro p e s m args below meth c H locs cells slots Q ls hC hl hP hS hc hs hret
  obtain ⟨j, hj⟩ := lo_ix hk
  exact lv_iinc (k := j) (x := x) hC.1 hC.2.1 hd hl (by rw [loG, List.getElem?_map, hj]; rfl) hv hn (lo_put1 (G := G) hp) (fun ls hl => k2 p e s m args below meth c H locs cells slots Q ls hC hl hP hS hc hs hret)
theorem V_goto {off : Int} {tgt : Nat} (hd : decode me.2.1 pc = .ok (.goto off, 3)) (ht : (pc : Int) + off = (tgt : Int)) (k : V l G me R nE bs tgt loc stk kds σ Post) : V l G me R nE bs pc loc stk kds σ Post := fun p e s m args below meth c H locs cells slots Q ls hC hl hP hS hc hs hret =>
  lv_goto hC.1 hC.2.1 hd ht (k p e s m args below meth c H locs cells slots Q ls hC hl hP hS hc hs hret)
theorem V_if_eq {x : Int32} {off : Int} {tgt : Nat} (hd : decode me.2.1 pc = .ok (.ifCond .eq off, 3)) (ht : (pc : Int) + off = (tgt : Int)) (kt : x = 0 → V l G me R nE bs tgt loc stk kds σ Post) (kf : ¬ x = 0 → V l G me R nE bs (pc + 3) loc stk kds σ Post) : V l G me R nE bs pc loc (.int x :: stk) kds σ Post := fun p e s m args below meth c H locs cells slots Q ls hC hl hP hS hc hs hret =>
  lv_if_eq hC.1 hC.2.1 hd ht (fun h => kt h p e s m args below meth c H locs cells slots Q ls hC hl hP hS hc hs hret) (fun h => kf h p e s m args below meth c H locs cells slots Q ls hC hl hP hS hc hs hret)
theorem V_if_ne {x : Int32} {off : Int} {tgt : Nat} (hd : decode me.2.1 pc = .ok (.ifCond .ne off, 3)) (ht : (pc : Int) + off = (tgt : Int)) (kt : ¬ x = 0 → V l G me R nE bs tgt loc stk kds σ Post) (kf : x = 0 → V l G me R nE bs (pc + 3) loc stk kds σ Post) : V l G me R nE bs pc loc (.int x :: stk) kds σ Post := fun p e s m args below meth c H locs cells slots Q ls hC hl hP hS hc hs hret =>
  lv_if_ne hC.1 hC.2.1 hd ht (fun h => kt h p e s m args below meth c H locs cells slots Q ls hC hl hP hS hc hs hret) (fun h => kf h p e s m args below meth c H locs cells slots Q ls hC hl hP hS hc hs hret)
theorem V_if_lt {x : Int32} {off : Int} {tgt : Nat} (hd : decode me.2.1 pc = .ok (.ifCond .lt off, 3)) (ht : (pc : Int) + off = (tgt : Int)) (kt : x < 0 → V l G me R nE bs tgt loc stk kds σ Post) (kf : ¬ x < 0 → V l G me R nE bs (pc + 3) loc stk kds σ Post) : V l G me R nE bs pc loc (.int x :: stk) kds σ Post := fun p e s m args below meth c H locs cells slots Q ls hC hl hP hS hc hs hret =>
  lv_if_lt hC.1 hC.2.1 hd ht (fun h => kt h p e s m args below meth c H locs cells slots Q ls hC hl hP hS hc hs hret) (fun h => kf h p e s m args below meth c H locs cells slots Q ls hC hl hP hS hc hs hret)
theorem V_if_ge {x : Int32} {off : Int} {tgt : Nat} (hd : decode me.2.1 pc = .ok (.ifCond .ge off, 3)) (ht : (pc : Int) + off = (tgt : Int)) (kt : 0 ≤ x → V l G me R nE bs tgt loc stk kds σ Post) (kf : ¬ 0 ≤ x → V l G me R nE bs (pc + 3) loc stk kds σ Post) : V l G me R nE bs pc loc (.int x :: stk) kds σ Post := fun p e s m args below meth c H locs cells slots Q ls hC hl hP hS hc hs hret =>
  lv_if_ge hC.1 hC.2.1 hd ht (fun h => kt h p e s m args below meth c H locs cells slots Q ls hC hl hP hS hc hs hret) (fun h => kf h p e s m args below meth c H locs cells slots Q ls hC hl hP hS hc hs hret)
theorem V_if_gt {x : Int32} {off : Int} {tgt : Nat} (hd : decode me.2.1 pc = .ok (.ifCond .gt off, 3)) (ht : (pc : Int) + off = (tgt : Int)) (kt : 0 < x → V l G me R nE bs tgt loc stk kds σ Post) (kf : ¬ 0 < x → V l G me R nE bs (pc + 3) loc stk kds σ Post) : V l G me R nE bs pc loc (.int x :: stk) kds σ Post := fun p e s m args below meth c H locs cells slots Q ls hC hl hP hS hc hs hret =>
  lv_if_gt hC.1 hC.2.1 hd ht (fun h => kt h p e s m args below meth c H locs cells slots Q ls hC hl hP hS hc hs hret) (fun h => kf h p e s m args below meth c H locs cells slots Q ls hC hl hP hS hc hs hret)
theorem V_if_le {x : Int32} {off : Int} {tgt : Nat} (hd : decode me.2.1 pc = .ok (.ifCond .le off, 3)) (ht : (pc : Int) + off = (tgt : Int)) (kt : x ≤ 0 → V l G me R nE bs tgt loc stk kds σ Post) (kf : ¬ x ≤ 0 → V l G me R nE bs (pc + 3) loc stk kds σ Post) : V l G me R nE bs pc loc (.int x :: stk) kds σ Post := fun p e s m args below meth c H locs cells slots Q ls hC hl hP hS hc hs hret =>
  lv_if_le hC.1 hC.2.1 hd ht (fun h => kt h p e s m args below meth c H locs cells slots Q ls hC hl hP hS hc hs hret) (fun h => kf h p e s m args below meth c H locs cells slots Q ls hC hl hP hS hc hs hret)
theorem V_icmp_eq {x y : Int32} {off : Int} {tgt : Nat} (hd : decode me.2.1 pc = .ok (.if_icmp .eq off, 3)) (ht : (pc : Int) + off = (tgt : Int)) (kt : x = y → V l G me R nE bs tgt loc stk kds σ Post) (kf : ¬ x = y → V l G me R nE bs (pc + 3) loc stk kds σ Post) : V l G me R nE bs pc loc (.int y :: .int x :: stk) kds σ Post := fun p e s m args below meth c H locs cells slots Q ls hC hl hP hS hc hs hret =>
  lv_icmp_eq hC.1 hC.2.1 hd ht (fun h => kt h p e s m args below meth c H locs cells slots Q ls hC hl hP hS hc hs hret) (fun h => kf h p e s m args below meth c H locs cells slots Q ls hC hl hP hS hc hs hret)
theorem V_icmp_ne {x y : Int32} {off : Int} {tgt : Nat} (hd : decode me.2.1 pc = .ok (.if_icmp .ne off, 3)) (ht : (pc : Int) + off = (tgt : Int)) (kt : ¬ x = y → V l G me R nE bs tgt loc stk kds σ Post) (kf : x = y → V l G me R nE bs (pc + 3) loc stk kds σ Post) : V l G me R nE bs pc loc (.int y :: .int x :: stk) kds σ Post := fun p e s m args below meth c H locs cells slots Q ls hC hl hP hS hc hs hret =>
  lv_icmp_ne hC.1 hC.2.1 hd ht (fun h => kt h p e s m args below meth c H locs cells slots Q ls hC hl hP hS hc hs hret) (fun h => kf h p e s m args below meth c H locs cells slots Q ls hC hl hP hS hc hs hret)
theorem V_icmp_lt {x y : Int32} {off : Int} {tgt : Nat} (hd : decode me.2.1 pc = .ok (.if_icmp .lt off, 3)) (ht : (pc : Int) + off = (tgt : Int)) (kt : x < y → V l G me R nE bs tgt loc stk kds σ Post) (kf : ¬ x < y → V l G me R nE bs (pc + 3) loc stk kds σ Post) : V l G me R nE bs pc loc (.int y :: .int x :: stk) kds σ Post := fun p e s m args below meth c H locs cells slots Q ls hC hl hP hS hc hs hret =>
  lv_icmp_lt hC.1 hC.2.1 hd ht (fun h => kt h p e s m args below meth c H locs cells slots Q ls hC hl hP hS hc hs hret) (fun h => kf h p e s m args below meth c H locs cells slots Q ls hC hl hP hS hc hs hret)
theorem V_icmp_ge {x y : Int32} {off : Int} {tgt : Nat} (hd : decode me.2.1 pc = .ok (.if_icmp .ge off, 3)) (ht : (pc : Int) + off = (tgt : Int)) (kt : y ≤ x → V l G me R nE bs tgt loc stk kds σ Post) (kf : ¬ y ≤ x → V l G me R nE bs (pc + 3) loc stk kds σ Post) : V l G me R nE bs pc loc (.int y :: .int x :: stk) kds σ Post := fun p e s m args below meth c H locs cells slots Q ls hC hl hP hS hc hs hret =>
  lv_icmp_ge hC.1 hC.2.1 hd ht (fun h => kt h p e s m args below meth c H locs cells slots Q ls hC hl hP hS hc hs hret) (fun h => kf h p e s m args below meth c H locs cells slots Q ls hC hl hP hS hc hs hret)
theorem V_icmp_gt {x y : Int32} {off : Int} {tgt : Nat} (hd : decode me.2.1 pc = .ok (.if_icmp .gt off, 3)) (ht : (pc : Int) + off = (tgt : Int)) (kt : y < x → V l G me R nE bs tgt loc stk kds σ Post) (kf : ¬ y < x → V l G me R nE bs (pc + 3) loc stk kds σ Post) : V l G me R nE bs pc loc (.int y :: .int x :: stk) kds σ Post := fun p e s m args below meth c H locs cells slots Q ls hC hl hP hS hc hs hret =>
  lv_icmp_gt hC.1 hC.2.1 hd ht (fun h => kt h p e s m args below meth c H locs cells slots Q ls hC hl hP hS hc hs hret) (fun h => kf h p e s m args below meth c H locs cells slots Q ls hC hl hP hS hc hs hret)
theorem V_icmp_le {x y : Int32} {off : Int} {tgt : Nat} (hd : decode me.2.1 pc = .ok (.if_icmp .le off, 3)) (ht : (pc : Int) + off = (tgt : Int)) (kt : x ≤ y → V l G me R nE bs tgt loc stk kds σ Post) (kf : ¬ x ≤ y → V l G me R nE bs (pc + 3) loc stk kds σ Post) : V l G me R nE bs pc loc (.int y :: .int x :: stk) kds σ Post := fun p e s m args below meth c H locs cells slots Q ls hC hl hP hS hc hs hret =>
  lv_icmp_le hC.1 hC.2.1 hd ht (fun h => kt h p e s m args below meth c H locs cells slots Q ls hC hl hP hS hc hs hret) (fun h => kf h p e s m args below meth c H locs cells slots Q ls hC hl hP hS hc hs hret)
theorem V_ifnonnull {x : Nat} {off : Int} {tgt : Nat} (hd : decode me.2.1 pc = .ok (.ifnonnull off, 3)) (ht : (pc : Int) + off = (tgt : Int)) (k : V l G me R nE bs tgt loc stk kds σ Post) : V l G me R nE bs pc loc (.ref x :: stk) kds σ Post := fun p e s m args below meth c H locs cells slots Q ls hC hl hP hS hc hs hret =>
  lv_ifnonnull hC.1 hC.2.1 hd ht (k p e s m args below meth c H locs cells slots Q ls hC hl hP hS hc hs hret)
theorem V_ifnonnullN {off : Int} (hd : decode me.2.1 pc = .ok (.ifnonnull off, 3)) (k : V l G me R nE bs (pc + 3) loc stk kds σ Post) : V l G me R nE bs pc loc (.null :: stk) kds σ Post := fun p e s m args below meth c H locs cells slots Q ls hC hl hP hS hc hs hret =>
  lv_ifnonnullN hC.1 hC.2.1 hd (k p e s m args below meth c H locs cells slots Q ls hC hl hP hS hc hs hret)
theorem V_ifnull {x : Nat} {off : Int} (hd : decode me.2.1 pc = .ok (.ifnull off, 3)) (k : V l G me R nE bs (pc + 3) loc stk kds σ Post) : V l G me R nE bs pc loc (.ref x :: stk) kds σ Post := fun p e s m args below meth c H locs cells slots Q ls hC hl hP hS hc hs hret =>
  lv_ifnull hC.1 hC.2.1 hd (k p e s m args below meth c H locs cells slots Q ls hC hl hP hS hc hs hret)
theorem V_ifnullN {off : Int} {tgt : Nat} (hd : decode me.2.1 pc = .ok (.ifnull off, 3)) (ht : (pc : Int) + off = (tgt : Int)) (k : V l G me R nE bs tgt loc stk kds σ Post) : V l G me R nE bs pc loc (.null :: stk) kds σ Post := fun p e s m args below meth c H locs cells slots Q ls hC hl hP hS hc hs hret =>
  lv_ifnullN hC.1 hC.2.1 hd ht (k p e s m args below meth c H locs cells slots Q ls hC hl hP hS hc hs hret)
/-- a switch by a table: one of its numbers; none of them -/
theorem V_tsC {dflt lo hi off : Int} {offs : Array Int} {len tgt : Nat} {x : Int32} (v : Int32) (hx : x = v) (hd : decode me.2.1 pc = .ok (.tableswitch dflt lo hi offs, len)) (h1 : ¬ v.toInt < lo) (h2 : ¬ hi < v.toInt) (ho : offs[(v.toInt - lo).toNat]? = some off) (ht : (pc : Int) + off = (tgt : Int)) (k : V l G me R nE bs tgt loc stk kds σ Post) : V l G me R nE bs pc loc (.int x :: stk) kds σ Post := fun p e s m args below meth c H locs cells slots Q ls hC hl hP hS hc hs hret =>
  lv_tableIn hC.1 hC.2.1 hd (by rw [hx]; exact h1) (by rw [hx]; exact h2) (by rw [hx]; exact ho) ht (k p e s m args below meth c H locs cells slots Q ls hC hl hP hS hc hs hret)
theorem V_tsD {dflt lo hi : Int} {offs : Array Int} {len tgt : Nat} {x : Int32} (hd : decode me.2.1 pc = .ok (.tableswitch dflt lo hi offs, len)) (h : x.toInt < lo ∨ hi < x.toInt) (ht : (pc : Int) + dflt = (tgt : Int)) (k : V l G me R nE bs tgt loc stk kds σ Post) : V l G me R nE bs pc loc (.int x :: stk) kds σ Post := fun p e s m args below meth c H locs cells slots Q ls hC hl hP hS hc hs hret =>
  lv_tableOut hC.1 hC.2.1 hd h ht (k p e s m args below meth c H locs cells slots Q ls hC hl hP hS hc hs hret)
theorem V_lsw {dflt off : Int} {ps : Array (Int × Int)} {len tgt : Nat} {x : Int32} (hd : decode me.2.1 pc = .ok (.lookupswitch dflt ps, len)) (hp : (ps.toList.zip (ps.toList.drop 1)).all (fun (a, next) => a.1 < next.1) = true) (ho : Op.lookupswitch.offset ps.toList dflt x.toInt = off) (ht : (pc : Int) + off = (tgt : Int)) (k : V l G me R nE bs tgt loc stk kds σ Post) : V l G me R nE bs pc loc (.int x :: stk) kds σ Post := fun p e s m args below meth c H locs cells slots Q ls hC hl hP hS hc hs hret =>
  lv_lookup hC.1 hC.2.1 hd hp ho ht (k p e s m args below meth c H locs cells slots Q ls hC hl hP hS hc hs hret)
/-- numbers out of the pool -/
theorem V_ldc {idx : Nat} {v : Int32} (hd : decode me.2.1 pc = .ok (.ldc idx, 2)) (hw : Cond.constant me.1.cls idx v ∈ lw_g) (k : V l G me R nE bs (pc + 2) loc (.int v :: stk) kds σ Post) : V l G me R nE bs pc loc stk kds σ Post := fun p e s m args below meth c H locs cells slots Q ls hC hl hP hS hc hs hret =>
  lv_ldc hC.1 hC.2.1 hC.2.2.2.2.1 (hC.2.2.2.2.2.1 _ hw) hd (k p e s m args below meth c H locs cells slots Q ls hC hl hP hS hc hs hret)
theorem V_ldcw {idx : Nat} {v : Int32} (hd : decode me.2.1 pc = .ok (.ldc_w idx, 3)) (hw : Cond.constant me.1.cls idx v ∈ lw_g) (k : V l G me R nE bs (pc + 3) loc (.int v :: stk) kds σ Post) : V l G me R nE bs pc loc stk kds σ Post := fun p e s m args below meth c H locs cells slots Q ls hC hl hP hS hc hs hret =>
  lv_ldcw hC.1 hC.2.1 hC.2.2.2.2.1 (hC.2.2.2.2.2.1 _ hw) hd (k p e s m args below meth c H locs cells slots Q ls hC hl hP hS hc hs hret)
theorem V_ldc2 {idx : Nat} {v : Int64} (hd : decode me.2.1 pc = .ok (.ldc2_w idx, 3)) (hw : Cond.constantLong me.1.cls idx v ∈ lw_g) (k : V l G me R nE bs (pc + 3) loc (.long v :: stk) kds σ Post) : V l G me R nE bs pc loc stk kds σ Post := fun p e s m args below meth c H locs cells slots Q ls hC hl hP hS hc hs hret =>
  lv_ldc2 hC.1 hC.2.1 hC.2.2.2.2.1 (hC.2.2.2.2.2.1 _ hw) hd (k p e s m args below meth c H locs cells slots Q ls hC hl hP hS hc hs hret)
/-- returns -/
theorem V_ret (hd : decode me.2.1 pc = .ok (.return_, 1)) (hr : me.2.2.2 = none) (hn : kds.length = nE) (h : Post none kds σ) : V l G me R nE bs pc loc [] kds σ Post := fun p e s m args below meth c H locs cells slots Q ls hC hl hP hS hc hs hret =>
  hret none kds σ H locs cells slots pc ls [] h hn (Or.inl ⟨hd, hr, rfl, rfl⟩) hP hS (by rw [hc, hn]) (by omega)
theorem V_iret {x : Int32} (hd : decode me.2.1 pc = .ok (.ireturn, 1)) (hr : me.2.2.2 = some .int) (hn : kds.length = nE) (h : Post (some (.int x)) kds σ) : V l G me R nE bs pc loc [.int x] kds σ Post := fun p e s m args below meth c H locs cells slots Q ls hC hl hP hS hc hs hret =>
  hret _ kds σ H locs cells slots pc ls [.int x] h hn (Or.inr (Or.inl ⟨x, .int, hd, hr, rfl, rfl, rfl⟩)) hP hS (by rw [hc, hn]) (by omega)
theorem V_zret {x : Int32} {ty : FieldType} (hd : decode me.2.1 pc = .ok (.ireturn, 1)) (hr : me.2.2.2 = some ty) (hx : narrow ty (.int x) = .int x) (hn : kds.length = nE) (h : Post (some (.int x)) kds σ) : V l G me R nE bs pc loc [.int x] kds σ Post := fun p e s m args below meth c H locs cells slots Q ls hC hl hP hS hc hs hret =>
  hret _ kds σ H locs cells slots pc ls [.int x] h hn (Or.inr (Or.inl ⟨x, ty, hd, hr, hx, rfl, rfl⟩)) hP hS (by rw [hc, hn]) (by omega)
theorem V_lret {x : Int64} (hd : decode me.2.1 pc = .ok (.lreturn, 1)) (hr : me.2.2.2 = some .long) (hn : kds.length = nE) (h : Post (some (.long x)) kds σ) : V l G me R nE bs pc loc [.long x] kds σ Post := fun p e s m args below meth c H locs cells slots Q ls hC hl hP hS hc hs hret =>
  hret _ kds σ H locs cells slots pc ls [.long x] h hn (Or.inr (Or.inr (Or.inl ⟨x, hd, hr, rfl, rfl⟩))) hP hS (by rw [hc, hn]) (by omega)
theorem V_aret {x : Value} {C : String} (hd : decode me.2.1 pc = .ok (.areturn, 1)) (hr : me.2.2.2 = some (.object C)) (hx : x = .null ∨ ∃ k, x = .ref k) (hn : kds.length = nE) (h : Post (some x) kds σ) : V l G me R nE bs pc loc [x] kds σ Post := fun p e s m args below meth c H locs cells slots Q ls hC hl hP hS hc hs hret =>
  hret _ kds σ H locs cells slots pc ls [x] h hn (Or.inr (Or.inr (Or.inr ⟨x, C, hd, hr, hx, rfl, rfl⟩))) hP hS (by rw [hc, hn]) (by omega)
theorem V.locs (ks : List Nat) (h : lv_pick loc ks = loc') (k : V l G me R nE bs pc loc' stk kds σ Post) : V l G me R nE bs pc loc stk kds σ Post := fun p e s m args below meth c H locs cells slots Q ls hC hl hP hS hc hs hret =>
  k p e s m args below meth c H locs cells slots Q ls hC (lv_sub hl ks (by rw [← h]; simp [lv_pick, loG, List.map_filterMap])) hP hS hc hs hret
end VR
