/-! the words that the rows ask for -/
/-- the words of the tables that stay -/
def lw_g : List Cond := lw_tbl.filter goodWord
theorem in_g {w : Cond} (h : w ∈ lw_tbl) (hg : goodWord w = true) : w ∈ lw_g := List.mem_filter.mpr ⟨h, hg⟩
theorem in_t {w : Cond} (i : Nat) (h : tables_1[i]? = some w) : w ∈ lw_tbl := List.mem_append_right _ (List.mem_of_getElem? h)
theorem in_p {w : Cond} (i : Nat) (h : (k2_sels lw_privs)[i]? = some w) : w ∈ lw_tbl := List.mem_append_left _ (List.mem_of_getElem? h)
def isR (c j : Nat) : Bool := ((rfs[c]?).getD []).contains j
/-- the pool entry idx of the class own is the field j of the class number c, which has n fields -/
def FLK (own : String) (idx c n j : Nat) : Prop := ∃ (C : String) (T : u_T), cls[c]? = some (C, T, n) ∧ j < n ∧ c < 20 ∧ Cond.fieldLink own idx (T j).1 (T j).2.1 (T j).2.2.1 ∈ lw_g ∧ (∀ w ∈ u_ws C T n, w ∈ lw_g)
/-- what a store into it needs -/
def FPK (own : String) (c n j : Nat) (fin : Bool) (d : String) (ty : FieldType) : Prop := ∃ (C : String) (T : u_T) (tt : Nat → FieldType), cls[c]? = some (C, T, n) ∧ (∀ k, k < n → parseFieldDescriptor (T k).2.2.1 = some (tt k)) ∧ (∀ a, a < n → ∀ b, b < n → a ≠ b → (T a).2.1 ≠ (T b).2.1) ∧ (T j).2.2.2 = fin ∧ (T j).2.2.1 = d ∧ parseFieldDescriptor d = some ty ∧ (fin = true → (T j).1 = own)
/-- the callee's own words: how many arguments -/
def CM (y : MT) (n : Nat) : Prop := Cond.code y.1 y.2.1 y.2.2.1 y.2.2.2 ∈ lw_g ∧ Cond.initialized y.1.cls ∈ lw_g ∧ (y.1.cls ≠ "java/lang/invoke/MethodHandle" ∧ y.1.cls ≠ "java/lang/invoke/VarHandle" ∧ (parseMethodDescriptor y.1.desc).map (fun d => d.parameters.length) = some n)
def CV (y : MT) : Prop := Cond.instanceMethod y.1 ∈ lw_g ∧ Cond.selects y.1.cls y.1 y.1 ∈ lw_g

/-! the words of the tables, one by one -/
theorem tk1 (i : Nat) {w : Cond} (h : tables_1_1[i]? = some w) (hg : goodWord w = true) : w ∈ lw_g := in_g (List.mem_append_right _ (List.mem_append_left _ (List.mem_of_getElem? h))) hg
theorem tk2 (i : Nat) {w : Cond} (h : tables_1_2[i]? = some w) (hg : goodWord w = true) : w ∈ lw_g := in_g (List.mem_append_right _ (List.mem_append_right _ (List.mem_append_left _ (List.mem_of_getElem? h)))) hg
theorem tk3 (i : Nat) {w : Cond} (h : tables_1_3[i]? = some w) (hg : goodWord w = true) : w ∈ lw_g := in_g (List.mem_append_right _ (List.mem_append_right _ (List.mem_append_right _ (List.mem_append_left _ (List.mem_of_getElem? h))))) hg
theorem tk4 (i : Nat) {w : Cond} (h : tables_1_4[i]? = some w) (hg : goodWord w = true) : w ∈ lw_g := in_g (List.mem_append_right _ (List.mem_append_right _ (List.mem_append_right _ (List.mem_append_right _ (List.mem_append_left _ (List.mem_of_getElem? h)))))) hg
theorem tk5 (i : Nat) {w : Cond} (h : tables_1_5[i]? = some w) (hg : goodWord w = true) : w ∈ lw_g := in_g (List.mem_append_right _ (List.mem_append_right _ (List.mem_append_right _ (List.mem_append_right _ (List.mem_append_right _ (List.mem_append_left _ (List.mem_of_getElem? h))))))) hg
theorem tk6 (i : Nat) {w : Cond} (h : tables_1_6[i]? = some w) (hg : goodWord w = true) : w ∈ lw_g := in_g (List.mem_append_right _ (List.mem_append_right _ (List.mem_append_right _ (List.mem_append_right _ (List.mem_append_right _ (List.mem_append_right _ (List.mem_append_left _ (List.mem_of_getElem? h)))))))) hg
theorem tk7 (i : Nat) {w : Cond} (h : tables_1_7[i]? = some w) (hg : goodWord w = true) : w ∈ lw_g := in_g (List.mem_append_right _ (List.mem_append_right _ (List.mem_append_right _ (List.mem_append_right _ (List.mem_append_right _ (List.mem_append_right _ (List.mem_append_right _ (List.mem_of_getElem? h)))))))) hg
theorem tp (i : Nat) {w : Cond} (h : (k2_sels lw_privs)[i]? = some w) (hg : goodWord w = true) : w ∈ lw_g := in_g (in_p i h) hg
theorem ut {C : String} {T : u_T} {n : Nat} (ix : List Nat) (h : (List.range n).all (fun k => decide (tables_1[ix.getD k 0]? = some (u_lay C T k)) && goodWord (u_lay C T k)) = true) : ∀ w ∈ u_ws C T n, w ∈ lw_g := by
  intro w hw
  obtain ⟨k, hk, rfl⟩ := List.mem_map.mp hw
  have h1 := List.all_eq_true.mp h k hk
  simp only [Bool.and_eq_true, decide_eq_true_eq] at h1
  exact in_g (in_t _ h1.1) h1.2
theorem uwA : ∀ w ∈ u_ws "GuessFair$Acts" FA 5, w ∈ lw_g := ut [259, 261, 263, 265, 267] (by decide +kernel)
def tyA : Nat → FieldType := fun k => (parseFieldDescriptor (FA k).2.2.1).getD .int
theorem tyA_ok : ∀ k, k < 5 → parseFieldDescriptor (FA k).2.2.1 = some (tyA k) := by decide +kernel
theorem nmA : ∀ a, a < 5 → ∀ b, b < 5 → a ≠ b → (FA a).2.1 ≠ (FA b).2.1 := by decide +kernel
theorem dvA : ∀ j, j < 5 → defaultValue (tyA j) = if isR 0 j = true then .null else .int 0 := by decide +kernel
theorem uwE : ∀ w ∈ u_ws "GuessFair$Envelope" FE 7, w ∈ lw_g := ut [90, 92, 94, 96, 98, 100, 102] (by decide +kernel)
def tyE : Nat → FieldType := fun k => (parseFieldDescriptor (FE k).2.2.1).getD .int
theorem tyE_ok : ∀ k, k < 7 → parseFieldDescriptor (FE k).2.2.1 = some (tyE k) := by decide +kernel
theorem nmE : ∀ a, a < 7 → ∀ b, b < 7 → a ≠ b → (FE a).2.1 ≠ (FE b).2.1 := by decide +kernel
theorem dvE : ∀ j, j < 7 → defaultValue (tyE j) = if isR 1 j = true then .null else .int 0 := by decide +kernel
theorem uwF : ∀ w ∈ u_ws "GuessFair$Fair" FF 9, w ∈ lw_g := ut [133, 135, 137, 139, 141, 143, 145, 147, 149] (by decide +kernel)
def tyF : Nat → FieldType := fun k => (parseFieldDescriptor (FF k).2.2.1).getD .int
theorem tyF_ok : ∀ k, k < 9 → parseFieldDescriptor (FF k).2.2.1 = some (tyF k) := by decide +kernel
theorem nmF : ∀ a, a < 9 → ∀ b, b < 9 → a ≠ b → (FF a).2.1 ≠ (FF b).2.1 := by decide +kernel
theorem dvF : ∀ j, j < 9 → defaultValue (tyF j) = if isR 2 j = true then .null else .int 0 := by decide +kernel
theorem uwR : ∀ w ∈ u_ws "GuessFair$LawReader" FR 7, w ∈ lw_g := ut [176, 178, 180, 182, 184, 186, 188] (by decide +kernel)
def tyR : Nat → FieldType := fun k => (parseFieldDescriptor (FR k).2.2.1).getD .int
theorem tyR_ok : ∀ k, k < 7 → parseFieldDescriptor (FR k).2.2.1 = some (tyR k) := by decide +kernel
theorem nmR : ∀ a, a < 7 → ∀ b, b < 7 → a ≠ b → (FR a).2.1 ≠ (FR b).2.1 := by decide +kernel
theorem dvR : ∀ j, j < 7 → defaultValue (tyR j) = if isR 3 j = true then .null else .int 0 := by decide +kernel
theorem uwL : ∀ w ∈ u_ws "GuessFair$Laws" FL 7, w ∈ lw_g := ut [200, 202, 204, 206, 208, 210, 212] (by decide +kernel)
def tyL : Nat → FieldType := fun k => (parseFieldDescriptor (FL k).2.2.1).getD .int
theorem tyL_ok : ∀ k, k < 7 → parseFieldDescriptor (FL k).2.2.1 = some (tyL k) := by decide +kernel
theorem nmL : ∀ a, a < 7 → ∀ b, b < 7 → a ≠ b → (FL a).2.1 ≠ (FL b).2.1 := by decide +kernel
theorem dvL : ∀ j, j < 7 → defaultValue (tyL j) = if isR 4 j = true then .null else .int 0 := by decide +kernel
theorem uwP : ∀ w ∈ u_ws "GuessFair$Payer" FP 3, w ∈ lw_g := ut [224, 226, 228] (by decide +kernel)
def tyP : Nat → FieldType := fun k => (parseFieldDescriptor (FP k).2.2.1).getD .int
theorem tyP_ok : ∀ k, k < 3 → parseFieldDescriptor (FP k).2.2.1 = some (tyP k) := by decide +kernel
theorem nmP : ∀ a, a < 3 → ∀ b, b < 3 → a ≠ b → (FP a).2.1 ≠ (FP b).2.1 := by decide +kernel
theorem dvP : ∀ j, j < 3 → defaultValue (tyP j) = if isR 5 j = true then .null else .int 0 := by decide +kernel
theorem uwW : ∀ w ∈ u_ws "GuessFair$Rows" FW 2, w ∈ lw_g := ut [48, 50] (by decide +kernel)
def tyW : Nat → FieldType := fun k => (parseFieldDescriptor (FW k).2.2.1).getD .int
theorem tyW_ok : ∀ k, k < 2 → parseFieldDescriptor (FW k).2.2.1 = some (tyW k) := by decide +kernel
theorem nmW : ∀ a, a < 2 → ∀ b, b < 2 → a ≠ b → (FW a).2.1 ≠ (FW b).2.1 := by decide +kernel
theorem dvW : ∀ j, j < 2 → defaultValue (tyW j) = if isR 6 j = true then .null else .int 0 := by decide +kernel
theorem uwS : ∀ w ∈ u_ws "GuessFair$Stakes" FS 3, w ∈ lw_g := ut [240, 242, 244] (by decide +kernel)
def tyS : Nat → FieldType := fun k => (parseFieldDescriptor (FS k).2.2.1).getD .int
theorem tyS_ok : ∀ k, k < 3 → parseFieldDescriptor (FS k).2.2.1 = some (tyS k) := by decide +kernel
theorem nmS : ∀ a, a < 3 → ∀ b, b < 3 → a ≠ b → (FS a).2.1 ≠ (FS b).2.1 := by decide +kernel
theorem dvS : ∀ j, j < 3 → defaultValue (tyS j) = if isR 7 j = true then .null else .int 0 := by decide +kernel
theorem uwT : ∀ w ∈ u_ws "GuessFair$Tapes" FT 3, w ∈ lw_g := ut [283, 285, 287] (by decide +kernel)
def tyT : Nat → FieldType := fun k => (parseFieldDescriptor (FT k).2.2.1).getD .int
theorem tyT_ok : ∀ k, k < 3 → parseFieldDescriptor (FT k).2.2.1 = some (tyT k) := by decide +kernel
theorem nmT : ∀ a, a < 3 → ∀ b, b < 3 → a ≠ b → (FT a).2.1 ≠ (FT b).2.1 := by decide +kernel
theorem dvT : ∀ j, j < 3 → defaultValue (tyT j) = if isR 8 j = true then .null else .int 0 := by decide +kernel
theorem uwG : ∀ w ∈ u_ws "GuessFair" FG 8, w ∈ lw_g := ut [299, 301, 303, 305, 307, 309, 311, 313] (by decide +kernel)
def tyG : Nat → FieldType := fun k => (parseFieldDescriptor (FG k).2.2.1).getD .int
theorem tyG_ok : ∀ k, k < 8 → parseFieldDescriptor (FG k).2.2.1 = some (tyG k) := by decide +kernel
theorem nmG : ∀ a, a < 8 → ∀ b, b < 8 → a ≠ b → (FG a).2.1 ≠ (FG b).2.1 := by decide +kernel
theorem dvG : ∀ j, j < 8 → defaultValue (tyG j) = if isR 9 j = true then .null else .int 0 := by decide +kernel
theorem uwM : ∀ w ∈ u_ws "GuessFairModel" FM 63, w ∈ lw_g := ut [1022, 1024, 1026, 1028, 1030, 1032, 1034, 1036, 1038, 1040, 1042, 1044, 1046, 1048, 1050, 1052, 1054, 1056, 1058, 1060, 1062, 1064, 1066, 1068, 1070, 1072, 1074, 1076, 1078, 1080, 1082, 1084, 1086, 1088, 1090, 1092, 1094, 1096, 1098, 1100, 1102, 1104, 1106, 1108, 1110, 1112, 1114, 1116, 1118, 1120, 1122, 1124, 1126, 1128, 1130, 1132, 1134, 1136, 1138, 1140, 1142, 1144, 1146] (by decide +kernel)
def tyM : Nat → FieldType := fun k => (parseFieldDescriptor (FM k).2.2.1).getD .int
theorem tyM_ok : ∀ k, k < 63 → parseFieldDescriptor (FM k).2.2.1 = some (tyM k) := by decide +kernel
theorem nmM : ∀ a, a < 63 → ∀ b, b < 63 → a ≠ b → (FM a).2.1 ≠ (FM b).2.1 := by decide +kernel
theorem dvM : ∀ j, j < 63 → defaultValue (tyM j) = if isR 10 j = true then .null else .int 0 := by decide +kernel
theorem fpA_0 (own : String) : FPK own 0 5 0 false "I" .int := ⟨"GuessFair$Acts", FA, tyA, rfl, tyA_ok, nmA, rfl, rfl, by decide +kernel, fun h => by cases h⟩
theorem fpA_1 : FPK "GuessFair$Acts" 0 5 1 true "[I" (.array .int) := ⟨"GuessFair$Acts", FA, tyA, rfl, tyA_ok, nmA, rfl, rfl, by decide +kernel, fun _ => rfl⟩
theorem fpA_2 (own : String) : FPK own 0 5 2 false "I" .int := ⟨"GuessFair$Acts", FA, tyA, rfl, tyA_ok, nmA, rfl, rfl, by decide +kernel, fun h => by cases h⟩
theorem fpA_3 (own : String) : FPK own 0 5 3 false "I" .int := ⟨"GuessFair$Acts", FA, tyA, rfl, tyA_ok, nmA, rfl, rfl, by decide +kernel, fun h => by cases h⟩
theorem fpA_4 (own : String) : FPK own 0 5 4 false "I" .int := ⟨"GuessFair$Acts", FA, tyA, rfl, tyA_ok, nmA, rfl, rfl, by decide +kernel, fun h => by cases h⟩
theorem fpE_0 : FPK "GuessFair$Envelope" 1 7 0 true "I" .int := ⟨"GuessFair$Envelope", FE, tyE, rfl, tyE_ok, nmE, rfl, rfl, by decide +kernel, fun _ => rfl⟩
theorem fpE_1 (own : String) : FPK own 1 7 1 false "I" .int := ⟨"GuessFair$Envelope", FE, tyE, rfl, tyE_ok, nmE, rfl, rfl, by decide +kernel, fun h => by cases h⟩
theorem fpE_2 (own : String) : FPK own 1 7 2 false "I" .int := ⟨"GuessFair$Envelope", FE, tyE, rfl, tyE_ok, nmE, rfl, rfl, by decide +kernel, fun h => by cases h⟩
theorem fpE_3 (own : String) : FPK own 1 7 3 false "I" .int := ⟨"GuessFair$Envelope", FE, tyE, rfl, tyE_ok, nmE, rfl, rfl, by decide +kernel, fun h => by cases h⟩
theorem fpE_4 (own : String) : FPK own 1 7 4 false "I" .int := ⟨"GuessFair$Envelope", FE, tyE, rfl, tyE_ok, nmE, rfl, rfl, by decide +kernel, fun h => by cases h⟩
theorem fpE_5 (own : String) : FPK own 1 7 5 false "I" .int := ⟨"GuessFair$Envelope", FE, tyE, rfl, tyE_ok, nmE, rfl, rfl, by decide +kernel, fun h => by cases h⟩
theorem fpE_6 : FPK "GuessFair$Envelope" 1 7 6 true "[I" (.array .int) := ⟨"GuessFair$Envelope", FE, tyE, rfl, tyE_ok, nmE, rfl, rfl, by decide +kernel, fun _ => rfl⟩
theorem fpF_0 (own : String) : FPK own 2 9 0 false "I" .int := ⟨"GuessFair$Fair", FF, tyF, rfl, tyF_ok, nmF, rfl, rfl, by decide +kernel, fun h => by cases h⟩
theorem fpF_1 : FPK "GuessFair$Fair" 2 9 1 true "[I" (.array .int) := ⟨"GuessFair$Fair", FF, tyF, rfl, tyF_ok, nmF, rfl, rfl, by decide +kernel, fun _ => rfl⟩
theorem fpF_2 (own : String) : FPK own 2 9 2 false "I" .int := ⟨"GuessFair$Fair", FF, tyF, rfl, tyF_ok, nmF, rfl, rfl, by decide +kernel, fun h => by cases h⟩
theorem fpF_3 : FPK "GuessFair$Fair" 2 9 3 true "[LGuessFair$Envelope;" (.array (.object "GuessFair$Envelope")) := ⟨"GuessFair$Fair", FF, tyF, rfl, tyF_ok, nmF, rfl, rfl, by decide +kernel, fun _ => rfl⟩
theorem fpF_4 (own : String) : FPK own 2 9 4 false "I" .int := ⟨"GuessFair$Fair", FF, tyF, rfl, tyF_ok, nmF, rfl, rfl, by decide +kernel, fun h => by cases h⟩
theorem fpF_5 (own : String) : FPK own 2 9 5 false "I" .int := ⟨"GuessFair$Fair", FF, tyF, rfl, tyF_ok, nmF, rfl, rfl, by decide +kernel, fun h => by cases h⟩
theorem fpF_6 (own : String) : FPK own 2 9 6 false "I" .int := ⟨"GuessFair$Fair", FF, tyF, rfl, tyF_ok, nmF, rfl, rfl, by decide +kernel, fun h => by cases h⟩
theorem fpF_7 : FPK "GuessFair$Fair" 2 9 7 true "LGuessFair$Rows;" (.object "GuessFair$Rows") := ⟨"GuessFair$Fair", FF, tyF, rfl, tyF_ok, nmF, rfl, rfl, by decide +kernel, fun _ => rfl⟩
theorem fpF_8 : FPK "GuessFair$Fair" 2 9 8 true "LGuessFair$Rows;" (.object "GuessFair$Rows") := ⟨"GuessFair$Fair", FF, tyF, rfl, tyF_ok, nmF, rfl, rfl, by decide +kernel, fun _ => rfl⟩
theorem fpR_0 : FPK "GuessFair$LawReader" 3 7 0 true "[I" (.array .int) := ⟨"GuessFair$LawReader", FR, tyR, rfl, tyR_ok, nmR, rfl, rfl, by decide +kernel, fun _ => rfl⟩
theorem fpR_1 (own : String) : FPK own 3 7 1 false "I" .int := ⟨"GuessFair$LawReader", FR, tyR, rfl, tyR_ok, nmR, rfl, rfl, by decide +kernel, fun h => by cases h⟩
theorem fpR_2 (own : String) : FPK own 3 7 2 false "[I" (.array .int) := ⟨"GuessFair$LawReader", FR, tyR, rfl, tyR_ok, nmR, rfl, rfl, by decide +kernel, fun h => by cases h⟩
theorem fpR_3 (own : String) : FPK own 3 7 3 false "I" .int := ⟨"GuessFair$LawReader", FR, tyR, rfl, tyR_ok, nmR, rfl, rfl, by decide +kernel, fun h => by cases h⟩
theorem fpR_4 (own : String) : FPK own 3 7 4 false "I" .int := ⟨"GuessFair$LawReader", FR, tyR, rfl, tyR_ok, nmR, rfl, rfl, by decide +kernel, fun h => by cases h⟩
theorem fpR_5 (own : String) : FPK own 3 7 5 false "I" .int := ⟨"GuessFair$LawReader", FR, tyR, rfl, tyR_ok, nmR, rfl, rfl, by decide +kernel, fun h => by cases h⟩
theorem fpR_6 (own : String) : FPK own 3 7 6 false "I" .int := ⟨"GuessFair$LawReader", FR, tyR, rfl, tyR_ok, nmR, rfl, rfl, by decide +kernel, fun h => by cases h⟩
theorem fpL_0 : FPK "GuessFair$Laws" 4 7 0 true "[I" (.array .int) := ⟨"GuessFair$Laws", FL, tyL, rfl, tyL_ok, nmL, rfl, rfl, by decide +kernel, fun _ => rfl⟩
theorem fpL_1 (own : String) : FPK own 4 7 1 false "I" .int := ⟨"GuessFair$Laws", FL, tyL, rfl, tyL_ok, nmL, rfl, rfl, by decide +kernel, fun h => by cases h⟩
theorem fpL_2 (own : String) : FPK own 4 7 2 false "I" .int := ⟨"GuessFair$Laws", FL, tyL, rfl, tyL_ok, nmL, rfl, rfl, by decide +kernel, fun h => by cases h⟩
theorem fpL_3 : FPK "GuessFair$Laws" 4 7 3 true "[[I" (.array (.array .int)) := ⟨"GuessFair$Laws", FL, tyL, rfl, tyL_ok, nmL, rfl, rfl, by decide +kernel, fun _ => rfl⟩
theorem fpL_4 : FPK "GuessFair$Laws" 4 7 4 true "[I" (.array .int) := ⟨"GuessFair$Laws", FL, tyL, rfl, tyL_ok, nmL, rfl, rfl, by decide +kernel, fun _ => rfl⟩
theorem fpL_5 : FPK "GuessFair$Laws" 4 7 5 true "[I" (.array .int) := ⟨"GuessFair$Laws", FL, tyL, rfl, tyL_ok, nmL, rfl, rfl, by decide +kernel, fun _ => rfl⟩
theorem fpL_6 : FPK "GuessFair$Laws" 4 7 6 true "LGuessFair$LawReader;" (.object "GuessFair$LawReader") := ⟨"GuessFair$Laws", FL, tyL, rfl, tyL_ok, nmL, rfl, rfl, by decide +kernel, fun _ => rfl⟩
theorem fpP_0 : FPK "GuessFair$Payer" 5 3 0 true "LGuessFair$Fair;" (.object "GuessFair$Fair") := ⟨"GuessFair$Payer", FP, tyP, rfl, tyP_ok, nmP, rfl, rfl, by decide +kernel, fun _ => rfl⟩
theorem fpP_1 : FPK "GuessFair$Payer" 5 3 1 true "LGuessFair$Laws;" (.object "GuessFair$Laws") := ⟨"GuessFair$Payer", FP, tyP, rfl, tyP_ok, nmP, rfl, rfl, by decide +kernel, fun _ => rfl⟩
theorem fpP_2 : FPK "GuessFair$Payer" 5 3 2 true "[I" (.array .int) := ⟨"GuessFair$Payer", FP, tyP, rfl, tyP_ok, nmP, rfl, rfl, by decide +kernel, fun _ => rfl⟩
theorem fpW_0 (own : String) : FPK own 6 2 0 false "I" .int := ⟨"GuessFair$Rows", FW, tyW, rfl, tyW_ok, nmW, rfl, rfl, by decide +kernel, fun h => by cases h⟩
theorem fpW_1 : FPK "GuessFair$Rows" 6 2 1 true "[I" (.array .int) := ⟨"GuessFair$Rows", FW, tyW, rfl, tyW_ok, nmW, rfl, rfl, by decide +kernel, fun _ => rfl⟩
theorem fpS_0 : FPK "GuessFair$Stakes" 7 3 0 true "LGuessFair$Fair;" (.object "GuessFair$Fair") := ⟨"GuessFair$Stakes", FS, tyS, rfl, tyS_ok, nmS, rfl, rfl, by decide +kernel, fun _ => rfl⟩
theorem fpS_1 : FPK "GuessFair$Stakes" 7 3 1 true "LGuessFair$Payer;" (.object "GuessFair$Payer") := ⟨"GuessFair$Stakes", FS, tyS, rfl, tyS_ok, nmS, rfl, rfl, by decide +kernel, fun _ => rfl⟩
theorem fpS_2 : FPK "GuessFair$Stakes" 7 3 2 true "[I" (.array .int) := ⟨"GuessFair$Stakes", FS, tyS, rfl, tyS_ok, nmS, rfl, rfl, by decide +kernel, fun _ => rfl⟩
theorem fpT_0 : FPK "GuessFair$Tapes" 8 3 0 true "[I" (.array .int) := ⟨"GuessFair$Tapes", FT, tyT, rfl, tyT_ok, nmT, rfl, rfl, by decide +kernel, fun _ => rfl⟩
theorem fpT_1 : FPK "GuessFair$Tapes" 8 3 1 true "[I" (.array .int) := ⟨"GuessFair$Tapes", FT, tyT, rfl, tyT_ok, nmT, rfl, rfl, by decide +kernel, fun _ => rfl⟩
theorem fpT_2 : FPK "GuessFair$Tapes" 8 3 2 true "[[J" (.array (.array .long)) := ⟨"GuessFair$Tapes", FT, tyT, rfl, tyT_ok, nmT, rfl, rfl, by decide +kernel, fun _ => rfl⟩
theorem fpG_0 : FPK "GuessFair" 9 8 0 true "LGuessFair$Fair;" (.object "GuessFair$Fair") := ⟨"GuessFair", FG, tyG, rfl, tyG_ok, nmG, rfl, rfl, by decide +kernel, fun _ => rfl⟩
theorem fpG_1 : FPK "GuessFair" 9 8 1 true "LGuessFair$Fair;" (.object "GuessFair$Fair") := ⟨"GuessFair", FG, tyG, rfl, tyG_ok, nmG, rfl, rfl, by decide +kernel, fun _ => rfl⟩
theorem fpG_2 (own : String) : FPK own 9 8 2 false "Z" .boolean := ⟨"GuessFair", FG, tyG, rfl, tyG_ok, nmG, rfl, rfl, by decide +kernel, fun h => by cases h⟩
theorem fpG_3 : FPK "GuessFair" 9 8 3 true "LGuessFair$Laws;" (.object "GuessFair$Laws") := ⟨"GuessFair", FG, tyG, rfl, tyG_ok, nmG, rfl, rfl, by decide +kernel, fun _ => rfl⟩
theorem fpG_4 : FPK "GuessFair" 9 8 4 true "LGuessFair$Payer;" (.object "GuessFair$Payer") := ⟨"GuessFair", FG, tyG, rfl, tyG_ok, nmG, rfl, rfl, by decide +kernel, fun _ => rfl⟩
theorem fpG_5 : FPK "GuessFair" 9 8 5 true "LGuessFair$Stakes;" (.object "GuessFair$Stakes") := ⟨"GuessFair", FG, tyG, rfl, tyG_ok, nmG, rfl, rfl, by decide +kernel, fun _ => rfl⟩
theorem fpG_6 : FPK "GuessFair" 9 8 6 true "LGuessFair$Acts;" (.object "GuessFair$Acts") := ⟨"GuessFair", FG, tyG, rfl, tyG_ok, nmG, rfl, rfl, by decide +kernel, fun _ => rfl⟩
theorem fpG_7 : FPK "GuessFair" 9 8 7 true "LGuessFair$Tapes;" (.object "GuessFair$Tapes") := ⟨"GuessFair", FG, tyG, rfl, tyG_ok, nmG, rfl, rfl, by decide +kernel, fun _ => rfl⟩
theorem fpM_0 (own : String) : FPK own 10 63 0 false "I" .int := ⟨"GuessFairModel", FM, tyM, rfl, tyM_ok, nmM, rfl, rfl, by decide +kernel, fun h => by cases h⟩
theorem fpM_1 (own : String) : FPK own 10 63 1 false "I" .int := ⟨"GuessFairModel", FM, tyM, rfl, tyM_ok, nmM, rfl, rfl, by decide +kernel, fun h => by cases h⟩
theorem fpM_2 (own : String) : FPK own 10 63 2 false "I" .int := ⟨"GuessFairModel", FM, tyM, rfl, tyM_ok, nmM, rfl, rfl, by decide +kernel, fun h => by cases h⟩
theorem fpM_3 (own : String) : FPK own 10 63 3 false "I" .int := ⟨"GuessFairModel", FM, tyM, rfl, tyM_ok, nmM, rfl, rfl, by decide +kernel, fun h => by cases h⟩
theorem fpM_4 : FPK "GuessFairModel" 10 63 4 true "[I" (.array .int) := ⟨"GuessFairModel", FM, tyM, rfl, tyM_ok, nmM, rfl, rfl, by decide +kernel, fun _ => rfl⟩
theorem fpM_5 : FPK "GuessFairModel" 10 63 5 true "[I" (.array .int) := ⟨"GuessFairModel", FM, tyM, rfl, tyM_ok, nmM, rfl, rfl, by decide +kernel, fun _ => rfl⟩
theorem fpM_6 : FPK "GuessFairModel" 10 63 6 true "[I" (.array .int) := ⟨"GuessFairModel", FM, tyM, rfl, tyM_ok, nmM, rfl, rfl, by decide +kernel, fun _ => rfl⟩
theorem fpM_7 : FPK "GuessFairModel" 10 63 7 true "[I" (.array .int) := ⟨"GuessFairModel", FM, tyM, rfl, tyM_ok, nmM, rfl, rfl, by decide +kernel, fun _ => rfl⟩
theorem fpM_8 : FPK "GuessFairModel" 10 63 8 true "[I" (.array .int) := ⟨"GuessFairModel", FM, tyM, rfl, tyM_ok, nmM, rfl, rfl, by decide +kernel, fun _ => rfl⟩
theorem fpM_9 : FPK "GuessFairModel" 10 63 9 true "[I" (.array .int) := ⟨"GuessFairModel", FM, tyM, rfl, tyM_ok, nmM, rfl, rfl, by decide +kernel, fun _ => rfl⟩
theorem fpM_10 : FPK "GuessFairModel" 10 63 10 true "[I" (.array .int) := ⟨"GuessFairModel", FM, tyM, rfl, tyM_ok, nmM, rfl, rfl, by decide +kernel, fun _ => rfl⟩
theorem fpM_11 (own : String) : FPK own 10 63 11 false "I" .int := ⟨"GuessFairModel", FM, tyM, rfl, tyM_ok, nmM, rfl, rfl, by decide +kernel, fun h => by cases h⟩
theorem fpM_12 (own : String) : FPK own 10 63 12 false "I" .int := ⟨"GuessFairModel", FM, tyM, rfl, tyM_ok, nmM, rfl, rfl, by decide +kernel, fun h => by cases h⟩
theorem fpM_13 (own : String) : FPK own 10 63 13 false "I" .int := ⟨"GuessFairModel", FM, tyM, rfl, tyM_ok, nmM, rfl, rfl, by decide +kernel, fun h => by cases h⟩
theorem fpM_14 (own : String) : FPK own 10 63 14 false "I" .int := ⟨"GuessFairModel", FM, tyM, rfl, tyM_ok, nmM, rfl, rfl, by decide +kernel, fun h => by cases h⟩
theorem fpM_15 (own : String) : FPK own 10 63 15 false "I" .int := ⟨"GuessFairModel", FM, tyM, rfl, tyM_ok, nmM, rfl, rfl, by decide +kernel, fun h => by cases h⟩
theorem fpM_16 : FPK "GuessFairModel" 10 63 16 true "[I" (.array .int) := ⟨"GuessFairModel", FM, tyM, rfl, tyM_ok, nmM, rfl, rfl, by decide +kernel, fun _ => rfl⟩
theorem fpM_17 : FPK "GuessFairModel" 10 63 17 true "[I" (.array .int) := ⟨"GuessFairModel", FM, tyM, rfl, tyM_ok, nmM, rfl, rfl, by decide +kernel, fun _ => rfl⟩
theorem fpM_18 : FPK "GuessFairModel" 10 63 18 true "[I" (.array .int) := ⟨"GuessFairModel", FM, tyM, rfl, tyM_ok, nmM, rfl, rfl, by decide +kernel, fun _ => rfl⟩
theorem fpM_19 : FPK "GuessFairModel" 10 63 19 true "[I" (.array .int) := ⟨"GuessFairModel", FM, tyM, rfl, tyM_ok, nmM, rfl, rfl, by decide +kernel, fun _ => rfl⟩
theorem fpM_20 : FPK "GuessFairModel" 10 63 20 true "[I" (.array .int) := ⟨"GuessFairModel", FM, tyM, rfl, tyM_ok, nmM, rfl, rfl, by decide +kernel, fun _ => rfl⟩
theorem fpM_21 : FPK "GuessFairModel" 10 63 21 true "[I" (.array .int) := ⟨"GuessFairModel", FM, tyM, rfl, tyM_ok, nmM, rfl, rfl, by decide +kernel, fun _ => rfl⟩
theorem fpM_22 : FPK "GuessFairModel" 10 63 22 true "[I" (.array .int) := ⟨"GuessFairModel", FM, tyM, rfl, tyM_ok, nmM, rfl, rfl, by decide +kernel, fun _ => rfl⟩
theorem fpM_23 : FPK "GuessFairModel" 10 63 23 true "[I" (.array .int) := ⟨"GuessFairModel", FM, tyM, rfl, tyM_ok, nmM, rfl, rfl, by decide +kernel, fun _ => rfl⟩
theorem fpM_24 (own : String) : FPK own 10 63 24 false "I" .int := ⟨"GuessFairModel", FM, tyM, rfl, tyM_ok, nmM, rfl, rfl, by decide +kernel, fun h => by cases h⟩
theorem fpM_25 (own : String) : FPK own 10 63 25 false "I" .int := ⟨"GuessFairModel", FM, tyM, rfl, tyM_ok, nmM, rfl, rfl, by decide +kernel, fun h => by cases h⟩
theorem fpM_26 (own : String) : FPK own 10 63 26 false "I" .int := ⟨"GuessFairModel", FM, tyM, rfl, tyM_ok, nmM, rfl, rfl, by decide +kernel, fun h => by cases h⟩
theorem fpM_27 : FPK "GuessFairModel" 10 63 27 true "[I" (.array .int) := ⟨"GuessFairModel", FM, tyM, rfl, tyM_ok, nmM, rfl, rfl, by decide +kernel, fun _ => rfl⟩
theorem fpM_28 : FPK "GuessFairModel" 10 63 28 true "[Z" (.array .boolean) := ⟨"GuessFairModel", FM, tyM, rfl, tyM_ok, nmM, rfl, rfl, by decide +kernel, fun _ => rfl⟩
theorem fpM_29 : FPK "GuessFairModel" 10 63 29 true "[I" (.array .int) := ⟨"GuessFairModel", FM, tyM, rfl, tyM_ok, nmM, rfl, rfl, by decide +kernel, fun _ => rfl⟩
theorem fpM_30 (own : String) : FPK own 10 63 30 false "I" .int := ⟨"GuessFairModel", FM, tyM, rfl, tyM_ok, nmM, rfl, rfl, by decide +kernel, fun h => by cases h⟩
theorem fpM_31 : FPK "GuessFairModel" 10 63 31 true "[I" (.array .int) := ⟨"GuessFairModel", FM, tyM, rfl, tyM_ok, nmM, rfl, rfl, by decide +kernel, fun _ => rfl⟩
theorem fpM_32 : FPK "GuessFairModel" 10 63 32 true "[Z" (.array .boolean) := ⟨"GuessFairModel", FM, tyM, rfl, tyM_ok, nmM, rfl, rfl, by decide +kernel, fun _ => rfl⟩
theorem fpM_33 (own : String) : FPK own 10 63 33 false "I" .int := ⟨"GuessFairModel", FM, tyM, rfl, tyM_ok, nmM, rfl, rfl, by decide +kernel, fun h => by cases h⟩
theorem fpM_34 : FPK "GuessFairModel" 10 63 34 true "[I" (.array .int) := ⟨"GuessFairModel", FM, tyM, rfl, tyM_ok, nmM, rfl, rfl, by decide +kernel, fun _ => rfl⟩
theorem fpM_35 : FPK "GuessFairModel" 10 63 35 true "[I" (.array .int) := ⟨"GuessFairModel", FM, tyM, rfl, tyM_ok, nmM, rfl, rfl, by decide +kernel, fun _ => rfl⟩
theorem fpM_36 : FPK "GuessFairModel" 10 63 36 true "[I" (.array .int) := ⟨"GuessFairModel", FM, tyM, rfl, tyM_ok, nmM, rfl, rfl, by decide +kernel, fun _ => rfl⟩
theorem fpM_37 (own : String) : FPK own 10 63 37 false "Z" .boolean := ⟨"GuessFairModel", FM, tyM, rfl, tyM_ok, nmM, rfl, rfl, by decide +kernel, fun h => by cases h⟩
theorem fpM_38 (own : String) : FPK own 10 63 38 false "I" .int := ⟨"GuessFairModel", FM, tyM, rfl, tyM_ok, nmM, rfl, rfl, by decide +kernel, fun h => by cases h⟩
theorem fpM_39 (own : String) : FPK own 10 63 39 false "I" .int := ⟨"GuessFairModel", FM, tyM, rfl, tyM_ok, nmM, rfl, rfl, by decide +kernel, fun h => by cases h⟩
theorem fpM_40 (own : String) : FPK own 10 63 40 false "I" .int := ⟨"GuessFairModel", FM, tyM, rfl, tyM_ok, nmM, rfl, rfl, by decide +kernel, fun h => by cases h⟩
theorem fpM_41 (own : String) : FPK own 10 63 41 false "I" .int := ⟨"GuessFairModel", FM, tyM, rfl, tyM_ok, nmM, rfl, rfl, by decide +kernel, fun h => by cases h⟩
theorem fpM_42 (own : String) : FPK own 10 63 42 false "I" .int := ⟨"GuessFairModel", FM, tyM, rfl, tyM_ok, nmM, rfl, rfl, by decide +kernel, fun h => by cases h⟩
theorem fpM_43 (own : String) : FPK own 10 63 43 false "I" .int := ⟨"GuessFairModel", FM, tyM, rfl, tyM_ok, nmM, rfl, rfl, by decide +kernel, fun h => by cases h⟩
theorem fpM_44 (own : String) : FPK own 10 63 44 false "I" .int := ⟨"GuessFairModel", FM, tyM, rfl, tyM_ok, nmM, rfl, rfl, by decide +kernel, fun h => by cases h⟩
theorem fpM_45 : FPK "GuessFairModel" 10 63 45 true "[I" (.array .int) := ⟨"GuessFairModel", FM, tyM, rfl, tyM_ok, nmM, rfl, rfl, by decide +kernel, fun _ => rfl⟩
theorem fpM_46 : FPK "GuessFairModel" 10 63 46 true "[I" (.array .int) := ⟨"GuessFairModel", FM, tyM, rfl, tyM_ok, nmM, rfl, rfl, by decide +kernel, fun _ => rfl⟩
theorem fpM_47 : FPK "GuessFairModel" 10 63 47 true "[I" (.array .int) := ⟨"GuessFairModel", FM, tyM, rfl, tyM_ok, nmM, rfl, rfl, by decide +kernel, fun _ => rfl⟩
theorem fpM_48 : FPK "GuessFairModel" 10 63 48 true "[I" (.array .int) := ⟨"GuessFairModel", FM, tyM, rfl, tyM_ok, nmM, rfl, rfl, by decide +kernel, fun _ => rfl⟩
theorem fpM_49 : FPK "GuessFairModel" 10 63 49 true "[I" (.array .int) := ⟨"GuessFairModel", FM, tyM, rfl, tyM_ok, nmM, rfl, rfl, by decide +kernel, fun _ => rfl⟩
theorem fpM_50 : FPK "GuessFairModel" 10 63 50 true "[I" (.array .int) := ⟨"GuessFairModel", FM, tyM, rfl, tyM_ok, nmM, rfl, rfl, by decide +kernel, fun _ => rfl⟩
theorem fpM_51 : FPK "GuessFairModel" 10 63 51 true "[I" (.array .int) := ⟨"GuessFairModel", FM, tyM, rfl, tyM_ok, nmM, rfl, rfl, by decide +kernel, fun _ => rfl⟩
theorem fpM_52 : FPK "GuessFairModel" 10 63 52 true "[I" (.array .int) := ⟨"GuessFairModel", FM, tyM, rfl, tyM_ok, nmM, rfl, rfl, by decide +kernel, fun _ => rfl⟩
theorem fpM_53 : FPK "GuessFairModel" 10 63 53 true "[I" (.array .int) := ⟨"GuessFairModel", FM, tyM, rfl, tyM_ok, nmM, rfl, rfl, by decide +kernel, fun _ => rfl⟩
theorem fpM_54 : FPK "GuessFairModel" 10 63 54 true "[I" (.array .int) := ⟨"GuessFairModel", FM, tyM, rfl, tyM_ok, nmM, rfl, rfl, by decide +kernel, fun _ => rfl⟩
theorem fpM_55 : FPK "GuessFairModel" 10 63 55 true "[I" (.array .int) := ⟨"GuessFairModel", FM, tyM, rfl, tyM_ok, nmM, rfl, rfl, by decide +kernel, fun _ => rfl⟩
theorem fpM_56 : FPK "GuessFairModel" 10 63 56 true "[Z" (.array .boolean) := ⟨"GuessFairModel", FM, tyM, rfl, tyM_ok, nmM, rfl, rfl, by decide +kernel, fun _ => rfl⟩
theorem fpM_57 (own : String) : FPK own 10 63 57 false "I" .int := ⟨"GuessFairModel", FM, tyM, rfl, tyM_ok, nmM, rfl, rfl, by decide +kernel, fun h => by cases h⟩
theorem fpM_58 : FPK "GuessFairModel" 10 63 58 true "[I" (.array .int) := ⟨"GuessFairModel", FM, tyM, rfl, tyM_ok, nmM, rfl, rfl, by decide +kernel, fun _ => rfl⟩
theorem fpM_59 : FPK "GuessFairModel" 10 63 59 true "[I" (.array .int) := ⟨"GuessFairModel", FM, tyM, rfl, tyM_ok, nmM, rfl, rfl, by decide +kernel, fun _ => rfl⟩
theorem fpM_60 : FPK "GuessFairModel" 10 63 60 true "[I" (.array .int) := ⟨"GuessFairModel", FM, tyM, rfl, tyM_ok, nmM, rfl, rfl, by decide +kernel, fun _ => rfl⟩
theorem fpM_61 : FPK "GuessFairModel" 10 63 61 true "[J" (.array .long) := ⟨"GuessFairModel", FM, tyM, rfl, tyM_ok, nmM, rfl, rfl, by decide +kernel, fun _ => rfl⟩
theorem fpM_62 : FPK "GuessFairModel" 10 63 62 true "[J" (.array .long) := ⟨"GuessFairModel", FM, tyM, rfl, tyM_ok, nmM, rfl, rfl, by decide +kernel, fun _ => rfl⟩
theorem flW_15 : FLK "GuessFair$Rows" 15 6 2 0 := ⟨"GuessFair$Rows", FW, rfl, by decide, by decide, tk1 43 (by decide +kernel) rfl, uwW⟩
theorem flF_92 : FLK "GuessFair$Fair" 92 6 2 0 := ⟨"GuessFair$Rows", FW, rfl, by decide, by decide, tk1 44 (by decide +kernel) rfl, uwW⟩
theorem flP_133 : FLK "GuessFair$Payer" 133 6 2 0 := ⟨"GuessFair$Rows", FW, rfl, by decide, by decide, tk1 45 (by decide +kernel) rfl, uwW⟩
theorem flG_282 : FLK "GuessFair" 282 6 2 0 := ⟨"GuessFair$Rows", FW, rfl, by decide, by decide, tk1 46 (by decide +kernel) rfl, uwW⟩
theorem flW_11 : FLK "GuessFair$Rows" 11 6 2 1 := ⟨"GuessFair$Rows", FW, rfl, by decide, by decide, tk1 47 (by decide +kernel) rfl, uwW⟩
theorem flE_15 : FLK "GuessFair$Envelope" 15 1 7 0 := ⟨"GuessFair$Envelope", FE, rfl, by decide, by decide, tk1 59 (by decide +kernel) rfl, uwE⟩
theorem flP_41 : FLK "GuessFair$Payer" 41 1 7 0 := ⟨"GuessFair$Envelope", FE, rfl, by decide, by decide, tk1 60 (by decide +kernel) rfl, uwE⟩
theorem flA_25 : FLK "GuessFair$Acts" 25 1 7 0 := ⟨"GuessFair$Envelope", FE, rfl, by decide, by decide, tk1 61 (by decide +kernel) rfl, uwE⟩
theorem flF_81 : FLK "GuessFair$Fair" 81 1 7 0 := ⟨"GuessFair$Envelope", FE, rfl, by decide, by decide, tk1 62 (by decide +kernel) rfl, uwE⟩
theorem flE_19 : FLK "GuessFair$Envelope" 19 1 7 1 := ⟨"GuessFair$Envelope", FE, rfl, by decide, by decide, tk1 63 (by decide +kernel) rfl, uwE⟩
theorem flP_44 : FLK "GuessFair$Payer" 44 1 7 1 := ⟨"GuessFair$Envelope", FE, rfl, by decide, by decide, tk1 64 (by decide +kernel) rfl, uwE⟩
theorem flA_19 : FLK "GuessFair$Acts" 19 1 7 1 := ⟨"GuessFair$Envelope", FE, rfl, by decide, by decide, tk1 65 (by decide +kernel) rfl, uwE⟩
theorem flF_63 : FLK "GuessFair$Fair" 63 1 7 1 := ⟨"GuessFair$Envelope", FE, rfl, by decide, by decide, tk1 66 (by decide +kernel) rfl, uwE⟩
theorem flG_94 : FLK "GuessFair" 94 1 7 1 := ⟨"GuessFair$Envelope", FE, rfl, by decide, by decide, tk1 67 (by decide +kernel) rfl, uwE⟩
theorem flE_22 : FLK "GuessFair$Envelope" 22 1 7 2 := ⟨"GuessFair$Envelope", FE, rfl, by decide, by decide, tk1 68 (by decide +kernel) rfl, uwE⟩
theorem flA_29 : FLK "GuessFair$Acts" 29 1 7 2 := ⟨"GuessFair$Envelope", FE, rfl, by decide, by decide, tk1 69 (by decide +kernel) rfl, uwE⟩
theorem flF_66 : FLK "GuessFair$Fair" 66 1 7 2 := ⟨"GuessFair$Envelope", FE, rfl, by decide, by decide, tk1 70 (by decide +kernel) rfl, uwE⟩
theorem flP_84 : FLK "GuessFair$Payer" 84 1 7 2 := ⟨"GuessFair$Envelope", FE, rfl, by decide, by decide, tk1 71 (by decide +kernel) rfl, uwE⟩
theorem flG_99 : FLK "GuessFair" 99 1 7 2 := ⟨"GuessFair$Envelope", FE, rfl, by decide, by decide, tk1 72 (by decide +kernel) rfl, uwE⟩
theorem flP_23 : FLK "GuessFair$Payer" 23 1 7 3 := ⟨"GuessFair$Envelope", FE, rfl, by decide, by decide, tk1 73 (by decide +kernel) rfl, uwE⟩
theorem flE_25 : FLK "GuessFair$Envelope" 25 1 7 3 := ⟨"GuessFair$Envelope", FE, rfl, by decide, by decide, tk1 74 (by decide +kernel) rfl, uwE⟩
theorem flF_69 : FLK "GuessFair$Fair" 69 1 7 3 := ⟨"GuessFair$Envelope", FE, rfl, by decide, by decide, tk1 75 (by decide +kernel) rfl, uwE⟩
theorem flG_102 : FLK "GuessFair" 102 1 7 3 := ⟨"GuessFair$Envelope", FE, rfl, by decide, by decide, tk1 76 (by decide +kernel) rfl, uwE⟩
theorem flE_28 : FLK "GuessFair$Envelope" 28 1 7 4 := ⟨"GuessFair$Envelope", FE, rfl, by decide, by decide, tk1 77 (by decide +kernel) rfl, uwE⟩
theorem flS_42 : FLK "GuessFair$Stakes" 42 1 7 4 := ⟨"GuessFair$Envelope", FE, rfl, by decide, by decide, tk1 78 (by decide +kernel) rfl, uwE⟩
theorem flF_72 : FLK "GuessFair$Fair" 72 1 7 4 := ⟨"GuessFair$Envelope", FE, rfl, by decide, by decide, tk1 79 (by decide +kernel) rfl, uwE⟩
theorem flG_105 : FLK "GuessFair" 105 1 7 4 := ⟨"GuessFair$Envelope", FE, rfl, by decide, by decide, tk1 80 (by decide +kernel) rfl, uwE⟩
theorem flP_122 : FLK "GuessFair$Payer" 122 1 7 4 := ⟨"GuessFair$Envelope", FE, rfl, by decide, by decide, tk1 81 (by decide +kernel) rfl, uwE⟩
theorem flE_31 : FLK "GuessFair$Envelope" 31 1 7 5 := ⟨"GuessFair$Envelope", FE, rfl, by decide, by decide, tk1 82 (by decide +kernel) rfl, uwE⟩
theorem flP_38 : FLK "GuessFair$Payer" 38 1 7 5 := ⟨"GuessFair$Envelope", FE, rfl, by decide, by decide, tk1 83 (by decide +kernel) rfl, uwE⟩
theorem flF_75 : FLK "GuessFair$Fair" 75 1 7 5 := ⟨"GuessFair$Envelope", FE, rfl, by decide, by decide, tk1 84 (by decide +kernel) rfl, uwE⟩
theorem flG_111 : FLK "GuessFair" 111 1 7 5 := ⟨"GuessFair$Envelope", FE, rfl, by decide, by decide, tk1 85 (by decide +kernel) rfl, uwE⟩
theorem flE_9 : FLK "GuessFair$Envelope" 9 1 7 6 := ⟨"GuessFair$Envelope", FE, rfl, by decide, by decide, tk1 86 (by decide +kernel) rfl, uwE⟩
theorem flF_78 : FLK "GuessFair$Fair" 78 1 7 6 := ⟨"GuessFair$Envelope", FE, rfl, by decide, by decide, tk1 87 (by decide +kernel) rfl, uwE⟩
theorem flP_90 : FLK "GuessFair$Payer" 90 1 7 6 := ⟨"GuessFair$Envelope", FE, rfl, by decide, by decide, tk1 88 (by decide +kernel) rfl, uwE⟩
theorem flG_114 : FLK "GuessFair" 114 1 7 6 := ⟨"GuessFair$Envelope", FE, rfl, by decide, by decide, tk1 89 (by decide +kernel) rfl, uwE⟩
theorem flF_38 : FLK "GuessFair$Fair" 38 2 9 0 := ⟨"GuessFair$Fair", FF, rfl, by decide, by decide, tk1 105 (by decide +kernel) rfl, uwF⟩
theorem flS_33 : FLK "GuessFair$Stakes" 33 2 9 0 := ⟨"GuessFair$Fair", FF, rfl, by decide, by decide, tk1 106 (by decide +kernel) rfl, uwF⟩
theorem flG_79 : FLK "GuessFair" 79 2 9 0 := ⟨"GuessFair$Fair", FF, rfl, by decide, by decide, tk1 107 (by decide +kernel) rfl, uwF⟩
theorem flP_104 : FLK "GuessFair$Payer" 104 2 9 0 := ⟨"GuessFair$Fair", FF, rfl, by decide, by decide, tk1 108 (by decide +kernel) rfl, uwF⟩
theorem flF_9 : FLK "GuessFair$Fair" 9 2 9 1 := ⟨"GuessFair$Fair", FF, rfl, by decide, by decide, tk1 109 (by decide +kernel) rfl, uwF⟩
theorem flG_71 : FLK "GuessFair" 71 2 9 1 := ⟨"GuessFair$Fair", FF, rfl, by decide, by decide, tk1 110 (by decide +kernel) rfl, uwF⟩
theorem flP_53 : FLK "GuessFair$Payer" 53 2 9 1 := ⟨"GuessFair$Fair", FF, rfl, by decide, by decide, tk1 111 (by decide +kernel) rfl, uwF⟩
theorem flS_23 : FLK "GuessFair$Stakes" 23 2 9 2 := ⟨"GuessFair$Fair", FF, rfl, by decide, by decide, tk1 112 (by decide +kernel) rfl, uwF⟩
theorem flF_47 : FLK "GuessFair$Fair" 47 2 9 2 := ⟨"GuessFair$Fair", FF, rfl, by decide, by decide, tk1 113 (by decide +kernel) rfl, uwF⟩
theorem flP_93 : FLK "GuessFair$Payer" 93 2 9 2 := ⟨"GuessFair$Fair", FF, rfl, by decide, by decide, tk1 114 (by decide +kernel) rfl, uwF⟩
theorem flG_164 : FLK "GuessFair" 164 2 9 2 := ⟨"GuessFair$Fair", FF, rfl, by decide, by decide, tk1 115 (by decide +kernel) rfl, uwF⟩
theorem flF_17 : FLK "GuessFair$Fair" 17 2 9 3 := ⟨"GuessFair$Fair", FF, rfl, by decide, by decide, tk1 116 (by decide +kernel) rfl, uwF⟩
theorem flS_29 : FLK "GuessFair$Stakes" 29 2 9 3 := ⟨"GuessFair$Fair", FF, rfl, by decide, by decide, tk1 117 (by decide +kernel) rfl, uwF⟩
theorem flP_96 : FLK "GuessFair$Payer" 96 2 9 3 := ⟨"GuessFair$Fair", FF, rfl, by decide, by decide, tk1 118 (by decide +kernel) rfl, uwF⟩
theorem flG_255 : FLK "GuessFair" 255 2 9 3 := ⟨"GuessFair$Fair", FF, rfl, by decide, by decide, tk1 119 (by decide +kernel) rfl, uwF⟩
theorem flP_29 : FLK "GuessFair$Payer" 29 2 9 4 := ⟨"GuessFair$Fair", FF, rfl, by decide, by decide, tk1 120 (by decide +kernel) rfl, uwF⟩
theorem flF_54 : FLK "GuessFair$Fair" 54 2 9 4 := ⟨"GuessFair$Fair", FF, rfl, by decide, by decide, tk1 121 (by decide +kernel) rfl, uwF⟩
theorem flG_108 : FLK "GuessFair" 108 2 9 4 := ⟨"GuessFair$Fair", FF, rfl, by decide, by decide, tk1 122 (by decide +kernel) rfl, uwF⟩
theorem flF_57 : FLK "GuessFair$Fair" 57 2 9 5 := ⟨"GuessFair$Fair", FF, rfl, by decide, by decide, tk1 123 (by decide +kernel) rfl, uwF⟩
theorem flG_127 : FLK "GuessFair" 127 2 9 5 := ⟨"GuessFair$Fair", FF, rfl, by decide, by decide, tk1 124 (by decide +kernel) rfl, uwF⟩
theorem flF_21 : FLK "GuessFair$Fair" 21 2 9 6 := ⟨"GuessFair$Fair", FF, rfl, by decide, by decide, tk1 125 (by decide +kernel) rfl, uwF⟩
theorem flP_65 : FLK "GuessFair$Payer" 65 2 9 6 := ⟨"GuessFair$Fair", FF, rfl, by decide, by decide, tk1 126 (by decide +kernel) rfl, uwF⟩
theorem flG_124 : FLK "GuessFair" 124 2 9 6 := ⟨"GuessFair$Fair", FF, rfl, by decide, by decide, tk1 127 (by decide +kernel) rfl, uwF⟩
theorem flF_28 : FLK "GuessFair$Fair" 28 2 9 7 := ⟨"GuessFair$Fair", FF, rfl, by decide, by decide, tk1 128 (by decide +kernel) rfl, uwF⟩
theorem flG_177 : FLK "GuessFair" 177 2 9 7 := ⟨"GuessFair$Fair", FF, rfl, by decide, by decide, tk1 129 (by decide +kernel) rfl, uwF⟩
theorem flF_32 : FLK "GuessFair$Fair" 32 2 9 8 := ⟨"GuessFair$Fair", FF, rfl, by decide, by decide, tk1 130 (by decide +kernel) rfl, uwF⟩
theorem flP_129 : FLK "GuessFair$Payer" 129 2 9 8 := ⟨"GuessFair$Fair", FF, rfl, by decide, by decide, tk1 131 (by decide +kernel) rfl, uwF⟩
theorem flG_233 : FLK "GuessFair" 233 2 9 8 := ⟨"GuessFair$Fair", FF, rfl, by decide, by decide, tk1 132 (by decide +kernel) rfl, uwF⟩
theorem flR_15 : FLK "GuessFair$LawReader" 15 3 7 0 := ⟨"GuessFair$LawReader", FR, rfl, by decide, by decide, tk1 166 (by decide +kernel) rfl, uwR⟩
theorem flR_18 : FLK "GuessFair$LawReader" 18 3 7 1 := ⟨"GuessFair$LawReader", FR, rfl, by decide, by decide, tk1 167 (by decide +kernel) rfl, uwR⟩
theorem flR_9 : FLK "GuessFair$LawReader" 9 3 7 2 := ⟨"GuessFair$LawReader", FR, rfl, by decide, by decide, tk1 168 (by decide +kernel) rfl, uwR⟩
theorem flR_22 : FLK "GuessFair$LawReader" 22 3 7 3 := ⟨"GuessFair$LawReader", FR, rfl, by decide, by decide, tk1 169 (by decide +kernel) rfl, uwR⟩
theorem flL_46 : FLK "GuessFair$Laws" 46 3 7 3 := ⟨"GuessFair$LawReader", FR, rfl, by decide, by decide, tk1 170 (by decide +kernel) rfl, uwR⟩
theorem flR_25 : FLK "GuessFair$LawReader" 25 3 7 4 := ⟨"GuessFair$LawReader", FR, rfl, by decide, by decide, tk1 171 (by decide +kernel) rfl, uwR⟩
theorem flL_49 : FLK "GuessFair$Laws" 49 3 7 4 := ⟨"GuessFair$LawReader", FR, rfl, by decide, by decide, tk1 172 (by decide +kernel) rfl, uwR⟩
theorem flR_28 : FLK "GuessFair$LawReader" 28 3 7 5 := ⟨"GuessFair$LawReader", FR, rfl, by decide, by decide, tk1 173 (by decide +kernel) rfl, uwR⟩
theorem flL_52 : FLK "GuessFair$Laws" 52 3 7 5 := ⟨"GuessFair$LawReader", FR, rfl, by decide, by decide, tk1 174 (by decide +kernel) rfl, uwR⟩
theorem flR_61 : FLK "GuessFair$LawReader" 61 3 7 6 := ⟨"GuessFair$LawReader", FR, rfl, by decide, by decide, tk1 175 (by decide +kernel) rfl, uwR⟩
theorem flL_9 : FLK "GuessFair$Laws" 9 4 7 0 := ⟨"GuessFair$Laws", FL, rfl, by decide, by decide, tk1 191 (by decide +kernel) rfl, uwL⟩
theorem flL_35 : FLK "GuessFair$Laws" 35 4 7 1 := ⟨"GuessFair$Laws", FL, rfl, by decide, by decide, tk1 192 (by decide +kernel) rfl, uwL⟩
theorem flG_285 : FLK "GuessFair" 285 4 7 1 := ⟨"GuessFair$Laws", FL, rfl, by decide, by decide, tk1 193 (by decide +kernel) rfl, uwL⟩
theorem flL_39 : FLK "GuessFair$Laws" 39 4 7 2 := ⟨"GuessFair$Laws", FL, rfl, by decide, by decide, tk1 194 (by decide +kernel) rfl, uwL⟩
theorem flG_279 : FLK "GuessFair" 279 4 7 2 := ⟨"GuessFair$Laws", FL, rfl, by decide, by decide, tk1 195 (by decide +kernel) rfl, uwL⟩
theorem flL_17 : FLK "GuessFair$Laws" 17 4 7 3 := ⟨"GuessFair$Laws", FL, rfl, by decide, by decide, tk1 196 (by decide +kernel) rfl, uwL⟩
theorem flL_20 : FLK "GuessFair$Laws" 20 4 7 4 := ⟨"GuessFair$Laws", FL, rfl, by decide, by decide, tk1 197 (by decide +kernel) rfl, uwL⟩
theorem flL_23 : FLK "GuessFair$Laws" 23 4 7 5 := ⟨"GuessFair$Laws", FL, rfl, by decide, by decide, tk1 198 (by decide +kernel) rfl, uwL⟩
theorem flL_31 : FLK "GuessFair$Laws" 31 4 7 6 := ⟨"GuessFair$Laws", FL, rfl, by decide, by decide, tk1 199 (by decide +kernel) rfl, uwL⟩
theorem flP_15 : FLK "GuessFair$Payer" 15 5 3 0 := ⟨"GuessFair$Payer", FP, rfl, by decide, by decide, tk1 221 (by decide +kernel) rfl, uwP⟩
theorem flP_19 : FLK "GuessFair$Payer" 19 5 3 1 := ⟨"GuessFair$Payer", FP, rfl, by decide, by decide, tk1 222 (by decide +kernel) rfl, uwP⟩
theorem flP_9 : FLK "GuessFair$Payer" 9 5 3 2 := ⟨"GuessFair$Payer", FP, rfl, by decide, by decide, tk1 223 (by decide +kernel) rfl, uwP⟩
theorem flS_15 : FLK "GuessFair$Stakes" 15 7 3 0 := ⟨"GuessFair$Stakes", FS, rfl, by decide, by decide, tk1 237 (by decide +kernel) rfl, uwS⟩
theorem flS_19 : FLK "GuessFair$Stakes" 19 7 3 1 := ⟨"GuessFair$Stakes", FS, rfl, by decide, by decide, tk1 238 (by decide +kernel) rfl, uwS⟩
theorem flS_9 : FLK "GuessFair$Stakes" 9 7 3 2 := ⟨"GuessFair$Stakes", FS, rfl, by decide, by decide, tk1 239 (by decide +kernel) rfl, uwS⟩
theorem flA_15 : FLK "GuessFair$Acts" 15 0 5 0 := ⟨"GuessFair$Acts", FA, rfl, by decide, by decide, tk2 13 (by decide +kernel) rfl, uwA⟩
theorem flG_288 : FLK "GuessFair" 288 0 5 0 := ⟨"GuessFair$Acts", FA, rfl, by decide, by decide, tk2 14 (by decide +kernel) rfl, uwA⟩
theorem flA_9 : FLK "GuessFair$Acts" 9 0 5 1 := ⟨"GuessFair$Acts", FA, rfl, by decide, by decide, tk2 15 (by decide +kernel) rfl, uwA⟩
theorem flA_24 : FLK "GuessFair$Acts" 24 0 5 2 := ⟨"GuessFair$Acts", FA, rfl, by decide, by decide, tk2 16 (by decide +kernel) rfl, uwA⟩
theorem flA_28 : FLK "GuessFair$Acts" 28 0 5 3 := ⟨"GuessFair$Acts", FA, rfl, by decide, by decide, tk2 17 (by decide +kernel) rfl, uwA⟩
theorem flA_32 : FLK "GuessFair$Acts" 32 0 5 4 := ⟨"GuessFair$Acts", FA, rfl, by decide, by decide, tk2 18 (by decide +kernel) rfl, uwA⟩
theorem flT_9 : FLK "GuessFair$Tapes" 9 8 3 0 := ⟨"GuessFair$Tapes", FT, rfl, by decide, by decide, tk2 38 (by decide +kernel) rfl, uwT⟩
theorem flG_299 : FLK "GuessFair" 299 8 3 0 := ⟨"GuessFair$Tapes", FT, rfl, by decide, by decide, tk2 39 (by decide +kernel) rfl, uwT⟩
theorem flT_15 : FLK "GuessFair$Tapes" 15 8 3 1 := ⟨"GuessFair$Tapes", FT, rfl, by decide, by decide, tk2 40 (by decide +kernel) rfl, uwT⟩
theorem flT_20 : FLK "GuessFair$Tapes" 20 8 3 2 := ⟨"GuessFair$Tapes", FT, rfl, by decide, by decide, tk2 41 (by decide +kernel) rfl, uwT⟩
theorem flG_306 : FLK "GuessFair" 306 8 3 2 := ⟨"GuessFair$Tapes", FT, rfl, by decide, by decide, tk2 42 (by decide +kernel) rfl, uwT⟩
theorem flG_12 : FLK "GuessFair" 12 9 8 0 := ⟨"GuessFair", FG, rfl, by decide, by decide, tk2 51 (by decide +kernel) rfl, uwG⟩
theorem flG_18 : FLK "GuessFair" 18 9 8 1 := ⟨"GuessFair", FG, rfl, by decide, by decide, tk2 52 (by decide +kernel) rfl, uwG⟩
theorem flG_263 : FLK "GuessFair" 263 9 8 2 := ⟨"GuessFair", FG, rfl, by decide, by decide, tk2 53 (by decide +kernel) rfl, uwG⟩
theorem flG_24 : FLK "GuessFair" 24 9 8 3 := ⟨"GuessFair", FG, rfl, by decide, by decide, tk2 54 (by decide +kernel) rfl, uwG⟩
theorem flG_33 : FLK "GuessFair" 33 9 8 4 := ⟨"GuessFair", FG, rfl, by decide, by decide, tk2 55 (by decide +kernel) rfl, uwG⟩
theorem flG_42 : FLK "GuessFair" 42 9 8 5 := ⟨"GuessFair", FG, rfl, by decide, by decide, tk2 56 (by decide +kernel) rfl, uwG⟩
theorem flG_49 : FLK "GuessFair" 49 9 8 6 := ⟨"GuessFair", FG, rfl, by decide, by decide, tk2 57 (by decide +kernel) rfl, uwG⟩
theorem flG_56 : FLK "GuessFair" 56 9 8 7 := ⟨"GuessFair", FG, rfl, by decide, by decide, tk2 58 (by decide +kernel) rfl, uwG⟩
theorem fwJS_38 : Cond.fieldLink "java/lang/String" 38 "java/lang/String" "COMPACT_STRINGS" "Z" ∈ lw_g := tk2 174 (by decide +kernel) rfl
theorem fwJS_1053 : Cond.fieldLink "java/lang/String" 1053 "jdk/internal/util/Preconditions" "SIOOBE_FORMATTER" "Ljava/util/function/BiFunction;" ∈ lw_g := tk2 190 (by decide +kernel) rfl
theorem fwJU_44 : Cond.fieldLink "java/lang/StringUTF16" 44 "java/lang/StringUTF16" "$assertionsDisabled" "Z" ∈ lw_g := tk2 208 (by decide +kernel) rfl
theorem fwJU_59 : Cond.fieldLink "java/lang/StringUTF16" 59 "java/lang/StringUTF16" "HI_BYTE_SHIFT" "I" ∈ lw_g := tk2 210 (by decide +kernel) rfl
theorem fwJU_63 : Cond.fieldLink "java/lang/StringUTF16" 63 "java/lang/StringUTF16" "LO_BYTE_SHIFT" "I" ∈ lw_g := tk2 212 (by decide +kernel) rfl
theorem fwA_52 : Cond.fieldLink "GuessFair$Acts" 52 "GuessFair$Acts" "BODIES" "[I" ∈ lw_g := tk4 171 (by decide +kernel) rfl
theorem fwG_316 : Cond.fieldLink "GuessFair" 316 "GuessFair" "ABOVE" "[I" ∈ lw_g := tk4 196 (by decide +kernel) rfl
theorem flM_7 : FLK "GuessFairModel" 7 10 63 0 := ⟨"GuessFairModel", FM, rfl, by decide, by decide, tk4 239 (by decide +kernel) rfl, uwM⟩
theorem flM_13 : FLK "GuessFairModel" 13 10 63 1 := ⟨"GuessFairModel", FM, rfl, by decide, by decide, tk5 0 (by decide +kernel) rfl, uwM⟩
theorem flM_16 : FLK "GuessFairModel" 16 10 63 2 := ⟨"GuessFairModel", FM, rfl, by decide, by decide, tk5 1 (by decide +kernel) rfl, uwM⟩
theorem flM_19 : FLK "GuessFairModel" 19 10 63 3 := ⟨"GuessFairModel", FM, rfl, by decide, by decide, tk5 2 (by decide +kernel) rfl, uwM⟩
theorem flM_22 : FLK "GuessFairModel" 22 10 63 4 := ⟨"GuessFairModel", FM, rfl, by decide, by decide, tk5 3 (by decide +kernel) rfl, uwM⟩
theorem flM_26 : FLK "GuessFairModel" 26 10 63 5 := ⟨"GuessFairModel", FM, rfl, by decide, by decide, tk5 4 (by decide +kernel) rfl, uwM⟩
theorem flM_29 : FLK "GuessFairModel" 29 10 63 6 := ⟨"GuessFairModel", FM, rfl, by decide, by decide, tk5 5 (by decide +kernel) rfl, uwM⟩
theorem flM_32 : FLK "GuessFairModel" 32 10 63 7 := ⟨"GuessFairModel", FM, rfl, by decide, by decide, tk5 6 (by decide +kernel) rfl, uwM⟩
theorem flM_35 : FLK "GuessFairModel" 35 10 63 8 := ⟨"GuessFairModel", FM, rfl, by decide, by decide, tk5 7 (by decide +kernel) rfl, uwM⟩
theorem flM_38 : FLK "GuessFairModel" 38 10 63 9 := ⟨"GuessFairModel", FM, rfl, by decide, by decide, tk5 8 (by decide +kernel) rfl, uwM⟩
theorem flM_41 : FLK "GuessFairModel" 41 10 63 10 := ⟨"GuessFairModel", FM, rfl, by decide, by decide, tk5 9 (by decide +kernel) rfl, uwM⟩
theorem flM_44 : FLK "GuessFairModel" 44 10 63 11 := ⟨"GuessFairModel", FM, rfl, by decide, by decide, tk5 10 (by decide +kernel) rfl, uwM⟩
theorem flM_47 : FLK "GuessFairModel" 47 10 63 12 := ⟨"GuessFairModel", FM, rfl, by decide, by decide, tk5 11 (by decide +kernel) rfl, uwM⟩
theorem flM_50 : FLK "GuessFairModel" 50 10 63 13 := ⟨"GuessFairModel", FM, rfl, by decide, by decide, tk5 12 (by decide +kernel) rfl, uwM⟩
theorem flM_53 : FLK "GuessFairModel" 53 10 63 14 := ⟨"GuessFairModel", FM, rfl, by decide, by decide, tk5 13 (by decide +kernel) rfl, uwM⟩
theorem flM_56 : FLK "GuessFairModel" 56 10 63 15 := ⟨"GuessFairModel", FM, rfl, by decide, by decide, tk5 14 (by decide +kernel) rfl, uwM⟩
theorem flM_59 : FLK "GuessFairModel" 59 10 63 16 := ⟨"GuessFairModel", FM, rfl, by decide, by decide, tk5 15 (by decide +kernel) rfl, uwM⟩
theorem flM_62 : FLK "GuessFairModel" 62 10 63 17 := ⟨"GuessFairModel", FM, rfl, by decide, by decide, tk5 16 (by decide +kernel) rfl, uwM⟩
theorem flM_65 : FLK "GuessFairModel" 65 10 63 18 := ⟨"GuessFairModel", FM, rfl, by decide, by decide, tk5 17 (by decide +kernel) rfl, uwM⟩
theorem flM_68 : FLK "GuessFairModel" 68 10 63 19 := ⟨"GuessFairModel", FM, rfl, by decide, by decide, tk5 18 (by decide +kernel) rfl, uwM⟩
theorem flM_71 : FLK "GuessFairModel" 71 10 63 20 := ⟨"GuessFairModel", FM, rfl, by decide, by decide, tk5 19 (by decide +kernel) rfl, uwM⟩
theorem flM_74 : FLK "GuessFairModel" 74 10 63 21 := ⟨"GuessFairModel", FM, rfl, by decide, by decide, tk5 20 (by decide +kernel) rfl, uwM⟩
theorem flM_77 : FLK "GuessFairModel" 77 10 63 22 := ⟨"GuessFairModel", FM, rfl, by decide, by decide, tk5 21 (by decide +kernel) rfl, uwM⟩
theorem flM_80 : FLK "GuessFairModel" 80 10 63 23 := ⟨"GuessFairModel", FM, rfl, by decide, by decide, tk5 22 (by decide +kernel) rfl, uwM⟩
theorem flM_83 : FLK "GuessFairModel" 83 10 63 24 := ⟨"GuessFairModel", FM, rfl, by decide, by decide, tk5 23 (by decide +kernel) rfl, uwM⟩
theorem flM_86 : FLK "GuessFairModel" 86 10 63 25 := ⟨"GuessFairModel", FM, rfl, by decide, by decide, tk5 24 (by decide +kernel) rfl, uwM⟩
theorem flM_89 : FLK "GuessFairModel" 89 10 63 26 := ⟨"GuessFairModel", FM, rfl, by decide, by decide, tk5 25 (by decide +kernel) rfl, uwM⟩
theorem flM_92 : FLK "GuessFairModel" 92 10 63 27 := ⟨"GuessFairModel", FM, rfl, by decide, by decide, tk5 26 (by decide +kernel) rfl, uwM⟩
theorem flM_95 : FLK "GuessFairModel" 95 10 63 28 := ⟨"GuessFairModel", FM, rfl, by decide, by decide, tk5 27 (by decide +kernel) rfl, uwM⟩
theorem flM_99 : FLK "GuessFairModel" 99 10 63 29 := ⟨"GuessFairModel", FM, rfl, by decide, by decide, tk5 28 (by decide +kernel) rfl, uwM⟩
theorem flM_102 : FLK "GuessFairModel" 102 10 63 30 := ⟨"GuessFairModel", FM, rfl, by decide, by decide, tk5 29 (by decide +kernel) rfl, uwM⟩
theorem flM_105 : FLK "GuessFairModel" 105 10 63 31 := ⟨"GuessFairModel", FM, rfl, by decide, by decide, tk5 30 (by decide +kernel) rfl, uwM⟩
theorem flM_108 : FLK "GuessFairModel" 108 10 63 32 := ⟨"GuessFairModel", FM, rfl, by decide, by decide, tk5 31 (by decide +kernel) rfl, uwM⟩
theorem flM_111 : FLK "GuessFairModel" 111 10 63 33 := ⟨"GuessFairModel", FM, rfl, by decide, by decide, tk5 32 (by decide +kernel) rfl, uwM⟩
theorem flM_114 : FLK "GuessFairModel" 114 10 63 34 := ⟨"GuessFairModel", FM, rfl, by decide, by decide, tk5 33 (by decide +kernel) rfl, uwM⟩
theorem flM_117 : FLK "GuessFairModel" 117 10 63 35 := ⟨"GuessFairModel", FM, rfl, by decide, by decide, tk5 34 (by decide +kernel) rfl, uwM⟩
theorem flM_120 : FLK "GuessFairModel" 120 10 63 36 := ⟨"GuessFairModel", FM, rfl, by decide, by decide, tk5 35 (by decide +kernel) rfl, uwM⟩
theorem flM_123 : FLK "GuessFairModel" 123 10 63 37 := ⟨"GuessFairModel", FM, rfl, by decide, by decide, tk5 36 (by decide +kernel) rfl, uwM⟩
theorem flM_127 : FLK "GuessFairModel" 127 10 63 38 := ⟨"GuessFairModel", FM, rfl, by decide, by decide, tk5 37 (by decide +kernel) rfl, uwM⟩
theorem flM_130 : FLK "GuessFairModel" 130 10 63 39 := ⟨"GuessFairModel", FM, rfl, by decide, by decide, tk5 38 (by decide +kernel) rfl, uwM⟩
theorem flM_133 : FLK "GuessFairModel" 133 10 63 40 := ⟨"GuessFairModel", FM, rfl, by decide, by decide, tk5 39 (by decide +kernel) rfl, uwM⟩
theorem flM_136 : FLK "GuessFairModel" 136 10 63 41 := ⟨"GuessFairModel", FM, rfl, by decide, by decide, tk5 40 (by decide +kernel) rfl, uwM⟩
theorem flM_139 : FLK "GuessFairModel" 139 10 63 42 := ⟨"GuessFairModel", FM, rfl, by decide, by decide, tk5 41 (by decide +kernel) rfl, uwM⟩
theorem flM_142 : FLK "GuessFairModel" 142 10 63 43 := ⟨"GuessFairModel", FM, rfl, by decide, by decide, tk5 42 (by decide +kernel) rfl, uwM⟩
theorem flM_145 : FLK "GuessFairModel" 145 10 63 44 := ⟨"GuessFairModel", FM, rfl, by decide, by decide, tk5 43 (by decide +kernel) rfl, uwM⟩
theorem flM_148 : FLK "GuessFairModel" 148 10 63 45 := ⟨"GuessFairModel", FM, rfl, by decide, by decide, tk5 44 (by decide +kernel) rfl, uwM⟩
theorem flM_151 : FLK "GuessFairModel" 151 10 63 46 := ⟨"GuessFairModel", FM, rfl, by decide, by decide, tk5 45 (by decide +kernel) rfl, uwM⟩
theorem flM_154 : FLK "GuessFairModel" 154 10 63 47 := ⟨"GuessFairModel", FM, rfl, by decide, by decide, tk5 46 (by decide +kernel) rfl, uwM⟩
theorem flM_157 : FLK "GuessFairModel" 157 10 63 48 := ⟨"GuessFairModel", FM, rfl, by decide, by decide, tk5 47 (by decide +kernel) rfl, uwM⟩
theorem flM_160 : FLK "GuessFairModel" 160 10 63 49 := ⟨"GuessFairModel", FM, rfl, by decide, by decide, tk5 48 (by decide +kernel) rfl, uwM⟩
theorem flM_163 : FLK "GuessFairModel" 163 10 63 50 := ⟨"GuessFairModel", FM, rfl, by decide, by decide, tk5 49 (by decide +kernel) rfl, uwM⟩
theorem flM_166 : FLK "GuessFairModel" 166 10 63 51 := ⟨"GuessFairModel", FM, rfl, by decide, by decide, tk5 50 (by decide +kernel) rfl, uwM⟩
theorem flM_169 : FLK "GuessFairModel" 169 10 63 52 := ⟨"GuessFairModel", FM, rfl, by decide, by decide, tk5 51 (by decide +kernel) rfl, uwM⟩
theorem flM_172 : FLK "GuessFairModel" 172 10 63 53 := ⟨"GuessFairModel", FM, rfl, by decide, by decide, tk5 52 (by decide +kernel) rfl, uwM⟩
theorem flM_175 : FLK "GuessFairModel" 175 10 63 54 := ⟨"GuessFairModel", FM, rfl, by decide, by decide, tk5 53 (by decide +kernel) rfl, uwM⟩
theorem flM_178 : FLK "GuessFairModel" 178 10 63 55 := ⟨"GuessFairModel", FM, rfl, by decide, by decide, tk5 54 (by decide +kernel) rfl, uwM⟩
theorem flM_181 : FLK "GuessFairModel" 181 10 63 56 := ⟨"GuessFairModel", FM, rfl, by decide, by decide, tk5 55 (by decide +kernel) rfl, uwM⟩
theorem flM_184 : FLK "GuessFairModel" 184 10 63 57 := ⟨"GuessFairModel", FM, rfl, by decide, by decide, tk5 56 (by decide +kernel) rfl, uwM⟩
theorem flM_187 : FLK "GuessFairModel" 187 10 63 58 := ⟨"GuessFairModel", FM, rfl, by decide, by decide, tk5 57 (by decide +kernel) rfl, uwM⟩
theorem flM_190 : FLK "GuessFairModel" 190 10 63 59 := ⟨"GuessFairModel", FM, rfl, by decide, by decide, tk5 58 (by decide +kernel) rfl, uwM⟩
theorem flM_193 : FLK "GuessFairModel" 193 10 63 60 := ⟨"GuessFairModel", FM, rfl, by decide, by decide, tk5 59 (by decide +kernel) rfl, uwM⟩
theorem flM_196 : FLK "GuessFairModel" 196 10 63 61 := ⟨"GuessFairModel", FM, rfl, by decide, by decide, tk5 60 (by decide +kernel) rfl, uwM⟩
theorem flM_200 : FLK "GuessFairModel" 200 10 63 62 := ⟨"GuessFairModel", FM, rfl, by decide, by decide, tk5 61 (by decide +kernel) rfl, uwM⟩
theorem fwJS_9 : Cond.fieldLink "java/lang/String" 9 "java/lang/String" "value" "[B" ∈ lw_g := tk7 107 (by decide +kernel) rfl
theorem fwJS_15 : Cond.fieldLink "java/lang/String" 15 "java/lang/String" "coder" "B" ∈ lw_g := tk7 108 (by decide +kernel) rfl
theorem mlZ_9 : Cond.methodLink "GuessFairLaw" 9 mG_init.1 ∈ lw_g := tk1 23 (by decide +kernel) rfl
theorem mlG_3 : Cond.methodLink "GuessFair" 3 objectInit ∈ lw_g := tk1 26 (by decide +kernel) rfl
theorem mlG_11 : Cond.methodLink "GuessFair" 11 mF_init.1 ∈ lw_g := tk1 31 (by decide +kernel) rfl
theorem mlF_3 : Cond.methodLink "GuessFair$Fair" 3 objectInit ∈ lw_g := tk1 34 (by decide +kernel) rfl
theorem mlW_3 : Cond.methodLink "GuessFair$Rows" 3 objectInit ∈ lw_g := tk1 42 (by decide +kernel) rfl
theorem mlF_35 : Cond.methodLink "GuessFair$Fair" 35 mE_init.1 ∈ lw_g := tk1 55 (by decide +kernel) rfl
theorem mlE_3 : Cond.methodLink "GuessFair$Envelope" 3 objectInit ∈ lw_g := tk1 58 (by decide +kernel) rfl
theorem mlL_3 : Cond.methodLink "GuessFair$Laws" 3 objectInit ∈ lw_g := tk1 157 (by decide +kernel) rfl
theorem mlL_28 : Cond.methodLink "GuessFair$Laws" 28 mR_init.1 ∈ lw_g := tk1 162 (by decide +kernel) rfl
theorem mlR_3 : Cond.methodLink "GuessFair$LawReader" 3 objectInit ∈ lw_g := tk1 165 (by decide +kernel) rfl
theorem mlG_30 : Cond.methodLink "GuessFair" 30 mP_init.1 ∈ lw_g := tk1 217 (by decide +kernel) rfl
theorem mlP_3 : Cond.methodLink "GuessFair$Payer" 3 objectInit ∈ lw_g := tk1 220 (by decide +kernel) rfl
theorem mlG_39 : Cond.methodLink "GuessFair" 39 mS_init.1 ∈ lw_g := tk1 233 (by decide +kernel) rfl
theorem mlS_3 : Cond.methodLink "GuessFair$Stakes" 3 objectInit ∈ lw_g := tk1 236 (by decide +kernel) rfl
theorem mlA_3 : Cond.methodLink "GuessFair$Acts" 3 objectInit ∈ lw_g := tk2 12 (by decide +kernel) rfl
theorem mlG_55 : Cond.methodLink "GuessFair" 55 mT_init.1 ∈ lw_g := tk2 32 (by decide +kernel) rfl
theorem mlT_3 : Cond.methodLink "GuessFair$Tapes" 3 objectInit ∈ lw_g := tk2 35 (by decide +kernel) rfl
theorem mlZ_13 : Cond.methodLink "GuessFairLaw" 13 mG_world.1 ∈ lw_g := tk2 76 (by decide +kernel) rfl
theorem mlG_60 : Cond.methodLink "GuessFair" 60 mG_isChance.1 ∈ lw_g := tk2 80 (by decide +kernel) rfl
theorem mlG_64 : Cond.methodLink "GuessFair" 64 mF_addWorld.1 ∈ lw_g := tk2 83 (by decide +kernel) rfl
theorem mlZ_18 : Cond.methodLink "GuessFairLaw" 18 mG_chance.1 ∈ lw_g := tk2 87 (by decide +kernel) rfl
theorem mlG_68 : Cond.methodLink "GuessFair" 68 mF_hasWorld.1 ∈ lw_g := tk2 91 (by decide +kernel) rfl
theorem mlZ_23 : Cond.methodLink "GuessFairLaw" 23 mG_envelope.1 ∈ lw_g := tk2 95 (by decide +kernel) rfl
theorem mlG_75 : Cond.methodLink "GuessFair" 75 mG_isUpTo.1 ∈ lw_g := tk2 99 (by decide +kernel) rfl
theorem mlG_83 : Cond.methodLink "GuessFair" 83 mG_isWithin.1 ∈ lw_g := tk2 102 (by decide +kernel) rfl
theorem mlG_86 : Cond.methodLink "GuessFair" 86 mF_addEnvelope.1 ∈ lw_g := tk2 105 (by decide +kernel) rfl
theorem mlZ_28 : Cond.methodLink "GuessFairLaw" 28 mG_of.1 ∈ lw_g := tk2 109 (by decide +kernel) rfl
theorem mlG_90 : Cond.methodLink "GuessFair" 90 mF_find.1 ∈ lw_g := tk2 113 (by decide +kernel) rfl
theorem mlZ_32 : Cond.methodLink "GuessFairLaw" 32 mG_price.1 ∈ lw_g := tk2 117 (by decide +kernel) rfl
theorem mlZ_36 : Cond.methodLink "GuessFairLaw" 36 mG_say.1 ∈ lw_g := tk2 121 (by decide +kernel) rfl
theorem mlZ_40 : Cond.methodLink "GuessFairLaw" 40 mG_row.1 ∈ lw_g := tk2 125 (by decide +kernel) rfl
theorem mlZ_45 : Cond.methodLink "GuessFairLaw" 45 mG_feed.1 ∈ lw_g := tk2 129 (by decide +kernel) rfl
theorem mlG_117 : Cond.methodLink "GuessFair" 117 mL_addSign.1 ∈ lw_g := tk2 133 (by decide +kernel) rfl
theorem mlZ_49 : Cond.methodLink "GuessFairLaw" 49 mG_law.1 ∈ lw_g := tk2 137 (by decide +kernel) rfl
theorem mlG_120 : Cond.methodLink "GuessFair" 120 mL_enact.1 ∈ lw_g := tk2 141 (by decide +kernel) rfl
theorem mlL_42 : Cond.methodLink "GuessFair$Laws" 42 mR_reads.1 ∈ lw_g := tk2 145 (by decide +kernel) rfl
theorem mlR_31 : Cond.methodLink "GuessFair$LawReader" 31 mR_takes.1 ∈ lw_g := tk2 149 (by decide +kernel) rfl
theorem mlR_39 : Cond.methodLink "GuessFair$LawReader" 39 mR_sign.1 ∈ lw_g := tk2 153 (by decide +kernel) rfl
theorem mlR_35 : Cond.methodLink "GuessFair$LawReader" 35 mR_clause.1 ∈ lw_g := tk2 157 (by decide +kernel) rfl
theorem mlR_45 : Cond.methodLink "GuessFair$LawReader" 45 mR_takesWord.1 ∈ lw_g := tk2 162 (by decide +kernel) rfl
theorem mlR_90 : Cond.methodLink "GuessFair$LawReader" 90 mJS_length_8abf5.1 ∈ lw_g := tk2 166 (by decide +kernel) rfl
theorem mlJS_335 : Cond.methodLink "java/lang/String" 335 mJS_coder_7d493.1 ∈ lw_g := tk2 170 (by decide +kernel) rfl
theorem mlR_93 : Cond.methodLink "GuessFair$LawReader" 93 mJS_charAt_5068e.1 ∈ lw_g := tk2 176 (by decide +kernel) rfl
theorem mlJS_492 : Cond.methodLink "java/lang/String" 492 mJS_isLatin1_aae02.1 ∈ lw_g := tk2 180 (by decide +kernel) rfl
theorem mlJS_495 : Cond.methodLink "java/lang/String" 495 mJL_charAt_3b067.1 ∈ lw_g := tk2 184 (by decide +kernel) rfl
theorem mlJL_9 : Cond.methodLink "java/lang/StringLatin1" 9 mJS_checkIndex_df160.1 ∈ lw_g := tk2 187 (by decide +kernel) rfl
theorem mlJS_1059 : Cond.methodLink "java/lang/String" 1059 mJP_checkIndex_8e157.1 ∈ lw_g := tk2 192 (by decide +kernel) rfl
theorem mlJU_414 : Cond.methodLink "java/lang/StringUTF16" 414 mJS_checkIndex_df160.1 ∈ lw_g := tk2 204 (by decide +kernel) rfl
theorem mlR_49 : Cond.methodLink "GuessFair$LawReader" 49 mR_takesBase.1 ∈ lw_g := tk2 214 (by decide +kernel) rfl
theorem mlR_58 : Cond.methodLink "GuessFair$LawReader" 58 mR_takesNumber.1 ∈ lw_g := tk2 218 (by decide +kernel) rfl
theorem mlR_64 : Cond.methodLink "GuessFair$LawReader" 64 mR_any.1 ∈ lw_g := tk2 224 (by decide +kernel) rfl
theorem mlR_71 : Cond.methodLink "GuessFair$LawReader" 71 mR_one.1 ∈ lw_g := tk2 228 (by decide +kernel) rfl
theorem mlR_74 : Cond.methodLink "GuessFair$LawReader" 74 mR_test.1 ∈ lw_g := tk2 232 (by decide +kernel) rfl
theorem mlR_79 : Cond.methodLink "GuessFair$LawReader" 79 mJS_indexOf_0f7a4.1 ∈ lw_g := tk2 237 (by decide +kernel) rfl
theorem mlJS_633 : Cond.methodLink "java/lang/String" 633 mJS_indexOf_7cf53.1 ∈ lw_g := tk3 1 (by decide +kernel) rfl
theorem mlJS_505 : Cond.methodLink "java/lang/String" 505 mJS_length_8abf5.1 ∈ lw_g := tk3 5 (by decide +kernel) rfl
theorem mlJS_637 : Cond.methodLink "java/lang/String" 637 mJL_indexOf_4cfef.1 ∈ lw_g := tk3 6 (by decide +kernel) rfl
theorem mlJL_88 : Cond.methodLink "java/lang/StringLatin1" 88 mJL_canEncode_9a6ad.1 ∈ lw_g := tk3 9 (by decide +kernel) rfl
theorem mlJL_92 : Cond.methodLink "java/lang/StringLatin1" 92 mJM_max_7cf53.1 ∈ lw_g := tk3 12 (by decide +kernel) rfl
theorem mlJL_38 : Cond.methodLink "java/lang/StringLatin1" 38 mJM_min_7cf53.1 ∈ lw_g := tk3 15 (by decide +kernel) rfl
theorem mlJL_95 : Cond.methodLink "java/lang/StringLatin1" 95 mJL_indexOfChar_4cfef.1 ∈ lw_g := tk3 18 (by decide +kernel) rfl
theorem mlJU_224 : Cond.methodLink "java/lang/StringUTF16" 224 mJM_max_7cf53.1 ∈ lw_g := tk3 24 (by decide +kernel) rfl
theorem mlJU_183 : Cond.methodLink "java/lang/StringUTF16" 183 mJM_min_7cf53.1 ∈ lw_g := tk3 25 (by decide +kernel) rfl
theorem mlR_87 : Cond.methodLink "GuessFair$LawReader" 87 mQ_test.1 ∈ lw_g := tk3 57 (by decide +kernel) rfl
theorem mlR_68 : Cond.methodLink "GuessFair$LawReader" 68 mR_writes.1 ∈ lw_g := tk3 60 (by decide +kernel) rfl
theorem mlZ_54 : Cond.methodLink "GuessFairLaw" 54 mG_told.1 ∈ lw_g := tk3 65 (by decide +kernel) rfl
theorem mlG_130 : Cond.methodLink "GuessFair" 130 mL_baseOf.1 ∈ lw_g := tk3 69 (by decide +kernel) rfl
theorem mlG_133 : Cond.methodLink "GuessFair" 133 mF_allWorlds.1 ∈ lw_g := tk3 73 (by decide +kernel) rfl
theorem mlG_136 : Cond.methodLink "GuessFair" 136 mF_chancesOf.1 ∈ lw_g := tk3 77 (by decide +kernel) rfl
theorem mlZ_58 : Cond.methodLink "GuessFairLaw" 58 mG_pass.1 ∈ lw_g := tk3 84 (by decide +kernel) rfl
theorem mlZ_62 : Cond.methodLink "GuessFairLaw" 62 mG_come.1 ∈ lw_g := tk3 88 (by decide +kernel) rfl
theorem mlG_139 : Cond.methodLink "GuessFair" 139 mP_sumIn.1 ∈ lw_g := tk3 92 (by decide +kernel) rfl
theorem mlP_100 : Cond.methodLink "GuessFair$Payer" 100 mP_payNow.1 ∈ lw_g := tk3 96 (by decide +kernel) rfl
theorem mlP_34 : Cond.methodLink "GuessFair$Payer" 34 mP_payIf.1 ∈ lw_g := tk3 100 (by decide +kernel) rfl
theorem mlP_47 : Cond.methodLink "GuessFair$Payer" 47 mJI_bitCount_0f7a4.1 ∈ lw_g := tk3 104 (by decide +kernel) rfl
theorem mlP_56 : Cond.methodLink "GuessFair$Payer" 56 mJM_min_7cf53.1 ∈ lw_g := tk3 110 (by decide +kernel) rfl
theorem mlP_62 : Cond.methodLink "GuessFair$Payer" 62 mP_gross.1 ∈ lw_g := tk3 111 (by decide +kernel) rfl
theorem mlP_81 : Cond.methodLink "GuessFair$Payer" 81 mL_baseOf.1 ∈ lw_g := tk3 116 (by decide +kernel) rfl
theorem mlP_74 : Cond.methodLink "GuessFair$Payer" 74 mJM_max_7cf53.1 ∈ lw_g := tk3 117 (by decide +kernel) rfl
theorem mlP_87 : Cond.methodLink "GuessFair$Payer" 87 mP_rare.1 ∈ lw_g := tk3 118 (by decide +kernel) rfl
theorem mlP_68 : Cond.methodLink "GuessFair$Payer" 68 mL_extraOf.1 ∈ lw_g := tk3 121 (by decide +kernel) rfl
theorem mlL_61 : Cond.methodLink "GuessFair$Laws" 61 mL_amount.1 ∈ lw_g := tk3 126 (by decide +kernel) rfl
theorem mlL_65 : Cond.methodLink "GuessFair$Laws" 65 mQ_isMet.1 ∈ lw_g := tk3 129 (by decide +kernel) rfl
theorem mlL_68 : Cond.methodLink "GuessFair$Laws" 68 mQ_joined.1 ∈ lw_g := tk3 132 (by decide +kernel) rfl
theorem mlG_143 : Cond.methodLink "GuessFair" 143 mJM_min_7cf53.1 ∈ lw_g := tk3 136 (by decide +kernel) rfl
theorem mlZ_66 : Cond.methodLink "GuessFairLaw" 66 mG_pay.1 ∈ lw_g := tk3 137 (by decide +kernel) rfl
theorem mlG_149 : Cond.methodLink "GuessFair" 149 mP_payNow.1 ∈ lw_g := tk3 141 (by decide +kernel) rfl
theorem mlZ_70 : Cond.methodLink "GuessFairLaw" 70 mG_mean.1 ∈ lw_g := tk3 142 (by decide +kernel) rfl
theorem mlG_155 : Cond.methodLink "GuessFair" 155 mP_weighedNow.1 ∈ lw_g := tk3 147 (by decide +kernel) rfl
theorem mlP_107 : Cond.methodLink "GuessFair$Payer" 107 mP_weighed.1 ∈ lw_g := tk3 151 (by decide +kernel) rfl
theorem mlG_159 : Cond.methodLink "GuessFair" 159 mG_fractionPart.1 ∈ lw_g := tk3 155 (by decide +kernel) rfl
theorem mlG_319 : Cond.methodLink "GuessFair" 319 mG_greatestShared.1 ∈ lw_g := tk3 158 (by decide +kernel) rfl
theorem mlZ_75 : Cond.methodLink "GuessFairLaw" 75 mG_gain.1 ∈ lw_g := tk3 161 (by decide +kernel) rfl
theorem mlG_168 : Cond.methodLink "GuessFair" 168 mS_lookAgain.1 ∈ lw_g := tk3 167 (by decide +kernel) rfl
theorem mlS_36 : Cond.methodLink "GuessFair$Stakes" 36 mP_payNow.1 ∈ lw_g := tk3 171 (by decide +kernel) rfl
theorem mlG_171 : Cond.methodLink "GuessFair" 171 mS_gainOf.1 ∈ lw_g := tk3 172 (by decide +kernel) rfl
theorem mlZ_79 : Cond.methodLink "GuessFairLaw" 79 mG_least.1 ∈ lw_g := tk3 177 (by decide +kernel) rfl
theorem mlG_174 : Cond.methodLink "GuessFair" 174 mS_leastOf.1 ∈ lw_g := tk3 181 (by decide +kernel) rfl
theorem mlS_51 : Cond.methodLink "GuessFair$Stakes" 51 mS_gainOf.1 ∈ lw_g := tk3 185 (by decide +kernel) rfl
theorem mlS_55 : Cond.methodLink "GuessFair$Stakes" 55 mJM_min_7cf53.1 ∈ lw_g := tk3 186 (by decide +kernel) rfl
theorem mlZ_83 : Cond.methodLink "GuessFairLaw" 83 mG_open.1 ∈ lw_g := tk3 187 (by decide +kernel) rfl
theorem mlG_181 : Cond.methodLink "GuessFair" 181 mW_empty.1 ∈ lw_g := tk3 191 (by decide +kernel) rfl
theorem mlG_186 : Cond.methodLink "GuessFair" 186 mW_add.1 ∈ lw_g := tk3 195 (by decide +kernel) rfl
theorem mlZ_88 : Cond.methodLink "GuessFairLaw" 88 mG_left.1 ∈ lw_g := tk3 199 (by decide +kernel) rfl
theorem mlG_190 : Cond.methodLink "GuessFair" 190 mF_leftWorlds.1 ∈ lw_g := tk3 203 (by decide +kernel) rfl
theorem mlF_88 : Cond.methodLink "GuessFair$Fair" 88 mF_allWorlds.1 ∈ lw_g := tk3 207 (by decide +kernel) rfl
theorem mlF_95 : Cond.methodLink "GuessFair$Fair" 95 mW_cell.1 ∈ lw_g := tk3 208 (by decide +kernel) rfl
theorem mlF_99 : Cond.methodLink "GuessFair$Fair" 99 mF_find.1 ∈ lw_g := tk3 212 (by decide +kernel) rfl
theorem mlZ_92 : Cond.methodLink "GuessFairLaw" 92 mG_odds.1 ∈ lw_g := tk3 213 (by decide +kernel) rfl
theorem mlZ_96 : Cond.methodLink "GuessFairLaw" 96 mG_knew.1 ∈ lw_g := tk3 217 (by decide +kernel) rfl
theorem mlG_193 : Cond.methodLink "GuessFair" 193 mF_trueInAll.1 ∈ lw_g := tk3 221 (by decide +kernel) rfl
theorem mlZ_100 : Cond.methodLink "GuessFairLaw" 100 mG_best.1 ∈ lw_g := tk3 225 (by decide +kernel) rfl
theorem mlG_196 : Cond.methodLink "GuessFair" 196 mP_bestSaying.1 ∈ lw_g := tk3 229 (by decide +kernel) rfl
theorem mlP_111 : Cond.methodLink "GuessFair$Payer" 111 mF_allWorlds.1 ∈ lw_g := tk3 233 (by decide +kernel) rfl
theorem mlG_199 : Cond.methodLink "GuessFair" 199 mP_weighed.1 ∈ lw_g := tk3 234 (by decide +kernel) rfl
theorem mlZ_104 : Cond.methodLink "GuessFairLaw" 104 mG_safest.1 ∈ lw_g := tk3 235 (by decide +kernel) rfl
theorem mlG_203 : Cond.methodLink "GuessFair" 203 mS_safestSet.1 ∈ lw_g := tk3 239 (by decide +kernel) rfl
theorem mlS_60 : Cond.methodLink "GuessFair$Stakes" 60 mS_leastOf.1 ∈ lw_g := tk4 3 (by decide +kernel) rfl
theorem mlS_64 : Cond.methodLink "GuessFair$Stakes" 64 mF_allEnvelopes.1 ∈ lw_g := tk4 4 (by decide +kernel) rfl
theorem mlZ_108 : Cond.methodLink "GuessFairLaw" 108 mG_sure.1 ∈ lw_g := tk4 8 (by decide +kernel) rfl
theorem mlG_206 : Cond.methodLink "GuessFair" 206 mS_sureSet.1 ∈ lw_g := tk4 12 (by decide +kernel) rfl
theorem mlZ_112 : Cond.methodLink "GuessFairLaw" 112 mG_hedge.1 ∈ lw_g := tk4 16 (by decide +kernel) rfl
theorem mlG_209 : Cond.methodLink "GuessFair" 209 mS_closestTwo.1 ∈ lw_g := tk4 20 (by decide +kernel) rfl
theorem mlS_71 : Cond.methodLink "GuessFair$Stakes" 71 mS_spanOf.1 ∈ lw_g := tk4 25 (by decide +kernel) rfl
theorem mlS_74 : Cond.methodLink "GuessFair$Stakes" 74 mJM_max_7cf53.1 ∈ lw_g := tk4 29 (by decide +kernel) rfl
theorem mlZ_116 : Cond.methodLink "GuessFairLaw" 116 mG_against.1 ∈ lw_g := tk4 30 (by decide +kernel) rfl
theorem mlG_212 : Cond.methodLink "GuessFair" 212 mF_othersFalseWith.1 ∈ lw_g := tk4 34 (by decide +kernel) rfl
theorem mlZ_120 : Cond.methodLink "GuessFairLaw" 120 mG_when.1 ∈ lw_g := tk4 38 (by decide +kernel) rfl
theorem mlG_215 : Cond.methodLink "GuessFair" 215 mP_bestWait.1 ∈ lw_g := tk4 42 (by decide +kernel) rfl
theorem mlP_115 : Cond.methodLink "GuessFair$Payer" 115 mP_weighedNow.1 ∈ lw_g := tk4 46 (by decide +kernel) rfl
theorem mlZ_124 : Cond.methodLink "GuessFairLaw" 124 mG_crowd.1 ∈ lw_g := tk4 47 (by decide +kernel) rfl
theorem mlG_218 : Cond.methodLink "GuessFair" 218 mF_dearestWorld.1 ∈ lw_g := tk4 51 (by decide +kernel) rfl
theorem mlF_103 : Cond.methodLink "GuessFair$Fair" 103 mF_pricesIn.1 ∈ lw_g := tk4 55 (by decide +kernel) rfl
theorem mlG_221 : Cond.methodLink "GuessFair" 221 mF_pricesIn.1 ∈ lw_g := tk4 59 (by decide +kernel) rfl
theorem mlZ_128 : Cond.methodLink "GuessFairLaw" 128 mG_cheap.1 ∈ lw_g := tk4 60 (by decide +kernel) rfl
theorem mlG_224 : Cond.methodLink "GuessFair" 224 mP_belowMean.1 ∈ lw_g := tk4 64 (by decide +kernel) rfl
theorem mlP_119 : Cond.methodLink "GuessFair$Payer" 119 mF_chancesOf.1 ∈ lw_g := tk4 68 (by decide +kernel) rfl
theorem mlZ_132 : Cond.methodLink "GuessFairLaw" 132 mG_burnt.1 ∈ lw_g := tk4 69 (by decide +kernel) rfl
theorem mlG_227 : Cond.methodLink "GuessFair" 227 mF_allEnvelopes.1 ∈ lw_g := tk4 73 (by decide +kernel) rfl
theorem mlZ_136 : Cond.methodLink "GuessFairLaw" 136 mG_worth.1 ∈ lw_g := tk4 74 (by decide +kernel) rfl
theorem mlG_230 : Cond.methodLink "GuessFair" 230 mP_payingAtLeast.1 ∈ lw_g := tk4 78 (by decide +kernel) rfl
theorem mlP_125 : Cond.methodLink "GuessFair$Payer" 125 mP_paysAtLeast.1 ∈ lw_g := tk4 82 (by decide +kernel) rfl
theorem mlZ_140 : Cond.methodLink "GuessFairLaw" 140 mG_book.1 ∈ lw_g := tk4 86 (by decide +kernel) rfl
theorem mlZ_144 : Cond.methodLink "GuessFairLaw" 144 mG_looked.1 ∈ lw_g := tk4 90 (by decide +kernel) rfl
theorem mlG_236 : Cond.methodLink "GuessFair" 236 mP_firstOtherwise.1 ∈ lw_g := tk4 94 (by decide +kernel) rfl
theorem mlP_138 : Cond.methodLink "GuessFair$Payer" 138 mW_cell.1 ∈ lw_g := tk4 98 (by decide +kernel) rfl
theorem mlP_141 : Cond.methodLink "GuessFair$Payer" 141 mF_find.1 ∈ lw_g := tk4 99 (by decide +kernel) rfl
theorem mlP_145 : Cond.methodLink "GuessFair$Payer" 145 mF_hasWorld.1 ∈ lw_g := tk4 100 (by decide +kernel) rfl
theorem mlZ_148 : Cond.methodLink "GuessFairLaw" 148 mG_judge.1 ∈ lw_g := tk4 101 (by decide +kernel) rfl
theorem mlG_239 : Cond.methodLink "GuessFair" 239 mT_has.1 ∈ lw_g := tk4 105 (by decide +kernel) rfl
theorem mlG_242 : Cond.methodLink "GuessFair" 242 mT_holds.1 ∈ lw_g := tk4 109 (by decide +kernel) rfl
theorem mlG_245 : Cond.methodLink "GuessFair" 245 mT_isOfLongs.1 ∈ lw_g := tk4 113 (by decide +kernel) rfl
theorem mlG_248 : Cond.methodLink "GuessFair" 248 mT_hasPlace.1 ∈ lw_g := tk4 117 (by decide +kernel) rfl
theorem mlG_251 : Cond.methodLink "GuessFair" 251 mT_valueAt.1 ∈ lw_g := tk4 121 (by decide +kernel) rfl
theorem mlZ_152 : Cond.methodLink "GuessFairLaw" 152 mG_image.1 ∈ lw_g := tk4 125 (by decide +kernel) rfl
theorem mlG_259 : Cond.methodLink "GuessFair" 259 mF_becomeAs.1 ∈ lw_g := tk4 129 (by decide +kernel) rfl
theorem mlF_41 : Cond.methodLink "GuessFair$Fair" 41 arraycopyName ∈ lw_g := tk4 133 (by decide +kernel) rfl
theorem mlF_50 : Cond.methodLink "GuessFair$Fair" 50 mE_becomeAs.1 ∈ lw_g := tk4 136 (by decide +kernel) rfl
theorem mlE_34 : Cond.methodLink "GuessFair$Envelope" 34 arraycopyName ∈ lw_g := tk4 140 (by decide +kernel) rfl
theorem mlF_60 : Cond.methodLink "GuessFair$Fair" 60 mW_becomeAs.1 ∈ lw_g := tk4 141 (by decide +kernel) rfl
theorem mlW_19 : Cond.methodLink "GuessFair$Rows" 19 arraycopyName ∈ lw_g := tk4 145 (by decide +kernel) rfl
theorem mlZ_156 : Cond.methodLink "GuessFairLaw" 156 mG_undo.1 ∈ lw_g := tk4 146 (by decide +kernel) rfl
theorem mlZ_160 : Cond.methodLink "GuessFairLaw" 160 mG_act.1 ∈ lw_g := tk4 150 (by decide +kernel) rfl
theorem mlG_267 : Cond.methodLink "GuessFair" 267 mA_forget.1 ∈ lw_g := tk4 154 (by decide +kernel) rfl
theorem mlG_270 : Cond.methodLink "GuessFair" 270 mA_perform.1 ∈ lw_g := tk4 158 (by decide +kernel) rfl
theorem mlA_33 : Cond.methodLink "GuessFair$Acts" 33 mA_run.1 ∈ lw_g := tk4 162 (by decide +kernel) rfl
theorem mlA_37 : Cond.methodLink "GuessFair$Acts" 37 mA_bodyFrom.1 ∈ lw_g := tk4 166 (by decide +kernel) rfl
theorem mlA_41 : Cond.methodLink "GuessFair$Acts" 41 mA_begin.1 ∈ lw_g := tk4 173 (by decide +kernel) rfl
theorem mlA_45 : Cond.methodLink "GuessFair$Acts" 45 mA_through.1 ∈ lw_g := tk4 177 (by decide +kernel) rfl
theorem mlZ_164 : Cond.methodLink "GuessFairLaw" 164 mG_trace.1 ∈ lw_g := tk4 181 (by decide +kernel) rfl
theorem mlG_273 : Cond.methodLink "GuessFair" 273 mA_traced.1 ∈ lw_g := tk4 185 (by decide +kernel) rfl
theorem mlZ_168 : Cond.methodLink "GuessFairLaw" 168 mG_taken.1 ∈ lw_g := tk4 189 (by decide +kernel) rfl
theorem mlG_276 : Cond.methodLink "GuessFair" 276 mG_isUnder.1 ∈ lw_g := tk4 193 (by decide +kernel) rfl
theorem mlZ_172 : Cond.methodLink "GuessFairLaw" 172 mG_count.1 ∈ lw_g := tk4 197 (by decide +kernel) rfl
theorem mlZ_176 : Cond.methodLink "GuessFairLaw" 176 mG_tape.1 ∈ lw_g := tk4 201 (by decide +kernel) rfl
theorem mlG_291 : Cond.methodLink "GuessFair" 291 mT_remake.1 ∈ lw_g := tk4 205 (by decide +kernel) rfl
theorem mlZ_182 : Cond.methodLink "GuessFairLaw" 182 mG_item.1 ∈ lw_g := tk4 209 (by decide +kernel) rfl
theorem mlG_295 : Cond.methodLink "GuessFair" 295 mT_put.1 ∈ lw_g := tk4 213 (by decide +kernel) rfl
theorem mlT_23 : Cond.methodLink "GuessFair$Tapes" 23 mT_cut.1 ∈ lw_g := tk4 217 (by decide +kernel) rfl
theorem mlZ_187 : Cond.methodLink "GuessFairLaw" 187 mG_read.1 ∈ lw_g := tk4 220 (by decide +kernel) rfl
theorem mlZ_191 : Cond.methodLink "GuessFairLaw" 191 mG_shift.1 ∈ lw_g := tk4 224 (by decide +kernel) rfl
theorem mlG_302 : Cond.methodLink "GuessFair" 302 mT_hasPlaces.1 ∈ lw_g := tk4 228 (by decide +kernel) rfl
theorem mlG_310 : Cond.methodLink "GuessFair" 310 arraycopyName ∈ lw_g := tk4 232 (by decide +kernel) rfl
theorem mlZ_12 : Cond.methodLink "GuessFairLaw" 12 mM_init.1 ∈ lw_g := tk4 235 (by decide +kernel) rfl
theorem mlM_1 : Cond.methodLink "GuessFairModel" 1 objectInit ∈ lw_g := tk4 238 (by decide +kernel) rfl
theorem mlZ_17 : Cond.methodLink "GuessFairLaw" 17 mM_world.1 ∈ lw_g := tk5 190 (by decide +kernel) rfl
theorem mlM_203 : Cond.methodLink "GuessFairModel" 203 mM_in.1 ∈ lw_g := tk5 194 (by decide +kernel) rfl
theorem mlZ_22 : Cond.methodLink "GuessFairLaw" 22 mM_chance.1 ∈ lw_g := tk5 198 (by decide +kernel) rfl
theorem mlM_207 : Cond.methodLink "GuessFairModel" 207 mM_isWorld.1 ∈ lw_g := tk5 202 (by decide +kernel) rfl
theorem mlZ_27 : Cond.methodLink "GuessFairLaw" 27 mM_envelope.1 ∈ lw_g := tk5 206 (by decide +kernel) rfl
theorem mlM_211 : Cond.methodLink "GuessFairModel" 211 mM_isSaying.1 ∈ lw_g := tk5 210 (by decide +kernel) rfl
theorem mlM_214 : Cond.methodLink "GuessFairModel" 214 mM_isPrice.1 ∈ lw_g := tk5 214 (by decide +kernel) rfl
theorem mlZ_31 : Cond.methodLink "GuessFairLaw" 31 mM_of.1 ∈ lw_g := tk5 218 (by decide +kernel) rfl
theorem mlM_217 : Cond.methodLink "GuessFairModel" 217 mM_isEnvelope.1 ∈ lw_g := tk5 222 (by decide +kernel) rfl
theorem mlM_220 : Cond.methodLink "GuessFairModel" 220 mM_old.1 ∈ lw_g := tk5 226 (by decide +kernel) rfl
theorem mlZ_35 : Cond.methodLink "GuessFairLaw" 35 mM_price.1 ∈ lw_g := tk5 230 (by decide +kernel) rfl
theorem mlZ_39 : Cond.methodLink "GuessFairLaw" 39 mM_say.1 ∈ lw_g := tk5 234 (by decide +kernel) rfl
theorem mlZ_44 : Cond.methodLink "GuessFairLaw" 44 mM_row.1 ∈ lw_g := tk5 238 (by decide +kernel) rfl
theorem mlZ_48 : Cond.methodLink "GuessFairLaw" 48 mM_feed.1 ∈ lw_g := tk6 2 (by decide +kernel) rfl
theorem mlZ_53 : Cond.methodLink "GuessFairLaw" 53 mM_law.1 ∈ lw_g := tk6 6 (by decide +kernel) rfl
theorem mlM_267 : Cond.methodLink "GuessFairModel" 267 mM_goesText.1 ∈ lw_g := tk6 10 (by decide +kernel) rfl
theorem mlM_264 : Cond.methodLink "GuessFairModel" 264 mM_takesClause.1 ∈ lw_g := tk6 14 (by decide +kernel) rfl
theorem mlM_258 : Cond.methodLink "GuessFairModel" 258 mM_takesHead.1 ∈ lw_g := tk6 18 (by decide +kernel) rfl
theorem mlM_224 : Cond.methodLink "GuessFairModel" 224 mM_next.1 ∈ lw_g := tk6 22 (by decide +kernel) rfl
theorem mlM_254 : Cond.methodLink "GuessFairModel" 254 mM_takesWord.1 ∈ lw_g := tk6 26 (by decide +kernel) rfl
theorem mlM_228 : Cond.methodLink "GuessFairModel" 228 mM_takes.1 ∈ lw_g := tk6 30 (by decide +kernel) rfl
theorem mlM_242 : Cond.methodLink "GuessFairModel" 242 mM_takesNumber.1 ∈ lw_g := tk6 34 (by decide +kernel) rfl
theorem mlM_231 : Cond.methodLink "GuessFairModel" 231 mM_isDigit.1 ∈ lw_g := tk6 38 (by decide +kernel) rfl
theorem mlM_261 : Cond.methodLink "GuessFairModel" 261 mM_takesE.1 ∈ lw_g := tk6 42 (by decide +kernel) rfl
theorem mlM_248 : Cond.methodLink "GuessFairModel" 248 mM_takesTest.1 ∈ lw_g := tk6 46 (by decide +kernel) rfl
theorem mlM_239 : Cond.methodLink "GuessFairModel" 239 mM_place.1 ∈ lw_g := tk6 50 (by decide +kernel) rfl
theorem mlM_235 : Cond.methodLink "GuessFairModel" 235 mM_emits.1 ∈ lw_g := tk6 54 (by decide +kernel) rfl
theorem mlM_245 : Cond.methodLink "GuessFairModel" 245 mM_whole.1 ∈ lw_g := tk6 58 (by decide +kernel) rfl
theorem mlM_251 : Cond.methodLink "GuessFairModel" 251 mM_settle.1 ∈ lw_g := tk6 62 (by decide +kernel) rfl
theorem mlZ_69 : Cond.methodLink "GuessFairLaw" 69 mM_pay.1 ∈ lw_g := tk6 66 (by decide +kernel) rfl
theorem mlM_311 : Cond.methodLink "GuessFairModel" 311 mM_payOf.1 ∈ lw_g := tk6 70 (by decide +kernel) rfl
theorem mlM_304 : Cond.methodLink "GuessFairModel" 304 mM_gross.1 ∈ lw_g := tk6 74 (by decide +kernel) rfl
theorem mlM_295 : Cond.methodLink "GuessFairModel" 295 mM_base.1 ∈ lw_g := tk6 78 (by decide +kernel) rfl
theorem mlM_270 : Cond.methodLink "GuessFairModel" 270 mM_begin.1 ∈ lw_g := tk6 82 (by decide +kernel) rfl
theorem mlM_273 : Cond.methodLink "GuessFairModel" 273 mM_behind.1 ∈ lw_g := tk6 86 (by decide +kernel) rfl
theorem mlM_289 : Cond.methodLink "GuessFairModel" 289 mM_isTrue.1 ∈ lw_g := tk6 90 (by decide +kernel) rfl
theorem mlM_286 : Cond.methodLink "GuessFairModel" 286 mM_has.1 ∈ lw_g := tk6 94 (by decide +kernel) rfl
theorem mlM_298 : Cond.methodLink "GuessFairModel" 298 mM_near.1 ∈ lw_g := tk6 98 (by decide +kernel) rfl
theorem mlM_292 : Cond.methodLink "GuessFairModel" 292 mM_isNear.1 ∈ lw_g := tk6 102 (by decide +kernel) rfl
theorem mlM_276 : Cond.methodLink "GuessFairModel" 276 mM_ones.1 ∈ lw_g := tk6 106 (by decide +kernel) rfl
theorem mlM_301 : Cond.methodLink "GuessFairModel" 301 mM_late.1 ∈ lw_g := tk6 110 (by decide +kernel) rfl
theorem mlM_308 : Cond.methodLink "GuessFairModel" 308 mM_extra.1 ∈ lw_g := tk6 114 (by decide +kernel) rfl
theorem mlM_283 : Cond.methodLink "GuessFairModel" 283 mM_holds.1 ∈ lw_g := tk6 118 (by decide +kernel) rfl
theorem mlM_279 : Cond.methodLink "GuessFairModel" 279 mM_factOf.1 ∈ lw_g := tk6 122 (by decide +kernel) rfl
theorem mlZ_57 : Cond.methodLink "GuessFairLaw" 57 mM_told.1 ∈ lw_g := tk6 126 (by decide +kernel) rfl
theorem mlM_314 : Cond.methodLink "GuessFairModel" 314 mM_all.1 ∈ lw_g := tk6 130 (by decide +kernel) rfl
theorem mlM_317 : Cond.methodLink "GuessFairModel" 317 mM_chances.1 ∈ lw_g := tk6 134 (by decide +kernel) rfl
theorem mlZ_61 : Cond.methodLink "GuessFairLaw" 61 mM_pass.1 ∈ lw_g := tk6 138 (by decide +kernel) rfl
theorem mlZ_65 : Cond.methodLink "GuessFairLaw" 65 mM_come.1 ∈ lw_g := tk6 142 (by decide +kernel) rfl
theorem mlZ_74 : Cond.methodLink "GuessFairLaw" 74 mM_mean.1 ∈ lw_g := tk6 147 (by decide +kernel) rfl
theorem mlM_326 : Cond.methodLink "GuessFairModel" 326 mM_weighed.1 ∈ lw_g := tk6 152 (by decide +kernel) rfl
theorem mlM_329 : Cond.methodLink "GuessFairModel" 329 mM_lowest.1 ∈ lw_g := tk6 156 (by decide +kernel) rfl
theorem mlM_321 : Cond.methodLink "GuessFairModel" 321 mM_divisor.1 ∈ lw_g := tk6 160 (by decide +kernel) rfl
theorem mlZ_78 : Cond.methodLink "GuessFairLaw" 78 mM_gain.1 ∈ lw_g := tk6 164 (by decide +kernel) rfl
theorem mlM_337 : Cond.methodLink "GuessFairModel" 337 mM_isSet.1 ∈ lw_g := tk6 169 (by decide +kernel) rfl
theorem mlM_341 : Cond.methodLink "GuessFairModel" 341 mM_layPays.1 ∈ lw_g := tk6 174 (by decide +kernel) rfl
theorem mlM_333 : Cond.methodLink "GuessFairModel" 333 mM_gainOf.1 ∈ lw_g := tk6 178 (by decide +kernel) rfl
theorem mlZ_82 : Cond.methodLink "GuessFairLaw" 82 mM_least.1 ∈ lw_g := tk6 182 (by decide +kernel) rfl
theorem mlM_344 : Cond.methodLink "GuessFairModel" 344 mM_leastOf.1 ∈ lw_g := tk6 186 (by decide +kernel) rfl
theorem mlZ_87 : Cond.methodLink "GuessFairLaw" 87 mM_open.1 ∈ lw_g := tk6 190 (by decide +kernel) rfl
theorem mlZ_91 : Cond.methodLink "GuessFairLaw" 91 mM_left.1 ∈ lw_g := tk6 194 (by decide +kernel) rfl
theorem mlM_347 : Cond.methodLink "GuessFairModel" 347 mM_leftNow.1 ∈ lw_g := tk6 198 (by decide +kernel) rfl
theorem mlZ_95 : Cond.methodLink "GuessFairLaw" 95 mM_odds.1 ∈ lw_g := tk6 202 (by decide +kernel) rfl
theorem mlZ_99 : Cond.methodLink "GuessFairLaw" 99 mM_knew.1 ∈ lw_g := tk6 206 (by decide +kernel) rfl
theorem mlZ_103 : Cond.methodLink "GuessFairLaw" 103 mM_best.1 ∈ lw_g := tk6 210 (by decide +kernel) rfl
theorem mlZ_107 : Cond.methodLink "GuessFairLaw" 107 mM_safest.1 ∈ lw_g := tk6 214 (by decide +kernel) rfl
theorem mlZ_111 : Cond.methodLink "GuessFairLaw" 111 mM_sure.1 ∈ lw_g := tk6 218 (by decide +kernel) rfl
theorem mlZ_115 : Cond.methodLink "GuessFairLaw" 115 mM_hedge.1 ∈ lw_g := tk6 222 (by decide +kernel) rfl
theorem mlM_350 : Cond.methodLink "GuessFairModel" 350 mM_mostOf.1 ∈ lw_g := tk6 226 (by decide +kernel) rfl
theorem mlZ_119 : Cond.methodLink "GuessFairLaw" 119 mM_against.1 ∈ lw_g := tk6 230 (by decide +kernel) rfl
theorem mlZ_123 : Cond.methodLink "GuessFairLaw" 123 mM_when.1 ∈ lw_g := tk6 234 (by decide +kernel) rfl
theorem mlZ_127 : Cond.methodLink "GuessFairLaw" 127 mM_crowd.1 ∈ lw_g := tk6 238 (by decide +kernel) rfl
theorem mlZ_131 : Cond.methodLink "GuessFairLaw" 131 mM_cheap.1 ∈ lw_g := tk7 2 (by decide +kernel) rfl
theorem mlZ_135 : Cond.methodLink "GuessFairLaw" 135 mM_burnt.1 ∈ lw_g := tk7 6 (by decide +kernel) rfl
theorem mlZ_139 : Cond.methodLink "GuessFairLaw" 139 mM_worth.1 ∈ lw_g := tk7 10 (by decide +kernel) rfl
theorem mlZ_143 : Cond.methodLink "GuessFairLaw" 143 mM_book.1 ∈ lw_g := tk7 14 (by decide +kernel) rfl
theorem mlZ_147 : Cond.methodLink "GuessFairLaw" 147 mM_looked.1 ∈ lw_g := tk7 18 (by decide +kernel) rfl
theorem mlZ_151 : Cond.methodLink "GuessFairLaw" 151 mM_judge.1 ∈ lw_g := tk7 22 (by decide +kernel) rfl
theorem mlM_353 : Cond.methodLink "GuessFairModel" 353 mM_isTape.1 ∈ lw_g := tk7 26 (by decide +kernel) rfl
theorem mlZ_155 : Cond.methodLink "GuessFairLaw" 155 mM_image.1 ∈ lw_g := tk7 30 (by decide +kernel) rfl
theorem mlZ_159 : Cond.methodLink "GuessFairLaw" 159 mM_undo.1 ∈ lw_g := tk7 34 (by decide +kernel) rfl
theorem mlZ_163 : Cond.methodLink "GuessFairLaw" 163 mM_act.1 ∈ lw_g := tk7 38 (by decide +kernel) rfl
theorem mlM_362 : Cond.methodLink "GuessFairModel" 362 mM_sealsAct.1 ∈ lw_g := tk7 42 (by decide +kernel) rfl
theorem mlM_356 : Cond.methodLink "GuessFairModel" 356 mM_body.1 ∈ lw_g := tk7 46 (by decide +kernel) rfl
theorem mlM_359 : Cond.methodLink "GuessFairModel" 359 mM_envelopeSeals.1 ∈ lw_g := tk7 50 (by decide +kernel) rfl
theorem mlM_371 : Cond.methodLink "GuessFairModel" 371 mM_paysAct.1 ∈ lw_g := tk7 54 (by decide +kernel) rfl
theorem mlM_368 : Cond.methodLink "GuessFairModel" 368 mM_nearPays.1 ∈ lw_g := tk7 58 (by decide +kernel) rfl
theorem mlM_365 : Cond.methodLink "GuessFairModel" 365 mM_envelopePays.1 ∈ lw_g := tk7 62 (by decide +kernel) rfl
theorem mlM_377 : Cond.methodLink "GuessFairModel" 377 mM_tellsAct.1 ∈ lw_g := tk7 66 (by decide +kernel) rfl
theorem mlM_374 : Cond.methodLink "GuessFairModel" 374 mM_envelopeTells.1 ∈ lw_g := tk7 70 (by decide +kernel) rfl
theorem mlZ_167 : Cond.methodLink "GuessFairLaw" 167 mM_trace.1 ∈ lw_g := tk7 74 (by decide +kernel) rfl
theorem mlZ_171 : Cond.methodLink "GuessFairLaw" 171 mM_taken.1 ∈ lw_g := tk7 78 (by decide +kernel) rfl
theorem mlZ_175 : Cond.methodLink "GuessFairLaw" 175 mM_count.1 ∈ lw_g := tk7 82 (by decide +kernel) rfl
theorem mlZ_179 : Cond.methodLink "GuessFairLaw" 179 mM_tape.1 ∈ lw_g := tk7 86 (by decide +kernel) rfl
theorem mlZ_186 : Cond.methodLink "GuessFairLaw" 186 mM_item.1 ∈ lw_g := tk7 90 (by decide +kernel) rfl
theorem mlM_380 : Cond.methodLink "GuessFairModel" 380 mM_narrow.1 ∈ lw_g := tk7 94 (by decide +kernel) rfl
theorem mlZ_190 : Cond.methodLink "GuessFairLaw" 190 mM_read.1 ∈ lw_g := tk7 98 (by decide +kernel) rfl
theorem mlZ_195 : Cond.methodLink "GuessFairLaw" 195 mM_shift.1 ∈ lw_g := tk7 102 (by decide +kernel) rfl
theorem oi : Cond.instanceMethod objectInit ∈ lw_g := tk1 27 (by decide +kernel) rfl
theorem oc : Cond.code objectInit ⟨#[0xb1]⟩ 1 none ∈ lw_g := tk1 28 (by decide +kernel) rfl
theorem acn : Cond.native arraycopyName ∈ lw_g := tk4 135 (by decide +kernel) rfl
theorem acs : Cond.static arraycopyName ∈ lw_g := tk4 134 (by decide +kernel) rfl
theorem iniZ : Cond.initialized "GuessFairLaw" ∈ lw_g := tk1 0 (by decide +kernel) rfl
theorem iniG : Cond.initialized "GuessFair" ∈ lw_g := tk1 1 (by decide +kernel) rfl
theorem iniF : Cond.initialized "GuessFair$Fair" ∈ lw_g := tk1 2 (by decide +kernel) rfl
theorem iniW : Cond.initialized "GuessFair$Rows" ∈ lw_g := tk1 3 (by decide +kernel) rfl
theorem iniE : Cond.initialized "GuessFair$Envelope" ∈ lw_g := tk1 4 (by decide +kernel) rfl
theorem iniL : Cond.initialized "GuessFair$Laws" ∈ lw_g := tk1 5 (by decide +kernel) rfl
theorem iniR : Cond.initialized "GuessFair$LawReader" ∈ lw_g := tk1 6 (by decide +kernel) rfl
theorem iniP : Cond.initialized "GuessFair$Payer" ∈ lw_g := tk1 7 (by decide +kernel) rfl
theorem iniS : Cond.initialized "GuessFair$Stakes" ∈ lw_g := tk1 8 (by decide +kernel) rfl
theorem iniA : Cond.initialized "GuessFair$Acts" ∈ lw_g := tk1 9 (by decide +kernel) rfl
theorem iniT : Cond.initialized "GuessFair$Tapes" ∈ lw_g := tk1 10 (by decide +kernel) rfl
theorem iniM : Cond.initialized "GuessFairModel" ∈ lw_g := tk1 11 (by decide +kernel) rfl
theorem iniJS : Cond.initialized "java/lang/String" ∈ lw_g := tk1 12 (by decide +kernel) rfl
theorem iniJL : Cond.initialized "java/lang/StringLatin1" ∈ lw_g := tk1 13 (by decide +kernel) rfl
theorem iniJP : Cond.initialized "jdk/internal/util/Preconditions" ∈ lw_g := tk1 14 (by decide +kernel) rfl
theorem iniJU : Cond.initialized "java/lang/StringUTF16" ∈ lw_g := tk1 15 (by decide +kernel) rfl
theorem iniJM : Cond.initialized "java/lang/Math" ∈ lw_g := tk1 16 (by decide +kernel) rfl
theorem iniJC : Cond.initialized "java/lang/Character" ∈ lw_g := tk1 17 (by decide +kernel) rfl
theorem iniQ : Cond.initialized "GuessFair$Step" ∈ lw_g := tk1 18 (by decide +kernel) rfl
theorem iniJI : Cond.initialized "java/lang/Integer" ∈ lw_g := tk1 19 (by decide +kernel) rfl
theorem iniJY : Cond.initialized "java/lang/System" ∈ lw_g := tk1 20 (by decide +kernel) rfl
theorem cmA_init : CM mA_init 0 := ⟨tk2 11 (by decide +kernel) rfl, iniA, by decide, by decide, by decide +kernel⟩
theorem inA_init : Cond.instanceMethod mA_init.1 ∈ lw_g ∧ mA_init.1.name = "<init>" ∧ mA_init.2.2.2 = none := ⟨tk2 10 (by decide +kernel) rfl, rfl, rfl⟩
theorem cmA_forget : CM mA_forget 0 := ⟨tk4 157 (by decide +kernel) rfl, iniA, by decide, by decide, by decide +kernel⟩
theorem cvA_forget : CV mA_forget := ⟨tk4 155 (by decide +kernel) rfl, tk4 156 (by decide +kernel) rfl⟩
theorem cmA_traced : CM mA_traced 1 := ⟨tk4 188 (by decide +kernel) rfl, iniA, by decide, by decide, by decide +kernel⟩
theorem cvA_traced : CV mA_traced := ⟨tk4 186 (by decide +kernel) rfl, tk4 187 (by decide +kernel) rfl⟩
theorem cmA_perform : CM mA_perform 3 := ⟨tk4 161 (by decide +kernel) rfl, iniA, by decide, by decide, by decide +kernel⟩
theorem cvA_perform : CV mA_perform := ⟨tk4 159 (by decide +kernel) rfl, tk4 160 (by decide +kernel) rfl⟩
theorem cmA_run : CM mA_run 4 := ⟨tk4 165 (by decide +kernel) rfl, iniA, by decide, by decide, by decide +kernel⟩
theorem cvA_run : CV mA_run := ⟨tk4 164 (by decide +kernel) rfl, tp 14 (by decide +kernel) rfl⟩
theorem cmA_through : CM mA_through 3 := ⟨tk4 180 (by decide +kernel) rfl, iniA, by decide, by decide, by decide +kernel⟩
theorem cvA_through : CV mA_through := ⟨tk4 179 (by decide +kernel) rfl, tp 16 (by decide +kernel) rfl⟩
theorem cmA_bodyFrom : CM mA_bodyFrom 2 := ⟨tk4 168 (by decide +kernel) rfl, iniA, by decide, by decide, by decide +kernel⟩
theorem stA_bodyFrom : Cond.static mA_bodyFrom.1 ∈ lw_g := tk4 167 (by decide +kernel) rfl
theorem cmA_begin : CM mA_begin 1 := ⟨tk4 176 (by decide +kernel) rfl, iniA, by decide, by decide, by decide +kernel⟩
theorem cvA_begin : CV mA_begin := ⟨tk4 175 (by decide +kernel) rfl, tp 15 (by decide +kernel) rfl⟩
theorem cmE_init : CM mE_init 1 := ⟨tk1 57 (by decide +kernel) rfl, iniE, by decide, by decide, by decide +kernel⟩
theorem inE_init : Cond.instanceMethod mE_init.1 ∈ lw_g ∧ mE_init.1.name = "<init>" ∧ mE_init.2.2.2 = none := ⟨tk1 56 (by decide +kernel) rfl, rfl, rfl⟩
theorem cmE_becomeAs : CM mE_becomeAs 1 := ⟨tk4 139 (by decide +kernel) rfl, iniE, by decide, by decide, by decide +kernel⟩
theorem cvE_becomeAs : CV mE_becomeAs := ⟨tk4 137 (by decide +kernel) rfl, tk4 138 (by decide +kernel) rfl⟩
theorem cmF_init : CM mF_init 0 := ⟨tk1 33 (by decide +kernel) rfl, iniF, by decide, by decide, by decide +kernel⟩
theorem inF_init : Cond.instanceMethod mF_init.1 ∈ lw_g ∧ mF_init.1.name = "<init>" ∧ mF_init.2.2.2 = none := ⟨tk1 32 (by decide +kernel) rfl, rfl, rfl⟩
theorem cmF_becomeAs : CM mF_becomeAs 1 := ⟨tk4 132 (by decide +kernel) rfl, iniF, by decide, by decide, by decide +kernel⟩
theorem cvF_becomeAs : CV mF_becomeAs := ⟨tk4 130 (by decide +kernel) rfl, tk4 131 (by decide +kernel) rfl⟩
theorem cmF_addWorld : CM mF_addWorld 1 := ⟨tk2 86 (by decide +kernel) rfl, iniF, by decide, by decide, by decide +kernel⟩
theorem cvF_addWorld : CV mF_addWorld := ⟨tk2 84 (by decide +kernel) rfl, tk2 85 (by decide +kernel) rfl⟩
theorem cmF_addEnvelope : CM mF_addEnvelope 4 := ⟨tk2 108 (by decide +kernel) rfl, iniF, by decide, by decide, by decide +kernel⟩
theorem cvF_addEnvelope : CV mF_addEnvelope := ⟨tk2 106 (by decide +kernel) rfl, tk2 107 (by decide +kernel) rfl⟩
theorem cmF_hasWorld : CM mF_hasWorld 1 := ⟨tk2 94 (by decide +kernel) rfl, iniF, by decide, by decide, by decide +kernel⟩
theorem cvF_hasWorld : CV mF_hasWorld := ⟨tk2 92 (by decide +kernel) rfl, tk2 93 (by decide +kernel) rfl⟩
theorem cmF_find : CM mF_find 1 := ⟨tk2 116 (by decide +kernel) rfl, iniF, by decide, by decide, by decide +kernel⟩
theorem cvF_find : CV mF_find := ⟨tk2 114 (by decide +kernel) rfl, tk2 115 (by decide +kernel) rfl⟩
theorem cmF_allWorlds : CM mF_allWorlds 0 := ⟨tk3 76 (by decide +kernel) rfl, iniF, by decide, by decide, by decide +kernel⟩
theorem cvF_allWorlds : CV mF_allWorlds := ⟨tk3 74 (by decide +kernel) rfl, tk3 75 (by decide +kernel) rfl⟩
theorem cmF_allEnvelopes : CM mF_allEnvelopes 0 := ⟨tk4 7 (by decide +kernel) rfl, iniF, by decide, by decide, by decide +kernel⟩
theorem cvF_allEnvelopes : CV mF_allEnvelopes := ⟨tk4 5 (by decide +kernel) rfl, tk4 6 (by decide +kernel) rfl⟩
theorem cmF_chancesOf : CM mF_chancesOf 1 := ⟨tk3 80 (by decide +kernel) rfl, iniF, by decide, by decide, by decide +kernel⟩
theorem cvF_chancesOf : CV mF_chancesOf := ⟨tk3 78 (by decide +kernel) rfl, tk3 79 (by decide +kernel) rfl⟩
theorem cmF_leftWorlds : CM mF_leftWorlds 0 := ⟨tk3 206 (by decide +kernel) rfl, iniF, by decide, by decide, by decide +kernel⟩
theorem cvF_leftWorlds : CV mF_leftWorlds := ⟨tk3 204 (by decide +kernel) rfl, tk3 205 (by decide +kernel) rfl⟩
theorem cmF_trueInAll : CM mF_trueInAll 1 := ⟨tk3 224 (by decide +kernel) rfl, iniF, by decide, by decide, by decide +kernel⟩
theorem cvF_trueInAll : CV mF_trueInAll := ⟨tk3 222 (by decide +kernel) rfl, tk3 223 (by decide +kernel) rfl⟩
theorem cmF_othersFalseWith : CM mF_othersFalseWith 1 := ⟨tk4 37 (by decide +kernel) rfl, iniF, by decide, by decide, by decide +kernel⟩
theorem cvF_othersFalseWith : CV mF_othersFalseWith := ⟨tk4 35 (by decide +kernel) rfl, tk4 36 (by decide +kernel) rfl⟩
theorem cmF_pricesIn : CM mF_pricesIn 1 := ⟨tk4 58 (by decide +kernel) rfl, iniF, by decide, by decide, by decide +kernel⟩
theorem cvF_pricesIn : CV mF_pricesIn := ⟨tk4 56 (by decide +kernel) rfl, tk4 57 (by decide +kernel) rfl⟩
theorem cmF_dearestWorld : CM mF_dearestWorld 0 := ⟨tk4 54 (by decide +kernel) rfl, iniF, by decide, by decide, by decide +kernel⟩
theorem cvF_dearestWorld : CV mF_dearestWorld := ⟨tk4 52 (by decide +kernel) rfl, tk4 53 (by decide +kernel) rfl⟩
theorem cmR_init : CM mR_init 1 := ⟨tk1 164 (by decide +kernel) rfl, iniR, by decide, by decide, by decide +kernel⟩
theorem inR_init : Cond.instanceMethod mR_init.1 ∈ lw_g ∧ mR_init.1.name = "<init>" ∧ mR_init.2.2.2 = none := ⟨tk1 163 (by decide +kernel) rfl, rfl, rfl⟩
theorem cmR_reads : CM mR_reads 2 := ⟨tk2 148 (by decide +kernel) rfl, iniR, by decide, by decide, by decide +kernel⟩
theorem cvR_reads : CV mR_reads := ⟨tk2 146 (by decide +kernel) rfl, tk2 147 (by decide +kernel) rfl⟩
theorem cmR_clause : CM mR_clause 0 := ⟨tk2 160 (by decide +kernel) rfl, iniR, by decide, by decide, by decide +kernel⟩
theorem cvR_clause : CV mR_clause := ⟨tk2 159 (by decide +kernel) rfl, tp 2 (by decide +kernel) rfl⟩
theorem cmR_takesBase : CM mR_takesBase 0 := ⟨tk2 217 (by decide +kernel) rfl, iniR, by decide, by decide, by decide +kernel⟩
theorem cvR_takesBase : CV mR_takesBase := ⟨tk2 216 (by decide +kernel) rfl, tp 4 (by decide +kernel) rfl⟩
theorem cmR_any : CM mR_any 1 := ⟨tk2 227 (by decide +kernel) rfl, iniR, by decide, by decide, by decide +kernel⟩
theorem cvR_any : CV mR_any := ⟨tk2 226 (by decide +kernel) rfl, tp 6 (by decide +kernel) rfl⟩
theorem cmR_one : CM mR_one 1 := ⟨tk2 231 (by decide +kernel) rfl, iniR, by decide, by decide, by decide +kernel⟩
theorem cvR_one : CV mR_one := ⟨tk2 230 (by decide +kernel) rfl, tp 7 (by decide +kernel) rfl⟩
theorem cmR_test : CM mR_test 0 := ⟨tk2 235 (by decide +kernel) rfl, iniR, by decide, by decide, by decide +kernel⟩
theorem cvR_test : CV mR_test := ⟨tk2 234 (by decide +kernel) rfl, tp 8 (by decide +kernel) rfl⟩
theorem cmR_takesNumber : CM mR_takesNumber 0 := ⟨tk2 221 (by decide +kernel) rfl, iniR, by decide, by decide, by decide +kernel⟩
theorem cvR_takesNumber : CV mR_takesNumber := ⟨tk2 220 (by decide +kernel) rfl, tp 5 (by decide +kernel) rfl⟩
theorem cmR_takesWord : CM mR_takesWord 1 := ⟨tk2 165 (by decide +kernel) rfl, iniR, by decide, by decide, by decide +kernel⟩
theorem cvR_takesWord : CV mR_takesWord := ⟨tk2 164 (by decide +kernel) rfl, tp 3 (by decide +kernel) rfl⟩
theorem cmR_takes : CM mR_takes 1 := ⟨tk2 152 (by decide +kernel) rfl, iniR, by decide, by decide, by decide +kernel⟩
theorem cvR_takes : CV mR_takes := ⟨tk2 151 (by decide +kernel) rfl, tp 0 (by decide +kernel) rfl⟩
theorem cmR_sign : CM mR_sign 0 := ⟨tk2 156 (by decide +kernel) rfl, iniR, by decide, by decide, by decide +kernel⟩
theorem cvR_sign : CV mR_sign := ⟨tk2 155 (by decide +kernel) rfl, tp 1 (by decide +kernel) rfl⟩
theorem cmR_writes : CM mR_writes 1 := ⟨tk3 63 (by decide +kernel) rfl, iniR, by decide, by decide, by decide +kernel⟩
theorem cvR_writes : CV mR_writes := ⟨tk3 62 (by decide +kernel) rfl, tp 9 (by decide +kernel) rfl⟩
theorem cmL_init : CM mL_init 0 := ⟨tk1 156 (by decide +kernel) rfl, iniL, by decide, by decide, by decide +kernel⟩
theorem inL_init : Cond.instanceMethod mL_init.1 ∈ lw_g ∧ mL_init.1.name = "<init>" ∧ mL_init.2.2.2 = none := ⟨tk1 155 (by decide +kernel) rfl, rfl, rfl⟩
theorem cmL_addSign : CM mL_addSign 1 := ⟨tk2 136 (by decide +kernel) rfl, iniL, by decide, by decide, by decide +kernel⟩
theorem cvL_addSign : CV mL_addSign := ⟨tk2 134 (by decide +kernel) rfl, tk2 135 (by decide +kernel) rfl⟩
theorem cmL_enact : CM mL_enact 0 := ⟨tk2 144 (by decide +kernel) rfl, iniL, by decide, by decide, by decide +kernel⟩
theorem cvL_enact : CV mL_enact := ⟨tk2 142 (by decide +kernel) rfl, tk2 143 (by decide +kernel) rfl⟩
theorem cmL_baseOf : CM mL_baseOf 1 := ⟨tk3 72 (by decide +kernel) rfl, iniL, by decide, by decide, by decide +kernel⟩
theorem cvL_baseOf : CV mL_baseOf := ⟨tk3 70 (by decide +kernel) rfl, tk3 71 (by decide +kernel) rfl⟩
theorem cmL_extraOf : CM mL_extraOf 2 := ⟨tk3 124 (by decide +kernel) rfl, iniL, by decide, by decide, by decide +kernel⟩
theorem cvL_extraOf : CV mL_extraOf := ⟨tk3 122 (by decide +kernel) rfl, tk3 123 (by decide +kernel) rfl⟩
theorem cmL_amount : CM mL_amount 1 := ⟨tk3 128 (by decide +kernel) rfl, iniL, by decide, by decide, by decide +kernel⟩
theorem stL_amount : Cond.static mL_amount.1 ∈ lw_g := tk3 127 (by decide +kernel) rfl
theorem cmP_init : CM mP_init 2 := ⟨tk1 219 (by decide +kernel) rfl, iniP, by decide, by decide, by decide +kernel⟩
theorem inP_init : Cond.instanceMethod mP_init.1 ∈ lw_g ∧ mP_init.1.name = "<init>" ∧ mP_init.2.2.2 = none := ⟨tk1 218 (by decide +kernel) rfl, rfl, rfl⟩
theorem cmP_payNow : CM mP_payNow 2 := ⟨tk3 99 (by decide +kernel) rfl, iniP, by decide, by decide, by decide +kernel⟩
theorem cvP_payNow : CV mP_payNow := ⟨tk3 97 (by decide +kernel) rfl, tk3 98 (by decide +kernel) rfl⟩
theorem cmP_payIf : CM mP_payIf 4 := ⟨tk3 103 (by decide +kernel) rfl, iniP, by decide, by decide, by decide +kernel⟩
theorem cvP_payIf : CV mP_payIf := ⟨tk3 102 (by decide +kernel) rfl, tp 10 (by decide +kernel) rfl⟩
theorem cmP_gross : CM mP_gross 4 := ⟨tk3 114 (by decide +kernel) rfl, iniP, by decide, by decide, by decide +kernel⟩
theorem cvP_gross : CV mP_gross := ⟨tk3 113 (by decide +kernel) rfl, tp 11 (by decide +kernel) rfl⟩
theorem cmP_rare : CM mP_rare 2 := ⟨tk3 120 (by decide +kernel) rfl, iniP, by decide, by decide, by decide +kernel⟩
theorem stP_rare : Cond.static mP_rare.1 ∈ lw_g := tk3 119 (by decide +kernel) rfl
theorem cmP_sumIn : CM mP_sumIn 1 := ⟨tk3 95 (by decide +kernel) rfl, iniP, by decide, by decide, by decide +kernel⟩
theorem cvP_sumIn : CV mP_sumIn := ⟨tk3 93 (by decide +kernel) rfl, tk3 94 (by decide +kernel) rfl⟩
theorem cmP_weighed : CM mP_weighed 3 := ⟨tk3 154 (by decide +kernel) rfl, iniP, by decide, by decide, by decide +kernel⟩
theorem cvP_weighed : CV mP_weighed := ⟨tk3 152 (by decide +kernel) rfl, tk3 153 (by decide +kernel) rfl⟩
theorem cmP_weighedNow : CM mP_weighedNow 1 := ⟨tk3 150 (by decide +kernel) rfl, iniP, by decide, by decide, by decide +kernel⟩
theorem cvP_weighedNow : CV mP_weighedNow := ⟨tk3 148 (by decide +kernel) rfl, tk3 149 (by decide +kernel) rfl⟩
theorem cmP_bestSaying : CM mP_bestSaying 1 := ⟨tk3 232 (by decide +kernel) rfl, iniP, by decide, by decide, by decide +kernel⟩
theorem cvP_bestSaying : CV mP_bestSaying := ⟨tk3 230 (by decide +kernel) rfl, tk3 231 (by decide +kernel) rfl⟩
theorem cmP_bestWait : CM mP_bestWait 2 := ⟨tk4 45 (by decide +kernel) rfl, iniP, by decide, by decide, by decide +kernel⟩
theorem cvP_bestWait : CV mP_bestWait := ⟨tk4 43 (by decide +kernel) rfl, tk4 44 (by decide +kernel) rfl⟩
theorem cmP_belowMean : CM mP_belowMean 0 := ⟨tk4 67 (by decide +kernel) rfl, iniP, by decide, by decide, by decide +kernel⟩
theorem cvP_belowMean : CV mP_belowMean := ⟨tk4 65 (by decide +kernel) rfl, tk4 66 (by decide +kernel) rfl⟩
theorem cmP_payingAtLeast : CM mP_payingAtLeast 1 := ⟨tk4 81 (by decide +kernel) rfl, iniP, by decide, by decide, by decide +kernel⟩
theorem cvP_payingAtLeast : CV mP_payingAtLeast := ⟨tk4 79 (by decide +kernel) rfl, tk4 80 (by decide +kernel) rfl⟩
theorem cmP_paysAtLeast : CM mP_paysAtLeast 2 := ⟨tk4 85 (by decide +kernel) rfl, iniP, by decide, by decide, by decide +kernel⟩
theorem cvP_paysAtLeast : CV mP_paysAtLeast := ⟨tk4 84 (by decide +kernel) rfl, tp 13 (by decide +kernel) rfl⟩
theorem cmP_firstOtherwise : CM mP_firstOtherwise 0 := ⟨tk4 97 (by decide +kernel) rfl, iniP, by decide, by decide, by decide +kernel⟩
theorem cvP_firstOtherwise : CV mP_firstOtherwise := ⟨tk4 95 (by decide +kernel) rfl, tk4 96 (by decide +kernel) rfl⟩
theorem cmW_init : CM mW_init 0 := ⟨tk1 41 (by decide +kernel) rfl, iniW, by decide, by decide, by decide +kernel⟩
theorem inW_init : Cond.instanceMethod mW_init.1 ∈ lw_g ∧ mW_init.1.name = "<init>" ∧ mW_init.2.2.2 = none := ⟨tk1 40 (by decide +kernel) rfl, rfl, rfl⟩
theorem cmW_empty : CM mW_empty 0 := ⟨tk3 194 (by decide +kernel) rfl, iniW, by decide, by decide, by decide +kernel⟩
theorem cvW_empty : CV mW_empty := ⟨tk3 192 (by decide +kernel) rfl, tk3 193 (by decide +kernel) rfl⟩
theorem cmW_add : CM mW_add 3 := ⟨tk3 198 (by decide +kernel) rfl, iniW, by decide, by decide, by decide +kernel⟩
theorem cvW_add : CV mW_add := ⟨tk3 196 (by decide +kernel) rfl, tk3 197 (by decide +kernel) rfl⟩
theorem cmW_cell : CM mW_cell 2 := ⟨tk3 211 (by decide +kernel) rfl, iniW, by decide, by decide, by decide +kernel⟩
theorem cvW_cell : CV mW_cell := ⟨tk3 209 (by decide +kernel) rfl, tk3 210 (by decide +kernel) rfl⟩
theorem cmW_becomeAs : CM mW_becomeAs 1 := ⟨tk4 144 (by decide +kernel) rfl, iniW, by decide, by decide, by decide +kernel⟩
theorem cvW_becomeAs : CV mW_becomeAs := ⟨tk4 142 (by decide +kernel) rfl, tk4 143 (by decide +kernel) rfl⟩
theorem cmS_init : CM mS_init 2 := ⟨tk1 235 (by decide +kernel) rfl, iniS, by decide, by decide, by decide +kernel⟩
theorem inS_init : Cond.instanceMethod mS_init.1 ∈ lw_g ∧ mS_init.1.name = "<init>" ∧ mS_init.2.2.2 = none := ⟨tk1 234 (by decide +kernel) rfl, rfl, rfl⟩
theorem cmS_lookAgain : CM mS_lookAgain 0 := ⟨tk3 170 (by decide +kernel) rfl, iniS, by decide, by decide, by decide +kernel⟩
theorem cvS_lookAgain : CV mS_lookAgain := ⟨tk3 168 (by decide +kernel) rfl, tk3 169 (by decide +kernel) rfl⟩
theorem cmS_gainOf : CM mS_gainOf 2 := ⟨tk3 175 (by decide +kernel) rfl, iniS, by decide, by decide, by decide +kernel⟩
theorem cvS_gainOf : CV mS_gainOf := ⟨tk3 173 (by decide +kernel) rfl, tk3 174 (by decide +kernel) rfl⟩
theorem cmS_leastOf : CM mS_leastOf 1 := ⟨tk3 184 (by decide +kernel) rfl, iniS, by decide, by decide, by decide +kernel⟩
theorem cvS_leastOf : CV mS_leastOf := ⟨tk3 182 (by decide +kernel) rfl, tk3 183 (by decide +kernel) rfl⟩
theorem cmS_safestSet : CM mS_safestSet 0 := ⟨tk4 2 (by decide +kernel) rfl, iniS, by decide, by decide, by decide +kernel⟩
theorem cvS_safestSet : CV mS_safestSet := ⟨tk4 0 (by decide +kernel) rfl, tk4 1 (by decide +kernel) rfl⟩
theorem cmS_sureSet : CM mS_sureSet 0 := ⟨tk4 15 (by decide +kernel) rfl, iniS, by decide, by decide, by decide +kernel⟩
theorem cvS_sureSet : CV mS_sureSet := ⟨tk4 13 (by decide +kernel) rfl, tk4 14 (by decide +kernel) rfl⟩
theorem cmS_closestTwo : CM mS_closestTwo 0 := ⟨tk4 23 (by decide +kernel) rfl, iniS, by decide, by decide, by decide +kernel⟩
theorem cvS_closestTwo : CV mS_closestTwo := ⟨tk4 21 (by decide +kernel) rfl, tk4 22 (by decide +kernel) rfl⟩
theorem cmS_spanOf : CM mS_spanOf 1 := ⟨tk4 28 (by decide +kernel) rfl, iniS, by decide, by decide, by decide +kernel⟩
theorem cvS_spanOf : CV mS_spanOf := ⟨tk4 27 (by decide +kernel) rfl, tp 12 (by decide +kernel) rfl⟩
theorem cmQ_test : CM mQ_test 3 := ⟨tk3 59 (by decide +kernel) rfl, iniQ, by decide, by decide, by decide +kernel⟩
theorem stQ_test : Cond.static mQ_test.1 ∈ lw_g := tk3 58 (by decide +kernel) rfl
theorem cmQ_isMet : CM mQ_isMet 2 := ⟨tk3 131 (by decide +kernel) rfl, iniQ, by decide, by decide, by decide +kernel⟩
theorem stQ_isMet : Cond.static mQ_isMet.1 ∈ lw_g := tk3 130 (by decide +kernel) rfl
theorem cmQ_joined : CM mQ_joined 2 := ⟨tk3 134 (by decide +kernel) rfl, iniQ, by decide, by decide, by decide +kernel⟩
theorem stQ_joined : Cond.static mQ_joined.1 ∈ lw_g := tk3 133 (by decide +kernel) rfl
theorem cmT_init : CM mT_init 0 := ⟨tk2 34 (by decide +kernel) rfl, iniT, by decide, by decide, by decide +kernel⟩
theorem inT_init : Cond.instanceMethod mT_init.1 ∈ lw_g ∧ mT_init.1.name = "<init>" ∧ mT_init.2.2.2 = none := ⟨tk2 33 (by decide +kernel) rfl, rfl, rfl⟩
theorem cmT_has : CM mT_has 1 := ⟨tk4 108 (by decide +kernel) rfl, iniT, by decide, by decide, by decide +kernel⟩
theorem cvT_has : CV mT_has := ⟨tk4 106 (by decide +kernel) rfl, tk4 107 (by decide +kernel) rfl⟩
theorem cmT_holds : CM mT_holds 1 := ⟨tk4 112 (by decide +kernel) rfl, iniT, by decide, by decide, by decide +kernel⟩
theorem cvT_holds : CV mT_holds := ⟨tk4 110 (by decide +kernel) rfl, tk4 111 (by decide +kernel) rfl⟩
theorem cmT_isOfLongs : CM mT_isOfLongs 1 := ⟨tk4 116 (by decide +kernel) rfl, iniT, by decide, by decide, by decide +kernel⟩
theorem cvT_isOfLongs : CV mT_isOfLongs := ⟨tk4 114 (by decide +kernel) rfl, tk4 115 (by decide +kernel) rfl⟩
theorem cmT_hasPlace : CM mT_hasPlace 2 := ⟨tk4 120 (by decide +kernel) rfl, iniT, by decide, by decide, by decide +kernel⟩
theorem cvT_hasPlace : CV mT_hasPlace := ⟨tk4 118 (by decide +kernel) rfl, tk4 119 (by decide +kernel) rfl⟩
theorem cmT_hasPlaces : CM mT_hasPlaces 3 := ⟨tk4 231 (by decide +kernel) rfl, iniT, by decide, by decide, by decide +kernel⟩
theorem cvT_hasPlaces : CV mT_hasPlaces := ⟨tk4 229 (by decide +kernel) rfl, tk4 230 (by decide +kernel) rfl⟩
theorem cmT_remake : CM mT_remake 3 := ⟨tk4 208 (by decide +kernel) rfl, iniT, by decide, by decide, by decide +kernel⟩
theorem cvT_remake : CV mT_remake := ⟨tk4 206 (by decide +kernel) rfl, tk4 207 (by decide +kernel) rfl⟩
theorem cmT_put : CM mT_put 3 := ⟨tk4 216 (by decide +kernel) rfl, iniT, by decide, by decide, by decide +kernel⟩
theorem cvT_put : CV mT_put := ⟨tk4 214 (by decide +kernel) rfl, tk4 215 (by decide +kernel) rfl⟩
theorem cmT_valueAt : CM mT_valueAt 2 := ⟨tk4 124 (by decide +kernel) rfl, iniT, by decide, by decide, by decide +kernel⟩
theorem cvT_valueAt : CV mT_valueAt := ⟨tk4 122 (by decide +kernel) rfl, tk4 123 (by decide +kernel) rfl⟩
theorem cmT_cut : CM mT_cut 2 := ⟨tk4 219 (by decide +kernel) rfl, iniT, by decide, by decide, by decide +kernel⟩
theorem stT_cut : Cond.static mT_cut.1 ∈ lw_g := tk4 218 (by decide +kernel) rfl
theorem cmG_init : CM mG_init 0 := ⟨tk1 25 (by decide +kernel) rfl, iniG, by decide, by decide, by decide +kernel⟩
theorem inG_init : Cond.instanceMethod mG_init.1 ∈ lw_g ∧ mG_init.1.name = "<init>" ∧ mG_init.2.2.2 = none := ⟨tk1 24 (by decide +kernel) rfl, rfl, rfl⟩
theorem cmG_world : CM mG_world 1 := ⟨tk2 79 (by decide +kernel) rfl, iniG, by decide, by decide, by decide +kernel⟩
theorem cvG_world : CV mG_world := ⟨tk2 77 (by decide +kernel) rfl, tk2 78 (by decide +kernel) rfl⟩
theorem cmG_chance : CM mG_chance 2 := ⟨tk2 90 (by decide +kernel) rfl, iniG, by decide, by decide, by decide +kernel⟩
theorem cvG_chance : CV mG_chance := ⟨tk2 88 (by decide +kernel) rfl, tk2 89 (by decide +kernel) rfl⟩
theorem cmG_envelope : CM mG_envelope 4 := ⟨tk2 98 (by decide +kernel) rfl, iniG, by decide, by decide, by decide +kernel⟩
theorem cvG_envelope : CV mG_envelope := ⟨tk2 96 (by decide +kernel) rfl, tk2 97 (by decide +kernel) rfl⟩
theorem cmG_of : CM mG_of 2 := ⟨tk2 112 (by decide +kernel) rfl, iniG, by decide, by decide, by decide +kernel⟩
theorem cvG_of : CV mG_of := ⟨tk2 110 (by decide +kernel) rfl, tk2 111 (by decide +kernel) rfl⟩
theorem cmG_price : CM mG_price 2 := ⟨tk2 120 (by decide +kernel) rfl, iniG, by decide, by decide, by decide +kernel⟩
theorem cvG_price : CV mG_price := ⟨tk2 118 (by decide +kernel) rfl, tk2 119 (by decide +kernel) rfl⟩
theorem cmG_say : CM mG_say 2 := ⟨tk2 124 (by decide +kernel) rfl, iniG, by decide, by decide, by decide +kernel⟩
theorem cvG_say : CV mG_say := ⟨tk2 122 (by decide +kernel) rfl, tk2 123 (by decide +kernel) rfl⟩
theorem cmG_row : CM mG_row 3 := ⟨tk2 128 (by decide +kernel) rfl, iniG, by decide, by decide, by decide +kernel⟩
theorem cvG_row : CV mG_row := ⟨tk2 126 (by decide +kernel) rfl, tk2 127 (by decide +kernel) rfl⟩
theorem cmG_feed : CM mG_feed 1 := ⟨tk2 132 (by decide +kernel) rfl, iniG, by decide, by decide, by decide +kernel⟩
theorem cvG_feed : CV mG_feed := ⟨tk2 130 (by decide +kernel) rfl, tk2 131 (by decide +kernel) rfl⟩
theorem cmG_law : CM mG_law 0 := ⟨tk2 140 (by decide +kernel) rfl, iniG, by decide, by decide, by decide +kernel⟩
theorem cvG_law : CV mG_law := ⟨tk2 138 (by decide +kernel) rfl, tk2 139 (by decide +kernel) rfl⟩
theorem cmG_told : CM mG_told 1 := ⟨tk3 68 (by decide +kernel) rfl, iniG, by decide, by decide, by decide +kernel⟩
theorem cvG_told : CV mG_told := ⟨tk3 66 (by decide +kernel) rfl, tk3 67 (by decide +kernel) rfl⟩
theorem cmG_pass : CM mG_pass 1 := ⟨tk3 87 (by decide +kernel) rfl, iniG, by decide, by decide, by decide +kernel⟩
theorem cvG_pass : CV mG_pass := ⟨tk3 85 (by decide +kernel) rfl, tk3 86 (by decide +kernel) rfl⟩
theorem cmG_come : CM mG_come 1 := ⟨tk3 91 (by decide +kernel) rfl, iniG, by decide, by decide, by decide +kernel⟩
theorem cvG_come : CV mG_come := ⟨tk3 89 (by decide +kernel) rfl, tk3 90 (by decide +kernel) rfl⟩
theorem cmG_pay : CM mG_pay 2 := ⟨tk3 140 (by decide +kernel) rfl, iniG, by decide, by decide, by decide +kernel⟩
theorem cvG_pay : CV mG_pay := ⟨tk3 138 (by decide +kernel) rfl, tk3 139 (by decide +kernel) rfl⟩
theorem cmG_mean : CM mG_mean 2 := ⟨tk3 145 (by decide +kernel) rfl, iniG, by decide, by decide, by decide +kernel⟩
theorem cvG_mean : CV mG_mean := ⟨tk3 143 (by decide +kernel) rfl, tk3 144 (by decide +kernel) rfl⟩
theorem cmG_gain : CM mG_gain 2 := ⟨tk3 164 (by decide +kernel) rfl, iniG, by decide, by decide, by decide +kernel⟩
theorem cvG_gain : CV mG_gain := ⟨tk3 162 (by decide +kernel) rfl, tk3 163 (by decide +kernel) rfl⟩
theorem cmG_least : CM mG_least 1 := ⟨tk3 180 (by decide +kernel) rfl, iniG, by decide, by decide, by decide +kernel⟩
theorem cvG_least : CV mG_least := ⟨tk3 178 (by decide +kernel) rfl, tk3 179 (by decide +kernel) rfl⟩
theorem cmG_open : CM mG_open 2 := ⟨tk3 190 (by decide +kernel) rfl, iniG, by decide, by decide, by decide +kernel⟩
theorem cvG_open : CV mG_open := ⟨tk3 188 (by decide +kernel) rfl, tk3 189 (by decide +kernel) rfl⟩
theorem cmG_left : CM mG_left 0 := ⟨tk3 202 (by decide +kernel) rfl, iniG, by decide, by decide, by decide +kernel⟩
theorem cvG_left : CV mG_left := ⟨tk3 200 (by decide +kernel) rfl, tk3 201 (by decide +kernel) rfl⟩
theorem cmG_odds : CM mG_odds 2 := ⟨tk3 216 (by decide +kernel) rfl, iniG, by decide, by decide, by decide +kernel⟩
theorem cvG_odds : CV mG_odds := ⟨tk3 214 (by decide +kernel) rfl, tk3 215 (by decide +kernel) rfl⟩
theorem cmG_knew : CM mG_knew 0 := ⟨tk3 220 (by decide +kernel) rfl, iniG, by decide, by decide, by decide +kernel⟩
theorem cvG_knew : CV mG_knew := ⟨tk3 218 (by decide +kernel) rfl, tk3 219 (by decide +kernel) rfl⟩
theorem cmG_best : CM mG_best 2 := ⟨tk3 228 (by decide +kernel) rfl, iniG, by decide, by decide, by decide +kernel⟩
theorem cvG_best : CV mG_best := ⟨tk3 226 (by decide +kernel) rfl, tk3 227 (by decide +kernel) rfl⟩
theorem cmG_safest : CM mG_safest 1 := ⟨tk3 238 (by decide +kernel) rfl, iniG, by decide, by decide, by decide +kernel⟩
theorem cvG_safest : CV mG_safest := ⟨tk3 236 (by decide +kernel) rfl, tk3 237 (by decide +kernel) rfl⟩
theorem cmG_sure : CM mG_sure 0 := ⟨tk4 11 (by decide +kernel) rfl, iniG, by decide, by decide, by decide +kernel⟩
theorem cvG_sure : CV mG_sure := ⟨tk4 9 (by decide +kernel) rfl, tk4 10 (by decide +kernel) rfl⟩
theorem cmG_hedge : CM mG_hedge 0 := ⟨tk4 19 (by decide +kernel) rfl, iniG, by decide, by decide, by decide +kernel⟩
theorem cvG_hedge : CV mG_hedge := ⟨tk4 17 (by decide +kernel) rfl, tk4 18 (by decide +kernel) rfl⟩
theorem cmG_against : CM mG_against 1 := ⟨tk4 33 (by decide +kernel) rfl, iniG, by decide, by decide, by decide +kernel⟩
theorem cvG_against : CV mG_against := ⟨tk4 31 (by decide +kernel) rfl, tk4 32 (by decide +kernel) rfl⟩
theorem cmG_when : CM mG_when 3 := ⟨tk4 41 (by decide +kernel) rfl, iniG, by decide, by decide, by decide +kernel⟩
theorem cvG_when : CV mG_when := ⟨tk4 39 (by decide +kernel) rfl, tk4 40 (by decide +kernel) rfl⟩
theorem cmG_crowd : CM mG_crowd 1 := ⟨tk4 50 (by decide +kernel) rfl, iniG, by decide, by decide, by decide +kernel⟩
theorem cvG_crowd : CV mG_crowd := ⟨tk4 48 (by decide +kernel) rfl, tk4 49 (by decide +kernel) rfl⟩
theorem cmG_cheap : CM mG_cheap 0 := ⟨tk4 63 (by decide +kernel) rfl, iniG, by decide, by decide, by decide +kernel⟩
theorem cvG_cheap : CV mG_cheap := ⟨tk4 61 (by decide +kernel) rfl, tk4 62 (by decide +kernel) rfl⟩
theorem cmG_burnt : CM mG_burnt 1 := ⟨tk4 72 (by decide +kernel) rfl, iniG, by decide, by decide, by decide +kernel⟩
theorem cvG_burnt : CV mG_burnt := ⟨tk4 70 (by decide +kernel) rfl, tk4 71 (by decide +kernel) rfl⟩
theorem cmG_worth : CM mG_worth 1 := ⟨tk4 77 (by decide +kernel) rfl, iniG, by decide, by decide, by decide +kernel⟩
theorem cvG_worth : CV mG_worth := ⟨tk4 75 (by decide +kernel) rfl, tk4 76 (by decide +kernel) rfl⟩
theorem cmG_book : CM mG_book 3 := ⟨tk4 89 (by decide +kernel) rfl, iniG, by decide, by decide, by decide +kernel⟩
theorem cvG_book : CV mG_book := ⟨tk4 87 (by decide +kernel) rfl, tk4 88 (by decide +kernel) rfl⟩
theorem cmG_looked : CM mG_looked 0 := ⟨tk4 93 (by decide +kernel) rfl, iniG, by decide, by decide, by decide +kernel⟩
theorem cvG_looked : CV mG_looked := ⟨tk4 91 (by decide +kernel) rfl, tk4 92 (by decide +kernel) rfl⟩
theorem cmG_judge : CM mG_judge 2 := ⟨tk4 104 (by decide +kernel) rfl, iniG, by decide, by decide, by decide +kernel⟩
theorem cvG_judge : CV mG_judge := ⟨tk4 102 (by decide +kernel) rfl, tk4 103 (by decide +kernel) rfl⟩
theorem cmG_image : CM mG_image 0 := ⟨tk4 128 (by decide +kernel) rfl, iniG, by decide, by decide, by decide +kernel⟩
theorem cvG_image : CV mG_image := ⟨tk4 126 (by decide +kernel) rfl, tk4 127 (by decide +kernel) rfl⟩
theorem cmG_undo : CM mG_undo 0 := ⟨tk4 149 (by decide +kernel) rfl, iniG, by decide, by decide, by decide +kernel⟩
theorem cvG_undo : CV mG_undo := ⟨tk4 147 (by decide +kernel) rfl, tk4 148 (by decide +kernel) rfl⟩
theorem cmG_act : CM mG_act 3 := ⟨tk4 153 (by decide +kernel) rfl, iniG, by decide, by decide, by decide +kernel⟩
theorem cvG_act : CV mG_act := ⟨tk4 151 (by decide +kernel) rfl, tk4 152 (by decide +kernel) rfl⟩
theorem cmG_trace : CM mG_trace 1 := ⟨tk4 184 (by decide +kernel) rfl, iniG, by decide, by decide, by decide +kernel⟩
theorem cvG_trace : CV mG_trace := ⟨tk4 182 (by decide +kernel) rfl, tk4 183 (by decide +kernel) rfl⟩
theorem cmG_taken : CM mG_taken 2 := ⟨tk4 192 (by decide +kernel) rfl, iniG, by decide, by decide, by decide +kernel⟩
theorem cvG_taken : CV mG_taken := ⟨tk4 190 (by decide +kernel) rfl, tk4 191 (by decide +kernel) rfl⟩
theorem cmG_count : CM mG_count 1 := ⟨tk4 200 (by decide +kernel) rfl, iniG, by decide, by decide, by decide +kernel⟩
theorem cvG_count : CV mG_count := ⟨tk4 198 (by decide +kernel) rfl, tk4 199 (by decide +kernel) rfl⟩
theorem cmG_tape : CM mG_tape 3 := ⟨tk4 204 (by decide +kernel) rfl, iniG, by decide, by decide, by decide +kernel⟩
theorem cvG_tape : CV mG_tape := ⟨tk4 202 (by decide +kernel) rfl, tk4 203 (by decide +kernel) rfl⟩
theorem cmG_item : CM mG_item 3 := ⟨tk4 212 (by decide +kernel) rfl, iniG, by decide, by decide, by decide +kernel⟩
theorem cvG_item : CV mG_item := ⟨tk4 210 (by decide +kernel) rfl, tk4 211 (by decide +kernel) rfl⟩
theorem cmG_read : CM mG_read 2 := ⟨tk4 223 (by decide +kernel) rfl, iniG, by decide, by decide, by decide +kernel⟩
theorem cvG_read : CV mG_read := ⟨tk4 221 (by decide +kernel) rfl, tk4 222 (by decide +kernel) rfl⟩
theorem cmG_shift : CM mG_shift 5 := ⟨tk4 227 (by decide +kernel) rfl, iniG, by decide, by decide, by decide +kernel⟩
theorem cvG_shift : CV mG_shift := ⟨tk4 225 (by decide +kernel) rfl, tk4 226 (by decide +kernel) rfl⟩
theorem cmG_isUpTo : CM mG_isUpTo 2 := ⟨tk2 101 (by decide +kernel) rfl, iniG, by decide, by decide, by decide +kernel⟩
theorem stG_isUpTo : Cond.static mG_isUpTo.1 ∈ lw_g := tk2 100 (by decide +kernel) rfl
theorem cmG_isChance : CM mG_isChance 1 := ⟨tk2 82 (by decide +kernel) rfl, iniG, by decide, by decide, by decide +kernel⟩
theorem stG_isChance : Cond.static mG_isChance.1 ∈ lw_g := tk2 81 (by decide +kernel) rfl
theorem cmG_isWithin : CM mG_isWithin 2 := ⟨tk2 104 (by decide +kernel) rfl, iniG, by decide, by decide, by decide +kernel⟩
theorem stG_isWithin : Cond.static mG_isWithin.1 ∈ lw_g := tk2 103 (by decide +kernel) rfl
theorem cmG_hasBit : CM mG_hasBit 2 := ⟨tk3 83 (by decide +kernel) rfl, iniG, by decide, by decide, by decide +kernel⟩
theorem stG_hasBit : Cond.static mG_hasBit.1 ∈ lw_g := tk3 82 (by decide +kernel) rfl
theorem cmG_isUnder : CM mG_isUnder 2 := ⟨tk4 195 (by decide +kernel) rfl, iniG, by decide, by decide, by decide +kernel⟩
theorem stG_isUnder : Cond.static mG_isUnder.1 ∈ lw_g := tk4 194 (by decide +kernel) rfl
theorem cmG_fractionPart : CM mG_fractionPart 3 := ⟨tk3 157 (by decide +kernel) rfl, iniG, by decide, by decide, by decide +kernel⟩
theorem stG_fractionPart : Cond.static mG_fractionPart.1 ∈ lw_g := tk3 156 (by decide +kernel) rfl
theorem cmG_greatestShared : CM mG_greatestShared 2 := ⟨tk3 160 (by decide +kernel) rfl, iniG, by decide, by decide, by decide +kernel⟩
theorem stG_greatestShared : Cond.static mG_greatestShared.1 ∈ lw_g := tk3 159 (by decide +kernel) rfl
theorem cmM_init : CM mM_init 0 := ⟨tk4 237 (by decide +kernel) rfl, iniM, by decide, by decide, by decide +kernel⟩
theorem inM_init : Cond.instanceMethod mM_init.1 ∈ lw_g ∧ mM_init.1.name = "<init>" ∧ mM_init.2.2.2 = none := ⟨tk4 236 (by decide +kernel) rfl, rfl, rfl⟩
theorem cmM_in : CM mM_in 3 := ⟨tk5 197 (by decide +kernel) rfl, iniM, by decide, by decide, by decide +kernel⟩
theorem cvM_in : CV mM_in := ⟨tk5 196 (by decide +kernel) rfl, tp 17 (by decide +kernel) rfl⟩
theorem cmM_has : CM mM_has 2 := ⟨tk6 97 (by decide +kernel) rfl, iniM, by decide, by decide, by decide +kernel⟩
theorem cvM_has : CV mM_has := ⟨tk6 96 (by decide +kernel) rfl, tp 43 (by decide +kernel) rfl⟩
theorem cmM_ones : CM mM_ones 1 := ⟨tk6 109 (by decide +kernel) rfl, iniM, by decide, by decide, by decide +kernel⟩
theorem cvM_ones : CV mM_ones := ⟨tk6 108 (by decide +kernel) rfl, tp 46 (by decide +kernel) rfl⟩
theorem cmM_isWorld : CM mM_isWorld 1 := ⟨tk5 205 (by decide +kernel) rfl, iniM, by decide, by decide, by decide +kernel⟩
theorem cvM_isWorld : CV mM_isWorld := ⟨tk5 204 (by decide +kernel) rfl, tp 18 (by decide +kernel) rfl⟩
theorem cmM_isEnvelope : CM mM_isEnvelope 1 := ⟨tk5 225 (by decide +kernel) rfl, iniM, by decide, by decide, by decide +kernel⟩
theorem cvM_isEnvelope : CV mM_isEnvelope := ⟨tk5 224 (by decide +kernel) rfl, tp 21 (by decide +kernel) rfl⟩
theorem cmM_isSaying : CM mM_isSaying 1 := ⟨tk5 213 (by decide +kernel) rfl, iniM, by decide, by decide, by decide +kernel⟩
theorem cvM_isSaying : CV mM_isSaying := ⟨tk5 212 (by decide +kernel) rfl, tp 19 (by decide +kernel) rfl⟩
theorem cmM_isSet : CM mM_isSet 1 := ⟨tk6 172 (by decide +kernel) rfl, iniM, by decide, by decide, by decide +kernel⟩
theorem cvM_isSet : CV mM_isSet := ⟨tk6 171 (by decide +kernel) rfl, tp 56 (by decide +kernel) rfl⟩
theorem cmM_isPrice : CM mM_isPrice 1 := ⟨tk5 217 (by decide +kernel) rfl, iniM, by decide, by decide, by decide +kernel⟩
theorem cvM_isPrice : CV mM_isPrice := ⟨tk5 216 (by decide +kernel) rfl, tp 20 (by decide +kernel) rfl⟩
theorem cmM_world : CM mM_world 1 := ⟨tk5 193 (by decide +kernel) rfl, iniM, by decide, by decide, by decide +kernel⟩
theorem cvM_world : CV mM_world := ⟨tk5 191 (by decide +kernel) rfl, tk5 192 (by decide +kernel) rfl⟩
theorem cmM_chance : CM mM_chance 2 := ⟨tk5 201 (by decide +kernel) rfl, iniM, by decide, by decide, by decide +kernel⟩
theorem cvM_chance : CV mM_chance := ⟨tk5 199 (by decide +kernel) rfl, tk5 200 (by decide +kernel) rfl⟩
theorem cmM_envelope : CM mM_envelope 4 := ⟨tk5 209 (by decide +kernel) rfl, iniM, by decide, by decide, by decide +kernel⟩
theorem cvM_envelope : CV mM_envelope := ⟨tk5 207 (by decide +kernel) rfl, tk5 208 (by decide +kernel) rfl⟩
theorem cmM_old : CM mM_old 1 := ⟨tk5 229 (by decide +kernel) rfl, iniM, by decide, by decide, by decide +kernel⟩
theorem cvM_old : CV mM_old := ⟨tk5 228 (by decide +kernel) rfl, tp 22 (by decide +kernel) rfl⟩
theorem cmM_of : CM mM_of 2 := ⟨tk5 221 (by decide +kernel) rfl, iniM, by decide, by decide, by decide +kernel⟩
theorem cvM_of : CV mM_of := ⟨tk5 219 (by decide +kernel) rfl, tk5 220 (by decide +kernel) rfl⟩
theorem cmM_price : CM mM_price 2 := ⟨tk5 233 (by decide +kernel) rfl, iniM, by decide, by decide, by decide +kernel⟩
theorem cvM_price : CV mM_price := ⟨tk5 231 (by decide +kernel) rfl, tk5 232 (by decide +kernel) rfl⟩
theorem cmM_say : CM mM_say 2 := ⟨tk5 237 (by decide +kernel) rfl, iniM, by decide, by decide, by decide +kernel⟩
theorem cvM_say : CV mM_say := ⟨tk5 235 (by decide +kernel) rfl, tk5 236 (by decide +kernel) rfl⟩
theorem cmM_row : CM mM_row 3 := ⟨tk6 1 (by decide +kernel) rfl, iniM, by decide, by decide, by decide +kernel⟩
theorem cvM_row : CV mM_row := ⟨tk5 239 (by decide +kernel) rfl, tk6 0 (by decide +kernel) rfl⟩
theorem cmM_feed : CM mM_feed 1 := ⟨tk6 5 (by decide +kernel) rfl, iniM, by decide, by decide, by decide +kernel⟩
theorem cvM_feed : CV mM_feed := ⟨tk6 3 (by decide +kernel) rfl, tk6 4 (by decide +kernel) rfl⟩
theorem cmM_next : CM mM_next 0 := ⟨tk6 25 (by decide +kernel) rfl, iniM, by decide, by decide, by decide +kernel⟩
theorem cvM_next : CV mM_next := ⟨tk6 24 (by decide +kernel) rfl, tp 26 (by decide +kernel) rfl⟩
theorem cmM_takes : CM mM_takes 1 := ⟨tk6 33 (by decide +kernel) rfl, iniM, by decide, by decide, by decide +kernel⟩
theorem cvM_takes : CV mM_takes := ⟨tk6 32 (by decide +kernel) rfl, tp 28 (by decide +kernel) rfl⟩
theorem cmM_takesWord : CM mM_takesWord 2 := ⟨tk6 29 (by decide +kernel) rfl, iniM, by decide, by decide, by decide +kernel⟩
theorem cvM_takesWord : CV mM_takesWord := ⟨tk6 28 (by decide +kernel) rfl, tp 27 (by decide +kernel) rfl⟩
theorem cmM_isDigit : CM mM_isDigit 0 := ⟨tk6 41 (by decide +kernel) rfl, iniM, by decide, by decide, by decide +kernel⟩
theorem cvM_isDigit : CV mM_isDigit := ⟨tk6 40 (by decide +kernel) rfl, tp 30 (by decide +kernel) rfl⟩
theorem cmM_takesNumber : CM mM_takesNumber 0 := ⟨tk6 37 (by decide +kernel) rfl, iniM, by decide, by decide, by decide +kernel⟩
theorem cvM_takesNumber : CV mM_takesNumber := ⟨tk6 36 (by decide +kernel) rfl, tp 29 (by decide +kernel) rfl⟩
theorem cmM_emits : CM mM_emits 1 := ⟨tk6 57 (by decide +kernel) rfl, iniM, by decide, by decide, by decide +kernel⟩
theorem cvM_emits : CV mM_emits := ⟨tk6 56 (by decide +kernel) rfl, tp 34 (by decide +kernel) rfl⟩
theorem cmM_whole : CM mM_whole 0 := ⟨tk6 61 (by decide +kernel) rfl, iniM, by decide, by decide, by decide +kernel⟩
theorem cvM_whole : CV mM_whole := ⟨tk6 60 (by decide +kernel) rfl, tp 35 (by decide +kernel) rfl⟩
theorem cmM_settle : CM mM_settle 1 := ⟨tk6 65 (by decide +kernel) rfl, iniM, by decide, by decide, by decide +kernel⟩
theorem cvM_settle : CV mM_settle := ⟨tk6 64 (by decide +kernel) rfl, tp 36 (by decide +kernel) rfl⟩
theorem cmM_place : CM mM_place 1 := ⟨tk6 53 (by decide +kernel) rfl, iniM, by decide, by decide, by decide +kernel⟩
theorem cvM_place : CV mM_place := ⟨tk6 52 (by decide +kernel) rfl, tp 33 (by decide +kernel) rfl⟩
theorem cmM_takesTest : CM mM_takesTest 0 := ⟨tk6 49 (by decide +kernel) rfl, iniM, by decide, by decide, by decide +kernel⟩
theorem cvM_takesTest : CV mM_takesTest := ⟨tk6 48 (by decide +kernel) rfl, tp 32 (by decide +kernel) rfl⟩
theorem cmM_takesE : CM mM_takesE 1 := ⟨tk6 45 (by decide +kernel) rfl, iniM, by decide, by decide, by decide +kernel⟩
theorem cvM_takesE : CV mM_takesE := ⟨tk6 44 (by decide +kernel) rfl, tp 31 (by decide +kernel) rfl⟩
theorem cmM_takesHead : CM mM_takesHead 1 := ⟨tk6 21 (by decide +kernel) rfl, iniM, by decide, by decide, by decide +kernel⟩
theorem cvM_takesHead : CV mM_takesHead := ⟨tk6 20 (by decide +kernel) rfl, tp 25 (by decide +kernel) rfl⟩
theorem cmM_takesClause : CM mM_takesClause 1 := ⟨tk6 17 (by decide +kernel) rfl, iniM, by decide, by decide, by decide +kernel⟩
theorem cvM_takesClause : CV mM_takesClause := ⟨tk6 16 (by decide +kernel) rfl, tp 24 (by decide +kernel) rfl⟩
theorem cmM_goesText : CM mM_goesText 1 := ⟨tk6 13 (by decide +kernel) rfl, iniM, by decide, by decide, by decide +kernel⟩
theorem cvM_goesText : CV mM_goesText := ⟨tk6 12 (by decide +kernel) rfl, tp 23 (by decide +kernel) rfl⟩
theorem cmM_law : CM mM_law 0 := ⟨tk6 9 (by decide +kernel) rfl, iniM, by decide, by decide, by decide +kernel⟩
theorem cvM_law : CV mM_law := ⟨tk6 7 (by decide +kernel) rfl, tk6 8 (by decide +kernel) rfl⟩
theorem cmM_begin : CM mM_begin 0 := ⟨tk6 85 (by decide +kernel) rfl, iniM, by decide, by decide, by decide +kernel⟩
theorem cvM_begin : CV mM_begin := ⟨tk6 84 (by decide +kernel) rfl, tp 40 (by decide +kernel) rfl⟩
theorem cmM_behind : CM mM_behind 0 := ⟨tk6 89 (by decide +kernel) rfl, iniM, by decide, by decide, by decide +kernel⟩
theorem cvM_behind : CV mM_behind := ⟨tk6 88 (by decide +kernel) rfl, tp 41 (by decide +kernel) rfl⟩
theorem cmM_base : CM mM_base 0 := ⟨tk6 81 (by decide +kernel) rfl, iniM, by decide, by decide, by decide +kernel⟩
theorem cvM_base : CV mM_base := ⟨tk6 80 (by decide +kernel) rfl, tp 39 (by decide +kernel) rfl⟩
theorem cmM_factOf : CM mM_factOf 3 := ⟨tk6 125 (by decide +kernel) rfl, iniM, by decide, by decide, by decide +kernel⟩
theorem cvM_factOf : CV mM_factOf := ⟨tk6 124 (by decide +kernel) rfl, tp 50 (by decide +kernel) rfl⟩
theorem cmM_holds : CM mM_holds 3 := ⟨tk6 121 (by decide +kernel) rfl, iniM, by decide, by decide, by decide +kernel⟩
theorem cvM_holds : CV mM_holds := ⟨tk6 120 (by decide +kernel) rfl, tp 49 (by decide +kernel) rfl⟩
theorem cmM_extra : CM mM_extra 2 := ⟨tk6 117 (by decide +kernel) rfl, iniM, by decide, by decide, by decide +kernel⟩
theorem cvM_extra : CV mM_extra := ⟨tk6 116 (by decide +kernel) rfl, tp 48 (by decide +kernel) rfl⟩
theorem cmM_isTrue : CM mM_isTrue 2 := ⟨tk6 93 (by decide +kernel) rfl, iniM, by decide, by decide, by decide +kernel⟩
theorem cvM_isTrue : CV mM_isTrue := ⟨tk6 92 (by decide +kernel) rfl, tp 42 (by decide +kernel) rfl⟩
theorem cmM_isNear : CM mM_isNear 2 := ⟨tk6 105 (by decide +kernel) rfl, iniM, by decide, by decide, by decide +kernel⟩
theorem cvM_isNear : CV mM_isNear := ⟨tk6 104 (by decide +kernel) rfl, tp 45 (by decide +kernel) rfl⟩
theorem cmM_near : CM mM_near 3 := ⟨tk6 101 (by decide +kernel) rfl, iniM, by decide, by decide, by decide +kernel⟩
theorem cvM_near : CV mM_near := ⟨tk6 100 (by decide +kernel) rfl, tp 44 (by decide +kernel) rfl⟩
theorem cmM_late : CM mM_late 3 := ⟨tk6 113 (by decide +kernel) rfl, iniM, by decide, by decide, by decide +kernel⟩
theorem cvM_late : CV mM_late := ⟨tk6 112 (by decide +kernel) rfl, tp 47 (by decide +kernel) rfl⟩
theorem cmM_gross : CM mM_gross 2 := ⟨tk6 77 (by decide +kernel) rfl, iniM, by decide, by decide, by decide +kernel⟩
theorem cvM_gross : CV mM_gross := ⟨tk6 76 (by decide +kernel) rfl, tp 38 (by decide +kernel) rfl⟩
theorem cmM_payOf : CM mM_payOf 2 := ⟨tk6 73 (by decide +kernel) rfl, iniM, by decide, by decide, by decide +kernel⟩
theorem cvM_payOf : CV mM_payOf := ⟨tk6 72 (by decide +kernel) rfl, tp 37 (by decide +kernel) rfl⟩
theorem cmM_pay : CM mM_pay 2 := ⟨tk6 69 (by decide +kernel) rfl, iniM, by decide, by decide, by decide +kernel⟩
theorem cvM_pay : CV mM_pay := ⟨tk6 67 (by decide +kernel) rfl, tk6 68 (by decide +kernel) rfl⟩
theorem cmM_chances : CM mM_chances 1 := ⟨tk6 137 (by decide +kernel) rfl, iniM, by decide, by decide, by decide +kernel⟩
theorem cvM_chances : CV mM_chances := ⟨tk6 136 (by decide +kernel) rfl, tp 52 (by decide +kernel) rfl⟩
theorem cmM_all : CM mM_all 0 := ⟨tk6 133 (by decide +kernel) rfl, iniM, by decide, by decide, by decide +kernel⟩
theorem cvM_all : CV mM_all := ⟨tk6 132 (by decide +kernel) rfl, tp 51 (by decide +kernel) rfl⟩
theorem cmM_told : CM mM_told 1 := ⟨tk6 129 (by decide +kernel) rfl, iniM, by decide, by decide, by decide +kernel⟩
theorem cvM_told : CV mM_told := ⟨tk6 127 (by decide +kernel) rfl, tk6 128 (by decide +kernel) rfl⟩
theorem cmM_pass : CM mM_pass 1 := ⟨tk6 141 (by decide +kernel) rfl, iniM, by decide, by decide, by decide +kernel⟩
theorem cvM_pass : CV mM_pass := ⟨tk6 139 (by decide +kernel) rfl, tk6 140 (by decide +kernel) rfl⟩
theorem cmM_come : CM mM_come 1 := ⟨tk6 145 (by decide +kernel) rfl, iniM, by decide, by decide, by decide +kernel⟩
theorem cvM_come : CV mM_come := ⟨tk6 143 (by decide +kernel) rfl, tk6 144 (by decide +kernel) rfl⟩
theorem cmM_layPays : CM mM_layPays 0 := ⟨tk6 177 (by decide +kernel) rfl, iniM, by decide, by decide, by decide +kernel⟩
theorem cvM_layPays : CV mM_layPays := ⟨tk6 176 (by decide +kernel) rfl, tp 57 (by decide +kernel) rfl⟩
theorem cmM_weighed : CM mM_weighed 1 := ⟨tk6 155 (by decide +kernel) rfl, iniM, by decide, by decide, by decide +kernel⟩
theorem cvM_weighed : CV mM_weighed := ⟨tk6 154 (by decide +kernel) rfl, tp 53 (by decide +kernel) rfl⟩
theorem cmM_divisor : CM mM_divisor 2 := ⟨tk6 163 (by decide +kernel) rfl, iniM, by decide, by decide, by decide +kernel⟩
theorem cvM_divisor : CV mM_divisor := ⟨tk6 162 (by decide +kernel) rfl, tp 55 (by decide +kernel) rfl⟩
theorem cmM_lowest : CM mM_lowest 3 := ⟨tk6 159 (by decide +kernel) rfl, iniM, by decide, by decide, by decide +kernel⟩
theorem cvM_lowest : CV mM_lowest := ⟨tk6 158 (by decide +kernel) rfl, tp 54 (by decide +kernel) rfl⟩
theorem cmM_mean : CM mM_mean 2 := ⟨tk6 150 (by decide +kernel) rfl, iniM, by decide, by decide, by decide +kernel⟩
theorem cvM_mean : CV mM_mean := ⟨tk6 148 (by decide +kernel) rfl, tk6 149 (by decide +kernel) rfl⟩
theorem cmM_gainOf : CM mM_gainOf 2 := ⟨tk6 181 (by decide +kernel) rfl, iniM, by decide, by decide, by decide +kernel⟩
theorem cvM_gainOf : CV mM_gainOf := ⟨tk6 180 (by decide +kernel) rfl, tp 58 (by decide +kernel) rfl⟩
theorem cmM_leastOf : CM mM_leastOf 1 := ⟨tk6 189 (by decide +kernel) rfl, iniM, by decide, by decide, by decide +kernel⟩
theorem cvM_leastOf : CV mM_leastOf := ⟨tk6 188 (by decide +kernel) rfl, tp 59 (by decide +kernel) rfl⟩
theorem cmM_mostOf : CM mM_mostOf 1 := ⟨tk6 229 (by decide +kernel) rfl, iniM, by decide, by decide, by decide +kernel⟩
theorem cvM_mostOf : CV mM_mostOf := ⟨tk6 228 (by decide +kernel) rfl, tp 61 (by decide +kernel) rfl⟩
theorem cmM_gain : CM mM_gain 2 := ⟨tk6 167 (by decide +kernel) rfl, iniM, by decide, by decide, by decide +kernel⟩
theorem cvM_gain : CV mM_gain := ⟨tk6 165 (by decide +kernel) rfl, tk6 166 (by decide +kernel) rfl⟩
theorem cmM_least : CM mM_least 1 := ⟨tk6 185 (by decide +kernel) rfl, iniM, by decide, by decide, by decide +kernel⟩
theorem cvM_least : CV mM_least := ⟨tk6 183 (by decide +kernel) rfl, tk6 184 (by decide +kernel) rfl⟩
theorem cmM_open : CM mM_open 2 := ⟨tk6 193 (by decide +kernel) rfl, iniM, by decide, by decide, by decide +kernel⟩
theorem cvM_open : CV mM_open := ⟨tk6 191 (by decide +kernel) rfl, tk6 192 (by decide +kernel) rfl⟩
theorem cmM_leftNow : CM mM_leftNow 0 := ⟨tk6 201 (by decide +kernel) rfl, iniM, by decide, by decide, by decide +kernel⟩
theorem cvM_leftNow : CV mM_leftNow := ⟨tk6 200 (by decide +kernel) rfl, tp 60 (by decide +kernel) rfl⟩
theorem cmM_left : CM mM_left 0 := ⟨tk6 197 (by decide +kernel) rfl, iniM, by decide, by decide, by decide +kernel⟩
theorem cvM_left : CV mM_left := ⟨tk6 195 (by decide +kernel) rfl, tk6 196 (by decide +kernel) rfl⟩
theorem cmM_odds : CM mM_odds 2 := ⟨tk6 205 (by decide +kernel) rfl, iniM, by decide, by decide, by decide +kernel⟩
theorem cvM_odds : CV mM_odds := ⟨tk6 203 (by decide +kernel) rfl, tk6 204 (by decide +kernel) rfl⟩
theorem cmM_knew : CM mM_knew 0 := ⟨tk6 209 (by decide +kernel) rfl, iniM, by decide, by decide, by decide +kernel⟩
theorem cvM_knew : CV mM_knew := ⟨tk6 207 (by decide +kernel) rfl, tk6 208 (by decide +kernel) rfl⟩
theorem cmM_best : CM mM_best 2 := ⟨tk6 213 (by decide +kernel) rfl, iniM, by decide, by decide, by decide +kernel⟩
theorem cvM_best : CV mM_best := ⟨tk6 211 (by decide +kernel) rfl, tk6 212 (by decide +kernel) rfl⟩
theorem cmM_safest : CM mM_safest 1 := ⟨tk6 217 (by decide +kernel) rfl, iniM, by decide, by decide, by decide +kernel⟩
theorem cvM_safest : CV mM_safest := ⟨tk6 215 (by decide +kernel) rfl, tk6 216 (by decide +kernel) rfl⟩
theorem cmM_sure : CM mM_sure 0 := ⟨tk6 221 (by decide +kernel) rfl, iniM, by decide, by decide, by decide +kernel⟩
theorem cvM_sure : CV mM_sure := ⟨tk6 219 (by decide +kernel) rfl, tk6 220 (by decide +kernel) rfl⟩
theorem cmM_hedge : CM mM_hedge 0 := ⟨tk6 225 (by decide +kernel) rfl, iniM, by decide, by decide, by decide +kernel⟩
theorem cvM_hedge : CV mM_hedge := ⟨tk6 223 (by decide +kernel) rfl, tk6 224 (by decide +kernel) rfl⟩
theorem cmM_against : CM mM_against 1 := ⟨tk6 233 (by decide +kernel) rfl, iniM, by decide, by decide, by decide +kernel⟩
theorem cvM_against : CV mM_against := ⟨tk6 231 (by decide +kernel) rfl, tk6 232 (by decide +kernel) rfl⟩
theorem cmM_when : CM mM_when 3 := ⟨tk6 237 (by decide +kernel) rfl, iniM, by decide, by decide, by decide +kernel⟩
theorem cvM_when : CV mM_when := ⟨tk6 235 (by decide +kernel) rfl, tk6 236 (by decide +kernel) rfl⟩
theorem cmM_crowd : CM mM_crowd 1 := ⟨tk7 1 (by decide +kernel) rfl, iniM, by decide, by decide, by decide +kernel⟩
theorem cvM_crowd : CV mM_crowd := ⟨tk6 239 (by decide +kernel) rfl, tk7 0 (by decide +kernel) rfl⟩
theorem cmM_cheap : CM mM_cheap 0 := ⟨tk7 5 (by decide +kernel) rfl, iniM, by decide, by decide, by decide +kernel⟩
theorem cvM_cheap : CV mM_cheap := ⟨tk7 3 (by decide +kernel) rfl, tk7 4 (by decide +kernel) rfl⟩
theorem cmM_burnt : CM mM_burnt 1 := ⟨tk7 9 (by decide +kernel) rfl, iniM, by decide, by decide, by decide +kernel⟩
theorem cvM_burnt : CV mM_burnt := ⟨tk7 7 (by decide +kernel) rfl, tk7 8 (by decide +kernel) rfl⟩
theorem cmM_worth : CM mM_worth 1 := ⟨tk7 13 (by decide +kernel) rfl, iniM, by decide, by decide, by decide +kernel⟩
theorem cvM_worth : CV mM_worth := ⟨tk7 11 (by decide +kernel) rfl, tk7 12 (by decide +kernel) rfl⟩
theorem cmM_book : CM mM_book 3 := ⟨tk7 17 (by decide +kernel) rfl, iniM, by decide, by decide, by decide +kernel⟩
theorem cvM_book : CV mM_book := ⟨tk7 15 (by decide +kernel) rfl, tk7 16 (by decide +kernel) rfl⟩
theorem cmM_looked : CM mM_looked 0 := ⟨tk7 21 (by decide +kernel) rfl, iniM, by decide, by decide, by decide +kernel⟩
theorem cvM_looked : CV mM_looked := ⟨tk7 19 (by decide +kernel) rfl, tk7 20 (by decide +kernel) rfl⟩
theorem cmM_judge : CM mM_judge 2 := ⟨tk7 25 (by decide +kernel) rfl, iniM, by decide, by decide, by decide +kernel⟩
theorem cvM_judge : CV mM_judge := ⟨tk7 23 (by decide +kernel) rfl, tk7 24 (by decide +kernel) rfl⟩
theorem cmM_image : CM mM_image 0 := ⟨tk7 33 (by decide +kernel) rfl, iniM, by decide, by decide, by decide +kernel⟩
theorem cvM_image : CV mM_image := ⟨tk7 31 (by decide +kernel) rfl, tk7 32 (by decide +kernel) rfl⟩
theorem cmM_undo : CM mM_undo 0 := ⟨tk7 37 (by decide +kernel) rfl, iniM, by decide, by decide, by decide +kernel⟩
theorem cvM_undo : CV mM_undo := ⟨tk7 35 (by decide +kernel) rfl, tk7 36 (by decide +kernel) rfl⟩
theorem cmM_body : CM mM_body 1 := ⟨tk7 49 (by decide +kernel) rfl, iniM, by decide, by decide, by decide +kernel⟩
theorem cvM_body : CV mM_body := ⟨tk7 48 (by decide +kernel) rfl, tp 64 (by decide +kernel) rfl⟩
theorem cmM_envelopeSeals : CM mM_envelopeSeals 2 := ⟨tk7 53 (by decide +kernel) rfl, iniM, by decide, by decide, by decide +kernel⟩
theorem cvM_envelopeSeals : CV mM_envelopeSeals := ⟨tk7 52 (by decide +kernel) rfl, tp 65 (by decide +kernel) rfl⟩
theorem cmM_sealsAct : CM mM_sealsAct 2 := ⟨tk7 45 (by decide +kernel) rfl, iniM, by decide, by decide, by decide +kernel⟩
theorem cvM_sealsAct : CV mM_sealsAct := ⟨tk7 44 (by decide +kernel) rfl, tp 63 (by decide +kernel) rfl⟩
theorem cmM_envelopePays : CM mM_envelopePays 2 := ⟨tk7 65 (by decide +kernel) rfl, iniM, by decide, by decide, by decide +kernel⟩
theorem cvM_envelopePays : CV mM_envelopePays := ⟨tk7 64 (by decide +kernel) rfl, tp 68 (by decide +kernel) rfl⟩
theorem cmM_nearPays : CM mM_nearPays 2 := ⟨tk7 61 (by decide +kernel) rfl, iniM, by decide, by decide, by decide +kernel⟩
theorem cvM_nearPays : CV mM_nearPays := ⟨tk7 60 (by decide +kernel) rfl, tp 67 (by decide +kernel) rfl⟩
theorem cmM_paysAct : CM mM_paysAct 2 := ⟨tk7 57 (by decide +kernel) rfl, iniM, by decide, by decide, by decide +kernel⟩
theorem cvM_paysAct : CV mM_paysAct := ⟨tk7 56 (by decide +kernel) rfl, tp 66 (by decide +kernel) rfl⟩
theorem cmM_envelopeTells : CM mM_envelopeTells 2 := ⟨tk7 73 (by decide +kernel) rfl, iniM, by decide, by decide, by decide +kernel⟩
theorem cvM_envelopeTells : CV mM_envelopeTells := ⟨tk7 72 (by decide +kernel) rfl, tp 70 (by decide +kernel) rfl⟩
theorem cmM_tellsAct : CM mM_tellsAct 2 := ⟨tk7 69 (by decide +kernel) rfl, iniM, by decide, by decide, by decide +kernel⟩
theorem cvM_tellsAct : CV mM_tellsAct := ⟨tk7 68 (by decide +kernel) rfl, tp 69 (by decide +kernel) rfl⟩
theorem cmM_act : CM mM_act 3 := ⟨tk7 41 (by decide +kernel) rfl, iniM, by decide, by decide, by decide +kernel⟩
theorem cvM_act : CV mM_act := ⟨tk7 39 (by decide +kernel) rfl, tk7 40 (by decide +kernel) rfl⟩
theorem cmM_trace : CM mM_trace 1 := ⟨tk7 77 (by decide +kernel) rfl, iniM, by decide, by decide, by decide +kernel⟩
theorem cvM_trace : CV mM_trace := ⟨tk7 75 (by decide +kernel) rfl, tk7 76 (by decide +kernel) rfl⟩
theorem cmM_taken : CM mM_taken 2 := ⟨tk7 81 (by decide +kernel) rfl, iniM, by decide, by decide, by decide +kernel⟩
theorem cvM_taken : CV mM_taken := ⟨tk7 79 (by decide +kernel) rfl, tk7 80 (by decide +kernel) rfl⟩
theorem cmM_count : CM mM_count 1 := ⟨tk7 85 (by decide +kernel) rfl, iniM, by decide, by decide, by decide +kernel⟩
theorem cvM_count : CV mM_count := ⟨tk7 83 (by decide +kernel) rfl, tk7 84 (by decide +kernel) rfl⟩
theorem cmM_isTape : CM mM_isTape 1 := ⟨tk7 29 (by decide +kernel) rfl, iniM, by decide, by decide, by decide +kernel⟩
theorem cvM_isTape : CV mM_isTape := ⟨tk7 28 (by decide +kernel) rfl, tp 62 (by decide +kernel) rfl⟩
theorem cmM_tape : CM mM_tape 3 := ⟨tk7 89 (by decide +kernel) rfl, iniM, by decide, by decide, by decide +kernel⟩
theorem cvM_tape : CV mM_tape := ⟨tk7 87 (by decide +kernel) rfl, tk7 88 (by decide +kernel) rfl⟩
theorem cmM_narrow : CM mM_narrow 2 := ⟨tk7 97 (by decide +kernel) rfl, iniM, by decide, by decide, by decide +kernel⟩
theorem cvM_narrow : CV mM_narrow := ⟨tk7 96 (by decide +kernel) rfl, tp 71 (by decide +kernel) rfl⟩
theorem cmM_item : CM mM_item 3 := ⟨tk7 93 (by decide +kernel) rfl, iniM, by decide, by decide, by decide +kernel⟩
theorem cvM_item : CV mM_item := ⟨tk7 91 (by decide +kernel) rfl, tk7 92 (by decide +kernel) rfl⟩
theorem cmM_read : CM mM_read 2 := ⟨tk7 101 (by decide +kernel) rfl, iniM, by decide, by decide, by decide +kernel⟩
theorem cvM_read : CV mM_read := ⟨tk7 99 (by decide +kernel) rfl, tk7 100 (by decide +kernel) rfl⟩
theorem cmM_shift : CM mM_shift 5 := ⟨tk7 105 (by decide +kernel) rfl, iniM, by decide, by decide, by decide +kernel⟩
theorem cvM_shift : CV mM_shift := ⟨tk7 103 (by decide +kernel) rfl, tk7 104 (by decide +kernel) rfl⟩
theorem cmJS_length_8abf5 : CM mJS_length_8abf5 0 := ⟨tk2 169 (by decide +kernel) rfl, iniJS, by decide, by decide, by decide +kernel⟩
theorem cvJS_length_8abf5 : CV mJS_length_8abf5 := ⟨tk2 167 (by decide +kernel) rfl, tk2 168 (by decide +kernel) rfl⟩
theorem cmJS_charAt_5068e : CM mJS_charAt_5068e 1 := ⟨tk2 179 (by decide +kernel) rfl, iniJS, by decide, by decide, by decide +kernel⟩
theorem cvJS_charAt_5068e : CV mJS_charAt_5068e := ⟨tk2 177 (by decide +kernel) rfl, tk2 178 (by decide +kernel) rfl⟩
theorem cmJS_indexOf_0f7a4 : CM mJS_indexOf_0f7a4 1 := ⟨tk3 0 (by decide +kernel) rfl, iniJS, by decide, by decide, by decide +kernel⟩
theorem cvJS_indexOf_0f7a4 : CV mJS_indexOf_0f7a4 := ⟨tk2 238 (by decide +kernel) rfl, tk2 239 (by decide +kernel) rfl⟩
theorem cmJS_indexOf_7cf53 : CM mJS_indexOf_7cf53 2 := ⟨tk3 4 (by decide +kernel) rfl, iniJS, by decide, by decide, by decide +kernel⟩
theorem cvJS_indexOf_7cf53 : CV mJS_indexOf_7cf53 := ⟨tk3 2 (by decide +kernel) rfl, tk3 3 (by decide +kernel) rfl⟩
theorem cmJS_coder_7d493 : CM mJS_coder_7d493 0 := ⟨tk2 173 (by decide +kernel) rfl, iniJS, by decide, by decide, by decide +kernel⟩
theorem cvJS_coder_7d493 : CV mJS_coder_7d493 := ⟨tk2 171 (by decide +kernel) rfl, tk2 172 (by decide +kernel) rfl⟩
theorem cmJS_isLatin1_aae02 : CM mJS_isLatin1_aae02 0 := ⟨tk2 183 (by decide +kernel) rfl, iniJS, by decide, by decide, by decide +kernel⟩
theorem cvJS_isLatin1_aae02 : CV mJS_isLatin1_aae02 := ⟨tk2 181 (by decide +kernel) rfl, tk2 182 (by decide +kernel) rfl⟩
theorem cmJS_checkIndex_df160 : CM mJS_checkIndex_df160 2 := ⟨tk2 189 (by decide +kernel) rfl, iniJS, by decide, by decide, by decide +kernel⟩
theorem stJS_checkIndex_df160 : Cond.static mJS_checkIndex_df160.1 ∈ lw_g := tk2 188 (by decide +kernel) rfl
theorem cmJL_charAt_3b067 : CM mJL_charAt_3b067 2 := ⟨tk2 186 (by decide +kernel) rfl, iniJL, by decide, by decide, by decide +kernel⟩
theorem stJL_charAt_3b067 : Cond.static mJL_charAt_3b067.1 ∈ lw_g := tk2 185 (by decide +kernel) rfl
theorem cmJL_canEncode_9a6ad : CM mJL_canEncode_9a6ad 1 := ⟨tk3 11 (by decide +kernel) rfl, iniJL, by decide, by decide, by decide +kernel⟩
theorem stJL_canEncode_9a6ad : Cond.static mJL_canEncode_9a6ad.1 ∈ lw_g := tk3 10 (by decide +kernel) rfl
theorem cmJL_indexOf_4cfef : CM mJL_indexOf_4cfef 4 := ⟨tk3 8 (by decide +kernel) rfl, iniJL, by decide, by decide, by decide +kernel⟩
theorem stJL_indexOf_4cfef : Cond.static mJL_indexOf_4cfef.1 ∈ lw_g := tk3 7 (by decide +kernel) rfl
theorem cmJL_indexOfChar_4cfef : CM mJL_indexOfChar_4cfef 4 := ⟨tk3 20 (by decide +kernel) rfl, iniJL, by decide, by decide, by decide +kernel⟩
theorem stJL_indexOfChar_4cfef : Cond.static mJL_indexOfChar_4cfef.1 ∈ lw_g := tk3 19 (by decide +kernel) rfl
theorem cmJP_checkIndex_8e157 : CM mJP_checkIndex_8e157 3 := ⟨tk2 194 (by decide +kernel) rfl, iniJP, by decide, by decide, by decide +kernel⟩
theorem stJP_checkIndex_8e157 : Cond.static mJP_checkIndex_8e157.1 ∈ lw_g := tk2 193 (by decide +kernel) rfl
theorem cmJI_bitCount_0f7a4 : CM mJI_bitCount_0f7a4 1 := ⟨tk3 106 (by decide +kernel) rfl, iniJI, by decide, by decide, by decide +kernel⟩
theorem stJI_bitCount_0f7a4 : Cond.static mJI_bitCount_0f7a4.1 ∈ lw_g := tk3 105 (by decide +kernel) rfl
theorem cmJM_max_7cf53 : CM mJM_max_7cf53 2 := ⟨tk3 14 (by decide +kernel) rfl, iniJM, by decide, by decide, by decide +kernel⟩
theorem stJM_max_7cf53 : Cond.static mJM_max_7cf53.1 ∈ lw_g := tk3 13 (by decide +kernel) rfl
theorem cmJM_min_7cf53 : CM mJM_min_7cf53 2 := ⟨tk3 17 (by decide +kernel) rfl, iniJM, by decide, by decide, by decide +kernel⟩
theorem stJM_min_7cf53 : Cond.static mJM_min_7cf53.1 ∈ lw_g := tk3 16 (by decide +kernel) rfl
theorem kcJU_227 : Cond.constant "java/lang/StringUTF16" 227 (65536) ∈ lw_g := tk3 26 (by decide +kernel) rfl
theorem kcJC_110 : Cond.constant "java/lang/Character" 110 (55232) ∈ lw_g := tk3 51 (by decide +kernel) rfl
theorem kcJC_76 : Cond.constant "java/lang/Character" 76 (56320) ∈ lw_g := tk3 55 (by decide +kernel) rfl
theorem kcJI_265 : Cond.constant "java/lang/Integer" 265 (1431655765) ∈ lw_g := tk3 107 (by decide +kernel) rfl
theorem kcJI_266 : Cond.constant "java/lang/Integer" 266 (858993459) ∈ lw_g := tk3 108 (by decide +kernel) rfl
theorem kcJI_267 : Cond.constant "java/lang/Integer" 267 (252645135) ∈ lw_g := tk3 109 (by decide +kernel) rfl
theorem kcG_142 : Cond.constant "GuessFair" 142 (9999999) ∈ lw_g := tk3 135 (by decide +kernel) rfl
theorem kcG_163 : Cond.constant "GuessFair" 163 (-100001) ∈ lw_g := tk3 165 (by decide +kernel) rfl
theorem kcG_167 : Cond.constant "GuessFair" 167 (-100002) ∈ lw_g := tk3 166 (by decide +kernel) rfl
theorem kcS_70 : Cond.constant "GuessFair$Stakes" 70 (2147483647) ∈ lw_g := tk4 24 (by decide +kernel) rfl
theorem kcM_320 : Cond.constant "GuessFairModel" 320 (9999999) ∈ lw_g := tk6 146 (by decide +kernel) rfl
theorem kcM_336 : Cond.constant "GuessFairModel" 336 (-100001) ∈ lw_g := tk6 168 (by decide +kernel) rfl
theorem kcM_340 : Cond.constant "GuessFairModel" 340 (-100002) ∈ lw_g := tk6 173 (by decide +kernel) rfl
theorem klG_153 : Cond.constantLong "GuessFair" 153 (-9223372036854775808) ∈ lw_g := tk3 146 (by decide +kernel) rfl
theorem klM_324 : Cond.constantLong "GuessFairModel" 324 (-9223372036854775808) ∈ lw_g := tk6 151 (by decide +kernel) rfl
theorem klZ_180 : Cond.constantLong "GuessFairLaw" 180 (4294967295) ∈ lw_g := tk7 106 (by decide +kernel) rfl
theorem clZ_7 : Cond.classLink "GuessFairLaw" 7 "GuessFair" ∈ lw_g := tk1 21 (by decide +kernel) rfl
theorem clG_9 : Cond.classLink "GuessFair" 9 "GuessFair$Fair" ∈ lw_g := tk1 29 (by decide +kernel) rfl
theorem clF_15 : Cond.classLink "GuessFair$Fair" 15 "GuessFair$Envelope" ∈ lw_g := tk1 35 (by decide +kernel) rfl
theorem clF_25 : Cond.classLink "GuessFair$Fair" 25 "GuessFair$Rows" ∈ lw_g := tk1 37 (by decide +kernel) rfl
theorem clG_21 : Cond.classLink "GuessFair" 21 "GuessFair$Laws" ∈ lw_g := tk1 152 (by decide +kernel) rfl
theorem clL_15 : Cond.classLink "GuessFair$Laws" 15 "[[I" ∈ lw_g := tk1 158 (by decide +kernel) rfl
theorem clL_26 : Cond.classLink "GuessFair$Laws" 26 "GuessFair$LawReader" ∈ lw_g := tk1 160 (by decide +kernel) rfl
theorem clG_28 : Cond.classLink "GuessFair" 28 "GuessFair$Payer" ∈ lw_g := tk1 215 (by decide +kernel) rfl
theorem clG_37 : Cond.classLink "GuessFair" 37 "GuessFair$Stakes" ∈ lw_g := tk1 231 (by decide +kernel) rfl
theorem clG_46 : Cond.classLink "GuessFair" 46 "GuessFair$Acts" ∈ lw_g := tk2 7 (by decide +kernel) rfl
theorem clG_53 : Cond.classLink "GuessFair" 53 "GuessFair$Tapes" ∈ lw_g := tk2 30 (by decide +kernel) rfl
theorem clT_18 : Cond.classLink "GuessFair$Tapes" 18 "[[J" ∈ lw_g := tk2 36 (by decide +kernel) rfl
theorem clZ_10 : Cond.classLink "GuessFairLaw" 10 "GuessFairModel" ∈ lw_g := tk4 233 (by decide +kernel) rfl
theorem insG : Cond.instantiable "GuessFair" 8 ∈ lw_g := tk1 22 (by decide +kernel) rfl
theorem insF : Cond.instantiable "GuessFair$Fair" 9 ∈ lw_g := tk1 30 (by decide +kernel) rfl
theorem insW : Cond.instantiable "GuessFair$Rows" 2 ∈ lw_g := tk1 38 (by decide +kernel) rfl
theorem insE : Cond.instantiable "GuessFair$Envelope" 7 ∈ lw_g := tk1 54 (by decide +kernel) rfl
theorem insL : Cond.instantiable "GuessFair$Laws" 7 ∈ lw_g := tk1 153 (by decide +kernel) rfl
theorem insR : Cond.instantiable "GuessFair$LawReader" 7 ∈ lw_g := tk1 161 (by decide +kernel) rfl
theorem insP : Cond.instantiable "GuessFair$Payer" 3 ∈ lw_g := tk1 216 (by decide +kernel) rfl
theorem insS : Cond.instantiable "GuessFair$Stakes" 3 ∈ lw_g := tk1 232 (by decide +kernel) rfl
theorem insA : Cond.instantiable "GuessFair$Acts" 5 ∈ lw_g := tk2 8 (by decide +kernel) rfl
theorem insT : Cond.instantiable "GuessFair$Tapes" 3 ∈ lw_g := tk2 31 (by decide +kernel) rfl
theorem insM : Cond.instantiable "GuessFairModel" 63 ∈ lw_g := tk4 234 (by decide +kernel) rfl
theorem ac_int : Cond.arrayClass .int ∈ lw_g := tk1 53 (by decide +kernel) rfl
theorem ac_long : Cond.arrayClass .long ∈ lw_g := tk2 50 (by decide +kernel) rfl
theorem ac_byte : Cond.arrayClass .byte ∈ lw_g := tk3 64 (by decide +kernel) rfl
theorem ac_boolean : Cond.arrayClass .boolean ∈ lw_g := tk5 189 (by decide +kernel) rfl
