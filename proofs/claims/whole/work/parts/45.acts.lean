/-! the acts of the second object; act -/
def PB (M' σ : Hp) (v : Option Value) : Option Value → List Kd → Hp → Prop := fun r k s => r = v ∧ KA = k ∧ RM M' s ∧ Sc σ s
theorem m_body {l : Launch} {G : GT} {M σ : Hp} (hM : RM M σ) {r : Nat} (h20 : r < 20) (hr : gi M 76 57 = nI r) (b : Int32) : MM l G mM_body 0 0 0 [.ref 76, .int b] KA σ (PB (bodyL r b M) σ none) := by
  have hR := hM.1
  have hM0 := hM
  have hS : Sc σ σ := Sc.rfl
  refine MM.of (loc := [(0, .ref 76), (1, .int b)]) (by decide +kernel) rfl (Nat.le_of_ble_eq_true rfl) ?_
  refine V_aload_n dM_body_0 rfl ?_
  refine V_getE (x := nI r) dM_body_1 flM_184 k76 rfl ((mR hM rfl).trans hr) ?_
  refine V_bipush (v := 20) dM_body_4 (by decide) ?_
  refine V_icmp_ge (tgt := 19) dM_body_6 rfl (fun h => absurd h (nI_ge (a := r) (b := 20) h20 (by decide))) (fun _ => ?_)
  refine V_aload_n dM_body_9 rfl ?_
  refine V_getR (a := 112) dM_body_10 flM_187 k76 rfl (r76_58 hR) ?_
  refine V_aload_n dM_body_13 rfl ?_
  refine V_getE (x := nI r) dM_body_14 flM_184 k76 rfl ((mR hM rfl).trans hr) ?_
  refine V_iload_n dM_body_17 rfl ?_
  refine V_iastN (j := r) dM_body_18 k112 rfl (by omega) (by decide) ?_
  have hM := RM_set (k := 112) (j := r) (x := b) hM
  have hS := hS.set (k := 112) (j := r) (x := b) (by omega)
  have hR := hM.1
  refine V_aload_n dM_body_19 rfl ?_
  refine V_dup dM_body_20 rfl ?_
  refine V_getE (x := nI r) dM_body_21 flM_184 k76 rfl ((gi_ne (by decide)).trans ((mR hM0 rfl).trans hr)) ?_
  refine V_iconst (v := 1) dM_body_24 (by decide) ?_
  refine V_iadd dM_body_25 ?_
  refine V_topI (x' := nI (r + 1)) (nI_1 _) ?_
  refine V_putI dM_body_26 flM_184 (fpM_57 _) (Or.inl rfl) k76 rfl ?_
  have hM := RM_set (k := 76) (j := 57) (x := nI (r + 1)) hM
  have hS := hS.set (k := 76) (j := 57) (x := nI (r + 1)) (by omega)
  have hR := hM.1
  exact V_ret dM_body_29 rfl rfl ⟨rfl, rfl, hM, hS⟩
theorem m_envelopeSeals_0_0 {l : Launch} {G : GT} {M σ : Hp} (hM : RM M σ) {e : Nat} {num v : Int32} (he : e < 8) (hn : num = nI e) (hK : gi M 78 e = nI 0) (hv : gi M 79 e = v) (hr : gi M 76 57 = nI 0) (x : Int32) : MM l G mM_envelopeSeals 1 0 0 [.ref 76, .int num, .int x] KA σ (PB (bodyL 0 10 M) σ (some (.int (x + num)))) := by
  have hR := hM.1
  have hM0 := hM
  have hS : Sc σ σ := Sc.rfl
  refine MM.of (loc := [(0, .ref 76), (1, .int num), (2, .int x)]) (by decide +kernel) rfl (Nat.le_of_ble_eq_true rfl) ?_
  refine V_aload_n dM_envelopeSeals_0 rfl ?_
  refine V_bipush (v := 10) dM_envelopeSeals_1 (by decide) ?_
  refine V_callV (as := [.int 10]) (rest := []) (bs' := 0) rfl dM_envelopeSeals_3 cmM_body cvM_body mlM_356 (Or.inl ⟨_, _, _, _, _, rfl, k76, by decide, rfl⟩) rfl rfl (m_body hM (by decide) hr 10) (by decide) (Nat.le_refl _) (by decide) (Nat.le_of_ble_eq_true rfl) ?_
  rintro _ _ s3 ⟨rfl, rfl, hM, hS1⟩ -
  refine V_non ?_
  have hS := hS.trans hS1
  have hr : gi (bodyL 0 10 M) 76 57 = nI 1 := gi_eq
  have hR := hM.1
  refine V_iload_n dM_envelopeSeals_6 rfl ?_
  refine V_iload_n dM_envelopeSeals_7 rfl ?_
  refine V_iadd dM_envelopeSeals_8 ?_
  exact V_iret dM_envelopeSeals_9 rfl rfl ⟨rfl, rfl, hM, hS⟩
theorem m_sealsAct_0_0 {l : Launch} {G : GT} {M σ : Hp} (hM : RM M σ) {e : Nat} {num v : Int32} (he : e < 8) (hn : num = nI e) (hK : gi M 78 e = nI 0) (hv : gi M 79 e = v) (hr : gi M 76 57 = nI 0) (x : Int32) : MM l G mM_sealsAct 2 0 0 [.ref 76, .int num, .int x] KA σ (PB (bodyL 0 10 M) σ (some (.int (x + num)))) := by
  have hR := hM.1
  have hM0 := hM
  have hS : Sc σ σ := Sc.rfl
  refine MM.of (loc := [(0, .ref 76), (1, .int num), (2, .int x)]) (by decide +kernel) rfl (Nat.le_of_ble_eq_true rfl) ?_
  refine V_aload_n dM_sealsAct_0 rfl ?_
  refine V_getR (a := 78) dM_sealsAct_1 flM_26 k76 rfl (r76_5 hR) ?_
  refine V_iload_n dM_sealsAct_4 rfl ?_
  refine V_ialdN (j := e) dM_sealsAct_5 k78 hn (by omega) (by decide) ?_
  refine V_topI (x' := 0) ((mR hM rfl).trans hK) ?_
  refine V_tsD (tgt := 89) dM_sealsAct_6 (by decide) rfl ?_
  refine V_aload_n dM_sealsAct_89 rfl ?_
  refine V_iload_n dM_sealsAct_90 rfl ?_
  refine V_iload_n dM_sealsAct_91 rfl ?_
  refine V_callV (as := [.int num, .int x]) (rest := []) (bs' := 0) rfl dM_sealsAct_92 cmM_envelopeSeals cvM_envelopeSeals mlM_359 (Or.inl ⟨_, _, _, _, _, rfl, k76, by decide, rfl⟩) rfl rfl (m_envelopeSeals_0_0 hM he hn hK hv hr x) (by decide) (Nat.le_refl _) (by decide) (Nat.le_of_ble_eq_true rfl) ?_
  rintro _ _ s92 ⟨rfl, rfl, hM, hS1⟩ -
  refine V_one ?_
  have hS := hS.trans hS1
  have hr : gi (bodyL 0 10 M) 76 57 = nI 1 := gi_eq
  have hR := hM.1
  exact V_iret dM_sealsAct_95 rfl rfl ⟨rfl, rfl, hM, hS⟩
theorem m_envelopeSeals_0_1 {l : Launch} {G : GT} {M σ : Hp} (hM : RM M σ) {e : Nat} {num v : Int32} (he : e < 8) (hn : num = nI e) (hK : gi M 78 e = nI 0) (hv : gi M 79 e = v) (hr : gi M 76 57 = nI 1) (x : Int32) : MM l G mM_envelopeSeals 1 0 0 [.ref 76, .int num, .int x] KA σ (PB (bodyL 1 10 M) σ (some (.int (x + num)))) := by
  have hR := hM.1
  have hM0 := hM
  have hS : Sc σ σ := Sc.rfl
  refine MM.of (loc := [(0, .ref 76), (1, .int num), (2, .int x)]) (by decide +kernel) rfl (Nat.le_of_ble_eq_true rfl) ?_
  refine V_aload_n dM_envelopeSeals_0 rfl ?_
  refine V_bipush (v := 10) dM_envelopeSeals_1 (by decide) ?_
  refine V_callV (as := [.int 10]) (rest := []) (bs' := 0) rfl dM_envelopeSeals_3 cmM_body cvM_body mlM_356 (Or.inl ⟨_, _, _, _, _, rfl, k76, by decide, rfl⟩) rfl rfl (m_body hM (by decide) hr 10) (by decide) (Nat.le_refl _) (by decide) (Nat.le_of_ble_eq_true rfl) ?_
  rintro _ _ s3 ⟨rfl, rfl, hM, hS1⟩ -
  refine V_non ?_
  have hS := hS.trans hS1
  have hr : gi (bodyL 1 10 M) 76 57 = nI 2 := gi_eq
  have hR := hM.1
  refine V_iload_n dM_envelopeSeals_6 rfl ?_
  refine V_iload_n dM_envelopeSeals_7 rfl ?_
  refine V_iadd dM_envelopeSeals_8 ?_
  exact V_iret dM_envelopeSeals_9 rfl rfl ⟨rfl, rfl, hM, hS⟩
theorem m_sealsAct_0_1 {l : Launch} {G : GT} {M σ : Hp} (hM : RM M σ) {e : Nat} {num v : Int32} (he : e < 8) (hn : num = nI e) (hK : gi M 78 e = nI 0) (hv : gi M 79 e = v) (hr : gi M 76 57 = nI 1) (x : Int32) : MM l G mM_sealsAct 2 0 0 [.ref 76, .int num, .int x] KA σ (PB (bodyL 1 10 M) σ (some (.int (x + num)))) := by
  have hR := hM.1
  have hM0 := hM
  have hS : Sc σ σ := Sc.rfl
  refine MM.of (loc := [(0, .ref 76), (1, .int num), (2, .int x)]) (by decide +kernel) rfl (Nat.le_of_ble_eq_true rfl) ?_
  refine V_aload_n dM_sealsAct_0 rfl ?_
  refine V_getR (a := 78) dM_sealsAct_1 flM_26 k76 rfl (r76_5 hR) ?_
  refine V_iload_n dM_sealsAct_4 rfl ?_
  refine V_ialdN (j := e) dM_sealsAct_5 k78 hn (by omega) (by decide) ?_
  refine V_topI (x' := 0) ((mR hM rfl).trans hK) ?_
  refine V_tsD (tgt := 89) dM_sealsAct_6 (by decide) rfl ?_
  refine V_aload_n dM_sealsAct_89 rfl ?_
  refine V_iload_n dM_sealsAct_90 rfl ?_
  refine V_iload_n dM_sealsAct_91 rfl ?_
  refine V_callV (as := [.int num, .int x]) (rest := []) (bs' := 0) rfl dM_sealsAct_92 cmM_envelopeSeals cvM_envelopeSeals mlM_359 (Or.inl ⟨_, _, _, _, _, rfl, k76, by decide, rfl⟩) rfl rfl (m_envelopeSeals_0_1 hM he hn hK hv hr x) (by decide) (Nat.le_refl _) (by decide) (Nat.le_of_ble_eq_true rfl) ?_
  rintro _ _ s92 ⟨rfl, rfl, hM, hS1⟩ -
  refine V_one ?_
  have hS := hS.trans hS1
  have hr : gi (bodyL 1 10 M) 76 57 = nI 2 := gi_eq
  have hR := hM.1
  exact V_iret dM_sealsAct_95 rfl rfl ⟨rfl, rfl, hM, hS⟩
theorem m_envelopePays_0_0 {l : Launch} {G : GT} {M σ : Hp} (hM : RM M σ) {e : Nat} {num v : Int32} (he : e < 8) (hn : num = nI e) (hK : gi M 78 e = nI 0) (hv : gi M 79 e = v) (hr : gi M 76 57 = nI 0) (x : Int32) : MM l G mM_envelopePays 3 0 0 [.ref 76, .int num, .int x] KA σ (PB (bodyL 1 10 (bodyL 0 11 M)) σ (some (.int ((x + num) - v)))) := by
  have hR := hM.1
  have hM0 := hM
  have hS : Sc σ σ := Sc.rfl
  refine MM.of (loc := [(0, .ref 76), (1, .int num), (2, .int x)]) (by decide +kernel) rfl (Nat.le_of_ble_eq_true rfl) ?_
  refine V_aload_n dM_envelopePays_0 rfl ?_
  refine V_bipush (v := 11) dM_envelopePays_1 (by decide) ?_
  refine V_callV (as := [.int 11]) (rest := []) (bs' := 0) rfl dM_envelopePays_3 cmM_body cvM_body mlM_356 (Or.inl ⟨_, _, _, _, _, rfl, k76, by decide, rfl⟩) rfl rfl (m_body hM (by decide) hr 11) (by decide) (Nat.le_refl _) (by decide) (Nat.le_of_ble_eq_true rfl) ?_
  rintro _ _ s3 ⟨rfl, rfl, hM, hS1⟩ -
  refine V_non ?_
  have hS := hS.trans hS1
  have hr : gi (bodyL 0 11 M) 76 57 = nI 1 := gi_eq
  have hR := hM.1
  refine V_aload_n dM_envelopePays_6 rfl ?_
  refine V_iload_n dM_envelopePays_7 rfl ?_
  refine V_iload_n dM_envelopePays_8 rfl ?_
  refine V_callV (as := [.int num, .int x]) (rest := []) (bs' := 0) rfl dM_envelopePays_9 cmM_sealsAct cvM_sealsAct mlM_362 (Or.inl ⟨_, _, _, _, _, rfl, k76, by decide, rfl⟩) rfl rfl (m_sealsAct_0_1 hM he hn hK hv hr x) (by decide) (Nat.le_refl _) (by decide) (Nat.le_of_ble_eq_true rfl) ?_
  rintro _ _ s9 ⟨rfl, rfl, hM, hS1⟩ -
  refine V_one ?_
  have hS := hS.trans hS1
  have hr : gi (bodyL 1 10 (bodyL 0 11 M)) 76 57 = nI 2 := gi_eq
  have hR := hM.1
  refine V_aload_n dM_envelopePays_12 rfl ?_
  refine V_getR (a := 79) dM_envelopePays_13 flM_29 k76 rfl (r76_6 hR) ?_
  refine V_iload_n dM_envelopePays_16 rfl ?_
  refine V_ialdN (j := e) dM_envelopePays_17 k79 hn (by omega) (by decide) ?_
  refine V_topI (x' := v) ((mR hM rfl).trans hv) ?_
  refine V_isub dM_envelopePays_18 ?_
  exact V_iret dM_envelopePays_19 rfl rfl ⟨rfl, rfl, hM, hS⟩
theorem m_paysAct_0_0 {l : Launch} {G : GT} {M σ : Hp} (hM : RM M σ) {e : Nat} {num v : Int32} (he : e < 8) (hn : num = nI e) (hK : gi M 78 e = nI 0) (hv : gi M 79 e = v) (hr : gi M 76 57 = nI 0) (x : Int32) : MM l G mM_paysAct 5 0 0 [.ref 76, .int num, .int x] KA σ (PB (bodyL 1 10 (bodyL 0 11 M)) σ (some (.int ((x + num) - v)))) := by
  have hR := hM.1
  have hM0 := hM
  have hS : Sc σ σ := Sc.rfl
  refine MM.of (loc := [(0, .ref 76), (1, .int num), (2, .int x)]) (by decide +kernel) rfl (Nat.le_of_ble_eq_true rfl) ?_
  refine V_aload_n dM_paysAct_0 rfl ?_
  refine V_getR (a := 78) dM_paysAct_1 flM_26 k76 rfl (r76_5 hR) ?_
  refine V_iload_n dM_paysAct_4 rfl ?_
  refine V_ialdN (j := e) dM_paysAct_5 k78 hn (by omega) (by decide) ?_
  refine V_topI (x' := 0) ((mR hM rfl).trans hK) ?_
  refine V_lsw (tgt := 84) dM_paysAct_6 (by decide) rfl rfl ?_
  refine V_aload_n dM_paysAct_84 rfl ?_
  refine V_iload_n dM_paysAct_85 rfl ?_
  refine V_iload_n dM_paysAct_86 rfl ?_
  refine V_callV (as := [.int num, .int x]) (rest := []) (bs' := 0) rfl dM_paysAct_87 cmM_envelopePays cvM_envelopePays mlM_365 (Or.inl ⟨_, _, _, _, _, rfl, k76, by decide, rfl⟩) rfl rfl (m_envelopePays_0_0 hM he hn hK hv hr x) (by decide) (Nat.le_refl _) (by decide) (Nat.le_of_ble_eq_true rfl) ?_
  rintro _ _ s87 ⟨rfl, rfl, hM, hS1⟩ -
  refine V_one ?_
  have hS := hS.trans hS1
  have hr : gi (bodyL 1 10 (bodyL 0 11 M)) 76 57 = nI 2 := gi_eq
  have hR := hM.1
  exact V_iret dM_paysAct_90 rfl rfl ⟨rfl, rfl, hM, hS⟩
theorem m_envelopeSeals_0_2 {l : Launch} {G : GT} {M σ : Hp} (hM : RM M σ) {e : Nat} {num v : Int32} (he : e < 8) (hn : num = nI e) (hK : gi M 78 e = nI 0) (hv : gi M 79 e = v) (hr : gi M 76 57 = nI 2) (x : Int32) : MM l G mM_envelopeSeals 1 0 0 [.ref 76, .int num, .int x] KA σ (PB (bodyL 2 10 M) σ (some (.int (x + num)))) := by
  have hR := hM.1
  have hM0 := hM
  have hS : Sc σ σ := Sc.rfl
  refine MM.of (loc := [(0, .ref 76), (1, .int num), (2, .int x)]) (by decide +kernel) rfl (Nat.le_of_ble_eq_true rfl) ?_
  refine V_aload_n dM_envelopeSeals_0 rfl ?_
  refine V_bipush (v := 10) dM_envelopeSeals_1 (by decide) ?_
  refine V_callV (as := [.int 10]) (rest := []) (bs' := 0) rfl dM_envelopeSeals_3 cmM_body cvM_body mlM_356 (Or.inl ⟨_, _, _, _, _, rfl, k76, by decide, rfl⟩) rfl rfl (m_body hM (by decide) hr 10) (by decide) (Nat.le_refl _) (by decide) (Nat.le_of_ble_eq_true rfl) ?_
  rintro _ _ s3 ⟨rfl, rfl, hM, hS1⟩ -
  refine V_non ?_
  have hS := hS.trans hS1
  have hr : gi (bodyL 2 10 M) 76 57 = nI 3 := gi_eq
  have hR := hM.1
  refine V_iload_n dM_envelopeSeals_6 rfl ?_
  refine V_iload_n dM_envelopeSeals_7 rfl ?_
  refine V_iadd dM_envelopeSeals_8 ?_
  exact V_iret dM_envelopeSeals_9 rfl rfl ⟨rfl, rfl, hM, hS⟩
theorem m_sealsAct_0_2 {l : Launch} {G : GT} {M σ : Hp} (hM : RM M σ) {e : Nat} {num v : Int32} (he : e < 8) (hn : num = nI e) (hK : gi M 78 e = nI 0) (hv : gi M 79 e = v) (hr : gi M 76 57 = nI 2) (x : Int32) : MM l G mM_sealsAct 2 0 0 [.ref 76, .int num, .int x] KA σ (PB (bodyL 2 10 M) σ (some (.int (x + num)))) := by
  have hR := hM.1
  have hM0 := hM
  have hS : Sc σ σ := Sc.rfl
  refine MM.of (loc := [(0, .ref 76), (1, .int num), (2, .int x)]) (by decide +kernel) rfl (Nat.le_of_ble_eq_true rfl) ?_
  refine V_aload_n dM_sealsAct_0 rfl ?_
  refine V_getR (a := 78) dM_sealsAct_1 flM_26 k76 rfl (r76_5 hR) ?_
  refine V_iload_n dM_sealsAct_4 rfl ?_
  refine V_ialdN (j := e) dM_sealsAct_5 k78 hn (by omega) (by decide) ?_
  refine V_topI (x' := 0) ((mR hM rfl).trans hK) ?_
  refine V_tsD (tgt := 89) dM_sealsAct_6 (by decide) rfl ?_
  refine V_aload_n dM_sealsAct_89 rfl ?_
  refine V_iload_n dM_sealsAct_90 rfl ?_
  refine V_iload_n dM_sealsAct_91 rfl ?_
  refine V_callV (as := [.int num, .int x]) (rest := []) (bs' := 0) rfl dM_sealsAct_92 cmM_envelopeSeals cvM_envelopeSeals mlM_359 (Or.inl ⟨_, _, _, _, _, rfl, k76, by decide, rfl⟩) rfl rfl (m_envelopeSeals_0_2 hM he hn hK hv hr x) (by decide) (Nat.le_refl _) (by decide) (Nat.le_of_ble_eq_true rfl) ?_
  rintro _ _ s92 ⟨rfl, rfl, hM, hS1⟩ -
  refine V_one ?_
  have hS := hS.trans hS1
  have hr : gi (bodyL 2 10 M) 76 57 = nI 3 := gi_eq
  have hR := hM.1
  exact V_iret dM_sealsAct_95 rfl rfl ⟨rfl, rfl, hM, hS⟩
theorem m_envelopePays_0_1 {l : Launch} {G : GT} {M σ : Hp} (hM : RM M σ) {e : Nat} {num v : Int32} (he : e < 8) (hn : num = nI e) (hK : gi M 78 e = nI 0) (hv : gi M 79 e = v) (hr : gi M 76 57 = nI 1) (x : Int32) : MM l G mM_envelopePays 3 0 0 [.ref 76, .int num, .int x] KA σ (PB (bodyL 2 10 (bodyL 1 11 M)) σ (some (.int ((x + num) - v)))) := by
  have hR := hM.1
  have hM0 := hM
  have hS : Sc σ σ := Sc.rfl
  refine MM.of (loc := [(0, .ref 76), (1, .int num), (2, .int x)]) (by decide +kernel) rfl (Nat.le_of_ble_eq_true rfl) ?_
  refine V_aload_n dM_envelopePays_0 rfl ?_
  refine V_bipush (v := 11) dM_envelopePays_1 (by decide) ?_
  refine V_callV (as := [.int 11]) (rest := []) (bs' := 0) rfl dM_envelopePays_3 cmM_body cvM_body mlM_356 (Or.inl ⟨_, _, _, _, _, rfl, k76, by decide, rfl⟩) rfl rfl (m_body hM (by decide) hr 11) (by decide) (Nat.le_refl _) (by decide) (Nat.le_of_ble_eq_true rfl) ?_
  rintro _ _ s3 ⟨rfl, rfl, hM, hS1⟩ -
  refine V_non ?_
  have hS := hS.trans hS1
  have hr : gi (bodyL 1 11 M) 76 57 = nI 2 := gi_eq
  have hR := hM.1
  refine V_aload_n dM_envelopePays_6 rfl ?_
  refine V_iload_n dM_envelopePays_7 rfl ?_
  refine V_iload_n dM_envelopePays_8 rfl ?_
  refine V_callV (as := [.int num, .int x]) (rest := []) (bs' := 0) rfl dM_envelopePays_9 cmM_sealsAct cvM_sealsAct mlM_362 (Or.inl ⟨_, _, _, _, _, rfl, k76, by decide, rfl⟩) rfl rfl (m_sealsAct_0_2 hM he hn hK hv hr x) (by decide) (Nat.le_refl _) (by decide) (Nat.le_of_ble_eq_true rfl) ?_
  rintro _ _ s9 ⟨rfl, rfl, hM, hS1⟩ -
  refine V_one ?_
  have hS := hS.trans hS1
  have hr : gi (bodyL 2 10 (bodyL 1 11 M)) 76 57 = nI 3 := gi_eq
  have hR := hM.1
  refine V_aload_n dM_envelopePays_12 rfl ?_
  refine V_getR (a := 79) dM_envelopePays_13 flM_29 k76 rfl (r76_6 hR) ?_
  refine V_iload_n dM_envelopePays_16 rfl ?_
  refine V_ialdN (j := e) dM_envelopePays_17 k79 hn (by omega) (by decide) ?_
  refine V_topI (x' := v) ((mR hM rfl).trans hv) ?_
  refine V_isub dM_envelopePays_18 ?_
  exact V_iret dM_envelopePays_19 rfl rfl ⟨rfl, rfl, hM, hS⟩
theorem m_paysAct_0_1 {l : Launch} {G : GT} {M σ : Hp} (hM : RM M σ) {e : Nat} {num v : Int32} (he : e < 8) (hn : num = nI e) (hK : gi M 78 e = nI 0) (hv : gi M 79 e = v) (hr : gi M 76 57 = nI 1) (x : Int32) : MM l G mM_paysAct 5 0 0 [.ref 76, .int num, .int x] KA σ (PB (bodyL 2 10 (bodyL 1 11 M)) σ (some (.int ((x + num) - v)))) := by
  have hR := hM.1
  have hM0 := hM
  have hS : Sc σ σ := Sc.rfl
  refine MM.of (loc := [(0, .ref 76), (1, .int num), (2, .int x)]) (by decide +kernel) rfl (Nat.le_of_ble_eq_true rfl) ?_
  refine V_aload_n dM_paysAct_0 rfl ?_
  refine V_getR (a := 78) dM_paysAct_1 flM_26 k76 rfl (r76_5 hR) ?_
  refine V_iload_n dM_paysAct_4 rfl ?_
  refine V_ialdN (j := e) dM_paysAct_5 k78 hn (by omega) (by decide) ?_
  refine V_topI (x' := 0) ((mR hM rfl).trans hK) ?_
  refine V_lsw (tgt := 84) dM_paysAct_6 (by decide) rfl rfl ?_
  refine V_aload_n dM_paysAct_84 rfl ?_
  refine V_iload_n dM_paysAct_85 rfl ?_
  refine V_iload_n dM_paysAct_86 rfl ?_
  refine V_callV (as := [.int num, .int x]) (rest := []) (bs' := 0) rfl dM_paysAct_87 cmM_envelopePays cvM_envelopePays mlM_365 (Or.inl ⟨_, _, _, _, _, rfl, k76, by decide, rfl⟩) rfl rfl (m_envelopePays_0_1 hM he hn hK hv hr x) (by decide) (Nat.le_refl _) (by decide) (Nat.le_of_ble_eq_true rfl) ?_
  rintro _ _ s87 ⟨rfl, rfl, hM, hS1⟩ -
  refine V_one ?_
  have hS := hS.trans hS1
  have hr : gi (bodyL 2 10 (bodyL 1 11 M)) 76 57 = nI 3 := gi_eq
  have hR := hM.1
  exact V_iret dM_paysAct_90 rfl rfl ⟨rfl, rfl, hM, hS⟩
theorem m_envelopeTells_0_0 {l : Launch} {G : GT} {M σ : Hp} (hM : RM M σ) {e : Nat} {num v : Int32} (he : e < 8) (hn : num = nI e) (hK : gi M 78 e = nI 0) (hv : gi M 79 e = v) (hr : gi M 76 57 = nI 0) (x : Int32) : MM l G mM_envelopeTells 6 0 0 [.ref 76, .int num, .int x] KA σ (PB (bodyL 2 10 (bodyL 1 11 (bodyL 0 12 M))) σ (some (.int (((x + num) - v) * 2)))) := by
  have hR := hM.1
  have hM0 := hM
  have hS : Sc σ σ := Sc.rfl
  refine MM.of (loc := [(0, .ref 76), (1, .int num), (2, .int x)]) (by decide +kernel) rfl (Nat.le_of_ble_eq_true rfl) ?_
  refine V_aload_n dM_envelopeTells_0 rfl ?_
  refine V_bipush (v := 12) dM_envelopeTells_1 (by decide) ?_
  refine V_callV (as := [.int 12]) (rest := []) (bs' := 0) rfl dM_envelopeTells_3 cmM_body cvM_body mlM_356 (Or.inl ⟨_, _, _, _, _, rfl, k76, by decide, rfl⟩) rfl rfl (m_body hM (by decide) hr 12) (by decide) (Nat.le_refl _) (by decide) (Nat.le_of_ble_eq_true rfl) ?_
  rintro _ _ s3 ⟨rfl, rfl, hM, hS1⟩ -
  refine V_non ?_
  have hS := hS.trans hS1
  have hr : gi (bodyL 0 12 M) 76 57 = nI 1 := gi_eq
  have hR := hM.1
  refine V_aload_n dM_envelopeTells_6 rfl ?_
  refine V_iload_n dM_envelopeTells_7 rfl ?_
  refine V_iload_n dM_envelopeTells_8 rfl ?_
  refine V_callV (as := [.int num, .int x]) (rest := []) (bs' := 0) rfl dM_envelopeTells_9 cmM_paysAct cvM_paysAct mlM_371 (Or.inl ⟨_, _, _, _, _, rfl, k76, by decide, rfl⟩) rfl rfl (m_paysAct_0_1 hM he hn hK hv hr x) (by decide) (Nat.le_refl _) (by decide) (Nat.le_of_ble_eq_true rfl) ?_
  rintro _ _ s9 ⟨rfl, rfl, hM, hS1⟩ -
  refine V_one ?_
  have hS := hS.trans hS1
  have hr : gi (bodyL 2 10 (bodyL 1 11 (bodyL 0 12 M))) 76 57 = nI 3 := gi_eq
  have hR := hM.1
  refine V_iconst (v := 2) dM_envelopeTells_12 (by decide) ?_
  refine V_imul dM_envelopeTells_13 ?_
  exact V_iret dM_envelopeTells_14 rfl rfl ⟨rfl, rfl, hM, hS⟩
theorem m_tellsAct_0_0 {l : Launch} {G : GT} {M σ : Hp} (hM : RM M σ) {e : Nat} {num v : Int32} (he : e < 8) (hn : num = nI e) (hK : gi M 78 e = nI 0) (hv : gi M 79 e = v) (hr : gi M 76 57 = nI 0) (x : Int32) : MM l G mM_tellsAct 7 0 0 [.ref 76, .int num, .int x] KA σ (PB (bodyL 2 10 (bodyL 1 11 (bodyL 0 12 M))) σ (some (.int (((x + num) - v) * 2)))) := by
  have hR := hM.1
  have hM0 := hM
  have hS : Sc σ σ := Sc.rfl
  refine MM.of (loc := [(0, .ref 76), (1, .int num), (2, .int x)]) (by decide +kernel) rfl (Nat.le_of_ble_eq_true rfl) ?_
  refine V_aload_n dM_tellsAct_0 rfl ?_
  refine V_getR (a := 78) dM_tellsAct_1 flM_26 k76 rfl (r76_5 hR) ?_
  refine V_iload_n dM_tellsAct_4 rfl ?_
  refine V_ialdN (j := e) dM_tellsAct_5 k78 hn (by omega) (by decide) ?_
  refine V_topI (x' := 0) ((mR hM rfl).trans hK) ?_
  refine V_tsD (tgt := 73) dM_tellsAct_6 (by decide) rfl ?_
  refine V_aload_n dM_tellsAct_73 rfl ?_
  refine V_iload_n dM_tellsAct_74 rfl ?_
  refine V_iload_n dM_tellsAct_75 rfl ?_
  refine V_callV (as := [.int num, .int x]) (rest := []) (bs' := 0) rfl dM_tellsAct_76 cmM_envelopeTells cvM_envelopeTells mlM_374 (Or.inl ⟨_, _, _, _, _, rfl, k76, by decide, rfl⟩) rfl rfl (m_envelopeTells_0_0 hM he hn hK hv hr x) (by decide) (Nat.le_refl _) (by decide) (Nat.le_of_ble_eq_true rfl) ?_
  rintro _ _ s76 ⟨rfl, rfl, hM, hS1⟩ -
  refine V_one ?_
  have hS := hS.trans hS1
  have hr : gi (bodyL 2 10 (bodyL 1 11 (bodyL 0 12 M))) 76 57 = nI 3 := gi_eq
  have hR := hM.1
  exact V_iret dM_tellsAct_79 rfl rfl ⟨rfl, rfl, hM, hS⟩
theorem m_envelopeSeals_1_0 {l : Launch} {G : GT} {M σ : Hp} (hM : RM M σ) {e : Nat} {num v : Int32} (he : e < 8) (hn : num = nI e) (hK : gi M 78 e = nI 1) (hv : gi M 79 e = v) (hr : gi M 76 57 = nI 0) (x : Int32) : MM l G mM_envelopeSeals 1 0 0 [.ref 76, .int num, .int x] KA σ (PB (bodyL 0 10 M) σ (some (.int (x + num)))) := by
  have hR := hM.1
  have hM0 := hM
  have hS : Sc σ σ := Sc.rfl
  refine MM.of (loc := [(0, .ref 76), (1, .int num), (2, .int x)]) (by decide +kernel) rfl (Nat.le_of_ble_eq_true rfl) ?_
  refine V_aload_n dM_envelopeSeals_0 rfl ?_
  refine V_bipush (v := 10) dM_envelopeSeals_1 (by decide) ?_
  refine V_callV (as := [.int 10]) (rest := []) (bs' := 0) rfl dM_envelopeSeals_3 cmM_body cvM_body mlM_356 (Or.inl ⟨_, _, _, _, _, rfl, k76, by decide, rfl⟩) rfl rfl (m_body hM (by decide) hr 10) (by decide) (Nat.le_refl _) (by decide) (Nat.le_of_ble_eq_true rfl) ?_
  rintro _ _ s3 ⟨rfl, rfl, hM, hS1⟩ -
  refine V_non ?_
  have hS := hS.trans hS1
  have hr : gi (bodyL 0 10 M) 76 57 = nI 1 := gi_eq
  have hR := hM.1
  refine V_iload_n dM_envelopeSeals_6 rfl ?_
  refine V_iload_n dM_envelopeSeals_7 rfl ?_
  refine V_iadd dM_envelopeSeals_8 ?_
  exact V_iret dM_envelopeSeals_9 rfl rfl ⟨rfl, rfl, hM, hS⟩
theorem m_sealsAct_1_0 {l : Launch} {G : GT} {M σ : Hp} (hM : RM M σ) {e : Nat} {num v : Int32} (he : e < 8) (hn : num = nI e) (hK : gi M 78 e = nI 1) (hv : gi M 79 e = v) (hr : gi M 76 57 = nI 0) (x : Int32) : MM l G mM_sealsAct 2 0 0 [.ref 76, .int num, .int x] KA σ (PB (bodyL 0 10 M) σ (some (.int (x + num)))) := by
  have hR := hM.1
  have hM0 := hM
  have hS : Sc σ σ := Sc.rfl
  refine MM.of (loc := [(0, .ref 76), (1, .int num), (2, .int x)]) (by decide +kernel) rfl (Nat.le_of_ble_eq_true rfl) ?_
  refine V_aload_n dM_sealsAct_0 rfl ?_
  refine V_getR (a := 78) dM_sealsAct_1 flM_26 k76 rfl (r76_5 hR) ?_
  refine V_iload_n dM_sealsAct_4 rfl ?_
  refine V_ialdN (j := e) dM_sealsAct_5 k78 hn (by omega) (by decide) ?_
  refine V_topI (x' := 1) ((mR hM rfl).trans hK) ?_
  refine V_tsD (tgt := 89) dM_sealsAct_6 (by decide) rfl ?_
  refine V_aload_n dM_sealsAct_89 rfl ?_
  refine V_iload_n dM_sealsAct_90 rfl ?_
  refine V_iload_n dM_sealsAct_91 rfl ?_
  refine V_callV (as := [.int num, .int x]) (rest := []) (bs' := 0) rfl dM_sealsAct_92 cmM_envelopeSeals cvM_envelopeSeals mlM_359 (Or.inl ⟨_, _, _, _, _, rfl, k76, by decide, rfl⟩) rfl rfl (m_envelopeSeals_1_0 hM he hn hK hv hr x) (by decide) (Nat.le_refl _) (by decide) (Nat.le_of_ble_eq_true rfl) ?_
  rintro _ _ s92 ⟨rfl, rfl, hM, hS1⟩ -
  refine V_one ?_
  have hS := hS.trans hS1
  have hr : gi (bodyL 0 10 M) 76 57 = nI 1 := gi_eq
  have hR := hM.1
  exact V_iret dM_sealsAct_95 rfl rfl ⟨rfl, rfl, hM, hS⟩
theorem m_envelopeSeals_1_2 {l : Launch} {G : GT} {M σ : Hp} (hM : RM M σ) {e : Nat} {num v : Int32} (he : e < 8) (hn : num = nI e) (hK : gi M 78 e = nI 1) (hv : gi M 79 e = v) (hr : gi M 76 57 = nI 2) (x : Int32) : MM l G mM_envelopeSeals 1 0 0 [.ref 76, .int num, .int x] KA σ (PB (bodyL 2 10 M) σ (some (.int (x + num)))) := by
  have hR := hM.1
  have hM0 := hM
  have hS : Sc σ σ := Sc.rfl
  refine MM.of (loc := [(0, .ref 76), (1, .int num), (2, .int x)]) (by decide +kernel) rfl (Nat.le_of_ble_eq_true rfl) ?_
  refine V_aload_n dM_envelopeSeals_0 rfl ?_
  refine V_bipush (v := 10) dM_envelopeSeals_1 (by decide) ?_
  refine V_callV (as := [.int 10]) (rest := []) (bs' := 0) rfl dM_envelopeSeals_3 cmM_body cvM_body mlM_356 (Or.inl ⟨_, _, _, _, _, rfl, k76, by decide, rfl⟩) rfl rfl (m_body hM (by decide) hr 10) (by decide) (Nat.le_refl _) (by decide) (Nat.le_of_ble_eq_true rfl) ?_
  rintro _ _ s3 ⟨rfl, rfl, hM, hS1⟩ -
  refine V_non ?_
  have hS := hS.trans hS1
  have hr : gi (bodyL 2 10 M) 76 57 = nI 3 := gi_eq
  have hR := hM.1
  refine V_iload_n dM_envelopeSeals_6 rfl ?_
  refine V_iload_n dM_envelopeSeals_7 rfl ?_
  refine V_iadd dM_envelopeSeals_8 ?_
  exact V_iret dM_envelopeSeals_9 rfl rfl ⟨rfl, rfl, hM, hS⟩
theorem m_sealsAct_1_2 {l : Launch} {G : GT} {M σ : Hp} (hM : RM M σ) {e : Nat} {num v : Int32} (he : e < 8) (hn : num = nI e) (hK : gi M 78 e = nI 1) (hv : gi M 79 e = v) (hr : gi M 76 57 = nI 2) (x : Int32) : MM l G mM_sealsAct 2 0 0 [.ref 76, .int num, .int x] KA σ (PB (bodyL 2 10 M) σ (some (.int (x + num)))) := by
  have hR := hM.1
  have hM0 := hM
  have hS : Sc σ σ := Sc.rfl
  refine MM.of (loc := [(0, .ref 76), (1, .int num), (2, .int x)]) (by decide +kernel) rfl (Nat.le_of_ble_eq_true rfl) ?_
  refine V_aload_n dM_sealsAct_0 rfl ?_
  refine V_getR (a := 78) dM_sealsAct_1 flM_26 k76 rfl (r76_5 hR) ?_
  refine V_iload_n dM_sealsAct_4 rfl ?_
  refine V_ialdN (j := e) dM_sealsAct_5 k78 hn (by omega) (by decide) ?_
  refine V_topI (x' := 1) ((mR hM rfl).trans hK) ?_
  refine V_tsD (tgt := 89) dM_sealsAct_6 (by decide) rfl ?_
  refine V_aload_n dM_sealsAct_89 rfl ?_
  refine V_iload_n dM_sealsAct_90 rfl ?_
  refine V_iload_n dM_sealsAct_91 rfl ?_
  refine V_callV (as := [.int num, .int x]) (rest := []) (bs' := 0) rfl dM_sealsAct_92 cmM_envelopeSeals cvM_envelopeSeals mlM_359 (Or.inl ⟨_, _, _, _, _, rfl, k76, by decide, rfl⟩) rfl rfl (m_envelopeSeals_1_2 hM he hn hK hv hr x) (by decide) (Nat.le_refl _) (by decide) (Nat.le_of_ble_eq_true rfl) ?_
  rintro _ _ s92 ⟨rfl, rfl, hM, hS1⟩ -
  refine V_one ?_
  have hS := hS.trans hS1
  have hr : gi (bodyL 2 10 M) 76 57 = nI 3 := gi_eq
  have hR := hM.1
  exact V_iret dM_sealsAct_95 rfl rfl ⟨rfl, rfl, hM, hS⟩
theorem m_envelopePays_1_1 {l : Launch} {G : GT} {M σ : Hp} (hM : RM M σ) {e : Nat} {num v : Int32} (he : e < 8) (hn : num = nI e) (hK : gi M 78 e = nI 1) (hv : gi M 79 e = v) (hr : gi M 76 57 = nI 1) (x : Int32) : MM l G mM_envelopePays 3 0 0 [.ref 76, .int num, .int x] KA σ (PB (bodyL 2 10 (bodyL 1 11 M)) σ (some (.int ((x + num) - v)))) := by
  have hR := hM.1
  have hM0 := hM
  have hS : Sc σ σ := Sc.rfl
  refine MM.of (loc := [(0, .ref 76), (1, .int num), (2, .int x)]) (by decide +kernel) rfl (Nat.le_of_ble_eq_true rfl) ?_
  refine V_aload_n dM_envelopePays_0 rfl ?_
  refine V_bipush (v := 11) dM_envelopePays_1 (by decide) ?_
  refine V_callV (as := [.int 11]) (rest := []) (bs' := 0) rfl dM_envelopePays_3 cmM_body cvM_body mlM_356 (Or.inl ⟨_, _, _, _, _, rfl, k76, by decide, rfl⟩) rfl rfl (m_body hM (by decide) hr 11) (by decide) (Nat.le_refl _) (by decide) (Nat.le_of_ble_eq_true rfl) ?_
  rintro _ _ s3 ⟨rfl, rfl, hM, hS1⟩ -
  refine V_non ?_
  have hS := hS.trans hS1
  have hr : gi (bodyL 1 11 M) 76 57 = nI 2 := gi_eq
  have hR := hM.1
  refine V_aload_n dM_envelopePays_6 rfl ?_
  refine V_iload_n dM_envelopePays_7 rfl ?_
  refine V_iload_n dM_envelopePays_8 rfl ?_
  refine V_callV (as := [.int num, .int x]) (rest := []) (bs' := 0) rfl dM_envelopePays_9 cmM_sealsAct cvM_sealsAct mlM_362 (Or.inl ⟨_, _, _, _, _, rfl, k76, by decide, rfl⟩) rfl rfl (m_sealsAct_1_2 hM he hn hK hv hr x) (by decide) (Nat.le_refl _) (by decide) (Nat.le_of_ble_eq_true rfl) ?_
  rintro _ _ s9 ⟨rfl, rfl, hM, hS1⟩ -
  refine V_one ?_
  have hS := hS.trans hS1
  have hr : gi (bodyL 2 10 (bodyL 1 11 M)) 76 57 = nI 3 := gi_eq
  have hR := hM.1
  refine V_aload_n dM_envelopePays_12 rfl ?_
  refine V_getR (a := 79) dM_envelopePays_13 flM_29 k76 rfl (r76_6 hR) ?_
  refine V_iload_n dM_envelopePays_16 rfl ?_
  refine V_ialdN (j := e) dM_envelopePays_17 k79 hn (by omega) (by decide) ?_
  refine V_topI (x' := v) ((mR hM rfl).trans hv) ?_
  refine V_isub dM_envelopePays_18 ?_
  exact V_iret dM_envelopePays_19 rfl rfl ⟨rfl, rfl, hM, hS⟩
theorem m_nearPays_1_0 {l : Launch} {G : GT} {M σ : Hp} (hM : RM M σ) {e : Nat} {num v : Int32} (he : e < 8) (hn : num = nI e) (hK : gi M 78 e = nI 1) (hv : gi M 79 e = v) (hr : gi M 76 57 = nI 0) (x : Int32) : MM l G mM_nearPays 4 0 0 [.ref 76, .int num, .int x] KA σ (PB (bodyL 2 10 (bodyL 1 11 (bodyL 0 20 M))) σ (some (.int (((x + num) - v) ^^^ 6)))) := by
  have hR := hM.1
  have hM0 := hM
  have hS : Sc σ σ := Sc.rfl
  refine MM.of (loc := [(0, .ref 76), (1, .int num), (2, .int x)]) (by decide +kernel) rfl (Nat.le_of_ble_eq_true rfl) ?_
  refine V_aload_n dM_nearPays_0 rfl ?_
  refine V_bipush (v := 20) dM_nearPays_1 (by decide) ?_
  refine V_callV (as := [.int 20]) (rest := []) (bs' := 0) rfl dM_nearPays_3 cmM_body cvM_body mlM_356 (Or.inl ⟨_, _, _, _, _, rfl, k76, by decide, rfl⟩) rfl rfl (m_body hM (by decide) hr 20) (by decide) (Nat.le_refl _) (by decide) (Nat.le_of_ble_eq_true rfl) ?_
  rintro _ _ s3 ⟨rfl, rfl, hM, hS1⟩ -
  refine V_non ?_
  have hS := hS.trans hS1
  have hr : gi (bodyL 0 20 M) 76 57 = nI 1 := gi_eq
  have hR := hM.1
  refine V_aload_n dM_nearPays_6 rfl ?_
  refine V_iload_n dM_nearPays_7 rfl ?_
  refine V_iload_n dM_nearPays_8 rfl ?_
  refine V_callV (as := [.int num, .int x]) (rest := []) (bs' := 0) rfl dM_nearPays_9 cmM_envelopePays cvM_envelopePays mlM_365 (Or.inl ⟨_, _, _, _, _, rfl, k76, by decide, rfl⟩) rfl rfl (m_envelopePays_1_1 hM he hn hK hv hr x) (by decide) (Nat.le_refl _) (by decide) (Nat.le_of_ble_eq_true rfl) ?_
  rintro _ _ s9 ⟨rfl, rfl, hM, hS1⟩ -
  refine V_one ?_
  have hS := hS.trans hS1
  have hr : gi (bodyL 2 10 (bodyL 1 11 (bodyL 0 20 M))) 76 57 = nI 3 := gi_eq
  have hR := hM.1
  refine V_bipush (v := 6) dM_nearPays_12 (by decide) ?_
  refine V_ixor dM_nearPays_14 ?_
  exact V_iret dM_nearPays_15 rfl rfl ⟨rfl, rfl, hM, hS⟩
theorem m_paysAct_1_0 {l : Launch} {G : GT} {M σ : Hp} (hM : RM M σ) {e : Nat} {num v : Int32} (he : e < 8) (hn : num = nI e) (hK : gi M 78 e = nI 1) (hv : gi M 79 e = v) (hr : gi M 76 57 = nI 0) (x : Int32) : MM l G mM_paysAct 5 0 0 [.ref 76, .int num, .int x] KA σ (PB (bodyL 2 10 (bodyL 1 11 (bodyL 0 20 M))) σ (some (.int (((x + num) - v) ^^^ 6)))) := by
  have hR := hM.1
  have hM0 := hM
  have hS : Sc σ σ := Sc.rfl
  refine MM.of (loc := [(0, .ref 76), (1, .int num), (2, .int x)]) (by decide +kernel) rfl (Nat.le_of_ble_eq_true rfl) ?_
  refine V_aload_n dM_paysAct_0 rfl ?_
  refine V_getR (a := 78) dM_paysAct_1 flM_26 k76 rfl (r76_5 hR) ?_
  refine V_iload_n dM_paysAct_4 rfl ?_
  refine V_ialdN (j := e) dM_paysAct_5 k78 hn (by omega) (by decide) ?_
  refine V_topI (x' := 1) ((mR hM rfl).trans hK) ?_
  refine V_lsw (tgt := 40) dM_paysAct_6 (by decide) rfl rfl ?_
  refine V_aload_n dM_paysAct_40 rfl ?_
  refine V_iload_n dM_paysAct_41 rfl ?_
  refine V_iload_n dM_paysAct_42 rfl ?_
  refine V_callV (as := [.int num, .int x]) (rest := []) (bs' := 0) rfl dM_paysAct_43 cmM_nearPays cvM_nearPays mlM_368 (Or.inl ⟨_, _, _, _, _, rfl, k76, by decide, rfl⟩) rfl rfl (m_nearPays_1_0 hM he hn hK hv hr x) (by decide) (Nat.le_refl _) (by decide) (Nat.le_of_ble_eq_true rfl) ?_
  rintro _ _ s43 ⟨rfl, rfl, hM, hS1⟩ -
  refine V_one ?_
  have hS := hS.trans hS1
  have hr : gi (bodyL 2 10 (bodyL 1 11 (bodyL 0 20 M))) 76 57 = nI 3 := gi_eq
  have hR := hM.1
  exact V_iret dM_paysAct_46 rfl rfl ⟨rfl, rfl, hM, hS⟩
theorem m_envelopeSeals_1_3 {l : Launch} {G : GT} {M σ : Hp} (hM : RM M σ) {e : Nat} {num v : Int32} (he : e < 8) (hn : num = nI e) (hK : gi M 78 e = nI 1) (hv : gi M 79 e = v) (hr : gi M 76 57 = nI 3) (x : Int32) : MM l G mM_envelopeSeals 1 0 0 [.ref 76, .int num, .int x] KA σ (PB (bodyL 3 10 M) σ (some (.int (x + num)))) := by
  have hR := hM.1
  have hM0 := hM
  have hS : Sc σ σ := Sc.rfl
  refine MM.of (loc := [(0, .ref 76), (1, .int num), (2, .int x)]) (by decide +kernel) rfl (Nat.le_of_ble_eq_true rfl) ?_
  refine V_aload_n dM_envelopeSeals_0 rfl ?_
  refine V_bipush (v := 10) dM_envelopeSeals_1 (by decide) ?_
  refine V_callV (as := [.int 10]) (rest := []) (bs' := 0) rfl dM_envelopeSeals_3 cmM_body cvM_body mlM_356 (Or.inl ⟨_, _, _, _, _, rfl, k76, by decide, rfl⟩) rfl rfl (m_body hM (by decide) hr 10) (by decide) (Nat.le_refl _) (by decide) (Nat.le_of_ble_eq_true rfl) ?_
  rintro _ _ s3 ⟨rfl, rfl, hM, hS1⟩ -
  refine V_non ?_
  have hS := hS.trans hS1
  have hr : gi (bodyL 3 10 M) 76 57 = nI 4 := gi_eq
  have hR := hM.1
  refine V_iload_n dM_envelopeSeals_6 rfl ?_
  refine V_iload_n dM_envelopeSeals_7 rfl ?_
  refine V_iadd dM_envelopeSeals_8 ?_
  exact V_iret dM_envelopeSeals_9 rfl rfl ⟨rfl, rfl, hM, hS⟩
theorem m_sealsAct_1_3 {l : Launch} {G : GT} {M σ : Hp} (hM : RM M σ) {e : Nat} {num v : Int32} (he : e < 8) (hn : num = nI e) (hK : gi M 78 e = nI 1) (hv : gi M 79 e = v) (hr : gi M 76 57 = nI 3) (x : Int32) : MM l G mM_sealsAct 2 0 0 [.ref 76, .int num, .int x] KA σ (PB (bodyL 3 10 M) σ (some (.int (x + num)))) := by
  have hR := hM.1
  have hM0 := hM
  have hS : Sc σ σ := Sc.rfl
  refine MM.of (loc := [(0, .ref 76), (1, .int num), (2, .int x)]) (by decide +kernel) rfl (Nat.le_of_ble_eq_true rfl) ?_
  refine V_aload_n dM_sealsAct_0 rfl ?_
  refine V_getR (a := 78) dM_sealsAct_1 flM_26 k76 rfl (r76_5 hR) ?_
  refine V_iload_n dM_sealsAct_4 rfl ?_
  refine V_ialdN (j := e) dM_sealsAct_5 k78 hn (by omega) (by decide) ?_
  refine V_topI (x' := 1) ((mR hM rfl).trans hK) ?_
  refine V_tsD (tgt := 89) dM_sealsAct_6 (by decide) rfl ?_
  refine V_aload_n dM_sealsAct_89 rfl ?_
  refine V_iload_n dM_sealsAct_90 rfl ?_
  refine V_iload_n dM_sealsAct_91 rfl ?_
  refine V_callV (as := [.int num, .int x]) (rest := []) (bs' := 0) rfl dM_sealsAct_92 cmM_envelopeSeals cvM_envelopeSeals mlM_359 (Or.inl ⟨_, _, _, _, _, rfl, k76, by decide, rfl⟩) rfl rfl (m_envelopeSeals_1_3 hM he hn hK hv hr x) (by decide) (Nat.le_refl _) (by decide) (Nat.le_of_ble_eq_true rfl) ?_
  rintro _ _ s92 ⟨rfl, rfl, hM, hS1⟩ -
  refine V_one ?_
  have hS := hS.trans hS1
  have hr : gi (bodyL 3 10 M) 76 57 = nI 4 := gi_eq
  have hR := hM.1
  exact V_iret dM_sealsAct_95 rfl rfl ⟨rfl, rfl, hM, hS⟩
theorem m_envelopePays_1_2 {l : Launch} {G : GT} {M σ : Hp} (hM : RM M σ) {e : Nat} {num v : Int32} (he : e < 8) (hn : num = nI e) (hK : gi M 78 e = nI 1) (hv : gi M 79 e = v) (hr : gi M 76 57 = nI 2) (x : Int32) : MM l G mM_envelopePays 3 0 0 [.ref 76, .int num, .int x] KA σ (PB (bodyL 3 10 (bodyL 2 11 M)) σ (some (.int ((x + num) - v)))) := by
  have hR := hM.1
  have hM0 := hM
  have hS : Sc σ σ := Sc.rfl
  refine MM.of (loc := [(0, .ref 76), (1, .int num), (2, .int x)]) (by decide +kernel) rfl (Nat.le_of_ble_eq_true rfl) ?_
  refine V_aload_n dM_envelopePays_0 rfl ?_
  refine V_bipush (v := 11) dM_envelopePays_1 (by decide) ?_
  refine V_callV (as := [.int 11]) (rest := []) (bs' := 0) rfl dM_envelopePays_3 cmM_body cvM_body mlM_356 (Or.inl ⟨_, _, _, _, _, rfl, k76, by decide, rfl⟩) rfl rfl (m_body hM (by decide) hr 11) (by decide) (Nat.le_refl _) (by decide) (Nat.le_of_ble_eq_true rfl) ?_
  rintro _ _ s3 ⟨rfl, rfl, hM, hS1⟩ -
  refine V_non ?_
  have hS := hS.trans hS1
  have hr : gi (bodyL 2 11 M) 76 57 = nI 3 := gi_eq
  have hR := hM.1
  refine V_aload_n dM_envelopePays_6 rfl ?_
  refine V_iload_n dM_envelopePays_7 rfl ?_
  refine V_iload_n dM_envelopePays_8 rfl ?_
  refine V_callV (as := [.int num, .int x]) (rest := []) (bs' := 0) rfl dM_envelopePays_9 cmM_sealsAct cvM_sealsAct mlM_362 (Or.inl ⟨_, _, _, _, _, rfl, k76, by decide, rfl⟩) rfl rfl (m_sealsAct_1_3 hM he hn hK hv hr x) (by decide) (Nat.le_refl _) (by decide) (Nat.le_of_ble_eq_true rfl) ?_
  rintro _ _ s9 ⟨rfl, rfl, hM, hS1⟩ -
  refine V_one ?_
  have hS := hS.trans hS1
  have hr : gi (bodyL 3 10 (bodyL 2 11 M)) 76 57 = nI 4 := gi_eq
  have hR := hM.1
  refine V_aload_n dM_envelopePays_12 rfl ?_
  refine V_getR (a := 79) dM_envelopePays_13 flM_29 k76 rfl (r76_6 hR) ?_
  refine V_iload_n dM_envelopePays_16 rfl ?_
  refine V_ialdN (j := e) dM_envelopePays_17 k79 hn (by omega) (by decide) ?_
  refine V_topI (x' := v) ((mR hM rfl).trans hv) ?_
  refine V_isub dM_envelopePays_18 ?_
  exact V_iret dM_envelopePays_19 rfl rfl ⟨rfl, rfl, hM, hS⟩
theorem m_nearPays_1_1 {l : Launch} {G : GT} {M σ : Hp} (hM : RM M σ) {e : Nat} {num v : Int32} (he : e < 8) (hn : num = nI e) (hK : gi M 78 e = nI 1) (hv : gi M 79 e = v) (hr : gi M 76 57 = nI 1) (x : Int32) : MM l G mM_nearPays 4 0 0 [.ref 76, .int num, .int x] KA σ (PB (bodyL 3 10 (bodyL 2 11 (bodyL 1 20 M))) σ (some (.int (((x + num) - v) ^^^ 6)))) := by
  have hR := hM.1
  have hM0 := hM
  have hS : Sc σ σ := Sc.rfl
  refine MM.of (loc := [(0, .ref 76), (1, .int num), (2, .int x)]) (by decide +kernel) rfl (Nat.le_of_ble_eq_true rfl) ?_
  refine V_aload_n dM_nearPays_0 rfl ?_
  refine V_bipush (v := 20) dM_nearPays_1 (by decide) ?_
  refine V_callV (as := [.int 20]) (rest := []) (bs' := 0) rfl dM_nearPays_3 cmM_body cvM_body mlM_356 (Or.inl ⟨_, _, _, _, _, rfl, k76, by decide, rfl⟩) rfl rfl (m_body hM (by decide) hr 20) (by decide) (Nat.le_refl _) (by decide) (Nat.le_of_ble_eq_true rfl) ?_
  rintro _ _ s3 ⟨rfl, rfl, hM, hS1⟩ -
  refine V_non ?_
  have hS := hS.trans hS1
  have hr : gi (bodyL 1 20 M) 76 57 = nI 2 := gi_eq
  have hR := hM.1
  refine V_aload_n dM_nearPays_6 rfl ?_
  refine V_iload_n dM_nearPays_7 rfl ?_
  refine V_iload_n dM_nearPays_8 rfl ?_
  refine V_callV (as := [.int num, .int x]) (rest := []) (bs' := 0) rfl dM_nearPays_9 cmM_envelopePays cvM_envelopePays mlM_365 (Or.inl ⟨_, _, _, _, _, rfl, k76, by decide, rfl⟩) rfl rfl (m_envelopePays_1_2 hM he hn hK hv hr x) (by decide) (Nat.le_refl _) (by decide) (Nat.le_of_ble_eq_true rfl) ?_
  rintro _ _ s9 ⟨rfl, rfl, hM, hS1⟩ -
  refine V_one ?_
  have hS := hS.trans hS1
  have hr : gi (bodyL 3 10 (bodyL 2 11 (bodyL 1 20 M))) 76 57 = nI 4 := gi_eq
  have hR := hM.1
  refine V_bipush (v := 6) dM_nearPays_12 (by decide) ?_
  refine V_ixor dM_nearPays_14 ?_
  exact V_iret dM_nearPays_15 rfl rfl ⟨rfl, rfl, hM, hS⟩
theorem m_paysAct_1_1 {l : Launch} {G : GT} {M σ : Hp} (hM : RM M σ) {e : Nat} {num v : Int32} (he : e < 8) (hn : num = nI e) (hK : gi M 78 e = nI 1) (hv : gi M 79 e = v) (hr : gi M 76 57 = nI 1) (x : Int32) : MM l G mM_paysAct 5 0 0 [.ref 76, .int num, .int x] KA σ (PB (bodyL 3 10 (bodyL 2 11 (bodyL 1 20 M))) σ (some (.int (((x + num) - v) ^^^ 6)))) := by
  have hR := hM.1
  have hM0 := hM
  have hS : Sc σ σ := Sc.rfl
  refine MM.of (loc := [(0, .ref 76), (1, .int num), (2, .int x)]) (by decide +kernel) rfl (Nat.le_of_ble_eq_true rfl) ?_
  refine V_aload_n dM_paysAct_0 rfl ?_
  refine V_getR (a := 78) dM_paysAct_1 flM_26 k76 rfl (r76_5 hR) ?_
  refine V_iload_n dM_paysAct_4 rfl ?_
  refine V_ialdN (j := e) dM_paysAct_5 k78 hn (by omega) (by decide) ?_
  refine V_topI (x' := 1) ((mR hM rfl).trans hK) ?_
  refine V_lsw (tgt := 40) dM_paysAct_6 (by decide) rfl rfl ?_
  refine V_aload_n dM_paysAct_40 rfl ?_
  refine V_iload_n dM_paysAct_41 rfl ?_
  refine V_iload_n dM_paysAct_42 rfl ?_
  refine V_callV (as := [.int num, .int x]) (rest := []) (bs' := 0) rfl dM_paysAct_43 cmM_nearPays cvM_nearPays mlM_368 (Or.inl ⟨_, _, _, _, _, rfl, k76, by decide, rfl⟩) rfl rfl (m_nearPays_1_1 hM he hn hK hv hr x) (by decide) (Nat.le_refl _) (by decide) (Nat.le_of_ble_eq_true rfl) ?_
  rintro _ _ s43 ⟨rfl, rfl, hM, hS1⟩ -
  refine V_one ?_
  have hS := hS.trans hS1
  have hr : gi (bodyL 3 10 (bodyL 2 11 (bodyL 1 20 M))) 76 57 = nI 4 := gi_eq
  have hR := hM.1
  exact V_iret dM_paysAct_46 rfl rfl ⟨rfl, rfl, hM, hS⟩
theorem m_envelopeTells_1_0 {l : Launch} {G : GT} {M σ : Hp} (hM : RM M σ) {e : Nat} {num v : Int32} (he : e < 8) (hn : num = nI e) (hK : gi M 78 e = nI 1) (hv : gi M 79 e = v) (hr : gi M 76 57 = nI 0) (x : Int32) : MM l G mM_envelopeTells 6 0 0 [.ref 76, .int num, .int x] KA σ (PB (bodyL 3 10 (bodyL 2 11 (bodyL 1 20 (bodyL 0 12 M)))) σ (some (.int ((((x + num) - v) ^^^ 6) * 2)))) := by
  have hR := hM.1
  have hM0 := hM
  have hS : Sc σ σ := Sc.rfl
  refine MM.of (loc := [(0, .ref 76), (1, .int num), (2, .int x)]) (by decide +kernel) rfl (Nat.le_of_ble_eq_true rfl) ?_
  refine V_aload_n dM_envelopeTells_0 rfl ?_
  refine V_bipush (v := 12) dM_envelopeTells_1 (by decide) ?_
  refine V_callV (as := [.int 12]) (rest := []) (bs' := 0) rfl dM_envelopeTells_3 cmM_body cvM_body mlM_356 (Or.inl ⟨_, _, _, _, _, rfl, k76, by decide, rfl⟩) rfl rfl (m_body hM (by decide) hr 12) (by decide) (Nat.le_refl _) (by decide) (Nat.le_of_ble_eq_true rfl) ?_
  rintro _ _ s3 ⟨rfl, rfl, hM, hS1⟩ -
  refine V_non ?_
  have hS := hS.trans hS1
  have hr : gi (bodyL 0 12 M) 76 57 = nI 1 := gi_eq
  have hR := hM.1
  refine V_aload_n dM_envelopeTells_6 rfl ?_
  refine V_iload_n dM_envelopeTells_7 rfl ?_
  refine V_iload_n dM_envelopeTells_8 rfl ?_
  refine V_callV (as := [.int num, .int x]) (rest := []) (bs' := 0) rfl dM_envelopeTells_9 cmM_paysAct cvM_paysAct mlM_371 (Or.inl ⟨_, _, _, _, _, rfl, k76, by decide, rfl⟩) rfl rfl (m_paysAct_1_1 hM he hn hK hv hr x) (by decide) (Nat.le_refl _) (by decide) (Nat.le_of_ble_eq_true rfl) ?_
  rintro _ _ s9 ⟨rfl, rfl, hM, hS1⟩ -
  refine V_one ?_
  have hS := hS.trans hS1
  have hr : gi (bodyL 3 10 (bodyL 2 11 (bodyL 1 20 (bodyL 0 12 M)))) 76 57 = nI 4 := gi_eq
  have hR := hM.1
  refine V_iconst (v := 2) dM_envelopeTells_12 (by decide) ?_
  refine V_imul dM_envelopeTells_13 ?_
  exact V_iret dM_envelopeTells_14 rfl rfl ⟨rfl, rfl, hM, hS⟩
theorem m_tellsAct_1_0 {l : Launch} {G : GT} {M σ : Hp} (hM : RM M σ) {e : Nat} {num v : Int32} (he : e < 8) (hn : num = nI e) (hK : gi M 78 e = nI 1) (hv : gi M 79 e = v) (hr : gi M 76 57 = nI 0) (x : Int32) : MM l G mM_tellsAct 7 0 0 [.ref 76, .int num, .int x] KA σ (PB (bodyL 3 10 (bodyL 2 11 (bodyL 1 20 (bodyL 0 12 M)))) σ (some (.int ((((x + num) - v) ^^^ 6) * 2)))) := by
  have hR := hM.1
  have hM0 := hM
  have hS : Sc σ σ := Sc.rfl
  refine MM.of (loc := [(0, .ref 76), (1, .int num), (2, .int x)]) (by decide +kernel) rfl (Nat.le_of_ble_eq_true rfl) ?_
  refine V_aload_n dM_tellsAct_0 rfl ?_
  refine V_getR (a := 78) dM_tellsAct_1 flM_26 k76 rfl (r76_5 hR) ?_
  refine V_iload_n dM_tellsAct_4 rfl ?_
  refine V_ialdN (j := e) dM_tellsAct_5 k78 hn (by omega) (by decide) ?_
  refine V_topI (x' := 1) ((mR hM rfl).trans hK) ?_
  refine V_tsD (tgt := 73) dM_tellsAct_6 (by decide) rfl ?_
  refine V_aload_n dM_tellsAct_73 rfl ?_
  refine V_iload_n dM_tellsAct_74 rfl ?_
  refine V_iload_n dM_tellsAct_75 rfl ?_
  refine V_callV (as := [.int num, .int x]) (rest := []) (bs' := 0) rfl dM_tellsAct_76 cmM_envelopeTells cvM_envelopeTells mlM_374 (Or.inl ⟨_, _, _, _, _, rfl, k76, by decide, rfl⟩) rfl rfl (m_envelopeTells_1_0 hM he hn hK hv hr x) (by decide) (Nat.le_refl _) (by decide) (Nat.le_of_ble_eq_true rfl) ?_
  rintro _ _ s76 ⟨rfl, rfl, hM, hS1⟩ -
  refine V_one ?_
  have hS := hS.trans hS1
  have hr : gi (bodyL 3 10 (bodyL 2 11 (bodyL 1 20 (bodyL 0 12 M)))) 76 57 = nI 4 := gi_eq
  have hR := hM.1
  exact V_iret dM_tellsAct_79 rfl rfl ⟨rfl, rfl, hM, hS⟩
theorem m_envelopeSeals_2_1 {l : Launch} {G : GT} {M σ : Hp} (hM : RM M σ) {e : Nat} {num v : Int32} (he : e < 8) (hn : num = nI e) (hK : gi M 78 e = nI 2) (hv : gi M 79 e = v) (hr : gi M 76 57 = nI 1) (x : Int32) : MM l G mM_envelopeSeals 1 0 0 [.ref 76, .int num, .int x] KA σ (PB (bodyL 1 10 M) σ (some (.int (x + num)))) := by
  have hR := hM.1
  have hM0 := hM
  have hS : Sc σ σ := Sc.rfl
  refine MM.of (loc := [(0, .ref 76), (1, .int num), (2, .int x)]) (by decide +kernel) rfl (Nat.le_of_ble_eq_true rfl) ?_
  refine V_aload_n dM_envelopeSeals_0 rfl ?_
  refine V_bipush (v := 10) dM_envelopeSeals_1 (by decide) ?_
  refine V_callV (as := [.int 10]) (rest := []) (bs' := 0) rfl dM_envelopeSeals_3 cmM_body cvM_body mlM_356 (Or.inl ⟨_, _, _, _, _, rfl, k76, by decide, rfl⟩) rfl rfl (m_body hM (by decide) hr 10) (by decide) (Nat.le_refl _) (by decide) (Nat.le_of_ble_eq_true rfl) ?_
  rintro _ _ s3 ⟨rfl, rfl, hM, hS1⟩ -
  refine V_non ?_
  have hS := hS.trans hS1
  have hr : gi (bodyL 1 10 M) 76 57 = nI 2 := gi_eq
  have hR := hM.1
  refine V_iload_n dM_envelopeSeals_6 rfl ?_
  refine V_iload_n dM_envelopeSeals_7 rfl ?_
  refine V_iadd dM_envelopeSeals_8 ?_
  exact V_iret dM_envelopeSeals_9 rfl rfl ⟨rfl, rfl, hM, hS⟩
theorem m_sealsAct_2_0 {l : Launch} {G : GT} {M σ : Hp} (hM : RM M σ) {e : Nat} {num v : Int32} (he : e < 8) (hn : num = nI e) (hK : gi M 78 e = nI 2) (hv : gi M 79 e = v) (hr : gi M 76 57 = nI 0) (x : Int32) : MM l G mM_sealsAct 2 0 0 [.ref 76, .int num, .int x] KA σ (PB (bodyL 1 10 (bodyL 0 30 M)) σ (some (.int ((x * 3) + num)))) := by
  have hR := hM.1
  have hM0 := hM
  have hS : Sc σ σ := Sc.rfl
  refine MM.of (loc := [(0, .ref 76), (1, .int num), (2, .int x)]) (by decide +kernel) rfl (Nat.le_of_ble_eq_true rfl) ?_
  refine V_aload_n dM_sealsAct_0 rfl ?_
  refine V_getR (a := 78) dM_sealsAct_1 flM_26 k76 rfl (r76_5 hR) ?_
  refine V_iload_n dM_sealsAct_4 rfl ?_
  refine V_ialdN (j := e) dM_sealsAct_5 k78 hn (by omega) (by decide) ?_
  refine V_topI (x' := 2) ((mR hM rfl).trans hK) ?_
  refine V_tsC (tgt := 40) 2 rfl dM_sealsAct_6 (by decide) (by decide) rfl rfl ?_
  refine V_aload_n dM_sealsAct_40 rfl ?_
  refine V_bipush (v := 30) dM_sealsAct_41 (by decide) ?_
  refine V_callV (as := [.int 30]) (rest := []) (bs' := 0) rfl dM_sealsAct_43 cmM_body cvM_body mlM_356 (Or.inl ⟨_, _, _, _, _, rfl, k76, by decide, rfl⟩) rfl rfl (m_body hM (by decide) hr 30) (by decide) (Nat.le_refl _) (by decide) (Nat.le_of_ble_eq_true rfl) ?_
  rintro _ _ s43 ⟨rfl, rfl, hM, hS1⟩ -
  refine V_non ?_
  have hS := hS.trans hS1
  have hr : gi (bodyL 0 30 M) 76 57 = nI 1 := gi_eq
  have hR := hM.1
  refine V_aload_n dM_sealsAct_46 rfl ?_
  refine V_iload_n dM_sealsAct_47 rfl ?_
  refine V_iload_n dM_sealsAct_48 rfl ?_
  refine V_iconst (v := 3) dM_sealsAct_49 (by decide) ?_
  refine V_imul dM_sealsAct_50 ?_
  refine V_callV (as := [.int num, .int (x * 3)]) (rest := []) (bs' := 0) rfl dM_sealsAct_51 cmM_envelopeSeals cvM_envelopeSeals mlM_359 (Or.inl ⟨_, _, _, _, _, rfl, k76, by decide, rfl⟩) rfl rfl (m_envelopeSeals_2_1 hM he hn hK hv hr (x * 3)) (by decide) (Nat.le_refl _) (by decide) (Nat.le_of_ble_eq_true rfl) ?_
  rintro _ _ s51 ⟨rfl, rfl, hM, hS1⟩ -
  refine V_one ?_
  have hS := hS.trans hS1
  have hr : gi (bodyL 1 10 (bodyL 0 30 M)) 76 57 = nI 2 := gi_eq
  have hR := hM.1
  exact V_iret dM_sealsAct_54 rfl rfl ⟨rfl, rfl, hM, hS⟩
theorem m_envelopeSeals_2_2 {l : Launch} {G : GT} {M σ : Hp} (hM : RM M σ) {e : Nat} {num v : Int32} (he : e < 8) (hn : num = nI e) (hK : gi M 78 e = nI 2) (hv : gi M 79 e = v) (hr : gi M 76 57 = nI 2) (x : Int32) : MM l G mM_envelopeSeals 1 0 0 [.ref 76, .int num, .int x] KA σ (PB (bodyL 2 10 M) σ (some (.int (x + num)))) := by
  have hR := hM.1
  have hM0 := hM
  have hS : Sc σ σ := Sc.rfl
  refine MM.of (loc := [(0, .ref 76), (1, .int num), (2, .int x)]) (by decide +kernel) rfl (Nat.le_of_ble_eq_true rfl) ?_
  refine V_aload_n dM_envelopeSeals_0 rfl ?_
  refine V_bipush (v := 10) dM_envelopeSeals_1 (by decide) ?_
  refine V_callV (as := [.int 10]) (rest := []) (bs' := 0) rfl dM_envelopeSeals_3 cmM_body cvM_body mlM_356 (Or.inl ⟨_, _, _, _, _, rfl, k76, by decide, rfl⟩) rfl rfl (m_body hM (by decide) hr 10) (by decide) (Nat.le_refl _) (by decide) (Nat.le_of_ble_eq_true rfl) ?_
  rintro _ _ s3 ⟨rfl, rfl, hM, hS1⟩ -
  refine V_non ?_
  have hS := hS.trans hS1
  have hr : gi (bodyL 2 10 M) 76 57 = nI 3 := gi_eq
  have hR := hM.1
  refine V_iload_n dM_envelopeSeals_6 rfl ?_
  refine V_iload_n dM_envelopeSeals_7 rfl ?_
  refine V_iadd dM_envelopeSeals_8 ?_
  exact V_iret dM_envelopeSeals_9 rfl rfl ⟨rfl, rfl, hM, hS⟩
theorem m_sealsAct_2_1 {l : Launch} {G : GT} {M σ : Hp} (hM : RM M σ) {e : Nat} {num v : Int32} (he : e < 8) (hn : num = nI e) (hK : gi M 78 e = nI 2) (hv : gi M 79 e = v) (hr : gi M 76 57 = nI 1) (x : Int32) : MM l G mM_sealsAct 2 0 0 [.ref 76, .int num, .int x] KA σ (PB (bodyL 2 10 (bodyL 1 30 M)) σ (some (.int ((x * 3) + num)))) := by
  have hR := hM.1
  have hM0 := hM
  have hS : Sc σ σ := Sc.rfl
  refine MM.of (loc := [(0, .ref 76), (1, .int num), (2, .int x)]) (by decide +kernel) rfl (Nat.le_of_ble_eq_true rfl) ?_
  refine V_aload_n dM_sealsAct_0 rfl ?_
  refine V_getR (a := 78) dM_sealsAct_1 flM_26 k76 rfl (r76_5 hR) ?_
  refine V_iload_n dM_sealsAct_4 rfl ?_
  refine V_ialdN (j := e) dM_sealsAct_5 k78 hn (by omega) (by decide) ?_
  refine V_topI (x' := 2) ((mR hM rfl).trans hK) ?_
  refine V_tsC (tgt := 40) 2 rfl dM_sealsAct_6 (by decide) (by decide) rfl rfl ?_
  refine V_aload_n dM_sealsAct_40 rfl ?_
  refine V_bipush (v := 30) dM_sealsAct_41 (by decide) ?_
  refine V_callV (as := [.int 30]) (rest := []) (bs' := 0) rfl dM_sealsAct_43 cmM_body cvM_body mlM_356 (Or.inl ⟨_, _, _, _, _, rfl, k76, by decide, rfl⟩) rfl rfl (m_body hM (by decide) hr 30) (by decide) (Nat.le_refl _) (by decide) (Nat.le_of_ble_eq_true rfl) ?_
  rintro _ _ s43 ⟨rfl, rfl, hM, hS1⟩ -
  refine V_non ?_
  have hS := hS.trans hS1
  have hr : gi (bodyL 1 30 M) 76 57 = nI 2 := gi_eq
  have hR := hM.1
  refine V_aload_n dM_sealsAct_46 rfl ?_
  refine V_iload_n dM_sealsAct_47 rfl ?_
  refine V_iload_n dM_sealsAct_48 rfl ?_
  refine V_iconst (v := 3) dM_sealsAct_49 (by decide) ?_
  refine V_imul dM_sealsAct_50 ?_
  refine V_callV (as := [.int num, .int (x * 3)]) (rest := []) (bs' := 0) rfl dM_sealsAct_51 cmM_envelopeSeals cvM_envelopeSeals mlM_359 (Or.inl ⟨_, _, _, _, _, rfl, k76, by decide, rfl⟩) rfl rfl (m_envelopeSeals_2_2 hM he hn hK hv hr (x * 3)) (by decide) (Nat.le_refl _) (by decide) (Nat.le_of_ble_eq_true rfl) ?_
  rintro _ _ s51 ⟨rfl, rfl, hM, hS1⟩ -
  refine V_one ?_
  have hS := hS.trans hS1
  have hr : gi (bodyL 2 10 (bodyL 1 30 M)) 76 57 = nI 3 := gi_eq
  have hR := hM.1
  exact V_iret dM_sealsAct_54 rfl rfl ⟨rfl, rfl, hM, hS⟩
theorem m_envelopePays_2_0 {l : Launch} {G : GT} {M σ : Hp} (hM : RM M σ) {e : Nat} {num v : Int32} (he : e < 8) (hn : num = nI e) (hK : gi M 78 e = nI 2) (hv : gi M 79 e = v) (hr : gi M 76 57 = nI 0) (x : Int32) : MM l G mM_envelopePays 3 0 0 [.ref 76, .int num, .int x] KA σ (PB (bodyL 2 10 (bodyL 1 30 (bodyL 0 11 M))) σ (some (.int (((x * 3) + num) - v)))) := by
  have hR := hM.1
  have hM0 := hM
  have hS : Sc σ σ := Sc.rfl
  refine MM.of (loc := [(0, .ref 76), (1, .int num), (2, .int x)]) (by decide +kernel) rfl (Nat.le_of_ble_eq_true rfl) ?_
  refine V_aload_n dM_envelopePays_0 rfl ?_
  refine V_bipush (v := 11) dM_envelopePays_1 (by decide) ?_
  refine V_callV (as := [.int 11]) (rest := []) (bs' := 0) rfl dM_envelopePays_3 cmM_body cvM_body mlM_356 (Or.inl ⟨_, _, _, _, _, rfl, k76, by decide, rfl⟩) rfl rfl (m_body hM (by decide) hr 11) (by decide) (Nat.le_refl _) (by decide) (Nat.le_of_ble_eq_true rfl) ?_
  rintro _ _ s3 ⟨rfl, rfl, hM, hS1⟩ -
  refine V_non ?_
  have hS := hS.trans hS1
  have hr : gi (bodyL 0 11 M) 76 57 = nI 1 := gi_eq
  have hR := hM.1
  refine V_aload_n dM_envelopePays_6 rfl ?_
  refine V_iload_n dM_envelopePays_7 rfl ?_
  refine V_iload_n dM_envelopePays_8 rfl ?_
  refine V_callV (as := [.int num, .int x]) (rest := []) (bs' := 0) rfl dM_envelopePays_9 cmM_sealsAct cvM_sealsAct mlM_362 (Or.inl ⟨_, _, _, _, _, rfl, k76, by decide, rfl⟩) rfl rfl (m_sealsAct_2_1 hM he hn hK hv hr x) (by decide) (Nat.le_refl _) (by decide) (Nat.le_of_ble_eq_true rfl) ?_
  rintro _ _ s9 ⟨rfl, rfl, hM, hS1⟩ -
  refine V_one ?_
  have hS := hS.trans hS1
  have hr : gi (bodyL 2 10 (bodyL 1 30 (bodyL 0 11 M))) 76 57 = nI 3 := gi_eq
  have hR := hM.1
  refine V_aload_n dM_envelopePays_12 rfl ?_
  refine V_getR (a := 79) dM_envelopePays_13 flM_29 k76 rfl (r76_6 hR) ?_
  refine V_iload_n dM_envelopePays_16 rfl ?_
  refine V_ialdN (j := e) dM_envelopePays_17 k79 hn (by omega) (by decide) ?_
  refine V_topI (x' := v) ((mR hM rfl).trans hv) ?_
  refine V_isub dM_envelopePays_18 ?_
  exact V_iret dM_envelopePays_19 rfl rfl ⟨rfl, rfl, hM, hS⟩
theorem m_paysAct_2_0 {l : Launch} {G : GT} {M σ : Hp} (hM : RM M σ) {e : Nat} {num v : Int32} (he : e < 8) (hn : num = nI e) (hK : gi M 78 e = nI 2) (hv : gi M 79 e = v) (hr : gi M 76 57 = nI 0) (x : Int32) : MM l G mM_paysAct 5 0 0 [.ref 76, .int num, .int x] KA σ (PB (bodyL 2 10 (bodyL 1 30 (bodyL 0 11 M))) σ (some (.int (((x * 3) + num) - v)))) := by
  have hR := hM.1
  have hM0 := hM
  have hS : Sc σ σ := Sc.rfl
  refine MM.of (loc := [(0, .ref 76), (1, .int num), (2, .int x)]) (by decide +kernel) rfl (Nat.le_of_ble_eq_true rfl) ?_
  refine V_aload_n dM_paysAct_0 rfl ?_
  refine V_getR (a := 78) dM_paysAct_1 flM_26 k76 rfl (r76_5 hR) ?_
  refine V_iload_n dM_paysAct_4 rfl ?_
  refine V_ialdN (j := e) dM_paysAct_5 k78 hn (by omega) (by decide) ?_
  refine V_topI (x' := 2) ((mR hM rfl).trans hK) ?_
  refine V_lsw (tgt := 84) dM_paysAct_6 (by decide) rfl rfl ?_
  refine V_aload_n dM_paysAct_84 rfl ?_
  refine V_iload_n dM_paysAct_85 rfl ?_
  refine V_iload_n dM_paysAct_86 rfl ?_
  refine V_callV (as := [.int num, .int x]) (rest := []) (bs' := 0) rfl dM_paysAct_87 cmM_envelopePays cvM_envelopePays mlM_365 (Or.inl ⟨_, _, _, _, _, rfl, k76, by decide, rfl⟩) rfl rfl (m_envelopePays_2_0 hM he hn hK hv hr x) (by decide) (Nat.le_refl _) (by decide) (Nat.le_of_ble_eq_true rfl) ?_
  rintro _ _ s87 ⟨rfl, rfl, hM, hS1⟩ -
  refine V_one ?_
  have hS := hS.trans hS1
  have hr : gi (bodyL 2 10 (bodyL 1 30 (bodyL 0 11 M))) 76 57 = nI 3 := gi_eq
  have hR := hM.1
  exact V_iret dM_paysAct_90 rfl rfl ⟨rfl, rfl, hM, hS⟩
theorem m_envelopeSeals_2_3 {l : Launch} {G : GT} {M σ : Hp} (hM : RM M σ) {e : Nat} {num v : Int32} (he : e < 8) (hn : num = nI e) (hK : gi M 78 e = nI 2) (hv : gi M 79 e = v) (hr : gi M 76 57 = nI 3) (x : Int32) : MM l G mM_envelopeSeals 1 0 0 [.ref 76, .int num, .int x] KA σ (PB (bodyL 3 10 M) σ (some (.int (x + num)))) := by
  have hR := hM.1
  have hM0 := hM
  have hS : Sc σ σ := Sc.rfl
  refine MM.of (loc := [(0, .ref 76), (1, .int num), (2, .int x)]) (by decide +kernel) rfl (Nat.le_of_ble_eq_true rfl) ?_
  refine V_aload_n dM_envelopeSeals_0 rfl ?_
  refine V_bipush (v := 10) dM_envelopeSeals_1 (by decide) ?_
  refine V_callV (as := [.int 10]) (rest := []) (bs' := 0) rfl dM_envelopeSeals_3 cmM_body cvM_body mlM_356 (Or.inl ⟨_, _, _, _, _, rfl, k76, by decide, rfl⟩) rfl rfl (m_body hM (by decide) hr 10) (by decide) (Nat.le_refl _) (by decide) (Nat.le_of_ble_eq_true rfl) ?_
  rintro _ _ s3 ⟨rfl, rfl, hM, hS1⟩ -
  refine V_non ?_
  have hS := hS.trans hS1
  have hr : gi (bodyL 3 10 M) 76 57 = nI 4 := gi_eq
  have hR := hM.1
  refine V_iload_n dM_envelopeSeals_6 rfl ?_
  refine V_iload_n dM_envelopeSeals_7 rfl ?_
  refine V_iadd dM_envelopeSeals_8 ?_
  exact V_iret dM_envelopeSeals_9 rfl rfl ⟨rfl, rfl, hM, hS⟩
theorem m_sealsAct_2_2 {l : Launch} {G : GT} {M σ : Hp} (hM : RM M σ) {e : Nat} {num v : Int32} (he : e < 8) (hn : num = nI e) (hK : gi M 78 e = nI 2) (hv : gi M 79 e = v) (hr : gi M 76 57 = nI 2) (x : Int32) : MM l G mM_sealsAct 2 0 0 [.ref 76, .int num, .int x] KA σ (PB (bodyL 3 10 (bodyL 2 30 M)) σ (some (.int ((x * 3) + num)))) := by
  have hR := hM.1
  have hM0 := hM
  have hS : Sc σ σ := Sc.rfl
  refine MM.of (loc := [(0, .ref 76), (1, .int num), (2, .int x)]) (by decide +kernel) rfl (Nat.le_of_ble_eq_true rfl) ?_
  refine V_aload_n dM_sealsAct_0 rfl ?_
  refine V_getR (a := 78) dM_sealsAct_1 flM_26 k76 rfl (r76_5 hR) ?_
  refine V_iload_n dM_sealsAct_4 rfl ?_
  refine V_ialdN (j := e) dM_sealsAct_5 k78 hn (by omega) (by decide) ?_
  refine V_topI (x' := 2) ((mR hM rfl).trans hK) ?_
  refine V_tsC (tgt := 40) 2 rfl dM_sealsAct_6 (by decide) (by decide) rfl rfl ?_
  refine V_aload_n dM_sealsAct_40 rfl ?_
  refine V_bipush (v := 30) dM_sealsAct_41 (by decide) ?_
  refine V_callV (as := [.int 30]) (rest := []) (bs' := 0) rfl dM_sealsAct_43 cmM_body cvM_body mlM_356 (Or.inl ⟨_, _, _, _, _, rfl, k76, by decide, rfl⟩) rfl rfl (m_body hM (by decide) hr 30) (by decide) (Nat.le_refl _) (by decide) (Nat.le_of_ble_eq_true rfl) ?_
  rintro _ _ s43 ⟨rfl, rfl, hM, hS1⟩ -
  refine V_non ?_
  have hS := hS.trans hS1
  have hr : gi (bodyL 2 30 M) 76 57 = nI 3 := gi_eq
  have hR := hM.1
  refine V_aload_n dM_sealsAct_46 rfl ?_
  refine V_iload_n dM_sealsAct_47 rfl ?_
  refine V_iload_n dM_sealsAct_48 rfl ?_
  refine V_iconst (v := 3) dM_sealsAct_49 (by decide) ?_
  refine V_imul dM_sealsAct_50 ?_
  refine V_callV (as := [.int num, .int (x * 3)]) (rest := []) (bs' := 0) rfl dM_sealsAct_51 cmM_envelopeSeals cvM_envelopeSeals mlM_359 (Or.inl ⟨_, _, _, _, _, rfl, k76, by decide, rfl⟩) rfl rfl (m_envelopeSeals_2_3 hM he hn hK hv hr (x * 3)) (by decide) (Nat.le_refl _) (by decide) (Nat.le_of_ble_eq_true rfl) ?_
  rintro _ _ s51 ⟨rfl, rfl, hM, hS1⟩ -
  refine V_one ?_
  have hS := hS.trans hS1
  have hr : gi (bodyL 3 10 (bodyL 2 30 M)) 76 57 = nI 4 := gi_eq
  have hR := hM.1
  exact V_iret dM_sealsAct_54 rfl rfl ⟨rfl, rfl, hM, hS⟩
theorem m_envelopePays_2_1 {l : Launch} {G : GT} {M σ : Hp} (hM : RM M σ) {e : Nat} {num v : Int32} (he : e < 8) (hn : num = nI e) (hK : gi M 78 e = nI 2) (hv : gi M 79 e = v) (hr : gi M 76 57 = nI 1) (x : Int32) : MM l G mM_envelopePays 3 0 0 [.ref 76, .int num, .int x] KA σ (PB (bodyL 3 10 (bodyL 2 30 (bodyL 1 11 M))) σ (some (.int (((x * 3) + num) - v)))) := by
  have hR := hM.1
  have hM0 := hM
  have hS : Sc σ σ := Sc.rfl
  refine MM.of (loc := [(0, .ref 76), (1, .int num), (2, .int x)]) (by decide +kernel) rfl (Nat.le_of_ble_eq_true rfl) ?_
  refine V_aload_n dM_envelopePays_0 rfl ?_
  refine V_bipush (v := 11) dM_envelopePays_1 (by decide) ?_
  refine V_callV (as := [.int 11]) (rest := []) (bs' := 0) rfl dM_envelopePays_3 cmM_body cvM_body mlM_356 (Or.inl ⟨_, _, _, _, _, rfl, k76, by decide, rfl⟩) rfl rfl (m_body hM (by decide) hr 11) (by decide) (Nat.le_refl _) (by decide) (Nat.le_of_ble_eq_true rfl) ?_
  rintro _ _ s3 ⟨rfl, rfl, hM, hS1⟩ -
  refine V_non ?_
  have hS := hS.trans hS1
  have hr : gi (bodyL 1 11 M) 76 57 = nI 2 := gi_eq
  have hR := hM.1
  refine V_aload_n dM_envelopePays_6 rfl ?_
  refine V_iload_n dM_envelopePays_7 rfl ?_
  refine V_iload_n dM_envelopePays_8 rfl ?_
  refine V_callV (as := [.int num, .int x]) (rest := []) (bs' := 0) rfl dM_envelopePays_9 cmM_sealsAct cvM_sealsAct mlM_362 (Or.inl ⟨_, _, _, _, _, rfl, k76, by decide, rfl⟩) rfl rfl (m_sealsAct_2_2 hM he hn hK hv hr x) (by decide) (Nat.le_refl _) (by decide) (Nat.le_of_ble_eq_true rfl) ?_
  rintro _ _ s9 ⟨rfl, rfl, hM, hS1⟩ -
  refine V_one ?_
  have hS := hS.trans hS1
  have hr : gi (bodyL 3 10 (bodyL 2 30 (bodyL 1 11 M))) 76 57 = nI 4 := gi_eq
  have hR := hM.1
  refine V_aload_n dM_envelopePays_12 rfl ?_
  refine V_getR (a := 79) dM_envelopePays_13 flM_29 k76 rfl (r76_6 hR) ?_
  refine V_iload_n dM_envelopePays_16 rfl ?_
  refine V_ialdN (j := e) dM_envelopePays_17 k79 hn (by omega) (by decide) ?_
  refine V_topI (x' := v) ((mR hM rfl).trans hv) ?_
  refine V_isub dM_envelopePays_18 ?_
  exact V_iret dM_envelopePays_19 rfl rfl ⟨rfl, rfl, hM, hS⟩
theorem m_paysAct_2_1 {l : Launch} {G : GT} {M σ : Hp} (hM : RM M σ) {e : Nat} {num v : Int32} (he : e < 8) (hn : num = nI e) (hK : gi M 78 e = nI 2) (hv : gi M 79 e = v) (hr : gi M 76 57 = nI 1) (x : Int32) : MM l G mM_paysAct 5 0 0 [.ref 76, .int num, .int x] KA σ (PB (bodyL 3 10 (bodyL 2 30 (bodyL 1 11 M))) σ (some (.int (((x * 3) + num) - v)))) := by
  have hR := hM.1
  have hM0 := hM
  have hS : Sc σ σ := Sc.rfl
  refine MM.of (loc := [(0, .ref 76), (1, .int num), (2, .int x)]) (by decide +kernel) rfl (Nat.le_of_ble_eq_true rfl) ?_
  refine V_aload_n dM_paysAct_0 rfl ?_
  refine V_getR (a := 78) dM_paysAct_1 flM_26 k76 rfl (r76_5 hR) ?_
  refine V_iload_n dM_paysAct_4 rfl ?_
  refine V_ialdN (j := e) dM_paysAct_5 k78 hn (by omega) (by decide) ?_
  refine V_topI (x' := 2) ((mR hM rfl).trans hK) ?_
  refine V_lsw (tgt := 84) dM_paysAct_6 (by decide) rfl rfl ?_
  refine V_aload_n dM_paysAct_84 rfl ?_
  refine V_iload_n dM_paysAct_85 rfl ?_
  refine V_iload_n dM_paysAct_86 rfl ?_
  refine V_callV (as := [.int num, .int x]) (rest := []) (bs' := 0) rfl dM_paysAct_87 cmM_envelopePays cvM_envelopePays mlM_365 (Or.inl ⟨_, _, _, _, _, rfl, k76, by decide, rfl⟩) rfl rfl (m_envelopePays_2_1 hM he hn hK hv hr x) (by decide) (Nat.le_refl _) (by decide) (Nat.le_of_ble_eq_true rfl) ?_
  rintro _ _ s87 ⟨rfl, rfl, hM, hS1⟩ -
  refine V_one ?_
  have hS := hS.trans hS1
  have hr : gi (bodyL 3 10 (bodyL 2 30 (bodyL 1 11 M))) 76 57 = nI 4 := gi_eq
  have hR := hM.1
  exact V_iret dM_paysAct_90 rfl rfl ⟨rfl, rfl, hM, hS⟩
theorem m_envelopeTells_2_0 {l : Launch} {G : GT} {M σ : Hp} (hM : RM M σ) {e : Nat} {num v : Int32} (he : e < 8) (hn : num = nI e) (hK : gi M 78 e = nI 2) (hv : gi M 79 e = v) (hr : gi M 76 57 = nI 0) (x : Int32) : MM l G mM_envelopeTells 6 0 0 [.ref 76, .int num, .int x] KA σ (PB (bodyL 3 10 (bodyL 2 30 (bodyL 1 11 (bodyL 0 12 M)))) σ (some (.int ((((x * 3) + num) - v) * 2)))) := by
  have hR := hM.1
  have hM0 := hM
  have hS : Sc σ σ := Sc.rfl
  refine MM.of (loc := [(0, .ref 76), (1, .int num), (2, .int x)]) (by decide +kernel) rfl (Nat.le_of_ble_eq_true rfl) ?_
  refine V_aload_n dM_envelopeTells_0 rfl ?_
  refine V_bipush (v := 12) dM_envelopeTells_1 (by decide) ?_
  refine V_callV (as := [.int 12]) (rest := []) (bs' := 0) rfl dM_envelopeTells_3 cmM_body cvM_body mlM_356 (Or.inl ⟨_, _, _, _, _, rfl, k76, by decide, rfl⟩) rfl rfl (m_body hM (by decide) hr 12) (by decide) (Nat.le_refl _) (by decide) (Nat.le_of_ble_eq_true rfl) ?_
  rintro _ _ s3 ⟨rfl, rfl, hM, hS1⟩ -
  refine V_non ?_
  have hS := hS.trans hS1
  have hr : gi (bodyL 0 12 M) 76 57 = nI 1 := gi_eq
  have hR := hM.1
  refine V_aload_n dM_envelopeTells_6 rfl ?_
  refine V_iload_n dM_envelopeTells_7 rfl ?_
  refine V_iload_n dM_envelopeTells_8 rfl ?_
  refine V_callV (as := [.int num, .int x]) (rest := []) (bs' := 0) rfl dM_envelopeTells_9 cmM_paysAct cvM_paysAct mlM_371 (Or.inl ⟨_, _, _, _, _, rfl, k76, by decide, rfl⟩) rfl rfl (m_paysAct_2_1 hM he hn hK hv hr x) (by decide) (Nat.le_refl _) (by decide) (Nat.le_of_ble_eq_true rfl) ?_
  rintro _ _ s9 ⟨rfl, rfl, hM, hS1⟩ -
  refine V_one ?_
  have hS := hS.trans hS1
  have hr : gi (bodyL 3 10 (bodyL 2 30 (bodyL 1 11 (bodyL 0 12 M)))) 76 57 = nI 4 := gi_eq
  have hR := hM.1
  refine V_iconst (v := 2) dM_envelopeTells_12 (by decide) ?_
  refine V_imul dM_envelopeTells_13 ?_
  exact V_iret dM_envelopeTells_14 rfl rfl ⟨rfl, rfl, hM, hS⟩
theorem m_tellsAct_2_0 {l : Launch} {G : GT} {M σ : Hp} (hM : RM M σ) {e : Nat} {num v : Int32} (he : e < 8) (hn : num = nI e) (hK : gi M 78 e = nI 2) (hv : gi M 79 e = v) (hr : gi M 76 57 = nI 0) (x : Int32) : MM l G mM_tellsAct 7 0 0 [.ref 76, .int num, .int x] KA σ (PB (bodyL 3 10 (bodyL 2 30 (bodyL 1 11 (bodyL 0 12 M)))) σ (some (.int ((((x * 3) + num) - v) * 2)))) := by
  have hR := hM.1
  have hM0 := hM
  have hS : Sc σ σ := Sc.rfl
  refine MM.of (loc := [(0, .ref 76), (1, .int num), (2, .int x)]) (by decide +kernel) rfl (Nat.le_of_ble_eq_true rfl) ?_
  refine V_aload_n dM_tellsAct_0 rfl ?_
  refine V_getR (a := 78) dM_tellsAct_1 flM_26 k76 rfl (r76_5 hR) ?_
  refine V_iload_n dM_tellsAct_4 rfl ?_
  refine V_ialdN (j := e) dM_tellsAct_5 k78 hn (by omega) (by decide) ?_
  refine V_topI (x' := 2) ((mR hM rfl).trans hK) ?_
  refine V_tsD (tgt := 73) dM_tellsAct_6 (by decide) rfl ?_
  refine V_aload_n dM_tellsAct_73 rfl ?_
  refine V_iload_n dM_tellsAct_74 rfl ?_
  refine V_iload_n dM_tellsAct_75 rfl ?_
  refine V_callV (as := [.int num, .int x]) (rest := []) (bs' := 0) rfl dM_tellsAct_76 cmM_envelopeTells cvM_envelopeTells mlM_374 (Or.inl ⟨_, _, _, _, _, rfl, k76, by decide, rfl⟩) rfl rfl (m_envelopeTells_2_0 hM he hn hK hv hr x) (by decide) (Nat.le_refl _) (by decide) (Nat.le_of_ble_eq_true rfl) ?_
  rintro _ _ s76 ⟨rfl, rfl, hM, hS1⟩ -
  refine V_one ?_
  have hS := hS.trans hS1
  have hr : gi (bodyL 3 10 (bodyL 2 30 (bodyL 1 11 (bodyL 0 12 M)))) 76 57 = nI 4 := gi_eq
  have hR := hM.1
  exact V_iret dM_tellsAct_79 rfl rfl ⟨rfl, rfl, hM, hS⟩
theorem m_envelopeSeals_3_0 {l : Launch} {G : GT} {M σ : Hp} (hM : RM M σ) {e : Nat} {num v : Int32} (he : e < 8) (hn : num = nI e) (hK : gi M 78 e = nI 3) (hv : gi M 79 e = v) (hr : gi M 76 57 = nI 0) (x : Int32) : MM l G mM_envelopeSeals 1 0 0 [.ref 76, .int num, .int x] KA σ (PB (bodyL 0 10 M) σ (some (.int (x + num)))) := by
  have hR := hM.1
  have hM0 := hM
  have hS : Sc σ σ := Sc.rfl
  refine MM.of (loc := [(0, .ref 76), (1, .int num), (2, .int x)]) (by decide +kernel) rfl (Nat.le_of_ble_eq_true rfl) ?_
  refine V_aload_n dM_envelopeSeals_0 rfl ?_
  refine V_bipush (v := 10) dM_envelopeSeals_1 (by decide) ?_
  refine V_callV (as := [.int 10]) (rest := []) (bs' := 0) rfl dM_envelopeSeals_3 cmM_body cvM_body mlM_356 (Or.inl ⟨_, _, _, _, _, rfl, k76, by decide, rfl⟩) rfl rfl (m_body hM (by decide) hr 10) (by decide) (Nat.le_refl _) (by decide) (Nat.le_of_ble_eq_true rfl) ?_
  rintro _ _ s3 ⟨rfl, rfl, hM, hS1⟩ -
  refine V_non ?_
  have hS := hS.trans hS1
  have hr : gi (bodyL 0 10 M) 76 57 = nI 1 := gi_eq
  have hR := hM.1
  refine V_iload_n dM_envelopeSeals_6 rfl ?_
  refine V_iload_n dM_envelopeSeals_7 rfl ?_
  refine V_iadd dM_envelopeSeals_8 ?_
  exact V_iret dM_envelopeSeals_9 rfl rfl ⟨rfl, rfl, hM, hS⟩
theorem m_sealsAct_3_0 {l : Launch} {G : GT} {M σ : Hp} (hM : RM M σ) {e : Nat} {num v : Int32} (he : e < 8) (hn : num = nI e) (hK : gi M 78 e = nI 3) (hv : gi M 79 e = v) (hr : gi M 76 57 = nI 0) (x : Int32) : MM l G mM_sealsAct 2 0 0 [.ref 76, .int num, .int x] KA σ (PB (bodyL 0 10 M) σ (some (.int (x + num)))) := by
  have hR := hM.1
  have hM0 := hM
  have hS : Sc σ σ := Sc.rfl
  refine MM.of (loc := [(0, .ref 76), (1, .int num), (2, .int x)]) (by decide +kernel) rfl (Nat.le_of_ble_eq_true rfl) ?_
  refine V_aload_n dM_sealsAct_0 rfl ?_
  refine V_getR (a := 78) dM_sealsAct_1 flM_26 k76 rfl (r76_5 hR) ?_
  refine V_iload_n dM_sealsAct_4 rfl ?_
  refine V_ialdN (j := e) dM_sealsAct_5 k78 hn (by omega) (by decide) ?_
  refine V_topI (x' := 3) ((mR hM rfl).trans hK) ?_
  refine V_tsC (tgt := 89) 3 rfl dM_sealsAct_6 (by decide) (by decide) rfl rfl ?_
  refine V_aload_n dM_sealsAct_89 rfl ?_
  refine V_iload_n dM_sealsAct_90 rfl ?_
  refine V_iload_n dM_sealsAct_91 rfl ?_
  refine V_callV (as := [.int num, .int x]) (rest := []) (bs' := 0) rfl dM_sealsAct_92 cmM_envelopeSeals cvM_envelopeSeals mlM_359 (Or.inl ⟨_, _, _, _, _, rfl, k76, by decide, rfl⟩) rfl rfl (m_envelopeSeals_3_0 hM he hn hK hv hr x) (by decide) (Nat.le_refl _) (by decide) (Nat.le_of_ble_eq_true rfl) ?_
  rintro _ _ s92 ⟨rfl, rfl, hM, hS1⟩ -
  refine V_one ?_
  have hS := hS.trans hS1
  have hr : gi (bodyL 0 10 M) 76 57 = nI 1 := gi_eq
  have hR := hM.1
  exact V_iret dM_sealsAct_95 rfl rfl ⟨rfl, rfl, hM, hS⟩
theorem m_envelopeSeals_3_1 {l : Launch} {G : GT} {M σ : Hp} (hM : RM M σ) {e : Nat} {num v : Int32} (he : e < 8) (hn : num = nI e) (hK : gi M 78 e = nI 3) (hv : gi M 79 e = v) (hr : gi M 76 57 = nI 1) (x : Int32) : MM l G mM_envelopeSeals 1 0 0 [.ref 76, .int num, .int x] KA σ (PB (bodyL 1 10 M) σ (some (.int (x + num)))) := by
  have hR := hM.1
  have hM0 := hM
  have hS : Sc σ σ := Sc.rfl
  refine MM.of (loc := [(0, .ref 76), (1, .int num), (2, .int x)]) (by decide +kernel) rfl (Nat.le_of_ble_eq_true rfl) ?_
  refine V_aload_n dM_envelopeSeals_0 rfl ?_
  refine V_bipush (v := 10) dM_envelopeSeals_1 (by decide) ?_
  refine V_callV (as := [.int 10]) (rest := []) (bs' := 0) rfl dM_envelopeSeals_3 cmM_body cvM_body mlM_356 (Or.inl ⟨_, _, _, _, _, rfl, k76, by decide, rfl⟩) rfl rfl (m_body hM (by decide) hr 10) (by decide) (Nat.le_refl _) (by decide) (Nat.le_of_ble_eq_true rfl) ?_
  rintro _ _ s3 ⟨rfl, rfl, hM, hS1⟩ -
  refine V_non ?_
  have hS := hS.trans hS1
  have hr : gi (bodyL 1 10 M) 76 57 = nI 2 := gi_eq
  have hR := hM.1
  refine V_iload_n dM_envelopeSeals_6 rfl ?_
  refine V_iload_n dM_envelopeSeals_7 rfl ?_
  refine V_iadd dM_envelopeSeals_8 ?_
  exact V_iret dM_envelopeSeals_9 rfl rfl ⟨rfl, rfl, hM, hS⟩
theorem m_sealsAct_3_1 {l : Launch} {G : GT} {M σ : Hp} (hM : RM M σ) {e : Nat} {num v : Int32} (he : e < 8) (hn : num = nI e) (hK : gi M 78 e = nI 3) (hv : gi M 79 e = v) (hr : gi M 76 57 = nI 1) (x : Int32) : MM l G mM_sealsAct 2 0 0 [.ref 76, .int num, .int x] KA σ (PB (bodyL 1 10 M) σ (some (.int (x + num)))) := by
  have hR := hM.1
  have hM0 := hM
  have hS : Sc σ σ := Sc.rfl
  refine MM.of (loc := [(0, .ref 76), (1, .int num), (2, .int x)]) (by decide +kernel) rfl (Nat.le_of_ble_eq_true rfl) ?_
  refine V_aload_n dM_sealsAct_0 rfl ?_
  refine V_getR (a := 78) dM_sealsAct_1 flM_26 k76 rfl (r76_5 hR) ?_
  refine V_iload_n dM_sealsAct_4 rfl ?_
  refine V_ialdN (j := e) dM_sealsAct_5 k78 hn (by omega) (by decide) ?_
  refine V_topI (x' := 3) ((mR hM rfl).trans hK) ?_
  refine V_tsC (tgt := 89) 3 rfl dM_sealsAct_6 (by decide) (by decide) rfl rfl ?_
  refine V_aload_n dM_sealsAct_89 rfl ?_
  refine V_iload_n dM_sealsAct_90 rfl ?_
  refine V_iload_n dM_sealsAct_91 rfl ?_
  refine V_callV (as := [.int num, .int x]) (rest := []) (bs' := 0) rfl dM_sealsAct_92 cmM_envelopeSeals cvM_envelopeSeals mlM_359 (Or.inl ⟨_, _, _, _, _, rfl, k76, by decide, rfl⟩) rfl rfl (m_envelopeSeals_3_1 hM he hn hK hv hr x) (by decide) (Nat.le_refl _) (by decide) (Nat.le_of_ble_eq_true rfl) ?_
  rintro _ _ s92 ⟨rfl, rfl, hM, hS1⟩ -
  refine V_one ?_
  have hS := hS.trans hS1
  have hr : gi (bodyL 1 10 M) 76 57 = nI 2 := gi_eq
  have hR := hM.1
  exact V_iret dM_sealsAct_95 rfl rfl ⟨rfl, rfl, hM, hS⟩
theorem m_envelopePays_3_0 {l : Launch} {G : GT} {M σ : Hp} (hM : RM M σ) {e : Nat} {num v : Int32} (he : e < 8) (hn : num = nI e) (hK : gi M 78 e = nI 3) (hv : gi M 79 e = v) (hr : gi M 76 57 = nI 0) (x : Int32) : MM l G mM_envelopePays 3 0 0 [.ref 76, .int num, .int x] KA σ (PB (bodyL 1 10 (bodyL 0 11 M)) σ (some (.int ((x + num) - v)))) := by
  have hR := hM.1
  have hM0 := hM
  have hS : Sc σ σ := Sc.rfl
  refine MM.of (loc := [(0, .ref 76), (1, .int num), (2, .int x)]) (by decide +kernel) rfl (Nat.le_of_ble_eq_true rfl) ?_
  refine V_aload_n dM_envelopePays_0 rfl ?_
  refine V_bipush (v := 11) dM_envelopePays_1 (by decide) ?_
  refine V_callV (as := [.int 11]) (rest := []) (bs' := 0) rfl dM_envelopePays_3 cmM_body cvM_body mlM_356 (Or.inl ⟨_, _, _, _, _, rfl, k76, by decide, rfl⟩) rfl rfl (m_body hM (by decide) hr 11) (by decide) (Nat.le_refl _) (by decide) (Nat.le_of_ble_eq_true rfl) ?_
  rintro _ _ s3 ⟨rfl, rfl, hM, hS1⟩ -
  refine V_non ?_
  have hS := hS.trans hS1
  have hr : gi (bodyL 0 11 M) 76 57 = nI 1 := gi_eq
  have hR := hM.1
  refine V_aload_n dM_envelopePays_6 rfl ?_
  refine V_iload_n dM_envelopePays_7 rfl ?_
  refine V_iload_n dM_envelopePays_8 rfl ?_
  refine V_callV (as := [.int num, .int x]) (rest := []) (bs' := 0) rfl dM_envelopePays_9 cmM_sealsAct cvM_sealsAct mlM_362 (Or.inl ⟨_, _, _, _, _, rfl, k76, by decide, rfl⟩) rfl rfl (m_sealsAct_3_1 hM he hn hK hv hr x) (by decide) (Nat.le_refl _) (by decide) (Nat.le_of_ble_eq_true rfl) ?_
  rintro _ _ s9 ⟨rfl, rfl, hM, hS1⟩ -
  refine V_one ?_
  have hS := hS.trans hS1
  have hr : gi (bodyL 1 10 (bodyL 0 11 M)) 76 57 = nI 2 := gi_eq
  have hR := hM.1
  refine V_aload_n dM_envelopePays_12 rfl ?_
  refine V_getR (a := 79) dM_envelopePays_13 flM_29 k76 rfl (r76_6 hR) ?_
  refine V_iload_n dM_envelopePays_16 rfl ?_
  refine V_ialdN (j := e) dM_envelopePays_17 k79 hn (by omega) (by decide) ?_
  refine V_topI (x' := v) ((mR hM rfl).trans hv) ?_
  refine V_isub dM_envelopePays_18 ?_
  exact V_iret dM_envelopePays_19 rfl rfl ⟨rfl, rfl, hM, hS⟩
theorem m_paysAct_3_0 {l : Launch} {G : GT} {M σ : Hp} (hM : RM M σ) {e : Nat} {num v : Int32} (he : e < 8) (hn : num = nI e) (hK : gi M 78 e = nI 3) (hv : gi M 79 e = v) (hr : gi M 76 57 = nI 0) (x : Int32) : MM l G mM_paysAct 5 0 0 [.ref 76, .int num, .int x] KA σ (PB (bodyL 1 10 (bodyL 0 11 M)) σ (some (.int ((x + num) - v)))) := by
  have hR := hM.1
  have hM0 := hM
  have hS : Sc σ σ := Sc.rfl
  refine MM.of (loc := [(0, .ref 76), (1, .int num), (2, .int x)]) (by decide +kernel) rfl (Nat.le_of_ble_eq_true rfl) ?_
  refine V_aload_n dM_paysAct_0 rfl ?_
  refine V_getR (a := 78) dM_paysAct_1 flM_26 k76 rfl (r76_5 hR) ?_
  refine V_iload_n dM_paysAct_4 rfl ?_
  refine V_ialdN (j := e) dM_paysAct_5 k78 hn (by omega) (by decide) ?_
  refine V_topI (x' := 3) ((mR hM rfl).trans hK) ?_
  refine V_lsw (tgt := 84) dM_paysAct_6 (by decide) rfl rfl ?_
  refine V_aload_n dM_paysAct_84 rfl ?_
  refine V_iload_n dM_paysAct_85 rfl ?_
  refine V_iload_n dM_paysAct_86 rfl ?_
  refine V_callV (as := [.int num, .int x]) (rest := []) (bs' := 0) rfl dM_paysAct_87 cmM_envelopePays cvM_envelopePays mlM_365 (Or.inl ⟨_, _, _, _, _, rfl, k76, by decide, rfl⟩) rfl rfl (m_envelopePays_3_0 hM he hn hK hv hr x) (by decide) (Nat.le_refl _) (by decide) (Nat.le_of_ble_eq_true rfl) ?_
  rintro _ _ s87 ⟨rfl, rfl, hM, hS1⟩ -
  refine V_one ?_
  have hS := hS.trans hS1
  have hr : gi (bodyL 1 10 (bodyL 0 11 M)) 76 57 = nI 2 := gi_eq
  have hR := hM.1
  exact V_iret dM_paysAct_90 rfl rfl ⟨rfl, rfl, hM, hS⟩
theorem m_envelopeSeals_3_3 {l : Launch} {G : GT} {M σ : Hp} (hM : RM M σ) {e : Nat} {num v : Int32} (he : e < 8) (hn : num = nI e) (hK : gi M 78 e = nI 3) (hv : gi M 79 e = v) (hr : gi M 76 57 = nI 3) (x : Int32) : MM l G mM_envelopeSeals 1 0 0 [.ref 76, .int num, .int x] KA σ (PB (bodyL 3 10 M) σ (some (.int (x + num)))) := by
  have hR := hM.1
  have hM0 := hM
  have hS : Sc σ σ := Sc.rfl
  refine MM.of (loc := [(0, .ref 76), (1, .int num), (2, .int x)]) (by decide +kernel) rfl (Nat.le_of_ble_eq_true rfl) ?_
  refine V_aload_n dM_envelopeSeals_0 rfl ?_
  refine V_bipush (v := 10) dM_envelopeSeals_1 (by decide) ?_
  refine V_callV (as := [.int 10]) (rest := []) (bs' := 0) rfl dM_envelopeSeals_3 cmM_body cvM_body mlM_356 (Or.inl ⟨_, _, _, _, _, rfl, k76, by decide, rfl⟩) rfl rfl (m_body hM (by decide) hr 10) (by decide) (Nat.le_refl _) (by decide) (Nat.le_of_ble_eq_true rfl) ?_
  rintro _ _ s3 ⟨rfl, rfl, hM, hS1⟩ -
  refine V_non ?_
  have hS := hS.trans hS1
  have hr : gi (bodyL 3 10 M) 76 57 = nI 4 := gi_eq
  have hR := hM.1
  refine V_iload_n dM_envelopeSeals_6 rfl ?_
  refine V_iload_n dM_envelopeSeals_7 rfl ?_
  refine V_iadd dM_envelopeSeals_8 ?_
  exact V_iret dM_envelopeSeals_9 rfl rfl ⟨rfl, rfl, hM, hS⟩
theorem m_sealsAct_3_3 {l : Launch} {G : GT} {M σ : Hp} (hM : RM M σ) {e : Nat} {num v : Int32} (he : e < 8) (hn : num = nI e) (hK : gi M 78 e = nI 3) (hv : gi M 79 e = v) (hr : gi M 76 57 = nI 3) (x : Int32) : MM l G mM_sealsAct 2 0 0 [.ref 76, .int num, .int x] KA σ (PB (bodyL 3 10 M) σ (some (.int (x + num)))) := by
  have hR := hM.1
  have hM0 := hM
  have hS : Sc σ σ := Sc.rfl
  refine MM.of (loc := [(0, .ref 76), (1, .int num), (2, .int x)]) (by decide +kernel) rfl (Nat.le_of_ble_eq_true rfl) ?_
  refine V_aload_n dM_sealsAct_0 rfl ?_
  refine V_getR (a := 78) dM_sealsAct_1 flM_26 k76 rfl (r76_5 hR) ?_
  refine V_iload_n dM_sealsAct_4 rfl ?_
  refine V_ialdN (j := e) dM_sealsAct_5 k78 hn (by omega) (by decide) ?_
  refine V_topI (x' := 3) ((mR hM rfl).trans hK) ?_
  refine V_tsC (tgt := 89) 3 rfl dM_sealsAct_6 (by decide) (by decide) rfl rfl ?_
  refine V_aload_n dM_sealsAct_89 rfl ?_
  refine V_iload_n dM_sealsAct_90 rfl ?_
  refine V_iload_n dM_sealsAct_91 rfl ?_
  refine V_callV (as := [.int num, .int x]) (rest := []) (bs' := 0) rfl dM_sealsAct_92 cmM_envelopeSeals cvM_envelopeSeals mlM_359 (Or.inl ⟨_, _, _, _, _, rfl, k76, by decide, rfl⟩) rfl rfl (m_envelopeSeals_3_3 hM he hn hK hv hr x) (by decide) (Nat.le_refl _) (by decide) (Nat.le_of_ble_eq_true rfl) ?_
  rintro _ _ s92 ⟨rfl, rfl, hM, hS1⟩ -
  refine V_one ?_
  have hS := hS.trans hS1
  have hr : gi (bodyL 3 10 M) 76 57 = nI 4 := gi_eq
  have hR := hM.1
  exact V_iret dM_sealsAct_95 rfl rfl ⟨rfl, rfl, hM, hS⟩
theorem m_envelopePays_3_2 {l : Launch} {G : GT} {M σ : Hp} (hM : RM M σ) {e : Nat} {num v : Int32} (he : e < 8) (hn : num = nI e) (hK : gi M 78 e = nI 3) (hv : gi M 79 e = v) (hr : gi M 76 57 = nI 2) (x : Int32) : MM l G mM_envelopePays 3 0 0 [.ref 76, .int num, .int x] KA σ (PB (bodyL 3 10 (bodyL 2 11 M)) σ (some (.int ((x + num) - v)))) := by
  have hR := hM.1
  have hM0 := hM
  have hS : Sc σ σ := Sc.rfl
  refine MM.of (loc := [(0, .ref 76), (1, .int num), (2, .int x)]) (by decide +kernel) rfl (Nat.le_of_ble_eq_true rfl) ?_
  refine V_aload_n dM_envelopePays_0 rfl ?_
  refine V_bipush (v := 11) dM_envelopePays_1 (by decide) ?_
  refine V_callV (as := [.int 11]) (rest := []) (bs' := 0) rfl dM_envelopePays_3 cmM_body cvM_body mlM_356 (Or.inl ⟨_, _, _, _, _, rfl, k76, by decide, rfl⟩) rfl rfl (m_body hM (by decide) hr 11) (by decide) (Nat.le_refl _) (by decide) (Nat.le_of_ble_eq_true rfl) ?_
  rintro _ _ s3 ⟨rfl, rfl, hM, hS1⟩ -
  refine V_non ?_
  have hS := hS.trans hS1
  have hr : gi (bodyL 2 11 M) 76 57 = nI 3 := gi_eq
  have hR := hM.1
  refine V_aload_n dM_envelopePays_6 rfl ?_
  refine V_iload_n dM_envelopePays_7 rfl ?_
  refine V_iload_n dM_envelopePays_8 rfl ?_
  refine V_callV (as := [.int num, .int x]) (rest := []) (bs' := 0) rfl dM_envelopePays_9 cmM_sealsAct cvM_sealsAct mlM_362 (Or.inl ⟨_, _, _, _, _, rfl, k76, by decide, rfl⟩) rfl rfl (m_sealsAct_3_3 hM he hn hK hv hr x) (by decide) (Nat.le_refl _) (by decide) (Nat.le_of_ble_eq_true rfl) ?_
  rintro _ _ s9 ⟨rfl, rfl, hM, hS1⟩ -
  refine V_one ?_
  have hS := hS.trans hS1
  have hr : gi (bodyL 3 10 (bodyL 2 11 M)) 76 57 = nI 4 := gi_eq
  have hR := hM.1
  refine V_aload_n dM_envelopePays_12 rfl ?_
  refine V_getR (a := 79) dM_envelopePays_13 flM_29 k76 rfl (r76_6 hR) ?_
  refine V_iload_n dM_envelopePays_16 rfl ?_
  refine V_ialdN (j := e) dM_envelopePays_17 k79 hn (by omega) (by decide) ?_
  refine V_topI (x' := v) ((mR hM rfl).trans hv) ?_
  refine V_isub dM_envelopePays_18 ?_
  exact V_iret dM_envelopePays_19 rfl rfl ⟨rfl, rfl, hM, hS⟩
theorem m_paysAct_3_2 {l : Launch} {G : GT} {M σ : Hp} (hM : RM M σ) {e : Nat} {num v : Int32} (he : e < 8) (hn : num = nI e) (hK : gi M 78 e = nI 3) (hv : gi M 79 e = v) (hr : gi M 76 57 = nI 2) (x : Int32) : MM l G mM_paysAct 5 0 0 [.ref 76, .int num, .int x] KA σ (PB (bodyL 3 10 (bodyL 2 11 M)) σ (some (.int ((x + num) - v)))) := by
  have hR := hM.1
  have hM0 := hM
  have hS : Sc σ σ := Sc.rfl
  refine MM.of (loc := [(0, .ref 76), (1, .int num), (2, .int x)]) (by decide +kernel) rfl (Nat.le_of_ble_eq_true rfl) ?_
  refine V_aload_n dM_paysAct_0 rfl ?_
  refine V_getR (a := 78) dM_paysAct_1 flM_26 k76 rfl (r76_5 hR) ?_
  refine V_iload_n dM_paysAct_4 rfl ?_
  refine V_ialdN (j := e) dM_paysAct_5 k78 hn (by omega) (by decide) ?_
  refine V_topI (x' := 3) ((mR hM rfl).trans hK) ?_
  refine V_lsw (tgt := 84) dM_paysAct_6 (by decide) rfl rfl ?_
  refine V_aload_n dM_paysAct_84 rfl ?_
  refine V_iload_n dM_paysAct_85 rfl ?_
  refine V_iload_n dM_paysAct_86 rfl ?_
  refine V_callV (as := [.int num, .int x]) (rest := []) (bs' := 0) rfl dM_paysAct_87 cmM_envelopePays cvM_envelopePays mlM_365 (Or.inl ⟨_, _, _, _, _, rfl, k76, by decide, rfl⟩) rfl rfl (m_envelopePays_3_2 hM he hn hK hv hr x) (by decide) (Nat.le_refl _) (by decide) (Nat.le_of_ble_eq_true rfl) ?_
  rintro _ _ s87 ⟨rfl, rfl, hM, hS1⟩ -
  refine V_one ?_
  have hS := hS.trans hS1
  have hr : gi (bodyL 3 10 (bodyL 2 11 M)) 76 57 = nI 4 := gi_eq
  have hR := hM.1
  exact V_iret dM_paysAct_90 rfl rfl ⟨rfl, rfl, hM, hS⟩
theorem m_envelopeTells_3_1 {l : Launch} {G : GT} {M σ : Hp} (hM : RM M σ) {e : Nat} {num v : Int32} (he : e < 8) (hn : num = nI e) (hK : gi M 78 e = nI 3) (hv : gi M 79 e = v) (hr : gi M 76 57 = nI 1) (x : Int32) : MM l G mM_envelopeTells 6 0 0 [.ref 76, .int num, .int x] KA σ (PB (bodyL 3 10 (bodyL 2 11 (bodyL 1 12 M))) σ (some (.int (((x + num) - v) * 2)))) := by
  have hR := hM.1
  have hM0 := hM
  have hS : Sc σ σ := Sc.rfl
  refine MM.of (loc := [(0, .ref 76), (1, .int num), (2, .int x)]) (by decide +kernel) rfl (Nat.le_of_ble_eq_true rfl) ?_
  refine V_aload_n dM_envelopeTells_0 rfl ?_
  refine V_bipush (v := 12) dM_envelopeTells_1 (by decide) ?_
  refine V_callV (as := [.int 12]) (rest := []) (bs' := 0) rfl dM_envelopeTells_3 cmM_body cvM_body mlM_356 (Or.inl ⟨_, _, _, _, _, rfl, k76, by decide, rfl⟩) rfl rfl (m_body hM (by decide) hr 12) (by decide) (Nat.le_refl _) (by decide) (Nat.le_of_ble_eq_true rfl) ?_
  rintro _ _ s3 ⟨rfl, rfl, hM, hS1⟩ -
  refine V_non ?_
  have hS := hS.trans hS1
  have hr : gi (bodyL 1 12 M) 76 57 = nI 2 := gi_eq
  have hR := hM.1
  refine V_aload_n dM_envelopeTells_6 rfl ?_
  refine V_iload_n dM_envelopeTells_7 rfl ?_
  refine V_iload_n dM_envelopeTells_8 rfl ?_
  refine V_callV (as := [.int num, .int x]) (rest := []) (bs' := 0) rfl dM_envelopeTells_9 cmM_paysAct cvM_paysAct mlM_371 (Or.inl ⟨_, _, _, _, _, rfl, k76, by decide, rfl⟩) rfl rfl (m_paysAct_3_2 hM he hn hK hv hr x) (by decide) (Nat.le_refl _) (by decide) (Nat.le_of_ble_eq_true rfl) ?_
  rintro _ _ s9 ⟨rfl, rfl, hM, hS1⟩ -
  refine V_one ?_
  have hS := hS.trans hS1
  have hr : gi (bodyL 3 10 (bodyL 2 11 (bodyL 1 12 M))) 76 57 = nI 4 := gi_eq
  have hR := hM.1
  refine V_iconst (v := 2) dM_envelopeTells_12 (by decide) ?_
  refine V_imul dM_envelopeTells_13 ?_
  exact V_iret dM_envelopeTells_14 rfl rfl ⟨rfl, rfl, hM, hS⟩
theorem m_envelopeSeals_3_5 {l : Launch} {G : GT} {M σ : Hp} (hM : RM M σ) {e : Nat} {num v : Int32} (he : e < 8) (hn : num = nI e) (hK : gi M 78 e = nI 3) (hv : gi M 79 e = v) (hr : gi M 76 57 = nI 5) (x : Int32) : MM l G mM_envelopeSeals 1 0 0 [.ref 76, .int num, .int x] KA σ (PB (bodyL 5 10 M) σ (some (.int (x + num)))) := by
  have hR := hM.1
  have hM0 := hM
  have hS : Sc σ σ := Sc.rfl
  refine MM.of (loc := [(0, .ref 76), (1, .int num), (2, .int x)]) (by decide +kernel) rfl (Nat.le_of_ble_eq_true rfl) ?_
  refine V_aload_n dM_envelopeSeals_0 rfl ?_
  refine V_bipush (v := 10) dM_envelopeSeals_1 (by decide) ?_
  refine V_callV (as := [.int 10]) (rest := []) (bs' := 0) rfl dM_envelopeSeals_3 cmM_body cvM_body mlM_356 (Or.inl ⟨_, _, _, _, _, rfl, k76, by decide, rfl⟩) rfl rfl (m_body hM (by decide) hr 10) (by decide) (Nat.le_refl _) (by decide) (Nat.le_of_ble_eq_true rfl) ?_
  rintro _ _ s3 ⟨rfl, rfl, hM, hS1⟩ -
  refine V_non ?_
  have hS := hS.trans hS1
  have hr : gi (bodyL 5 10 M) 76 57 = nI 6 := gi_eq
  have hR := hM.1
  refine V_iload_n dM_envelopeSeals_6 rfl ?_
  refine V_iload_n dM_envelopeSeals_7 rfl ?_
  refine V_iadd dM_envelopeSeals_8 ?_
  exact V_iret dM_envelopeSeals_9 rfl rfl ⟨rfl, rfl, hM, hS⟩
theorem m_sealsAct_3_5 {l : Launch} {G : GT} {M σ : Hp} (hM : RM M σ) {e : Nat} {num v : Int32} (he : e < 8) (hn : num = nI e) (hK : gi M 78 e = nI 3) (hv : gi M 79 e = v) (hr : gi M 76 57 = nI 5) (x : Int32) : MM l G mM_sealsAct 2 0 0 [.ref 76, .int num, .int x] KA σ (PB (bodyL 5 10 M) σ (some (.int (x + num)))) := by
  have hR := hM.1
  have hM0 := hM
  have hS : Sc σ σ := Sc.rfl
  refine MM.of (loc := [(0, .ref 76), (1, .int num), (2, .int x)]) (by decide +kernel) rfl (Nat.le_of_ble_eq_true rfl) ?_
  refine V_aload_n dM_sealsAct_0 rfl ?_
  refine V_getR (a := 78) dM_sealsAct_1 flM_26 k76 rfl (r76_5 hR) ?_
  refine V_iload_n dM_sealsAct_4 rfl ?_
  refine V_ialdN (j := e) dM_sealsAct_5 k78 hn (by omega) (by decide) ?_
  refine V_topI (x' := 3) ((mR hM rfl).trans hK) ?_
  refine V_tsC (tgt := 89) 3 rfl dM_sealsAct_6 (by decide) (by decide) rfl rfl ?_
  refine V_aload_n dM_sealsAct_89 rfl ?_
  refine V_iload_n dM_sealsAct_90 rfl ?_
  refine V_iload_n dM_sealsAct_91 rfl ?_
  refine V_callV (as := [.int num, .int x]) (rest := []) (bs' := 0) rfl dM_sealsAct_92 cmM_envelopeSeals cvM_envelopeSeals mlM_359 (Or.inl ⟨_, _, _, _, _, rfl, k76, by decide, rfl⟩) rfl rfl (m_envelopeSeals_3_5 hM he hn hK hv hr x) (by decide) (Nat.le_refl _) (by decide) (Nat.le_of_ble_eq_true rfl) ?_
  rintro _ _ s92 ⟨rfl, rfl, hM, hS1⟩ -
  refine V_one ?_
  have hS := hS.trans hS1
  have hr : gi (bodyL 5 10 M) 76 57 = nI 6 := gi_eq
  have hR := hM.1
  exact V_iret dM_sealsAct_95 rfl rfl ⟨rfl, rfl, hM, hS⟩
theorem m_envelopePays_3_4 {l : Launch} {G : GT} {M σ : Hp} (hM : RM M σ) {e : Nat} {num v : Int32} (he : e < 8) (hn : num = nI e) (hK : gi M 78 e = nI 3) (hv : gi M 79 e = v) (hr : gi M 76 57 = nI 4) (x : Int32) : MM l G mM_envelopePays 3 0 0 [.ref 76, .int num, .int x] KA σ (PB (bodyL 5 10 (bodyL 4 11 M)) σ (some (.int ((x + num) - v)))) := by
  have hR := hM.1
  have hM0 := hM
  have hS : Sc σ σ := Sc.rfl
  refine MM.of (loc := [(0, .ref 76), (1, .int num), (2, .int x)]) (by decide +kernel) rfl (Nat.le_of_ble_eq_true rfl) ?_
  refine V_aload_n dM_envelopePays_0 rfl ?_
  refine V_bipush (v := 11) dM_envelopePays_1 (by decide) ?_
  refine V_callV (as := [.int 11]) (rest := []) (bs' := 0) rfl dM_envelopePays_3 cmM_body cvM_body mlM_356 (Or.inl ⟨_, _, _, _, _, rfl, k76, by decide, rfl⟩) rfl rfl (m_body hM (by decide) hr 11) (by decide) (Nat.le_refl _) (by decide) (Nat.le_of_ble_eq_true rfl) ?_
  rintro _ _ s3 ⟨rfl, rfl, hM, hS1⟩ -
  refine V_non ?_
  have hS := hS.trans hS1
  have hr : gi (bodyL 4 11 M) 76 57 = nI 5 := gi_eq
  have hR := hM.1
  refine V_aload_n dM_envelopePays_6 rfl ?_
  refine V_iload_n dM_envelopePays_7 rfl ?_
  refine V_iload_n dM_envelopePays_8 rfl ?_
  refine V_callV (as := [.int num, .int x]) (rest := []) (bs' := 0) rfl dM_envelopePays_9 cmM_sealsAct cvM_sealsAct mlM_362 (Or.inl ⟨_, _, _, _, _, rfl, k76, by decide, rfl⟩) rfl rfl (m_sealsAct_3_5 hM he hn hK hv hr x) (by decide) (Nat.le_refl _) (by decide) (Nat.le_of_ble_eq_true rfl) ?_
  rintro _ _ s9 ⟨rfl, rfl, hM, hS1⟩ -
  refine V_one ?_
  have hS := hS.trans hS1
  have hr : gi (bodyL 5 10 (bodyL 4 11 M)) 76 57 = nI 6 := gi_eq
  have hR := hM.1
  refine V_aload_n dM_envelopePays_12 rfl ?_
  refine V_getR (a := 79) dM_envelopePays_13 flM_29 k76 rfl (r76_6 hR) ?_
  refine V_iload_n dM_envelopePays_16 rfl ?_
  refine V_ialdN (j := e) dM_envelopePays_17 k79 hn (by omega) (by decide) ?_
  refine V_topI (x' := v) ((mR hM rfl).trans hv) ?_
  refine V_isub dM_envelopePays_18 ?_
  exact V_iret dM_envelopePays_19 rfl rfl ⟨rfl, rfl, hM, hS⟩
theorem m_paysAct_3_4 {l : Launch} {G : GT} {M σ : Hp} (hM : RM M σ) {e : Nat} {num v : Int32} (he : e < 8) (hn : num = nI e) (hK : gi M 78 e = nI 3) (hv : gi M 79 e = v) (hr : gi M 76 57 = nI 4) (x : Int32) : MM l G mM_paysAct 5 0 0 [.ref 76, .int num, .int x] KA σ (PB (bodyL 5 10 (bodyL 4 11 M)) σ (some (.int ((x + num) - v)))) := by
  have hR := hM.1
  have hM0 := hM
  have hS : Sc σ σ := Sc.rfl
  refine MM.of (loc := [(0, .ref 76), (1, .int num), (2, .int x)]) (by decide +kernel) rfl (Nat.le_of_ble_eq_true rfl) ?_
  refine V_aload_n dM_paysAct_0 rfl ?_
  refine V_getR (a := 78) dM_paysAct_1 flM_26 k76 rfl (r76_5 hR) ?_
  refine V_iload_n dM_paysAct_4 rfl ?_
  refine V_ialdN (j := e) dM_paysAct_5 k78 hn (by omega) (by decide) ?_
  refine V_topI (x' := 3) ((mR hM rfl).trans hK) ?_
  refine V_lsw (tgt := 84) dM_paysAct_6 (by decide) rfl rfl ?_
  refine V_aload_n dM_paysAct_84 rfl ?_
  refine V_iload_n dM_paysAct_85 rfl ?_
  refine V_iload_n dM_paysAct_86 rfl ?_
  refine V_callV (as := [.int num, .int x]) (rest := []) (bs' := 0) rfl dM_paysAct_87 cmM_envelopePays cvM_envelopePays mlM_365 (Or.inl ⟨_, _, _, _, _, rfl, k76, by decide, rfl⟩) rfl rfl (m_envelopePays_3_4 hM he hn hK hv hr x) (by decide) (Nat.le_refl _) (by decide) (Nat.le_of_ble_eq_true rfl) ?_
  rintro _ _ s87 ⟨rfl, rfl, hM, hS1⟩ -
  refine V_one ?_
  have hS := hS.trans hS1
  have hr : gi (bodyL 5 10 (bodyL 4 11 M)) 76 57 = nI 6 := gi_eq
  have hR := hM.1
  exact V_iret dM_paysAct_90 rfl rfl ⟨rfl, rfl, hM, hS⟩
theorem m_tellsAct_3_0 {l : Launch} {G : GT} {M σ : Hp} (hM : RM M σ) {e : Nat} {num v : Int32} (he : e < 8) (hn : num = nI e) (hK : gi M 78 e = nI 3) (hv : gi M 79 e = v) (hr : gi M 76 57 = nI 0) (x : Int32) : MM l G mM_tellsAct 7 0 0 [.ref 76, .int num, .int x] KA σ (PB (bodyL 5 10 (bodyL 4 11 (bodyL 3 10 (bodyL 2 11 (bodyL 1 12 (bodyL 0 40 M)))))) σ (some (.int ((((x + num) - v) * 2) + ((1 + num) - v))))) := by
  have hR := hM.1
  have hM0 := hM
  have hS : Sc σ σ := Sc.rfl
  refine MM.of (loc := [(0, .ref 76), (1, .int num), (2, .int x)]) (by decide +kernel) rfl (Nat.le_of_ble_eq_true rfl) ?_
  refine V_aload_n dM_tellsAct_0 rfl ?_
  refine V_getR (a := 78) dM_tellsAct_1 flM_26 k76 rfl (r76_5 hR) ?_
  refine V_iload_n dM_tellsAct_4 rfl ?_
  refine V_ialdN (j := e) dM_tellsAct_5 k78 hn (by omega) (by decide) ?_
  refine V_topI (x' := 3) ((mR hM rfl).trans hK) ?_
  refine V_tsC (tgt := 36) 3 rfl dM_tellsAct_6 (by decide) (by decide) rfl rfl ?_
  refine V_aload_n dM_tellsAct_36 rfl ?_
  refine V_bipush (v := 40) dM_tellsAct_37 (by decide) ?_
  refine V_callV (as := [.int 40]) (rest := []) (bs' := 0) rfl dM_tellsAct_39 cmM_body cvM_body mlM_356 (Or.inl ⟨_, _, _, _, _, rfl, k76, by decide, rfl⟩) rfl rfl (m_body hM (by decide) hr 40) (by decide) (Nat.le_refl _) (by decide) (Nat.le_of_ble_eq_true rfl) ?_
  rintro _ _ s39 ⟨rfl, rfl, hM, hS1⟩ -
  refine V_non ?_
  have hS := hS.trans hS1
  have hr : gi (bodyL 0 40 M) 76 57 = nI 1 := gi_eq
  have hR := hM.1
  refine V_aload_n dM_tellsAct_42 rfl ?_
  refine V_iload_n dM_tellsAct_43 rfl ?_
  refine V_iload_n dM_tellsAct_44 rfl ?_
  refine V_callV (as := [.int num, .int x]) (rest := []) (bs' := 0) rfl dM_tellsAct_45 cmM_envelopeTells cvM_envelopeTells mlM_374 (Or.inl ⟨_, _, _, _, _, rfl, k76, by decide, rfl⟩) rfl rfl (m_envelopeTells_3_1 hM he hn hK hv hr x) (by decide) (Nat.le_refl _) (by decide) (Nat.le_of_ble_eq_true rfl) ?_
  rintro _ _ s45 ⟨rfl, rfl, hM, hS1⟩ -
  refine V_one ?_
  have hS := hS.trans hS1
  have hr : gi (bodyL 3 10 (bodyL 2 11 (bodyL 1 12 (bodyL 0 40 M)))) 76 57 = nI 4 := gi_eq
  have hR := hM.1
  refine V_istore_n (loc' := [(3, .int (((x + num) - v) * 2)), (0, .ref 76), (1, .int num), (2, .int x)]) dM_tellsAct_48 (by decide) rfl ?_
  refine V_iload_n dM_tellsAct_49 rfl ?_
  refine V_aload_n dM_tellsAct_50 rfl ?_
  refine V_iload_n dM_tellsAct_51 rfl ?_
  refine V_iconst (v := 1) dM_tellsAct_52 (by decide) ?_
  refine V_callV (as := [.int num, .int 1]) (rest := [.int (((x + num) - v) * 2)]) (bs' := 0) rfl dM_tellsAct_53 cmM_paysAct cvM_paysAct mlM_371 (Or.inl ⟨_, _, _, _, _, rfl, k76, by decide, rfl⟩) rfl rfl (m_paysAct_3_4 hM he hn hK hv hr 1) (by decide) (Nat.le_refl _) (by decide) (Nat.le_of_ble_eq_true rfl) ?_
  rintro _ _ s53 ⟨rfl, rfl, hM, hS1⟩ -
  refine V_one ?_
  have hS := hS.trans hS1
  have hr : gi (bodyL 5 10 (bodyL 4 11 (bodyL 3 10 (bodyL 2 11 (bodyL 1 12 (bodyL 0 40 M)))))) 76 57 = nI 6 := gi_eq
  have hR := hM.1
  refine V_iadd dM_tellsAct_56 ?_
  exact V_iret dM_tellsAct_57 rfl rfl ⟨rfl, rfl, hM, hS⟩
theorem m_envelopeSeals_4_1 {l : Launch} {G : GT} {M σ : Hp} (hM : RM M σ) {e : Nat} {num v : Int32} (he : e < 8) (hn : num = nI e) (hK : gi M 78 e = nI 4) (hv : gi M 79 e = v) (hr : gi M 76 57 = nI 1) (x : Int32) : MM l G mM_envelopeSeals 1 0 0 [.ref 76, .int num, .int x] KA σ (PB (bodyL 1 10 M) σ (some (.int (x + num)))) := by
  have hR := hM.1
  have hM0 := hM
  have hS : Sc σ σ := Sc.rfl
  refine MM.of (loc := [(0, .ref 76), (1, .int num), (2, .int x)]) (by decide +kernel) rfl (Nat.le_of_ble_eq_true rfl) ?_
  refine V_aload_n dM_envelopeSeals_0 rfl ?_
  refine V_bipush (v := 10) dM_envelopeSeals_1 (by decide) ?_
  refine V_callV (as := [.int 10]) (rest := []) (bs' := 0) rfl dM_envelopeSeals_3 cmM_body cvM_body mlM_356 (Or.inl ⟨_, _, _, _, _, rfl, k76, by decide, rfl⟩) rfl rfl (m_body hM (by decide) hr 10) (by decide) (Nat.le_refl _) (by decide) (Nat.le_of_ble_eq_true rfl) ?_
  rintro _ _ s3 ⟨rfl, rfl, hM, hS1⟩ -
  refine V_non ?_
  have hS := hS.trans hS1
  have hr : gi (bodyL 1 10 M) 76 57 = nI 2 := gi_eq
  have hR := hM.1
  refine V_iload_n dM_envelopeSeals_6 rfl ?_
  refine V_iload_n dM_envelopeSeals_7 rfl ?_
  refine V_iadd dM_envelopeSeals_8 ?_
  exact V_iret dM_envelopeSeals_9 rfl rfl ⟨rfl, rfl, hM, hS⟩
theorem m_sealsAct_4_0 {l : Launch} {G : GT} {M σ : Hp} (hM : RM M σ) {e : Nat} {num v : Int32} (he : e < 8) (hn : num = nI e) (hK : gi M 78 e = nI 4) (hv : gi M 79 e = v) (hr : gi M 76 57 = nI 0) (x : Int32) : MM l G mM_sealsAct 2 0 0 [.ref 76, .int num, .int x] KA σ (PB (bodyL 1 10 (bodyL 0 50 M)) σ (some (.int (-(x + num))))) := by
  have hR := hM.1
  have hM0 := hM
  have hS : Sc σ σ := Sc.rfl
  refine MM.of (loc := [(0, .ref 76), (1, .int num), (2, .int x)]) (by decide +kernel) rfl (Nat.le_of_ble_eq_true rfl) ?_
  refine V_aload_n dM_sealsAct_0 rfl ?_
  refine V_getR (a := 78) dM_sealsAct_1 flM_26 k76 rfl (r76_5 hR) ?_
  refine V_iload_n dM_sealsAct_4 rfl ?_
  refine V_ialdN (j := e) dM_sealsAct_5 k78 hn (by omega) (by decide) ?_
  refine V_topI (x' := 4) ((mR hM rfl).trans hK) ?_
  refine V_tsC (tgt := 55) 4 rfl dM_sealsAct_6 (by decide) (by decide) rfl rfl ?_
  refine V_aload_n dM_sealsAct_55 rfl ?_
  refine V_bipush (v := 50) dM_sealsAct_56 (by decide) ?_
  refine V_callV (as := [.int 50]) (rest := []) (bs' := 0) rfl dM_sealsAct_58 cmM_body cvM_body mlM_356 (Or.inl ⟨_, _, _, _, _, rfl, k76, by decide, rfl⟩) rfl rfl (m_body hM (by decide) hr 50) (by decide) (Nat.le_refl _) (by decide) (Nat.le_of_ble_eq_true rfl) ?_
  rintro _ _ s58 ⟨rfl, rfl, hM, hS1⟩ -
  refine V_non ?_
  have hS := hS.trans hS1
  have hr : gi (bodyL 0 50 M) 76 57 = nI 1 := gi_eq
  have hR := hM.1
  refine V_aload_n dM_sealsAct_61 rfl ?_
  refine V_iload_n dM_sealsAct_62 rfl ?_
  refine V_iload_n dM_sealsAct_63 rfl ?_
  refine V_callV (as := [.int num, .int x]) (rest := []) (bs' := 0) rfl dM_sealsAct_64 cmM_envelopeSeals cvM_envelopeSeals mlM_359 (Or.inl ⟨_, _, _, _, _, rfl, k76, by decide, rfl⟩) rfl rfl (m_envelopeSeals_4_1 hM he hn hK hv hr x) (by decide) (Nat.le_refl _) (by decide) (Nat.le_of_ble_eq_true rfl) ?_
  rintro _ _ s64 ⟨rfl, rfl, hM, hS1⟩ -
  refine V_one ?_
  have hS := hS.trans hS1
  have hr : gi (bodyL 1 10 (bodyL 0 50 M)) 76 57 = nI 2 := gi_eq
  have hR := hM.1
  refine V_ineg dM_sealsAct_67 ?_
  exact V_iret dM_sealsAct_68 rfl rfl ⟨rfl, rfl, hM, hS⟩
theorem m_envelopeSeals_4_4 {l : Launch} {G : GT} {M σ : Hp} (hM : RM M σ) {e : Nat} {num v : Int32} (he : e < 8) (hn : num = nI e) (hK : gi M 78 e = nI 4) (hv : gi M 79 e = v) (hr : gi M 76 57 = nI 4) (x : Int32) : MM l G mM_envelopeSeals 1 0 0 [.ref 76, .int num, .int x] KA σ (PB (bodyL 4 10 M) σ (some (.int (x + num)))) := by
  have hR := hM.1
  have hM0 := hM
  have hS : Sc σ σ := Sc.rfl
  refine MM.of (loc := [(0, .ref 76), (1, .int num), (2, .int x)]) (by decide +kernel) rfl (Nat.le_of_ble_eq_true rfl) ?_
  refine V_aload_n dM_envelopeSeals_0 rfl ?_
  refine V_bipush (v := 10) dM_envelopeSeals_1 (by decide) ?_
  refine V_callV (as := [.int 10]) (rest := []) (bs' := 0) rfl dM_envelopeSeals_3 cmM_body cvM_body mlM_356 (Or.inl ⟨_, _, _, _, _, rfl, k76, by decide, rfl⟩) rfl rfl (m_body hM (by decide) hr 10) (by decide) (Nat.le_refl _) (by decide) (Nat.le_of_ble_eq_true rfl) ?_
  rintro _ _ s3 ⟨rfl, rfl, hM, hS1⟩ -
  refine V_non ?_
  have hS := hS.trans hS1
  have hr : gi (bodyL 4 10 M) 76 57 = nI 5 := gi_eq
  have hR := hM.1
  refine V_iload_n dM_envelopeSeals_6 rfl ?_
  refine V_iload_n dM_envelopeSeals_7 rfl ?_
  refine V_iadd dM_envelopeSeals_8 ?_
  exact V_iret dM_envelopeSeals_9 rfl rfl ⟨rfl, rfl, hM, hS⟩
theorem m_sealsAct_4_3 {l : Launch} {G : GT} {M σ : Hp} (hM : RM M σ) {e : Nat} {num v : Int32} (he : e < 8) (hn : num = nI e) (hK : gi M 78 e = nI 4) (hv : gi M 79 e = v) (hr : gi M 76 57 = nI 3) (x : Int32) : MM l G mM_sealsAct 2 0 0 [.ref 76, .int num, .int x] KA σ (PB (bodyL 4 10 (bodyL 3 50 M)) σ (some (.int (-(x + num))))) := by
  have hR := hM.1
  have hM0 := hM
  have hS : Sc σ σ := Sc.rfl
  refine MM.of (loc := [(0, .ref 76), (1, .int num), (2, .int x)]) (by decide +kernel) rfl (Nat.le_of_ble_eq_true rfl) ?_
  refine V_aload_n dM_sealsAct_0 rfl ?_
  refine V_getR (a := 78) dM_sealsAct_1 flM_26 k76 rfl (r76_5 hR) ?_
  refine V_iload_n dM_sealsAct_4 rfl ?_
  refine V_ialdN (j := e) dM_sealsAct_5 k78 hn (by omega) (by decide) ?_
  refine V_topI (x' := 4) ((mR hM rfl).trans hK) ?_
  refine V_tsC (tgt := 55) 4 rfl dM_sealsAct_6 (by decide) (by decide) rfl rfl ?_
  refine V_aload_n dM_sealsAct_55 rfl ?_
  refine V_bipush (v := 50) dM_sealsAct_56 (by decide) ?_
  refine V_callV (as := [.int 50]) (rest := []) (bs' := 0) rfl dM_sealsAct_58 cmM_body cvM_body mlM_356 (Or.inl ⟨_, _, _, _, _, rfl, k76, by decide, rfl⟩) rfl rfl (m_body hM (by decide) hr 50) (by decide) (Nat.le_refl _) (by decide) (Nat.le_of_ble_eq_true rfl) ?_
  rintro _ _ s58 ⟨rfl, rfl, hM, hS1⟩ -
  refine V_non ?_
  have hS := hS.trans hS1
  have hr : gi (bodyL 3 50 M) 76 57 = nI 4 := gi_eq
  have hR := hM.1
  refine V_aload_n dM_sealsAct_61 rfl ?_
  refine V_iload_n dM_sealsAct_62 rfl ?_
  refine V_iload_n dM_sealsAct_63 rfl ?_
  refine V_callV (as := [.int num, .int x]) (rest := []) (bs' := 0) rfl dM_sealsAct_64 cmM_envelopeSeals cvM_envelopeSeals mlM_359 (Or.inl ⟨_, _, _, _, _, rfl, k76, by decide, rfl⟩) rfl rfl (m_envelopeSeals_4_4 hM he hn hK hv hr x) (by decide) (Nat.le_refl _) (by decide) (Nat.le_of_ble_eq_true rfl) ?_
  rintro _ _ s64 ⟨rfl, rfl, hM, hS1⟩ -
  refine V_one ?_
  have hS := hS.trans hS1
  have hr : gi (bodyL 4 10 (bodyL 3 50 M)) 76 57 = nI 5 := gi_eq
  have hR := hM.1
  refine V_ineg dM_sealsAct_67 ?_
  exact V_iret dM_sealsAct_68 rfl rfl ⟨rfl, rfl, hM, hS⟩
theorem m_envelopePays_4_2 {l : Launch} {G : GT} {M σ : Hp} (hM : RM M σ) {e : Nat} {num v : Int32} (he : e < 8) (hn : num = nI e) (hK : gi M 78 e = nI 4) (hv : gi M 79 e = v) (hr : gi M 76 57 = nI 2) (x : Int32) : MM l G mM_envelopePays 3 0 0 [.ref 76, .int num, .int x] KA σ (PB (bodyL 4 10 (bodyL 3 50 (bodyL 2 11 M))) σ (some (.int ((-(x + num)) - v)))) := by
  have hR := hM.1
  have hM0 := hM
  have hS : Sc σ σ := Sc.rfl
  refine MM.of (loc := [(0, .ref 76), (1, .int num), (2, .int x)]) (by decide +kernel) rfl (Nat.le_of_ble_eq_true rfl) ?_
  refine V_aload_n dM_envelopePays_0 rfl ?_
  refine V_bipush (v := 11) dM_envelopePays_1 (by decide) ?_
  refine V_callV (as := [.int 11]) (rest := []) (bs' := 0) rfl dM_envelopePays_3 cmM_body cvM_body mlM_356 (Or.inl ⟨_, _, _, _, _, rfl, k76, by decide, rfl⟩) rfl rfl (m_body hM (by decide) hr 11) (by decide) (Nat.le_refl _) (by decide) (Nat.le_of_ble_eq_true rfl) ?_
  rintro _ _ s3 ⟨rfl, rfl, hM, hS1⟩ -
  refine V_non ?_
  have hS := hS.trans hS1
  have hr : gi (bodyL 2 11 M) 76 57 = nI 3 := gi_eq
  have hR := hM.1
  refine V_aload_n dM_envelopePays_6 rfl ?_
  refine V_iload_n dM_envelopePays_7 rfl ?_
  refine V_iload_n dM_envelopePays_8 rfl ?_
  refine V_callV (as := [.int num, .int x]) (rest := []) (bs' := 0) rfl dM_envelopePays_9 cmM_sealsAct cvM_sealsAct mlM_362 (Or.inl ⟨_, _, _, _, _, rfl, k76, by decide, rfl⟩) rfl rfl (m_sealsAct_4_3 hM he hn hK hv hr x) (by decide) (Nat.le_refl _) (by decide) (Nat.le_of_ble_eq_true rfl) ?_
  rintro _ _ s9 ⟨rfl, rfl, hM, hS1⟩ -
  refine V_one ?_
  have hS := hS.trans hS1
  have hr : gi (bodyL 4 10 (bodyL 3 50 (bodyL 2 11 M))) 76 57 = nI 5 := gi_eq
  have hR := hM.1
  refine V_aload_n dM_envelopePays_12 rfl ?_
  refine V_getR (a := 79) dM_envelopePays_13 flM_29 k76 rfl (r76_6 hR) ?_
  refine V_iload_n dM_envelopePays_16 rfl ?_
  refine V_ialdN (j := e) dM_envelopePays_17 k79 hn (by omega) (by decide) ?_
  refine V_topI (x' := v) ((mR hM rfl).trans hv) ?_
  refine V_isub dM_envelopePays_18 ?_
  exact V_iret dM_envelopePays_19 rfl rfl ⟨rfl, rfl, hM, hS⟩
theorem m_nearPays_4_1 {l : Launch} {G : GT} {M σ : Hp} (hM : RM M σ) {e : Nat} {num v : Int32} (he : e < 8) (hn : num = nI e) (hK : gi M 78 e = nI 4) (hv : gi M 79 e = v) (hr : gi M 76 57 = nI 1) (x : Int32) : MM l G mM_nearPays 4 0 0 [.ref 76, .int num, .int x] KA σ (PB (bodyL 4 10 (bodyL 3 50 (bodyL 2 11 (bodyL 1 20 M)))) σ (some (.int (((-(x + num)) - v) ^^^ 6)))) := by
  have hR := hM.1
  have hM0 := hM
  have hS : Sc σ σ := Sc.rfl
  refine MM.of (loc := [(0, .ref 76), (1, .int num), (2, .int x)]) (by decide +kernel) rfl (Nat.le_of_ble_eq_true rfl) ?_
  refine V_aload_n dM_nearPays_0 rfl ?_
  refine V_bipush (v := 20) dM_nearPays_1 (by decide) ?_
  refine V_callV (as := [.int 20]) (rest := []) (bs' := 0) rfl dM_nearPays_3 cmM_body cvM_body mlM_356 (Or.inl ⟨_, _, _, _, _, rfl, k76, by decide, rfl⟩) rfl rfl (m_body hM (by decide) hr 20) (by decide) (Nat.le_refl _) (by decide) (Nat.le_of_ble_eq_true rfl) ?_
  rintro _ _ s3 ⟨rfl, rfl, hM, hS1⟩ -
  refine V_non ?_
  have hS := hS.trans hS1
  have hr : gi (bodyL 1 20 M) 76 57 = nI 2 := gi_eq
  have hR := hM.1
  refine V_aload_n dM_nearPays_6 rfl ?_
  refine V_iload_n dM_nearPays_7 rfl ?_
  refine V_iload_n dM_nearPays_8 rfl ?_
  refine V_callV (as := [.int num, .int x]) (rest := []) (bs' := 0) rfl dM_nearPays_9 cmM_envelopePays cvM_envelopePays mlM_365 (Or.inl ⟨_, _, _, _, _, rfl, k76, by decide, rfl⟩) rfl rfl (m_envelopePays_4_2 hM he hn hK hv hr x) (by decide) (Nat.le_refl _) (by decide) (Nat.le_of_ble_eq_true rfl) ?_
  rintro _ _ s9 ⟨rfl, rfl, hM, hS1⟩ -
  refine V_one ?_
  have hS := hS.trans hS1
  have hr : gi (bodyL 4 10 (bodyL 3 50 (bodyL 2 11 (bodyL 1 20 M)))) 76 57 = nI 5 := gi_eq
  have hR := hM.1
  refine V_bipush (v := 6) dM_nearPays_12 (by decide) ?_
  refine V_ixor dM_nearPays_14 ?_
  exact V_iret dM_nearPays_15 rfl rfl ⟨rfl, rfl, hM, hS⟩
theorem m_paysAct_4_0 {l : Launch} {G : GT} {M σ : Hp} (hM : RM M σ) {e : Nat} {num v : Int32} (he : e < 8) (hn : num = nI e) (hK : gi M 78 e = nI 4) (hv : gi M 79 e = v) (hr : gi M 76 57 = nI 0) (x : Int32) : MM l G mM_paysAct 5 0 0 [.ref 76, .int num, .int x] KA σ (PB (bodyL 4 10 (bodyL 3 50 (bodyL 2 11 (bodyL 1 20 (bodyL 0 51 M))))) σ (some (.int (((-((x + 1) + num)) - v) ^^^ 6)))) := by
  have hR := hM.1
  have hM0 := hM
  have hS : Sc σ σ := Sc.rfl
  refine MM.of (loc := [(0, .ref 76), (1, .int num), (2, .int x)]) (by decide +kernel) rfl (Nat.le_of_ble_eq_true rfl) ?_
  refine V_aload_n dM_paysAct_0 rfl ?_
  refine V_getR (a := 78) dM_paysAct_1 flM_26 k76 rfl (r76_5 hR) ?_
  refine V_iload_n dM_paysAct_4 rfl ?_
  refine V_ialdN (j := e) dM_paysAct_5 k78 hn (by omega) (by decide) ?_
  refine V_topI (x' := 4) ((mR hM rfl).trans hK) ?_
  refine V_lsw (tgt := 47) dM_paysAct_6 (by decide) rfl rfl ?_
  refine V_aload_n dM_paysAct_47 rfl ?_
  refine V_bipush (v := 51) dM_paysAct_48 (by decide) ?_
  refine V_callV (as := [.int 51]) (rest := []) (bs' := 0) rfl dM_paysAct_50 cmM_body cvM_body mlM_356 (Or.inl ⟨_, _, _, _, _, rfl, k76, by decide, rfl⟩) rfl rfl (m_body hM (by decide) hr 51) (by decide) (Nat.le_refl _) (by decide) (Nat.le_of_ble_eq_true rfl) ?_
  rintro _ _ s50 ⟨rfl, rfl, hM, hS1⟩ -
  refine V_non ?_
  have hS := hS.trans hS1
  have hr : gi (bodyL 0 51 M) 76 57 = nI 1 := gi_eq
  have hR := hM.1
  refine V_aload_n dM_paysAct_53 rfl ?_
  refine V_iload_n dM_paysAct_54 rfl ?_
  refine V_iload_n dM_paysAct_55 rfl ?_
  refine V_iconst (v := 1) dM_paysAct_56 (by decide) ?_
  refine V_iadd dM_paysAct_57 ?_
  refine V_callV (as := [.int num, .int (x + 1)]) (rest := []) (bs' := 0) rfl dM_paysAct_58 cmM_nearPays cvM_nearPays mlM_368 (Or.inl ⟨_, _, _, _, _, rfl, k76, by decide, rfl⟩) rfl rfl (m_nearPays_4_1 hM he hn hK hv hr (x + 1)) (by decide) (Nat.le_refl _) (by decide) (Nat.le_of_ble_eq_true rfl) ?_
  rintro _ _ s58 ⟨rfl, rfl, hM, hS1⟩ -
  refine V_one ?_
  have hS := hS.trans hS1
  have hr : gi (bodyL 4 10 (bodyL 3 50 (bodyL 2 11 (bodyL 1 20 (bodyL 0 51 M))))) 76 57 = nI 5 := gi_eq
  have hR := hM.1
  exact V_iret dM_paysAct_61 rfl rfl ⟨rfl, rfl, hM, hS⟩
theorem m_envelopeSeals_4_5 {l : Launch} {G : GT} {M σ : Hp} (hM : RM M σ) {e : Nat} {num v : Int32} (he : e < 8) (hn : num = nI e) (hK : gi M 78 e = nI 4) (hv : gi M 79 e = v) (hr : gi M 76 57 = nI 5) (x : Int32) : MM l G mM_envelopeSeals 1 0 0 [.ref 76, .int num, .int x] KA σ (PB (bodyL 5 10 M) σ (some (.int (x + num)))) := by
  have hR := hM.1
  have hM0 := hM
  have hS : Sc σ σ := Sc.rfl
  refine MM.of (loc := [(0, .ref 76), (1, .int num), (2, .int x)]) (by decide +kernel) rfl (Nat.le_of_ble_eq_true rfl) ?_
  refine V_aload_n dM_envelopeSeals_0 rfl ?_
  refine V_bipush (v := 10) dM_envelopeSeals_1 (by decide) ?_
  refine V_callV (as := [.int 10]) (rest := []) (bs' := 0) rfl dM_envelopeSeals_3 cmM_body cvM_body mlM_356 (Or.inl ⟨_, _, _, _, _, rfl, k76, by decide, rfl⟩) rfl rfl (m_body hM (by decide) hr 10) (by decide) (Nat.le_refl _) (by decide) (Nat.le_of_ble_eq_true rfl) ?_
  rintro _ _ s3 ⟨rfl, rfl, hM, hS1⟩ -
  refine V_non ?_
  have hS := hS.trans hS1
  have hr : gi (bodyL 5 10 M) 76 57 = nI 6 := gi_eq
  have hR := hM.1
  refine V_iload_n dM_envelopeSeals_6 rfl ?_
  refine V_iload_n dM_envelopeSeals_7 rfl ?_
  refine V_iadd dM_envelopeSeals_8 ?_
  exact V_iret dM_envelopeSeals_9 rfl rfl ⟨rfl, rfl, hM, hS⟩
theorem m_sealsAct_4_4 {l : Launch} {G : GT} {M σ : Hp} (hM : RM M σ) {e : Nat} {num v : Int32} (he : e < 8) (hn : num = nI e) (hK : gi M 78 e = nI 4) (hv : gi M 79 e = v) (hr : gi M 76 57 = nI 4) (x : Int32) : MM l G mM_sealsAct 2 0 0 [.ref 76, .int num, .int x] KA σ (PB (bodyL 5 10 (bodyL 4 50 M)) σ (some (.int (-(x + num))))) := by
  have hR := hM.1
  have hM0 := hM
  have hS : Sc σ σ := Sc.rfl
  refine MM.of (loc := [(0, .ref 76), (1, .int num), (2, .int x)]) (by decide +kernel) rfl (Nat.le_of_ble_eq_true rfl) ?_
  refine V_aload_n dM_sealsAct_0 rfl ?_
  refine V_getR (a := 78) dM_sealsAct_1 flM_26 k76 rfl (r76_5 hR) ?_
  refine V_iload_n dM_sealsAct_4 rfl ?_
  refine V_ialdN (j := e) dM_sealsAct_5 k78 hn (by omega) (by decide) ?_
  refine V_topI (x' := 4) ((mR hM rfl).trans hK) ?_
  refine V_tsC (tgt := 55) 4 rfl dM_sealsAct_6 (by decide) (by decide) rfl rfl ?_
  refine V_aload_n dM_sealsAct_55 rfl ?_
  refine V_bipush (v := 50) dM_sealsAct_56 (by decide) ?_
  refine V_callV (as := [.int 50]) (rest := []) (bs' := 0) rfl dM_sealsAct_58 cmM_body cvM_body mlM_356 (Or.inl ⟨_, _, _, _, _, rfl, k76, by decide, rfl⟩) rfl rfl (m_body hM (by decide) hr 50) (by decide) (Nat.le_refl _) (by decide) (Nat.le_of_ble_eq_true rfl) ?_
  rintro _ _ s58 ⟨rfl, rfl, hM, hS1⟩ -
  refine V_non ?_
  have hS := hS.trans hS1
  have hr : gi (bodyL 4 50 M) 76 57 = nI 5 := gi_eq
  have hR := hM.1
  refine V_aload_n dM_sealsAct_61 rfl ?_
  refine V_iload_n dM_sealsAct_62 rfl ?_
  refine V_iload_n dM_sealsAct_63 rfl ?_
  refine V_callV (as := [.int num, .int x]) (rest := []) (bs' := 0) rfl dM_sealsAct_64 cmM_envelopeSeals cvM_envelopeSeals mlM_359 (Or.inl ⟨_, _, _, _, _, rfl, k76, by decide, rfl⟩) rfl rfl (m_envelopeSeals_4_5 hM he hn hK hv hr x) (by decide) (Nat.le_refl _) (by decide) (Nat.le_of_ble_eq_true rfl) ?_
  rintro _ _ s64 ⟨rfl, rfl, hM, hS1⟩ -
  refine V_one ?_
  have hS := hS.trans hS1
  have hr : gi (bodyL 5 10 (bodyL 4 50 M)) 76 57 = nI 6 := gi_eq
  have hR := hM.1
  refine V_ineg dM_sealsAct_67 ?_
  exact V_iret dM_sealsAct_68 rfl rfl ⟨rfl, rfl, hM, hS⟩
theorem m_envelopePays_4_3 {l : Launch} {G : GT} {M σ : Hp} (hM : RM M σ) {e : Nat} {num v : Int32} (he : e < 8) (hn : num = nI e) (hK : gi M 78 e = nI 4) (hv : gi M 79 e = v) (hr : gi M 76 57 = nI 3) (x : Int32) : MM l G mM_envelopePays 3 0 0 [.ref 76, .int num, .int x] KA σ (PB (bodyL 5 10 (bodyL 4 50 (bodyL 3 11 M))) σ (some (.int ((-(x + num)) - v)))) := by
  have hR := hM.1
  have hM0 := hM
  have hS : Sc σ σ := Sc.rfl
  refine MM.of (loc := [(0, .ref 76), (1, .int num), (2, .int x)]) (by decide +kernel) rfl (Nat.le_of_ble_eq_true rfl) ?_
  refine V_aload_n dM_envelopePays_0 rfl ?_
  refine V_bipush (v := 11) dM_envelopePays_1 (by decide) ?_
  refine V_callV (as := [.int 11]) (rest := []) (bs' := 0) rfl dM_envelopePays_3 cmM_body cvM_body mlM_356 (Or.inl ⟨_, _, _, _, _, rfl, k76, by decide, rfl⟩) rfl rfl (m_body hM (by decide) hr 11) (by decide) (Nat.le_refl _) (by decide) (Nat.le_of_ble_eq_true rfl) ?_
  rintro _ _ s3 ⟨rfl, rfl, hM, hS1⟩ -
  refine V_non ?_
  have hS := hS.trans hS1
  have hr : gi (bodyL 3 11 M) 76 57 = nI 4 := gi_eq
  have hR := hM.1
  refine V_aload_n dM_envelopePays_6 rfl ?_
  refine V_iload_n dM_envelopePays_7 rfl ?_
  refine V_iload_n dM_envelopePays_8 rfl ?_
  refine V_callV (as := [.int num, .int x]) (rest := []) (bs' := 0) rfl dM_envelopePays_9 cmM_sealsAct cvM_sealsAct mlM_362 (Or.inl ⟨_, _, _, _, _, rfl, k76, by decide, rfl⟩) rfl rfl (m_sealsAct_4_4 hM he hn hK hv hr x) (by decide) (Nat.le_refl _) (by decide) (Nat.le_of_ble_eq_true rfl) ?_
  rintro _ _ s9 ⟨rfl, rfl, hM, hS1⟩ -
  refine V_one ?_
  have hS := hS.trans hS1
  have hr : gi (bodyL 5 10 (bodyL 4 50 (bodyL 3 11 M))) 76 57 = nI 6 := gi_eq
  have hR := hM.1
  refine V_aload_n dM_envelopePays_12 rfl ?_
  refine V_getR (a := 79) dM_envelopePays_13 flM_29 k76 rfl (r76_6 hR) ?_
  refine V_iload_n dM_envelopePays_16 rfl ?_
  refine V_ialdN (j := e) dM_envelopePays_17 k79 hn (by omega) (by decide) ?_
  refine V_topI (x' := v) ((mR hM rfl).trans hv) ?_
  refine V_isub dM_envelopePays_18 ?_
  exact V_iret dM_envelopePays_19 rfl rfl ⟨rfl, rfl, hM, hS⟩
theorem m_nearPays_4_2 {l : Launch} {G : GT} {M σ : Hp} (hM : RM M σ) {e : Nat} {num v : Int32} (he : e < 8) (hn : num = nI e) (hK : gi M 78 e = nI 4) (hv : gi M 79 e = v) (hr : gi M 76 57 = nI 2) (x : Int32) : MM l G mM_nearPays 4 0 0 [.ref 76, .int num, .int x] KA σ (PB (bodyL 5 10 (bodyL 4 50 (bodyL 3 11 (bodyL 2 20 M)))) σ (some (.int (((-(x + num)) - v) ^^^ 6)))) := by
  have hR := hM.1
  have hM0 := hM
  have hS : Sc σ σ := Sc.rfl
  refine MM.of (loc := [(0, .ref 76), (1, .int num), (2, .int x)]) (by decide +kernel) rfl (Nat.le_of_ble_eq_true rfl) ?_
  refine V_aload_n dM_nearPays_0 rfl ?_
  refine V_bipush (v := 20) dM_nearPays_1 (by decide) ?_
  refine V_callV (as := [.int 20]) (rest := []) (bs' := 0) rfl dM_nearPays_3 cmM_body cvM_body mlM_356 (Or.inl ⟨_, _, _, _, _, rfl, k76, by decide, rfl⟩) rfl rfl (m_body hM (by decide) hr 20) (by decide) (Nat.le_refl _) (by decide) (Nat.le_of_ble_eq_true rfl) ?_
  rintro _ _ s3 ⟨rfl, rfl, hM, hS1⟩ -
  refine V_non ?_
  have hS := hS.trans hS1
  have hr : gi (bodyL 2 20 M) 76 57 = nI 3 := gi_eq
  have hR := hM.1
  refine V_aload_n dM_nearPays_6 rfl ?_
  refine V_iload_n dM_nearPays_7 rfl ?_
  refine V_iload_n dM_nearPays_8 rfl ?_
  refine V_callV (as := [.int num, .int x]) (rest := []) (bs' := 0) rfl dM_nearPays_9 cmM_envelopePays cvM_envelopePays mlM_365 (Or.inl ⟨_, _, _, _, _, rfl, k76, by decide, rfl⟩) rfl rfl (m_envelopePays_4_3 hM he hn hK hv hr x) (by decide) (Nat.le_refl _) (by decide) (Nat.le_of_ble_eq_true rfl) ?_
  rintro _ _ s9 ⟨rfl, rfl, hM, hS1⟩ -
  refine V_one ?_
  have hS := hS.trans hS1
  have hr : gi (bodyL 5 10 (bodyL 4 50 (bodyL 3 11 (bodyL 2 20 M)))) 76 57 = nI 6 := gi_eq
  have hR := hM.1
  refine V_bipush (v := 6) dM_nearPays_12 (by decide) ?_
  refine V_ixor dM_nearPays_14 ?_
  exact V_iret dM_nearPays_15 rfl rfl ⟨rfl, rfl, hM, hS⟩
theorem m_paysAct_4_1 {l : Launch} {G : GT} {M σ : Hp} (hM : RM M σ) {e : Nat} {num v : Int32} (he : e < 8) (hn : num = nI e) (hK : gi M 78 e = nI 4) (hv : gi M 79 e = v) (hr : gi M 76 57 = nI 1) (x : Int32) : MM l G mM_paysAct 5 0 0 [.ref 76, .int num, .int x] KA σ (PB (bodyL 5 10 (bodyL 4 50 (bodyL 3 11 (bodyL 2 20 (bodyL 1 51 M))))) σ (some (.int (((-((x + 1) + num)) - v) ^^^ 6)))) := by
  have hR := hM.1
  have hM0 := hM
  have hS : Sc σ σ := Sc.rfl
  refine MM.of (loc := [(0, .ref 76), (1, .int num), (2, .int x)]) (by decide +kernel) rfl (Nat.le_of_ble_eq_true rfl) ?_
  refine V_aload_n dM_paysAct_0 rfl ?_
  refine V_getR (a := 78) dM_paysAct_1 flM_26 k76 rfl (r76_5 hR) ?_
  refine V_iload_n dM_paysAct_4 rfl ?_
  refine V_ialdN (j := e) dM_paysAct_5 k78 hn (by omega) (by decide) ?_
  refine V_topI (x' := 4) ((mR hM rfl).trans hK) ?_
  refine V_lsw (tgt := 47) dM_paysAct_6 (by decide) rfl rfl ?_
  refine V_aload_n dM_paysAct_47 rfl ?_
  refine V_bipush (v := 51) dM_paysAct_48 (by decide) ?_
  refine V_callV (as := [.int 51]) (rest := []) (bs' := 0) rfl dM_paysAct_50 cmM_body cvM_body mlM_356 (Or.inl ⟨_, _, _, _, _, rfl, k76, by decide, rfl⟩) rfl rfl (m_body hM (by decide) hr 51) (by decide) (Nat.le_refl _) (by decide) (Nat.le_of_ble_eq_true rfl) ?_
  rintro _ _ s50 ⟨rfl, rfl, hM, hS1⟩ -
  refine V_non ?_
  have hS := hS.trans hS1
  have hr : gi (bodyL 1 51 M) 76 57 = nI 2 := gi_eq
  have hR := hM.1
  refine V_aload_n dM_paysAct_53 rfl ?_
  refine V_iload_n dM_paysAct_54 rfl ?_
  refine V_iload_n dM_paysAct_55 rfl ?_
  refine V_iconst (v := 1) dM_paysAct_56 (by decide) ?_
  refine V_iadd dM_paysAct_57 ?_
  refine V_callV (as := [.int num, .int (x + 1)]) (rest := []) (bs' := 0) rfl dM_paysAct_58 cmM_nearPays cvM_nearPays mlM_368 (Or.inl ⟨_, _, _, _, _, rfl, k76, by decide, rfl⟩) rfl rfl (m_nearPays_4_2 hM he hn hK hv hr (x + 1)) (by decide) (Nat.le_refl _) (by decide) (Nat.le_of_ble_eq_true rfl) ?_
  rintro _ _ s58 ⟨rfl, rfl, hM, hS1⟩ -
  refine V_one ?_
  have hS := hS.trans hS1
  have hr : gi (bodyL 5 10 (bodyL 4 50 (bodyL 3 11 (bodyL 2 20 (bodyL 1 51 M))))) 76 57 = nI 6 := gi_eq
  have hR := hM.1
  exact V_iret dM_paysAct_61 rfl rfl ⟨rfl, rfl, hM, hS⟩
theorem m_envelopeTells_4_0 {l : Launch} {G : GT} {M σ : Hp} (hM : RM M σ) {e : Nat} {num v : Int32} (he : e < 8) (hn : num = nI e) (hK : gi M 78 e = nI 4) (hv : gi M 79 e = v) (hr : gi M 76 57 = nI 0) (x : Int32) : MM l G mM_envelopeTells 6 0 0 [.ref 76, .int num, .int x] KA σ (PB (bodyL 5 10 (bodyL 4 50 (bodyL 3 11 (bodyL 2 20 (bodyL 1 51 (bodyL 0 12 M)))))) σ (some (.int ((((-((x + 1) + num)) - v) ^^^ 6) * 2)))) := by
  have hR := hM.1
  have hM0 := hM
  have hS : Sc σ σ := Sc.rfl
  refine MM.of (loc := [(0, .ref 76), (1, .int num), (2, .int x)]) (by decide +kernel) rfl (Nat.le_of_ble_eq_true rfl) ?_
  refine V_aload_n dM_envelopeTells_0 rfl ?_
  refine V_bipush (v := 12) dM_envelopeTells_1 (by decide) ?_
  refine V_callV (as := [.int 12]) (rest := []) (bs' := 0) rfl dM_envelopeTells_3 cmM_body cvM_body mlM_356 (Or.inl ⟨_, _, _, _, _, rfl, k76, by decide, rfl⟩) rfl rfl (m_body hM (by decide) hr 12) (by decide) (Nat.le_refl _) (by decide) (Nat.le_of_ble_eq_true rfl) ?_
  rintro _ _ s3 ⟨rfl, rfl, hM, hS1⟩ -
  refine V_non ?_
  have hS := hS.trans hS1
  have hr : gi (bodyL 0 12 M) 76 57 = nI 1 := gi_eq
  have hR := hM.1
  refine V_aload_n dM_envelopeTells_6 rfl ?_
  refine V_iload_n dM_envelopeTells_7 rfl ?_
  refine V_iload_n dM_envelopeTells_8 rfl ?_
  refine V_callV (as := [.int num, .int x]) (rest := []) (bs' := 0) rfl dM_envelopeTells_9 cmM_paysAct cvM_paysAct mlM_371 (Or.inl ⟨_, _, _, _, _, rfl, k76, by decide, rfl⟩) rfl rfl (m_paysAct_4_1 hM he hn hK hv hr x) (by decide) (Nat.le_refl _) (by decide) (Nat.le_of_ble_eq_true rfl) ?_
  rintro _ _ s9 ⟨rfl, rfl, hM, hS1⟩ -
  refine V_one ?_
  have hS := hS.trans hS1
  have hr : gi (bodyL 5 10 (bodyL 4 50 (bodyL 3 11 (bodyL 2 20 (bodyL 1 51 (bodyL 0 12 M)))))) 76 57 = nI 6 := gi_eq
  have hR := hM.1
  refine V_iconst (v := 2) dM_envelopeTells_12 (by decide) ?_
  refine V_imul dM_envelopeTells_13 ?_
  exact V_iret dM_envelopeTells_14 rfl rfl ⟨rfl, rfl, hM, hS⟩
theorem m_tellsAct_4_0 {l : Launch} {G : GT} {M σ : Hp} (hM : RM M σ) {e : Nat} {num v : Int32} (he : e < 8) (hn : num = nI e) (hK : gi M 78 e = nI 4) (hv : gi M 79 e = v) (hr : gi M 76 57 = nI 0) (x : Int32) : MM l G mM_tellsAct 7 0 0 [.ref 76, .int num, .int x] KA σ (PB (bodyL 5 10 (bodyL 4 50 (bodyL 3 11 (bodyL 2 20 (bodyL 1 51 (bodyL 0 12 M)))))) σ (some (.int ((((-((x + 1) + num)) - v) ^^^ 6) * 2)))) := by
  have hR := hM.1
  have hM0 := hM
  have hS : Sc σ σ := Sc.rfl
  refine MM.of (loc := [(0, .ref 76), (1, .int num), (2, .int x)]) (by decide +kernel) rfl (Nat.le_of_ble_eq_true rfl) ?_
  refine V_aload_n dM_tellsAct_0 rfl ?_
  refine V_getR (a := 78) dM_tellsAct_1 flM_26 k76 rfl (r76_5 hR) ?_
  refine V_iload_n dM_tellsAct_4 rfl ?_
  refine V_ialdN (j := e) dM_tellsAct_5 k78 hn (by omega) (by decide) ?_
  refine V_topI (x' := 4) ((mR hM rfl).trans hK) ?_
  refine V_tsC (tgt := 73) 4 rfl dM_tellsAct_6 (by decide) (by decide) rfl rfl ?_
  refine V_aload_n dM_tellsAct_73 rfl ?_
  refine V_iload_n dM_tellsAct_74 rfl ?_
  refine V_iload_n dM_tellsAct_75 rfl ?_
  refine V_callV (as := [.int num, .int x]) (rest := []) (bs' := 0) rfl dM_tellsAct_76 cmM_envelopeTells cvM_envelopeTells mlM_374 (Or.inl ⟨_, _, _, _, _, rfl, k76, by decide, rfl⟩) rfl rfl (m_envelopeTells_4_0 hM he hn hK hv hr x) (by decide) (Nat.le_refl _) (by decide) (Nat.le_of_ble_eq_true rfl) ?_
  rintro _ _ s76 ⟨rfl, rfl, hM, hS1⟩ -
  refine V_one ?_
  have hS := hS.trans hS1
  have hr : gi (bodyL 5 10 (bodyL 4 50 (bodyL 3 11 (bodyL 2 20 (bodyL 1 51 (bodyL 0 12 M)))))) 76 57 = nI 6 := gi_eq
  have hR := hM.1
  exact V_iret dM_tellsAct_79 rfl rfl ⟨rfl, rfl, hM, hS⟩
theorem m_envelopeSeals_5_1 {l : Launch} {G : GT} {M σ : Hp} (hM : RM M σ) {e : Nat} {num v : Int32} (he : e < 8) (hn : num = nI e) (hK : gi M 78 e = nI 5) (hv : gi M 79 e = v) (hr : gi M 76 57 = nI 1) (x : Int32) : MM l G mM_envelopeSeals 1 0 0 [.ref 76, .int num, .int x] KA σ (PB (bodyL 1 10 M) σ (some (.int (x + num)))) := by
  have hR := hM.1
  have hM0 := hM
  have hS : Sc σ σ := Sc.rfl
  refine MM.of (loc := [(0, .ref 76), (1, .int num), (2, .int x)]) (by decide +kernel) rfl (Nat.le_of_ble_eq_true rfl) ?_
  refine V_aload_n dM_envelopeSeals_0 rfl ?_
  refine V_bipush (v := 10) dM_envelopeSeals_1 (by decide) ?_
  refine V_callV (as := [.int 10]) (rest := []) (bs' := 0) rfl dM_envelopeSeals_3 cmM_body cvM_body mlM_356 (Or.inl ⟨_, _, _, _, _, rfl, k76, by decide, rfl⟩) rfl rfl (m_body hM (by decide) hr 10) (by decide) (Nat.le_refl _) (by decide) (Nat.le_of_ble_eq_true rfl) ?_
  rintro _ _ s3 ⟨rfl, rfl, hM, hS1⟩ -
  refine V_non ?_
  have hS := hS.trans hS1
  have hr : gi (bodyL 1 10 M) 76 57 = nI 2 := gi_eq
  have hR := hM.1
  refine V_iload_n dM_envelopeSeals_6 rfl ?_
  refine V_iload_n dM_envelopeSeals_7 rfl ?_
  refine V_iadd dM_envelopeSeals_8 ?_
  exact V_iret dM_envelopeSeals_9 rfl rfl ⟨rfl, rfl, hM, hS⟩
theorem m_sealsAct_5_0 {l : Launch} {G : GT} {M σ : Hp} (hM : RM M σ) {e : Nat} {num v : Int32} (he : e < 8) (hn : num = nI e) (hK : gi M 78 e = nI 5) (hv : gi M 79 e = v) (hr : gi M 76 57 = nI 0) (x : Int32) : MM l G mM_sealsAct 2 0 0 [.ref 76, .int num, .int x] KA σ (PB (bodyL 1 10 (bodyL 0 30 M)) σ (some (.int ((x * 3) + num)))) := by
  have hR := hM.1
  have hM0 := hM
  have hS : Sc σ σ := Sc.rfl
  refine MM.of (loc := [(0, .ref 76), (1, .int num), (2, .int x)]) (by decide +kernel) rfl (Nat.le_of_ble_eq_true rfl) ?_
  refine V_aload_n dM_sealsAct_0 rfl ?_
  refine V_getR (a := 78) dM_sealsAct_1 flM_26 k76 rfl (r76_5 hR) ?_
  refine V_iload_n dM_sealsAct_4 rfl ?_
  refine V_ialdN (j := e) dM_sealsAct_5 k78 hn (by omega) (by decide) ?_
  refine V_topI (x' := 5) ((mR hM rfl).trans hK) ?_
  refine V_tsC (tgt := 40) 5 rfl dM_sealsAct_6 (by decide) (by decide) rfl rfl ?_
  refine V_aload_n dM_sealsAct_40 rfl ?_
  refine V_bipush (v := 30) dM_sealsAct_41 (by decide) ?_
  refine V_callV (as := [.int 30]) (rest := []) (bs' := 0) rfl dM_sealsAct_43 cmM_body cvM_body mlM_356 (Or.inl ⟨_, _, _, _, _, rfl, k76, by decide, rfl⟩) rfl rfl (m_body hM (by decide) hr 30) (by decide) (Nat.le_refl _) (by decide) (Nat.le_of_ble_eq_true rfl) ?_
  rintro _ _ s43 ⟨rfl, rfl, hM, hS1⟩ -
  refine V_non ?_
  have hS := hS.trans hS1
  have hr : gi (bodyL 0 30 M) 76 57 = nI 1 := gi_eq
  have hR := hM.1
  refine V_aload_n dM_sealsAct_46 rfl ?_
  refine V_iload_n dM_sealsAct_47 rfl ?_
  refine V_iload_n dM_sealsAct_48 rfl ?_
  refine V_iconst (v := 3) dM_sealsAct_49 (by decide) ?_
  refine V_imul dM_sealsAct_50 ?_
  refine V_callV (as := [.int num, .int (x * 3)]) (rest := []) (bs' := 0) rfl dM_sealsAct_51 cmM_envelopeSeals cvM_envelopeSeals mlM_359 (Or.inl ⟨_, _, _, _, _, rfl, k76, by decide, rfl⟩) rfl rfl (m_envelopeSeals_5_1 hM he hn hK hv hr (x * 3)) (by decide) (Nat.le_refl _) (by decide) (Nat.le_of_ble_eq_true rfl) ?_
  rintro _ _ s51 ⟨rfl, rfl, hM, hS1⟩ -
  refine V_one ?_
  have hS := hS.trans hS1
  have hr : gi (bodyL 1 10 (bodyL 0 30 M)) 76 57 = nI 2 := gi_eq
  have hR := hM.1
  exact V_iret dM_sealsAct_54 rfl rfl ⟨rfl, rfl, hM, hS⟩
theorem m_envelopeSeals_5_2 {l : Launch} {G : GT} {M σ : Hp} (hM : RM M σ) {e : Nat} {num v : Int32} (he : e < 8) (hn : num = nI e) (hK : gi M 78 e = nI 5) (hv : gi M 79 e = v) (hr : gi M 76 57 = nI 2) (x : Int32) : MM l G mM_envelopeSeals 1 0 0 [.ref 76, .int num, .int x] KA σ (PB (bodyL 2 10 M) σ (some (.int (x + num)))) := by
  have hR := hM.1
  have hM0 := hM
  have hS : Sc σ σ := Sc.rfl
  refine MM.of (loc := [(0, .ref 76), (1, .int num), (2, .int x)]) (by decide +kernel) rfl (Nat.le_of_ble_eq_true rfl) ?_
  refine V_aload_n dM_envelopeSeals_0 rfl ?_
  refine V_bipush (v := 10) dM_envelopeSeals_1 (by decide) ?_
  refine V_callV (as := [.int 10]) (rest := []) (bs' := 0) rfl dM_envelopeSeals_3 cmM_body cvM_body mlM_356 (Or.inl ⟨_, _, _, _, _, rfl, k76, by decide, rfl⟩) rfl rfl (m_body hM (by decide) hr 10) (by decide) (Nat.le_refl _) (by decide) (Nat.le_of_ble_eq_true rfl) ?_
  rintro _ _ s3 ⟨rfl, rfl, hM, hS1⟩ -
  refine V_non ?_
  have hS := hS.trans hS1
  have hr : gi (bodyL 2 10 M) 76 57 = nI 3 := gi_eq
  have hR := hM.1
  refine V_iload_n dM_envelopeSeals_6 rfl ?_
  refine V_iload_n dM_envelopeSeals_7 rfl ?_
  refine V_iadd dM_envelopeSeals_8 ?_
  exact V_iret dM_envelopeSeals_9 rfl rfl ⟨rfl, rfl, hM, hS⟩
theorem m_sealsAct_5_1 {l : Launch} {G : GT} {M σ : Hp} (hM : RM M σ) {e : Nat} {num v : Int32} (he : e < 8) (hn : num = nI e) (hK : gi M 78 e = nI 5) (hv : gi M 79 e = v) (hr : gi M 76 57 = nI 1) (x : Int32) : MM l G mM_sealsAct 2 0 0 [.ref 76, .int num, .int x] KA σ (PB (bodyL 2 10 (bodyL 1 30 M)) σ (some (.int ((x * 3) + num)))) := by
  have hR := hM.1
  have hM0 := hM
  have hS : Sc σ σ := Sc.rfl
  refine MM.of (loc := [(0, .ref 76), (1, .int num), (2, .int x)]) (by decide +kernel) rfl (Nat.le_of_ble_eq_true rfl) ?_
  refine V_aload_n dM_sealsAct_0 rfl ?_
  refine V_getR (a := 78) dM_sealsAct_1 flM_26 k76 rfl (r76_5 hR) ?_
  refine V_iload_n dM_sealsAct_4 rfl ?_
  refine V_ialdN (j := e) dM_sealsAct_5 k78 hn (by omega) (by decide) ?_
  refine V_topI (x' := 5) ((mR hM rfl).trans hK) ?_
  refine V_tsC (tgt := 40) 5 rfl dM_sealsAct_6 (by decide) (by decide) rfl rfl ?_
  refine V_aload_n dM_sealsAct_40 rfl ?_
  refine V_bipush (v := 30) dM_sealsAct_41 (by decide) ?_
  refine V_callV (as := [.int 30]) (rest := []) (bs' := 0) rfl dM_sealsAct_43 cmM_body cvM_body mlM_356 (Or.inl ⟨_, _, _, _, _, rfl, k76, by decide, rfl⟩) rfl rfl (m_body hM (by decide) hr 30) (by decide) (Nat.le_refl _) (by decide) (Nat.le_of_ble_eq_true rfl) ?_
  rintro _ _ s43 ⟨rfl, rfl, hM, hS1⟩ -
  refine V_non ?_
  have hS := hS.trans hS1
  have hr : gi (bodyL 1 30 M) 76 57 = nI 2 := gi_eq
  have hR := hM.1
  refine V_aload_n dM_sealsAct_46 rfl ?_
  refine V_iload_n dM_sealsAct_47 rfl ?_
  refine V_iload_n dM_sealsAct_48 rfl ?_
  refine V_iconst (v := 3) dM_sealsAct_49 (by decide) ?_
  refine V_imul dM_sealsAct_50 ?_
  refine V_callV (as := [.int num, .int (x * 3)]) (rest := []) (bs' := 0) rfl dM_sealsAct_51 cmM_envelopeSeals cvM_envelopeSeals mlM_359 (Or.inl ⟨_, _, _, _, _, rfl, k76, by decide, rfl⟩) rfl rfl (m_envelopeSeals_5_2 hM he hn hK hv hr (x * 3)) (by decide) (Nat.le_refl _) (by decide) (Nat.le_of_ble_eq_true rfl) ?_
  rintro _ _ s51 ⟨rfl, rfl, hM, hS1⟩ -
  refine V_one ?_
  have hS := hS.trans hS1
  have hr : gi (bodyL 2 10 (bodyL 1 30 M)) 76 57 = nI 3 := gi_eq
  have hR := hM.1
  exact V_iret dM_sealsAct_54 rfl rfl ⟨rfl, rfl, hM, hS⟩
theorem m_envelopePays_5_0 {l : Launch} {G : GT} {M σ : Hp} (hM : RM M σ) {e : Nat} {num v : Int32} (he : e < 8) (hn : num = nI e) (hK : gi M 78 e = nI 5) (hv : gi M 79 e = v) (hr : gi M 76 57 = nI 0) (x : Int32) : MM l G mM_envelopePays 3 0 0 [.ref 76, .int num, .int x] KA σ (PB (bodyL 2 10 (bodyL 1 30 (bodyL 0 11 M))) σ (some (.int (((x * 3) + num) - v)))) := by
  have hR := hM.1
  have hM0 := hM
  have hS : Sc σ σ := Sc.rfl
  refine MM.of (loc := [(0, .ref 76), (1, .int num), (2, .int x)]) (by decide +kernel) rfl (Nat.le_of_ble_eq_true rfl) ?_
  refine V_aload_n dM_envelopePays_0 rfl ?_
  refine V_bipush (v := 11) dM_envelopePays_1 (by decide) ?_
  refine V_callV (as := [.int 11]) (rest := []) (bs' := 0) rfl dM_envelopePays_3 cmM_body cvM_body mlM_356 (Or.inl ⟨_, _, _, _, _, rfl, k76, by decide, rfl⟩) rfl rfl (m_body hM (by decide) hr 11) (by decide) (Nat.le_refl _) (by decide) (Nat.le_of_ble_eq_true rfl) ?_
  rintro _ _ s3 ⟨rfl, rfl, hM, hS1⟩ -
  refine V_non ?_
  have hS := hS.trans hS1
  have hr : gi (bodyL 0 11 M) 76 57 = nI 1 := gi_eq
  have hR := hM.1
  refine V_aload_n dM_envelopePays_6 rfl ?_
  refine V_iload_n dM_envelopePays_7 rfl ?_
  refine V_iload_n dM_envelopePays_8 rfl ?_
  refine V_callV (as := [.int num, .int x]) (rest := []) (bs' := 0) rfl dM_envelopePays_9 cmM_sealsAct cvM_sealsAct mlM_362 (Or.inl ⟨_, _, _, _, _, rfl, k76, by decide, rfl⟩) rfl rfl (m_sealsAct_5_1 hM he hn hK hv hr x) (by decide) (Nat.le_refl _) (by decide) (Nat.le_of_ble_eq_true rfl) ?_
  rintro _ _ s9 ⟨rfl, rfl, hM, hS1⟩ -
  refine V_one ?_
  have hS := hS.trans hS1
  have hr : gi (bodyL 2 10 (bodyL 1 30 (bodyL 0 11 M))) 76 57 = nI 3 := gi_eq
  have hR := hM.1
  refine V_aload_n dM_envelopePays_12 rfl ?_
  refine V_getR (a := 79) dM_envelopePays_13 flM_29 k76 rfl (r76_6 hR) ?_
  refine V_iload_n dM_envelopePays_16 rfl ?_
  refine V_ialdN (j := e) dM_envelopePays_17 k79 hn (by omega) (by decide) ?_
  refine V_topI (x' := v) ((mR hM rfl).trans hv) ?_
  refine V_isub dM_envelopePays_18 ?_
  exact V_iret dM_envelopePays_19 rfl rfl ⟨rfl, rfl, hM, hS⟩
theorem m_paysAct_5_0 {l : Launch} {G : GT} {M σ : Hp} (hM : RM M σ) {e : Nat} {num v : Int32} (he : e < 8) (hn : num = nI e) (hK : gi M 78 e = nI 5) (hv : gi M 79 e = v) (hr : gi M 76 57 = nI 0) (x : Int32) : MM l G mM_paysAct 5 0 0 [.ref 76, .int num, .int x] KA σ (PB (bodyL 2 10 (bodyL 1 30 (bodyL 0 11 M))) σ (some (.int (((x * 3) + num) - v)))) := by
  have hR := hM.1
  have hM0 := hM
  have hS : Sc σ σ := Sc.rfl
  refine MM.of (loc := [(0, .ref 76), (1, .int num), (2, .int x)]) (by decide +kernel) rfl (Nat.le_of_ble_eq_true rfl) ?_
  refine V_aload_n dM_paysAct_0 rfl ?_
  refine V_getR (a := 78) dM_paysAct_1 flM_26 k76 rfl (r76_5 hR) ?_
  refine V_iload_n dM_paysAct_4 rfl ?_
  refine V_ialdN (j := e) dM_paysAct_5 k78 hn (by omega) (by decide) ?_
  refine V_topI (x' := 5) ((mR hM rfl).trans hK) ?_
  refine V_lsw (tgt := 84) dM_paysAct_6 (by decide) rfl rfl ?_
  refine V_aload_n dM_paysAct_84 rfl ?_
  refine V_iload_n dM_paysAct_85 rfl ?_
  refine V_iload_n dM_paysAct_86 rfl ?_
  refine V_callV (as := [.int num, .int x]) (rest := []) (bs' := 0) rfl dM_paysAct_87 cmM_envelopePays cvM_envelopePays mlM_365 (Or.inl ⟨_, _, _, _, _, rfl, k76, by decide, rfl⟩) rfl rfl (m_envelopePays_5_0 hM he hn hK hv hr x) (by decide) (Nat.le_refl _) (by decide) (Nat.le_of_ble_eq_true rfl) ?_
  rintro _ _ s87 ⟨rfl, rfl, hM, hS1⟩ -
  refine V_one ?_
  have hS := hS.trans hS1
  have hr : gi (bodyL 2 10 (bodyL 1 30 (bodyL 0 11 M))) 76 57 = nI 3 := gi_eq
  have hR := hM.1
  exact V_iret dM_paysAct_90 rfl rfl ⟨rfl, rfl, hM, hS⟩
theorem m_envelopeSeals_5_4 {l : Launch} {G : GT} {M σ : Hp} (hM : RM M σ) {e : Nat} {num v : Int32} (he : e < 8) (hn : num = nI e) (hK : gi M 78 e = nI 5) (hv : gi M 79 e = v) (hr : gi M 76 57 = nI 4) (x : Int32) : MM l G mM_envelopeSeals 1 0 0 [.ref 76, .int num, .int x] KA σ (PB (bodyL 4 10 M) σ (some (.int (x + num)))) := by
  have hR := hM.1
  have hM0 := hM
  have hS : Sc σ σ := Sc.rfl
  refine MM.of (loc := [(0, .ref 76), (1, .int num), (2, .int x)]) (by decide +kernel) rfl (Nat.le_of_ble_eq_true rfl) ?_
  refine V_aload_n dM_envelopeSeals_0 rfl ?_
  refine V_bipush (v := 10) dM_envelopeSeals_1 (by decide) ?_
  refine V_callV (as := [.int 10]) (rest := []) (bs' := 0) rfl dM_envelopeSeals_3 cmM_body cvM_body mlM_356 (Or.inl ⟨_, _, _, _, _, rfl, k76, by decide, rfl⟩) rfl rfl (m_body hM (by decide) hr 10) (by decide) (Nat.le_refl _) (by decide) (Nat.le_of_ble_eq_true rfl) ?_
  rintro _ _ s3 ⟨rfl, rfl, hM, hS1⟩ -
  refine V_non ?_
  have hS := hS.trans hS1
  have hr : gi (bodyL 4 10 M) 76 57 = nI 5 := gi_eq
  have hR := hM.1
  refine V_iload_n dM_envelopeSeals_6 rfl ?_
  refine V_iload_n dM_envelopeSeals_7 rfl ?_
  refine V_iadd dM_envelopeSeals_8 ?_
  exact V_iret dM_envelopeSeals_9 rfl rfl ⟨rfl, rfl, hM, hS⟩
theorem m_sealsAct_5_3 {l : Launch} {G : GT} {M σ : Hp} (hM : RM M σ) {e : Nat} {num v : Int32} (he : e < 8) (hn : num = nI e) (hK : gi M 78 e = nI 5) (hv : gi M 79 e = v) (hr : gi M 76 57 = nI 3) (x : Int32) : MM l G mM_sealsAct 2 0 0 [.ref 76, .int num, .int x] KA σ (PB (bodyL 4 10 (bodyL 3 30 M)) σ (some (.int ((x * 3) + num)))) := by
  have hR := hM.1
  have hM0 := hM
  have hS : Sc σ σ := Sc.rfl
  refine MM.of (loc := [(0, .ref 76), (1, .int num), (2, .int x)]) (by decide +kernel) rfl (Nat.le_of_ble_eq_true rfl) ?_
  refine V_aload_n dM_sealsAct_0 rfl ?_
  refine V_getR (a := 78) dM_sealsAct_1 flM_26 k76 rfl (r76_5 hR) ?_
  refine V_iload_n dM_sealsAct_4 rfl ?_
  refine V_ialdN (j := e) dM_sealsAct_5 k78 hn (by omega) (by decide) ?_
  refine V_topI (x' := 5) ((mR hM rfl).trans hK) ?_
  refine V_tsC (tgt := 40) 5 rfl dM_sealsAct_6 (by decide) (by decide) rfl rfl ?_
  refine V_aload_n dM_sealsAct_40 rfl ?_
  refine V_bipush (v := 30) dM_sealsAct_41 (by decide) ?_
  refine V_callV (as := [.int 30]) (rest := []) (bs' := 0) rfl dM_sealsAct_43 cmM_body cvM_body mlM_356 (Or.inl ⟨_, _, _, _, _, rfl, k76, by decide, rfl⟩) rfl rfl (m_body hM (by decide) hr 30) (by decide) (Nat.le_refl _) (by decide) (Nat.le_of_ble_eq_true rfl) ?_
  rintro _ _ s43 ⟨rfl, rfl, hM, hS1⟩ -
  refine V_non ?_
  have hS := hS.trans hS1
  have hr : gi (bodyL 3 30 M) 76 57 = nI 4 := gi_eq
  have hR := hM.1
  refine V_aload_n dM_sealsAct_46 rfl ?_
  refine V_iload_n dM_sealsAct_47 rfl ?_
  refine V_iload_n dM_sealsAct_48 rfl ?_
  refine V_iconst (v := 3) dM_sealsAct_49 (by decide) ?_
  refine V_imul dM_sealsAct_50 ?_
  refine V_callV (as := [.int num, .int (x * 3)]) (rest := []) (bs' := 0) rfl dM_sealsAct_51 cmM_envelopeSeals cvM_envelopeSeals mlM_359 (Or.inl ⟨_, _, _, _, _, rfl, k76, by decide, rfl⟩) rfl rfl (m_envelopeSeals_5_4 hM he hn hK hv hr (x * 3)) (by decide) (Nat.le_refl _) (by decide) (Nat.le_of_ble_eq_true rfl) ?_
  rintro _ _ s51 ⟨rfl, rfl, hM, hS1⟩ -
  refine V_one ?_
  have hS := hS.trans hS1
  have hr : gi (bodyL 4 10 (bodyL 3 30 M)) 76 57 = nI 5 := gi_eq
  have hR := hM.1
  exact V_iret dM_sealsAct_54 rfl rfl ⟨rfl, rfl, hM, hS⟩
theorem m_envelopePays_5_2 {l : Launch} {G : GT} {M σ : Hp} (hM : RM M σ) {e : Nat} {num v : Int32} (he : e < 8) (hn : num = nI e) (hK : gi M 78 e = nI 5) (hv : gi M 79 e = v) (hr : gi M 76 57 = nI 2) (x : Int32) : MM l G mM_envelopePays 3 0 0 [.ref 76, .int num, .int x] KA σ (PB (bodyL 4 10 (bodyL 3 30 (bodyL 2 11 M))) σ (some (.int (((x * 3) + num) - v)))) := by
  have hR := hM.1
  have hM0 := hM
  have hS : Sc σ σ := Sc.rfl
  refine MM.of (loc := [(0, .ref 76), (1, .int num), (2, .int x)]) (by decide +kernel) rfl (Nat.le_of_ble_eq_true rfl) ?_
  refine V_aload_n dM_envelopePays_0 rfl ?_
  refine V_bipush (v := 11) dM_envelopePays_1 (by decide) ?_
  refine V_callV (as := [.int 11]) (rest := []) (bs' := 0) rfl dM_envelopePays_3 cmM_body cvM_body mlM_356 (Or.inl ⟨_, _, _, _, _, rfl, k76, by decide, rfl⟩) rfl rfl (m_body hM (by decide) hr 11) (by decide) (Nat.le_refl _) (by decide) (Nat.le_of_ble_eq_true rfl) ?_
  rintro _ _ s3 ⟨rfl, rfl, hM, hS1⟩ -
  refine V_non ?_
  have hS := hS.trans hS1
  have hr : gi (bodyL 2 11 M) 76 57 = nI 3 := gi_eq
  have hR := hM.1
  refine V_aload_n dM_envelopePays_6 rfl ?_
  refine V_iload_n dM_envelopePays_7 rfl ?_
  refine V_iload_n dM_envelopePays_8 rfl ?_
  refine V_callV (as := [.int num, .int x]) (rest := []) (bs' := 0) rfl dM_envelopePays_9 cmM_sealsAct cvM_sealsAct mlM_362 (Or.inl ⟨_, _, _, _, _, rfl, k76, by decide, rfl⟩) rfl rfl (m_sealsAct_5_3 hM he hn hK hv hr x) (by decide) (Nat.le_refl _) (by decide) (Nat.le_of_ble_eq_true rfl) ?_
  rintro _ _ s9 ⟨rfl, rfl, hM, hS1⟩ -
  refine V_one ?_
  have hS := hS.trans hS1
  have hr : gi (bodyL 4 10 (bodyL 3 30 (bodyL 2 11 M))) 76 57 = nI 5 := gi_eq
  have hR := hM.1
  refine V_aload_n dM_envelopePays_12 rfl ?_
  refine V_getR (a := 79) dM_envelopePays_13 flM_29 k76 rfl (r76_6 hR) ?_
  refine V_iload_n dM_envelopePays_16 rfl ?_
  refine V_ialdN (j := e) dM_envelopePays_17 k79 hn (by omega) (by decide) ?_
  refine V_topI (x' := v) ((mR hM rfl).trans hv) ?_
  refine V_isub dM_envelopePays_18 ?_
  exact V_iret dM_envelopePays_19 rfl rfl ⟨rfl, rfl, hM, hS⟩
theorem m_paysAct_5_2 {l : Launch} {G : GT} {M σ : Hp} (hM : RM M σ) {e : Nat} {num v : Int32} (he : e < 8) (hn : num = nI e) (hK : gi M 78 e = nI 5) (hv : gi M 79 e = v) (hr : gi M 76 57 = nI 2) (x : Int32) : MM l G mM_paysAct 5 0 0 [.ref 76, .int num, .int x] KA σ (PB (bodyL 4 10 (bodyL 3 30 (bodyL 2 11 M))) σ (some (.int (((x * 3) + num) - v)))) := by
  have hR := hM.1
  have hM0 := hM
  have hS : Sc σ σ := Sc.rfl
  refine MM.of (loc := [(0, .ref 76), (1, .int num), (2, .int x)]) (by decide +kernel) rfl (Nat.le_of_ble_eq_true rfl) ?_
  refine V_aload_n dM_paysAct_0 rfl ?_
  refine V_getR (a := 78) dM_paysAct_1 flM_26 k76 rfl (r76_5 hR) ?_
  refine V_iload_n dM_paysAct_4 rfl ?_
  refine V_ialdN (j := e) dM_paysAct_5 k78 hn (by omega) (by decide) ?_
  refine V_topI (x' := 5) ((mR hM rfl).trans hK) ?_
  refine V_lsw (tgt := 84) dM_paysAct_6 (by decide) rfl rfl ?_
  refine V_aload_n dM_paysAct_84 rfl ?_
  refine V_iload_n dM_paysAct_85 rfl ?_
  refine V_iload_n dM_paysAct_86 rfl ?_
  refine V_callV (as := [.int num, .int x]) (rest := []) (bs' := 0) rfl dM_paysAct_87 cmM_envelopePays cvM_envelopePays mlM_365 (Or.inl ⟨_, _, _, _, _, rfl, k76, by decide, rfl⟩) rfl rfl (m_envelopePays_5_2 hM he hn hK hv hr x) (by decide) (Nat.le_refl _) (by decide) (Nat.le_of_ble_eq_true rfl) ?_
  rintro _ _ s87 ⟨rfl, rfl, hM, hS1⟩ -
  refine V_one ?_
  have hS := hS.trans hS1
  have hr : gi (bodyL 4 10 (bodyL 3 30 (bodyL 2 11 M))) 76 57 = nI 5 := gi_eq
  have hR := hM.1
  exact V_iret dM_paysAct_90 rfl rfl ⟨rfl, rfl, hM, hS⟩
theorem m_envelopeTells_5_1 {l : Launch} {G : GT} {M σ : Hp} (hM : RM M σ) {e : Nat} {num v : Int32} (he : e < 8) (hn : num = nI e) (hK : gi M 78 e = nI 5) (hv : gi M 79 e = v) (hr : gi M 76 57 = nI 1) (x : Int32) : MM l G mM_envelopeTells 6 0 0 [.ref 76, .int num, .int x] KA σ (PB (bodyL 4 10 (bodyL 3 30 (bodyL 2 11 (bodyL 1 12 M)))) σ (some (.int ((((x * 3) + num) - v) * 2)))) := by
  have hR := hM.1
  have hM0 := hM
  have hS : Sc σ σ := Sc.rfl
  refine MM.of (loc := [(0, .ref 76), (1, .int num), (2, .int x)]) (by decide +kernel) rfl (Nat.le_of_ble_eq_true rfl) ?_
  refine V_aload_n dM_envelopeTells_0 rfl ?_
  refine V_bipush (v := 12) dM_envelopeTells_1 (by decide) ?_
  refine V_callV (as := [.int 12]) (rest := []) (bs' := 0) rfl dM_envelopeTells_3 cmM_body cvM_body mlM_356 (Or.inl ⟨_, _, _, _, _, rfl, k76, by decide, rfl⟩) rfl rfl (m_body hM (by decide) hr 12) (by decide) (Nat.le_refl _) (by decide) (Nat.le_of_ble_eq_true rfl) ?_
  rintro _ _ s3 ⟨rfl, rfl, hM, hS1⟩ -
  refine V_non ?_
  have hS := hS.trans hS1
  have hr : gi (bodyL 1 12 M) 76 57 = nI 2 := gi_eq
  have hR := hM.1
  refine V_aload_n dM_envelopeTells_6 rfl ?_
  refine V_iload_n dM_envelopeTells_7 rfl ?_
  refine V_iload_n dM_envelopeTells_8 rfl ?_
  refine V_callV (as := [.int num, .int x]) (rest := []) (bs' := 0) rfl dM_envelopeTells_9 cmM_paysAct cvM_paysAct mlM_371 (Or.inl ⟨_, _, _, _, _, rfl, k76, by decide, rfl⟩) rfl rfl (m_paysAct_5_2 hM he hn hK hv hr x) (by decide) (Nat.le_refl _) (by decide) (Nat.le_of_ble_eq_true rfl) ?_
  rintro _ _ s9 ⟨rfl, rfl, hM, hS1⟩ -
  refine V_one ?_
  have hS := hS.trans hS1
  have hr : gi (bodyL 4 10 (bodyL 3 30 (bodyL 2 11 (bodyL 1 12 M)))) 76 57 = nI 5 := gi_eq
  have hR := hM.1
  refine V_iconst (v := 2) dM_envelopeTells_12 (by decide) ?_
  refine V_imul dM_envelopeTells_13 ?_
  exact V_iret dM_envelopeTells_14 rfl rfl ⟨rfl, rfl, hM, hS⟩
theorem m_tellsAct_5_0 {l : Launch} {G : GT} {M σ : Hp} (hM : RM M σ) {e : Nat} {num v : Int32} (he : e < 8) (hn : num = nI e) (hK : gi M 78 e = nI 5) (hv : gi M 79 e = v) (hr : gi M 76 57 = nI 0) (x : Int32) : MM l G mM_tellsAct 7 0 0 [.ref 76, .int num, .int x] KA σ (PB (bodyL 4 10 (bodyL 3 30 (bodyL 2 11 (bodyL 1 12 (bodyL 0 60 M))))) σ (some (.int (((((x - num) * 3) + num) - v) * 2)))) := by
  have hR := hM.1
  have hM0 := hM
  have hS : Sc σ σ := Sc.rfl
  refine MM.of (loc := [(0, .ref 76), (1, .int num), (2, .int x)]) (by decide +kernel) rfl (Nat.le_of_ble_eq_true rfl) ?_
  refine V_aload_n dM_tellsAct_0 rfl ?_
  refine V_getR (a := 78) dM_tellsAct_1 flM_26 k76 rfl (r76_5 hR) ?_
  refine V_iload_n dM_tellsAct_4 rfl ?_
  refine V_ialdN (j := e) dM_tellsAct_5 k78 hn (by omega) (by decide) ?_
  refine V_topI (x' := 5) ((mR hM rfl).trans hK) ?_
  refine V_tsC (tgt := 58) 5 rfl dM_tellsAct_6 (by decide) (by decide) rfl rfl ?_
  refine V_aload_n dM_tellsAct_58 rfl ?_
  refine V_bipush (v := 60) dM_tellsAct_59 (by decide) ?_
  refine V_callV (as := [.int 60]) (rest := []) (bs' := 0) rfl dM_tellsAct_61 cmM_body cvM_body mlM_356 (Or.inl ⟨_, _, _, _, _, rfl, k76, by decide, rfl⟩) rfl rfl (m_body hM (by decide) hr 60) (by decide) (Nat.le_refl _) (by decide) (Nat.le_of_ble_eq_true rfl) ?_
  rintro _ _ s61 ⟨rfl, rfl, hM, hS1⟩ -
  refine V_non ?_
  have hS := hS.trans hS1
  have hr : gi (bodyL 0 60 M) 76 57 = nI 1 := gi_eq
  have hR := hM.1
  refine V_aload_n dM_tellsAct_64 rfl ?_
  refine V_iload_n dM_tellsAct_65 rfl ?_
  refine V_iload_n dM_tellsAct_66 rfl ?_
  refine V_iload_n dM_tellsAct_67 rfl ?_
  refine V_isub dM_tellsAct_68 ?_
  refine V_callV (as := [.int num, .int (x - num)]) (rest := []) (bs' := 0) rfl dM_tellsAct_69 cmM_envelopeTells cvM_envelopeTells mlM_374 (Or.inl ⟨_, _, _, _, _, rfl, k76, by decide, rfl⟩) rfl rfl (m_envelopeTells_5_1 hM he hn hK hv hr (x - num)) (by decide) (Nat.le_refl _) (by decide) (Nat.le_of_ble_eq_true rfl) ?_
  rintro _ _ s69 ⟨rfl, rfl, hM, hS1⟩ -
  refine V_one ?_
  have hS := hS.trans hS1
  have hr : gi (bodyL 4 10 (bodyL 3 30 (bodyL 2 11 (bodyL 1 12 (bodyL 0 60 M))))) 76 57 = nI 5 := gi_eq
  have hR := hM.1
  exact V_iret dM_tellsAct_72 rfl rfl ⟨rfl, rfl, hM, hS⟩
theorem m_envelopeSeals_6_1 {l : Launch} {G : GT} {M σ : Hp} (hM : RM M σ) {e : Nat} {num v : Int32} (he : e < 8) (hn : num = nI e) (hK : gi M 78 e = nI 6) (hv : gi M 79 e = v) (hr : gi M 76 57 = nI 1) (x : Int32) : MM l G mM_envelopeSeals 1 0 0 [.ref 76, .int num, .int x] KA σ (PB (bodyL 1 10 M) σ (some (.int (x + num)))) := by
  have hR := hM.1
  have hM0 := hM
  have hS : Sc σ σ := Sc.rfl
  refine MM.of (loc := [(0, .ref 76), (1, .int num), (2, .int x)]) (by decide +kernel) rfl (Nat.le_of_ble_eq_true rfl) ?_
  refine V_aload_n dM_envelopeSeals_0 rfl ?_
  refine V_bipush (v := 10) dM_envelopeSeals_1 (by decide) ?_
  refine V_callV (as := [.int 10]) (rest := []) (bs' := 0) rfl dM_envelopeSeals_3 cmM_body cvM_body mlM_356 (Or.inl ⟨_, _, _, _, _, rfl, k76, by decide, rfl⟩) rfl rfl (m_body hM (by decide) hr 10) (by decide) (Nat.le_refl _) (by decide) (Nat.le_of_ble_eq_true rfl) ?_
  rintro _ _ s3 ⟨rfl, rfl, hM, hS1⟩ -
  refine V_non ?_
  have hS := hS.trans hS1
  have hr : gi (bodyL 1 10 M) 76 57 = nI 2 := gi_eq
  have hR := hM.1
  refine V_iload_n dM_envelopeSeals_6 rfl ?_
  refine V_iload_n dM_envelopeSeals_7 rfl ?_
  refine V_iadd dM_envelopeSeals_8 ?_
  exact V_iret dM_envelopeSeals_9 rfl rfl ⟨rfl, rfl, hM, hS⟩
theorem m_sealsAct_6_0 {l : Launch} {G : GT} {M σ : Hp} (hM : RM M σ) {e : Nat} {num v : Int32} (he : e < 8) (hn : num = nI e) (hK : gi M 78 e = nI 6) (hv : gi M 79 e = v) (hr : gi M 76 57 = nI 0) (x : Int32) : MM l G mM_sealsAct 2 0 0 [.ref 76, .int num, .int x] KA σ (PB (bodyL 1 10 (bodyL 0 71 M)) σ (some (.int ((x + num) ^^^ v)))) := by
  have hR := hM.1
  have hM0 := hM
  have hS : Sc σ σ := Sc.rfl
  refine MM.of (loc := [(0, .ref 76), (1, .int num), (2, .int x)]) (by decide +kernel) rfl (Nat.le_of_ble_eq_true rfl) ?_
  refine V_aload_n dM_sealsAct_0 rfl ?_
  refine V_getR (a := 78) dM_sealsAct_1 flM_26 k76 rfl (r76_5 hR) ?_
  refine V_iload_n dM_sealsAct_4 rfl ?_
  refine V_ialdN (j := e) dM_sealsAct_5 k78 hn (by omega) (by decide) ?_
  refine V_topI (x' := 6) ((mR hM rfl).trans hK) ?_
  refine V_tsC (tgt := 69) 6 rfl dM_sealsAct_6 (by decide) (by decide) rfl rfl ?_
  refine V_aload_n dM_sealsAct_69 rfl ?_
  refine V_bipush (v := 71) dM_sealsAct_70 (by decide) ?_
  refine V_callV (as := [.int 71]) (rest := []) (bs' := 0) rfl dM_sealsAct_72 cmM_body cvM_body mlM_356 (Or.inl ⟨_, _, _, _, _, rfl, k76, by decide, rfl⟩) rfl rfl (m_body hM (by decide) hr 71) (by decide) (Nat.le_refl _) (by decide) (Nat.le_of_ble_eq_true rfl) ?_
  rintro _ _ s72 ⟨rfl, rfl, hM, hS1⟩ -
  refine V_non ?_
  have hS := hS.trans hS1
  have hr : gi (bodyL 0 71 M) 76 57 = nI 1 := gi_eq
  have hR := hM.1
  refine V_aload_n dM_sealsAct_75 rfl ?_
  refine V_iload_n dM_sealsAct_76 rfl ?_
  refine V_iload_n dM_sealsAct_77 rfl ?_
  refine V_callV (as := [.int num, .int x]) (rest := []) (bs' := 0) rfl dM_sealsAct_78 cmM_envelopeSeals cvM_envelopeSeals mlM_359 (Or.inl ⟨_, _, _, _, _, rfl, k76, by decide, rfl⟩) rfl rfl (m_envelopeSeals_6_1 hM he hn hK hv hr x) (by decide) (Nat.le_refl _) (by decide) (Nat.le_of_ble_eq_true rfl) ?_
  rintro _ _ s78 ⟨rfl, rfl, hM, hS1⟩ -
  refine V_one ?_
  have hS := hS.trans hS1
  have hr : gi (bodyL 1 10 (bodyL 0 71 M)) 76 57 = nI 2 := gi_eq
  have hR := hM.1
  refine V_aload_n dM_sealsAct_81 rfl ?_
  refine V_getR (a := 79) dM_sealsAct_82 flM_29 k76 rfl (r76_6 hR) ?_
  refine V_iload_n dM_sealsAct_85 rfl ?_
  refine V_ialdN (j := e) dM_sealsAct_86 k79 hn (by omega) (by decide) ?_
  refine V_topI (x' := v) ((mR hM rfl).trans hv) ?_
  refine V_ixor dM_sealsAct_87 ?_
  exact V_iret dM_sealsAct_88 rfl rfl ⟨rfl, rfl, hM, hS⟩
theorem m_envelopeSeals_6_3 {l : Launch} {G : GT} {M σ : Hp} (hM : RM M σ) {e : Nat} {num v : Int32} (he : e < 8) (hn : num = nI e) (hK : gi M 78 e = nI 6) (hv : gi M 79 e = v) (hr : gi M 76 57 = nI 3) (x : Int32) : MM l G mM_envelopeSeals 1 0 0 [.ref 76, .int num, .int x] KA σ (PB (bodyL 3 10 M) σ (some (.int (x + num)))) := by
  have hR := hM.1
  have hM0 := hM
  have hS : Sc σ σ := Sc.rfl
  refine MM.of (loc := [(0, .ref 76), (1, .int num), (2, .int x)]) (by decide +kernel) rfl (Nat.le_of_ble_eq_true rfl) ?_
  refine V_aload_n dM_envelopeSeals_0 rfl ?_
  refine V_bipush (v := 10) dM_envelopeSeals_1 (by decide) ?_
  refine V_callV (as := [.int 10]) (rest := []) (bs' := 0) rfl dM_envelopeSeals_3 cmM_body cvM_body mlM_356 (Or.inl ⟨_, _, _, _, _, rfl, k76, by decide, rfl⟩) rfl rfl (m_body hM (by decide) hr 10) (by decide) (Nat.le_refl _) (by decide) (Nat.le_of_ble_eq_true rfl) ?_
  rintro _ _ s3 ⟨rfl, rfl, hM, hS1⟩ -
  refine V_non ?_
  have hS := hS.trans hS1
  have hr : gi (bodyL 3 10 M) 76 57 = nI 4 := gi_eq
  have hR := hM.1
  refine V_iload_n dM_envelopeSeals_6 rfl ?_
  refine V_iload_n dM_envelopeSeals_7 rfl ?_
  refine V_iadd dM_envelopeSeals_8 ?_
  exact V_iret dM_envelopeSeals_9 rfl rfl ⟨rfl, rfl, hM, hS⟩
theorem m_sealsAct_6_2 {l : Launch} {G : GT} {M σ : Hp} (hM : RM M σ) {e : Nat} {num v : Int32} (he : e < 8) (hn : num = nI e) (hK : gi M 78 e = nI 6) (hv : gi M 79 e = v) (hr : gi M 76 57 = nI 2) (x : Int32) : MM l G mM_sealsAct 2 0 0 [.ref 76, .int num, .int x] KA σ (PB (bodyL 3 10 (bodyL 2 71 M)) σ (some (.int ((x + num) ^^^ v)))) := by
  have hR := hM.1
  have hM0 := hM
  have hS : Sc σ σ := Sc.rfl
  refine MM.of (loc := [(0, .ref 76), (1, .int num), (2, .int x)]) (by decide +kernel) rfl (Nat.le_of_ble_eq_true rfl) ?_
  refine V_aload_n dM_sealsAct_0 rfl ?_
  refine V_getR (a := 78) dM_sealsAct_1 flM_26 k76 rfl (r76_5 hR) ?_
  refine V_iload_n dM_sealsAct_4 rfl ?_
  refine V_ialdN (j := e) dM_sealsAct_5 k78 hn (by omega) (by decide) ?_
  refine V_topI (x' := 6) ((mR hM rfl).trans hK) ?_
  refine V_tsC (tgt := 69) 6 rfl dM_sealsAct_6 (by decide) (by decide) rfl rfl ?_
  refine V_aload_n dM_sealsAct_69 rfl ?_
  refine V_bipush (v := 71) dM_sealsAct_70 (by decide) ?_
  refine V_callV (as := [.int 71]) (rest := []) (bs' := 0) rfl dM_sealsAct_72 cmM_body cvM_body mlM_356 (Or.inl ⟨_, _, _, _, _, rfl, k76, by decide, rfl⟩) rfl rfl (m_body hM (by decide) hr 71) (by decide) (Nat.le_refl _) (by decide) (Nat.le_of_ble_eq_true rfl) ?_
  rintro _ _ s72 ⟨rfl, rfl, hM, hS1⟩ -
  refine V_non ?_
  have hS := hS.trans hS1
  have hr : gi (bodyL 2 71 M) 76 57 = nI 3 := gi_eq
  have hR := hM.1
  refine V_aload_n dM_sealsAct_75 rfl ?_
  refine V_iload_n dM_sealsAct_76 rfl ?_
  refine V_iload_n dM_sealsAct_77 rfl ?_
  refine V_callV (as := [.int num, .int x]) (rest := []) (bs' := 0) rfl dM_sealsAct_78 cmM_envelopeSeals cvM_envelopeSeals mlM_359 (Or.inl ⟨_, _, _, _, _, rfl, k76, by decide, rfl⟩) rfl rfl (m_envelopeSeals_6_3 hM he hn hK hv hr x) (by decide) (Nat.le_refl _) (by decide) (Nat.le_of_ble_eq_true rfl) ?_
  rintro _ _ s78 ⟨rfl, rfl, hM, hS1⟩ -
  refine V_one ?_
  have hS := hS.trans hS1
  have hr : gi (bodyL 3 10 (bodyL 2 71 M)) 76 57 = nI 4 := gi_eq
  have hR := hM.1
  refine V_aload_n dM_sealsAct_81 rfl ?_
  refine V_getR (a := 79) dM_sealsAct_82 flM_29 k76 rfl (r76_6 hR) ?_
  refine V_iload_n dM_sealsAct_85 rfl ?_
  refine V_ialdN (j := e) dM_sealsAct_86 k79 hn (by omega) (by decide) ?_
  refine V_topI (x' := v) ((mR hM rfl).trans hv) ?_
  refine V_ixor dM_sealsAct_87 ?_
  exact V_iret dM_sealsAct_88 rfl rfl ⟨rfl, rfl, hM, hS⟩
theorem m_envelopePays_6_1 {l : Launch} {G : GT} {M σ : Hp} (hM : RM M σ) {e : Nat} {num v : Int32} (he : e < 8) (hn : num = nI e) (hK : gi M 78 e = nI 6) (hv : gi M 79 e = v) (hr : gi M 76 57 = nI 1) (x : Int32) : MM l G mM_envelopePays 3 0 0 [.ref 76, .int num, .int x] KA σ (PB (bodyL 3 10 (bodyL 2 71 (bodyL 1 11 M))) σ (some (.int (((x + num) ^^^ v) - v)))) := by
  have hR := hM.1
  have hM0 := hM
  have hS : Sc σ σ := Sc.rfl
  refine MM.of (loc := [(0, .ref 76), (1, .int num), (2, .int x)]) (by decide +kernel) rfl (Nat.le_of_ble_eq_true rfl) ?_
  refine V_aload_n dM_envelopePays_0 rfl ?_
  refine V_bipush (v := 11) dM_envelopePays_1 (by decide) ?_
  refine V_callV (as := [.int 11]) (rest := []) (bs' := 0) rfl dM_envelopePays_3 cmM_body cvM_body mlM_356 (Or.inl ⟨_, _, _, _, _, rfl, k76, by decide, rfl⟩) rfl rfl (m_body hM (by decide) hr 11) (by decide) (Nat.le_refl _) (by decide) (Nat.le_of_ble_eq_true rfl) ?_
  rintro _ _ s3 ⟨rfl, rfl, hM, hS1⟩ -
  refine V_non ?_
  have hS := hS.trans hS1
  have hr : gi (bodyL 1 11 M) 76 57 = nI 2 := gi_eq
  have hR := hM.1
  refine V_aload_n dM_envelopePays_6 rfl ?_
  refine V_iload_n dM_envelopePays_7 rfl ?_
  refine V_iload_n dM_envelopePays_8 rfl ?_
  refine V_callV (as := [.int num, .int x]) (rest := []) (bs' := 0) rfl dM_envelopePays_9 cmM_sealsAct cvM_sealsAct mlM_362 (Or.inl ⟨_, _, _, _, _, rfl, k76, by decide, rfl⟩) rfl rfl (m_sealsAct_6_2 hM he hn hK hv hr x) (by decide) (Nat.le_refl _) (by decide) (Nat.le_of_ble_eq_true rfl) ?_
  rintro _ _ s9 ⟨rfl, rfl, hM, hS1⟩ -
  refine V_one ?_
  have hS := hS.trans hS1
  have hr : gi (bodyL 3 10 (bodyL 2 71 (bodyL 1 11 M))) 76 57 = nI 4 := gi_eq
  have hR := hM.1
  refine V_aload_n dM_envelopePays_12 rfl ?_
  refine V_getR (a := 79) dM_envelopePays_13 flM_29 k76 rfl (r76_6 hR) ?_
  refine V_iload_n dM_envelopePays_16 rfl ?_
  refine V_ialdN (j := e) dM_envelopePays_17 k79 hn (by omega) (by decide) ?_
  refine V_topI (x' := v) ((mR hM rfl).trans hv) ?_
  refine V_isub dM_envelopePays_18 ?_
  exact V_iret dM_envelopePays_19 rfl rfl ⟨rfl, rfl, hM, hS⟩
theorem m_envelopeSeals_6_4 {l : Launch} {G : GT} {M σ : Hp} (hM : RM M σ) {e : Nat} {num v : Int32} (he : e < 8) (hn : num = nI e) (hK : gi M 78 e = nI 6) (hv : gi M 79 e = v) (hr : gi M 76 57 = nI 4) (x : Int32) : MM l G mM_envelopeSeals 1 0 0 [.ref 76, .int num, .int x] KA σ (PB (bodyL 4 10 M) σ (some (.int (x + num)))) := by
  have hR := hM.1
  have hM0 := hM
  have hS : Sc σ σ := Sc.rfl
  refine MM.of (loc := [(0, .ref 76), (1, .int num), (2, .int x)]) (by decide +kernel) rfl (Nat.le_of_ble_eq_true rfl) ?_
  refine V_aload_n dM_envelopeSeals_0 rfl ?_
  refine V_bipush (v := 10) dM_envelopeSeals_1 (by decide) ?_
  refine V_callV (as := [.int 10]) (rest := []) (bs' := 0) rfl dM_envelopeSeals_3 cmM_body cvM_body mlM_356 (Or.inl ⟨_, _, _, _, _, rfl, k76, by decide, rfl⟩) rfl rfl (m_body hM (by decide) hr 10) (by decide) (Nat.le_refl _) (by decide) (Nat.le_of_ble_eq_true rfl) ?_
  rintro _ _ s3 ⟨rfl, rfl, hM, hS1⟩ -
  refine V_non ?_
  have hS := hS.trans hS1
  have hr : gi (bodyL 4 10 M) 76 57 = nI 5 := gi_eq
  have hR := hM.1
  refine V_iload_n dM_envelopeSeals_6 rfl ?_
  refine V_iload_n dM_envelopeSeals_7 rfl ?_
  refine V_iadd dM_envelopeSeals_8 ?_
  exact V_iret dM_envelopeSeals_9 rfl rfl ⟨rfl, rfl, hM, hS⟩
theorem m_paysAct_6_0 {l : Launch} {G : GT} {M σ : Hp} (hM : RM M σ) {e : Nat} {num v : Int32} (he : e < 8) (hn : num = nI e) (hK : gi M 78 e = nI 6) (hv : gi M 79 e = v) (hr : gi M 76 57 = nI 0) (x : Int32) : MM l G mM_paysAct 5 0 0 [.ref 76, .int num, .int x] KA σ (PB (bodyL 4 10 (bodyL 3 10 (bodyL 2 71 (bodyL 1 11 (bodyL 0 70 M))))) σ (some (.int ((((x + num) ^^^ v) - v) + (2 + num))))) := by
  have hR := hM.1
  have hM0 := hM
  have hS : Sc σ σ := Sc.rfl
  refine MM.of (loc := [(0, .ref 76), (1, .int num), (2, .int x)]) (by decide +kernel) rfl (Nat.le_of_ble_eq_true rfl) ?_
  refine V_aload_n dM_paysAct_0 rfl ?_
  refine V_getR (a := 78) dM_paysAct_1 flM_26 k76 rfl (r76_5 hR) ?_
  refine V_iload_n dM_paysAct_4 rfl ?_
  refine V_ialdN (j := e) dM_paysAct_5 k78 hn (by omega) (by decide) ?_
  refine V_topI (x' := 6) ((mR hM rfl).trans hK) ?_
  refine V_lsw (tgt := 62) dM_paysAct_6 (by decide) rfl rfl ?_
  refine V_aload_n dM_paysAct_62 rfl ?_
  refine V_bipush (v := 70) dM_paysAct_63 (by decide) ?_
  refine V_callV (as := [.int 70]) (rest := []) (bs' := 0) rfl dM_paysAct_65 cmM_body cvM_body mlM_356 (Or.inl ⟨_, _, _, _, _, rfl, k76, by decide, rfl⟩) rfl rfl (m_body hM (by decide) hr 70) (by decide) (Nat.le_refl _) (by decide) (Nat.le_of_ble_eq_true rfl) ?_
  rintro _ _ s65 ⟨rfl, rfl, hM, hS1⟩ -
  refine V_non ?_
  have hS := hS.trans hS1
  have hr : gi (bodyL 0 70 M) 76 57 = nI 1 := gi_eq
  have hR := hM.1
  refine V_aload_n dM_paysAct_68 rfl ?_
  refine V_iload_n dM_paysAct_69 rfl ?_
  refine V_iload_n dM_paysAct_70 rfl ?_
  refine V_callV (as := [.int num, .int x]) (rest := []) (bs' := 0) rfl dM_paysAct_71 cmM_envelopePays cvM_envelopePays mlM_365 (Or.inl ⟨_, _, _, _, _, rfl, k76, by decide, rfl⟩) rfl rfl (m_envelopePays_6_1 hM he hn hK hv hr x) (by decide) (Nat.le_refl _) (by decide) (Nat.le_of_ble_eq_true rfl) ?_
  rintro _ _ s71 ⟨rfl, rfl, hM, hS1⟩ -
  refine V_one ?_
  have hS := hS.trans hS1
  have hr : gi (bodyL 3 10 (bodyL 2 71 (bodyL 1 11 (bodyL 0 70 M)))) 76 57 = nI 4 := gi_eq
  have hR := hM.1
  refine V_istore_n (loc' := [(3, .int (((x + num) ^^^ v) - v)), (0, .ref 76), (1, .int num), (2, .int x)]) dM_paysAct_74 (by decide) rfl ?_
  refine V_iload_n dM_paysAct_75 rfl ?_
  refine V_aload_n dM_paysAct_76 rfl ?_
  refine V_iload_n dM_paysAct_77 rfl ?_
  refine V_iconst (v := 2) dM_paysAct_78 (by decide) ?_
  refine V_callV (as := [.int num, .int 2]) (rest := [.int (((x + num) ^^^ v) - v)]) (bs' := 0) rfl dM_paysAct_79 cmM_envelopeSeals cvM_envelopeSeals mlM_359 (Or.inl ⟨_, _, _, _, _, rfl, k76, by decide, rfl⟩) rfl rfl (m_envelopeSeals_6_4 hM he hn hK hv hr 2) (by decide) (Nat.le_refl _) (by decide) (Nat.le_of_ble_eq_true rfl) ?_
  rintro _ _ s79 ⟨rfl, rfl, hM, hS1⟩ -
  refine V_one ?_
  have hS := hS.trans hS1
  have hr : gi (bodyL 4 10 (bodyL 3 10 (bodyL 2 71 (bodyL 1 11 (bodyL 0 70 M))))) 76 57 = nI 5 := gi_eq
  have hR := hM.1
  refine V_iadd dM_paysAct_82 ?_
  exact V_iret dM_paysAct_83 rfl rfl ⟨rfl, rfl, hM, hS⟩
theorem m_envelopeSeals_6_5 {l : Launch} {G : GT} {M σ : Hp} (hM : RM M σ) {e : Nat} {num v : Int32} (he : e < 8) (hn : num = nI e) (hK : gi M 78 e = nI 6) (hv : gi M 79 e = v) (hr : gi M 76 57 = nI 5) (x : Int32) : MM l G mM_envelopeSeals 1 0 0 [.ref 76, .int num, .int x] KA σ (PB (bodyL 5 10 M) σ (some (.int (x + num)))) := by
  have hR := hM.1
  have hM0 := hM
  have hS : Sc σ σ := Sc.rfl
  refine MM.of (loc := [(0, .ref 76), (1, .int num), (2, .int x)]) (by decide +kernel) rfl (Nat.le_of_ble_eq_true rfl) ?_
  refine V_aload_n dM_envelopeSeals_0 rfl ?_
  refine V_bipush (v := 10) dM_envelopeSeals_1 (by decide) ?_
  refine V_callV (as := [.int 10]) (rest := []) (bs' := 0) rfl dM_envelopeSeals_3 cmM_body cvM_body mlM_356 (Or.inl ⟨_, _, _, _, _, rfl, k76, by decide, rfl⟩) rfl rfl (m_body hM (by decide) hr 10) (by decide) (Nat.le_refl _) (by decide) (Nat.le_of_ble_eq_true rfl) ?_
  rintro _ _ s3 ⟨rfl, rfl, hM, hS1⟩ -
  refine V_non ?_
  have hS := hS.trans hS1
  have hr : gi (bodyL 5 10 M) 76 57 = nI 6 := gi_eq
  have hR := hM.1
  refine V_iload_n dM_envelopeSeals_6 rfl ?_
  refine V_iload_n dM_envelopeSeals_7 rfl ?_
  refine V_iadd dM_envelopeSeals_8 ?_
  exact V_iret dM_envelopeSeals_9 rfl rfl ⟨rfl, rfl, hM, hS⟩
theorem m_sealsAct_6_4 {l : Launch} {G : GT} {M σ : Hp} (hM : RM M σ) {e : Nat} {num v : Int32} (he : e < 8) (hn : num = nI e) (hK : gi M 78 e = nI 6) (hv : gi M 79 e = v) (hr : gi M 76 57 = nI 4) (x : Int32) : MM l G mM_sealsAct 2 0 0 [.ref 76, .int num, .int x] KA σ (PB (bodyL 5 10 (bodyL 4 71 M)) σ (some (.int ((x + num) ^^^ v)))) := by
  have hR := hM.1
  have hM0 := hM
  have hS : Sc σ σ := Sc.rfl
  refine MM.of (loc := [(0, .ref 76), (1, .int num), (2, .int x)]) (by decide +kernel) rfl (Nat.le_of_ble_eq_true rfl) ?_
  refine V_aload_n dM_sealsAct_0 rfl ?_
  refine V_getR (a := 78) dM_sealsAct_1 flM_26 k76 rfl (r76_5 hR) ?_
  refine V_iload_n dM_sealsAct_4 rfl ?_
  refine V_ialdN (j := e) dM_sealsAct_5 k78 hn (by omega) (by decide) ?_
  refine V_topI (x' := 6) ((mR hM rfl).trans hK) ?_
  refine V_tsC (tgt := 69) 6 rfl dM_sealsAct_6 (by decide) (by decide) rfl rfl ?_
  refine V_aload_n dM_sealsAct_69 rfl ?_
  refine V_bipush (v := 71) dM_sealsAct_70 (by decide) ?_
  refine V_callV (as := [.int 71]) (rest := []) (bs' := 0) rfl dM_sealsAct_72 cmM_body cvM_body mlM_356 (Or.inl ⟨_, _, _, _, _, rfl, k76, by decide, rfl⟩) rfl rfl (m_body hM (by decide) hr 71) (by decide) (Nat.le_refl _) (by decide) (Nat.le_of_ble_eq_true rfl) ?_
  rintro _ _ s72 ⟨rfl, rfl, hM, hS1⟩ -
  refine V_non ?_
  have hS := hS.trans hS1
  have hr : gi (bodyL 4 71 M) 76 57 = nI 5 := gi_eq
  have hR := hM.1
  refine V_aload_n dM_sealsAct_75 rfl ?_
  refine V_iload_n dM_sealsAct_76 rfl ?_
  refine V_iload_n dM_sealsAct_77 rfl ?_
  refine V_callV (as := [.int num, .int x]) (rest := []) (bs' := 0) rfl dM_sealsAct_78 cmM_envelopeSeals cvM_envelopeSeals mlM_359 (Or.inl ⟨_, _, _, _, _, rfl, k76, by decide, rfl⟩) rfl rfl (m_envelopeSeals_6_5 hM he hn hK hv hr x) (by decide) (Nat.le_refl _) (by decide) (Nat.le_of_ble_eq_true rfl) ?_
  rintro _ _ s78 ⟨rfl, rfl, hM, hS1⟩ -
  refine V_one ?_
  have hS := hS.trans hS1
  have hr : gi (bodyL 5 10 (bodyL 4 71 M)) 76 57 = nI 6 := gi_eq
  have hR := hM.1
  refine V_aload_n dM_sealsAct_81 rfl ?_
  refine V_getR (a := 79) dM_sealsAct_82 flM_29 k76 rfl (r76_6 hR) ?_
  refine V_iload_n dM_sealsAct_85 rfl ?_
  refine V_ialdN (j := e) dM_sealsAct_86 k79 hn (by omega) (by decide) ?_
  refine V_topI (x' := v) ((mR hM rfl).trans hv) ?_
  refine V_ixor dM_sealsAct_87 ?_
  exact V_iret dM_sealsAct_88 rfl rfl ⟨rfl, rfl, hM, hS⟩
theorem m_envelopePays_6_3 {l : Launch} {G : GT} {M σ : Hp} (hM : RM M σ) {e : Nat} {num v : Int32} (he : e < 8) (hn : num = nI e) (hK : gi M 78 e = nI 6) (hv : gi M 79 e = v) (hr : gi M 76 57 = nI 3) (x : Int32) : MM l G mM_envelopePays 3 0 0 [.ref 76, .int num, .int x] KA σ (PB (bodyL 5 10 (bodyL 4 71 (bodyL 3 11 M))) σ (some (.int (((x + num) ^^^ v) - v)))) := by
  have hR := hM.1
  have hM0 := hM
  have hS : Sc σ σ := Sc.rfl
  refine MM.of (loc := [(0, .ref 76), (1, .int num), (2, .int x)]) (by decide +kernel) rfl (Nat.le_of_ble_eq_true rfl) ?_
  refine V_aload_n dM_envelopePays_0 rfl ?_
  refine V_bipush (v := 11) dM_envelopePays_1 (by decide) ?_
  refine V_callV (as := [.int 11]) (rest := []) (bs' := 0) rfl dM_envelopePays_3 cmM_body cvM_body mlM_356 (Or.inl ⟨_, _, _, _, _, rfl, k76, by decide, rfl⟩) rfl rfl (m_body hM (by decide) hr 11) (by decide) (Nat.le_refl _) (by decide) (Nat.le_of_ble_eq_true rfl) ?_
  rintro _ _ s3 ⟨rfl, rfl, hM, hS1⟩ -
  refine V_non ?_
  have hS := hS.trans hS1
  have hr : gi (bodyL 3 11 M) 76 57 = nI 4 := gi_eq
  have hR := hM.1
  refine V_aload_n dM_envelopePays_6 rfl ?_
  refine V_iload_n dM_envelopePays_7 rfl ?_
  refine V_iload_n dM_envelopePays_8 rfl ?_
  refine V_callV (as := [.int num, .int x]) (rest := []) (bs' := 0) rfl dM_envelopePays_9 cmM_sealsAct cvM_sealsAct mlM_362 (Or.inl ⟨_, _, _, _, _, rfl, k76, by decide, rfl⟩) rfl rfl (m_sealsAct_6_4 hM he hn hK hv hr x) (by decide) (Nat.le_refl _) (by decide) (Nat.le_of_ble_eq_true rfl) ?_
  rintro _ _ s9 ⟨rfl, rfl, hM, hS1⟩ -
  refine V_one ?_
  have hS := hS.trans hS1
  have hr : gi (bodyL 5 10 (bodyL 4 71 (bodyL 3 11 M))) 76 57 = nI 6 := gi_eq
  have hR := hM.1
  refine V_aload_n dM_envelopePays_12 rfl ?_
  refine V_getR (a := 79) dM_envelopePays_13 flM_29 k76 rfl (r76_6 hR) ?_
  refine V_iload_n dM_envelopePays_16 rfl ?_
  refine V_ialdN (j := e) dM_envelopePays_17 k79 hn (by omega) (by decide) ?_
  refine V_topI (x' := v) ((mR hM rfl).trans hv) ?_
  refine V_isub dM_envelopePays_18 ?_
  exact V_iret dM_envelopePays_19 rfl rfl ⟨rfl, rfl, hM, hS⟩
theorem m_envelopeSeals_6_6 {l : Launch} {G : GT} {M σ : Hp} (hM : RM M σ) {e : Nat} {num v : Int32} (he : e < 8) (hn : num = nI e) (hK : gi M 78 e = nI 6) (hv : gi M 79 e = v) (hr : gi M 76 57 = nI 6) (x : Int32) : MM l G mM_envelopeSeals 1 0 0 [.ref 76, .int num, .int x] KA σ (PB (bodyL 6 10 M) σ (some (.int (x + num)))) := by
  have hR := hM.1
  have hM0 := hM
  have hS : Sc σ σ := Sc.rfl
  refine MM.of (loc := [(0, .ref 76), (1, .int num), (2, .int x)]) (by decide +kernel) rfl (Nat.le_of_ble_eq_true rfl) ?_
  refine V_aload_n dM_envelopeSeals_0 rfl ?_
  refine V_bipush (v := 10) dM_envelopeSeals_1 (by decide) ?_
  refine V_callV (as := [.int 10]) (rest := []) (bs' := 0) rfl dM_envelopeSeals_3 cmM_body cvM_body mlM_356 (Or.inl ⟨_, _, _, _, _, rfl, k76, by decide, rfl⟩) rfl rfl (m_body hM (by decide) hr 10) (by decide) (Nat.le_refl _) (by decide) (Nat.le_of_ble_eq_true rfl) ?_
  rintro _ _ s3 ⟨rfl, rfl, hM, hS1⟩ -
  refine V_non ?_
  have hS := hS.trans hS1
  have hr : gi (bodyL 6 10 M) 76 57 = nI 7 := gi_eq
  have hR := hM.1
  refine V_iload_n dM_envelopeSeals_6 rfl ?_
  refine V_iload_n dM_envelopeSeals_7 rfl ?_
  refine V_iadd dM_envelopeSeals_8 ?_
  exact V_iret dM_envelopeSeals_9 rfl rfl ⟨rfl, rfl, hM, hS⟩
theorem m_paysAct_6_2 {l : Launch} {G : GT} {M σ : Hp} (hM : RM M σ) {e : Nat} {num v : Int32} (he : e < 8) (hn : num = nI e) (hK : gi M 78 e = nI 6) (hv : gi M 79 e = v) (hr : gi M 76 57 = nI 2) (x : Int32) : MM l G mM_paysAct 5 0 0 [.ref 76, .int num, .int x] KA σ (PB (bodyL 6 10 (bodyL 5 10 (bodyL 4 71 (bodyL 3 11 (bodyL 2 70 M))))) σ (some (.int ((((x + num) ^^^ v) - v) + (2 + num))))) := by
  have hR := hM.1
  have hM0 := hM
  have hS : Sc σ σ := Sc.rfl
  refine MM.of (loc := [(0, .ref 76), (1, .int num), (2, .int x)]) (by decide +kernel) rfl (Nat.le_of_ble_eq_true rfl) ?_
  refine V_aload_n dM_paysAct_0 rfl ?_
  refine V_getR (a := 78) dM_paysAct_1 flM_26 k76 rfl (r76_5 hR) ?_
  refine V_iload_n dM_paysAct_4 rfl ?_
  refine V_ialdN (j := e) dM_paysAct_5 k78 hn (by omega) (by decide) ?_
  refine V_topI (x' := 6) ((mR hM rfl).trans hK) ?_
  refine V_lsw (tgt := 62) dM_paysAct_6 (by decide) rfl rfl ?_
  refine V_aload_n dM_paysAct_62 rfl ?_
  refine V_bipush (v := 70) dM_paysAct_63 (by decide) ?_
  refine V_callV (as := [.int 70]) (rest := []) (bs' := 0) rfl dM_paysAct_65 cmM_body cvM_body mlM_356 (Or.inl ⟨_, _, _, _, _, rfl, k76, by decide, rfl⟩) rfl rfl (m_body hM (by decide) hr 70) (by decide) (Nat.le_refl _) (by decide) (Nat.le_of_ble_eq_true rfl) ?_
  rintro _ _ s65 ⟨rfl, rfl, hM, hS1⟩ -
  refine V_non ?_
  have hS := hS.trans hS1
  have hr : gi (bodyL 2 70 M) 76 57 = nI 3 := gi_eq
  have hR := hM.1
  refine V_aload_n dM_paysAct_68 rfl ?_
  refine V_iload_n dM_paysAct_69 rfl ?_
  refine V_iload_n dM_paysAct_70 rfl ?_
  refine V_callV (as := [.int num, .int x]) (rest := []) (bs' := 0) rfl dM_paysAct_71 cmM_envelopePays cvM_envelopePays mlM_365 (Or.inl ⟨_, _, _, _, _, rfl, k76, by decide, rfl⟩) rfl rfl (m_envelopePays_6_3 hM he hn hK hv hr x) (by decide) (Nat.le_refl _) (by decide) (Nat.le_of_ble_eq_true rfl) ?_
  rintro _ _ s71 ⟨rfl, rfl, hM, hS1⟩ -
  refine V_one ?_
  have hS := hS.trans hS1
  have hr : gi (bodyL 5 10 (bodyL 4 71 (bodyL 3 11 (bodyL 2 70 M)))) 76 57 = nI 6 := gi_eq
  have hR := hM.1
  refine V_istore_n (loc' := [(3, .int (((x + num) ^^^ v) - v)), (0, .ref 76), (1, .int num), (2, .int x)]) dM_paysAct_74 (by decide) rfl ?_
  refine V_iload_n dM_paysAct_75 rfl ?_
  refine V_aload_n dM_paysAct_76 rfl ?_
  refine V_iload_n dM_paysAct_77 rfl ?_
  refine V_iconst (v := 2) dM_paysAct_78 (by decide) ?_
  refine V_callV (as := [.int num, .int 2]) (rest := [.int (((x + num) ^^^ v) - v)]) (bs' := 0) rfl dM_paysAct_79 cmM_envelopeSeals cvM_envelopeSeals mlM_359 (Or.inl ⟨_, _, _, _, _, rfl, k76, by decide, rfl⟩) rfl rfl (m_envelopeSeals_6_6 hM he hn hK hv hr 2) (by decide) (Nat.le_refl _) (by decide) (Nat.le_of_ble_eq_true rfl) ?_
  rintro _ _ s79 ⟨rfl, rfl, hM, hS1⟩ -
  refine V_one ?_
  have hS := hS.trans hS1
  have hr : gi (bodyL 6 10 (bodyL 5 10 (bodyL 4 71 (bodyL 3 11 (bodyL 2 70 M))))) 76 57 = nI 7 := gi_eq
  have hR := hM.1
  refine V_iadd dM_paysAct_82 ?_
  exact V_iret dM_paysAct_83 rfl rfl ⟨rfl, rfl, hM, hS⟩
theorem m_envelopeTells_6_1 {l : Launch} {G : GT} {M σ : Hp} (hM : RM M σ) {e : Nat} {num v : Int32} (he : e < 8) (hn : num = nI e) (hK : gi M 78 e = nI 6) (hv : gi M 79 e = v) (hr : gi M 76 57 = nI 1) (x : Int32) : MM l G mM_envelopeTells 6 0 0 [.ref 76, .int num, .int x] KA σ (PB (bodyL 6 10 (bodyL 5 10 (bodyL 4 71 (bodyL 3 11 (bodyL 2 70 (bodyL 1 12 M)))))) σ (some (.int (((((x + num) ^^^ v) - v) + (2 + num)) * 2)))) := by
  have hR := hM.1
  have hM0 := hM
  have hS : Sc σ σ := Sc.rfl
  refine MM.of (loc := [(0, .ref 76), (1, .int num), (2, .int x)]) (by decide +kernel) rfl (Nat.le_of_ble_eq_true rfl) ?_
  refine V_aload_n dM_envelopeTells_0 rfl ?_
  refine V_bipush (v := 12) dM_envelopeTells_1 (by decide) ?_
  refine V_callV (as := [.int 12]) (rest := []) (bs' := 0) rfl dM_envelopeTells_3 cmM_body cvM_body mlM_356 (Or.inl ⟨_, _, _, _, _, rfl, k76, by decide, rfl⟩) rfl rfl (m_body hM (by decide) hr 12) (by decide) (Nat.le_refl _) (by decide) (Nat.le_of_ble_eq_true rfl) ?_
  rintro _ _ s3 ⟨rfl, rfl, hM, hS1⟩ -
  refine V_non ?_
  have hS := hS.trans hS1
  have hr : gi (bodyL 1 12 M) 76 57 = nI 2 := gi_eq
  have hR := hM.1
  refine V_aload_n dM_envelopeTells_6 rfl ?_
  refine V_iload_n dM_envelopeTells_7 rfl ?_
  refine V_iload_n dM_envelopeTells_8 rfl ?_
  refine V_callV (as := [.int num, .int x]) (rest := []) (bs' := 0) rfl dM_envelopeTells_9 cmM_paysAct cvM_paysAct mlM_371 (Or.inl ⟨_, _, _, _, _, rfl, k76, by decide, rfl⟩) rfl rfl (m_paysAct_6_2 hM he hn hK hv hr x) (by decide) (Nat.le_refl _) (by decide) (Nat.le_of_ble_eq_true rfl) ?_
  rintro _ _ s9 ⟨rfl, rfl, hM, hS1⟩ -
  refine V_one ?_
  have hS := hS.trans hS1
  have hr : gi (bodyL 6 10 (bodyL 5 10 (bodyL 4 71 (bodyL 3 11 (bodyL 2 70 (bodyL 1 12 M)))))) 76 57 = nI 7 := gi_eq
  have hR := hM.1
  refine V_iconst (v := 2) dM_envelopeTells_12 (by decide) ?_
  refine V_imul dM_envelopeTells_13 ?_
  exact V_iret dM_envelopeTells_14 rfl rfl ⟨rfl, rfl, hM, hS⟩
theorem m_envelopeSeals_6_10 {l : Launch} {G : GT} {M σ : Hp} (hM : RM M σ) {e : Nat} {num v : Int32} (he : e < 8) (hn : num = nI e) (hK : gi M 78 e = nI 6) (hv : gi M 79 e = v) (hr : gi M 76 57 = nI 10) (x : Int32) : MM l G mM_envelopeSeals 1 0 0 [.ref 76, .int num, .int x] KA σ (PB (bodyL 10 10 M) σ (some (.int (x + num)))) := by
  have hR := hM.1
  have hM0 := hM
  have hS : Sc σ σ := Sc.rfl
  refine MM.of (loc := [(0, .ref 76), (1, .int num), (2, .int x)]) (by decide +kernel) rfl (Nat.le_of_ble_eq_true rfl) ?_
  refine V_aload_n dM_envelopeSeals_0 rfl ?_
  refine V_bipush (v := 10) dM_envelopeSeals_1 (by decide) ?_
  refine V_callV (as := [.int 10]) (rest := []) (bs' := 0) rfl dM_envelopeSeals_3 cmM_body cvM_body mlM_356 (Or.inl ⟨_, _, _, _, _, rfl, k76, by decide, rfl⟩) rfl rfl (m_body hM (by decide) hr 10) (by decide) (Nat.le_refl _) (by decide) (Nat.le_of_ble_eq_true rfl) ?_
  rintro _ _ s3 ⟨rfl, rfl, hM, hS1⟩ -
  refine V_non ?_
  have hS := hS.trans hS1
  have hr : gi (bodyL 10 10 M) 76 57 = nI 11 := gi_eq
  have hR := hM.1
  refine V_iload_n dM_envelopeSeals_6 rfl ?_
  refine V_iload_n dM_envelopeSeals_7 rfl ?_
  refine V_iadd dM_envelopeSeals_8 ?_
  exact V_iret dM_envelopeSeals_9 rfl rfl ⟨rfl, rfl, hM, hS⟩
theorem m_sealsAct_6_9 {l : Launch} {G : GT} {M σ : Hp} (hM : RM M σ) {e : Nat} {num v : Int32} (he : e < 8) (hn : num = nI e) (hK : gi M 78 e = nI 6) (hv : gi M 79 e = v) (hr : gi M 76 57 = nI 9) (x : Int32) : MM l G mM_sealsAct 2 0 0 [.ref 76, .int num, .int x] KA σ (PB (bodyL 10 10 (bodyL 9 71 M)) σ (some (.int ((x + num) ^^^ v)))) := by
  have hR := hM.1
  have hM0 := hM
  have hS : Sc σ σ := Sc.rfl
  refine MM.of (loc := [(0, .ref 76), (1, .int num), (2, .int x)]) (by decide +kernel) rfl (Nat.le_of_ble_eq_true rfl) ?_
  refine V_aload_n dM_sealsAct_0 rfl ?_
  refine V_getR (a := 78) dM_sealsAct_1 flM_26 k76 rfl (r76_5 hR) ?_
  refine V_iload_n dM_sealsAct_4 rfl ?_
  refine V_ialdN (j := e) dM_sealsAct_5 k78 hn (by omega) (by decide) ?_
  refine V_topI (x' := 6) ((mR hM rfl).trans hK) ?_
  refine V_tsC (tgt := 69) 6 rfl dM_sealsAct_6 (by decide) (by decide) rfl rfl ?_
  refine V_aload_n dM_sealsAct_69 rfl ?_
  refine V_bipush (v := 71) dM_sealsAct_70 (by decide) ?_
  refine V_callV (as := [.int 71]) (rest := []) (bs' := 0) rfl dM_sealsAct_72 cmM_body cvM_body mlM_356 (Or.inl ⟨_, _, _, _, _, rfl, k76, by decide, rfl⟩) rfl rfl (m_body hM (by decide) hr 71) (by decide) (Nat.le_refl _) (by decide) (Nat.le_of_ble_eq_true rfl) ?_
  rintro _ _ s72 ⟨rfl, rfl, hM, hS1⟩ -
  refine V_non ?_
  have hS := hS.trans hS1
  have hr : gi (bodyL 9 71 M) 76 57 = nI 10 := gi_eq
  have hR := hM.1
  refine V_aload_n dM_sealsAct_75 rfl ?_
  refine V_iload_n dM_sealsAct_76 rfl ?_
  refine V_iload_n dM_sealsAct_77 rfl ?_
  refine V_callV (as := [.int num, .int x]) (rest := []) (bs' := 0) rfl dM_sealsAct_78 cmM_envelopeSeals cvM_envelopeSeals mlM_359 (Or.inl ⟨_, _, _, _, _, rfl, k76, by decide, rfl⟩) rfl rfl (m_envelopeSeals_6_10 hM he hn hK hv hr x) (by decide) (Nat.le_refl _) (by decide) (Nat.le_of_ble_eq_true rfl) ?_
  rintro _ _ s78 ⟨rfl, rfl, hM, hS1⟩ -
  refine V_one ?_
  have hS := hS.trans hS1
  have hr : gi (bodyL 10 10 (bodyL 9 71 M)) 76 57 = nI 11 := gi_eq
  have hR := hM.1
  refine V_aload_n dM_sealsAct_81 rfl ?_
  refine V_getR (a := 79) dM_sealsAct_82 flM_29 k76 rfl (r76_6 hR) ?_
  refine V_iload_n dM_sealsAct_85 rfl ?_
  refine V_ialdN (j := e) dM_sealsAct_86 k79 hn (by omega) (by decide) ?_
  refine V_topI (x' := v) ((mR hM rfl).trans hv) ?_
  refine V_ixor dM_sealsAct_87 ?_
  exact V_iret dM_sealsAct_88 rfl rfl ⟨rfl, rfl, hM, hS⟩
theorem m_envelopePays_6_8 {l : Launch} {G : GT} {M σ : Hp} (hM : RM M σ) {e : Nat} {num v : Int32} (he : e < 8) (hn : num = nI e) (hK : gi M 78 e = nI 6) (hv : gi M 79 e = v) (hr : gi M 76 57 = nI 8) (x : Int32) : MM l G mM_envelopePays 3 0 0 [.ref 76, .int num, .int x] KA σ (PB (bodyL 10 10 (bodyL 9 71 (bodyL 8 11 M))) σ (some (.int (((x + num) ^^^ v) - v)))) := by
  have hR := hM.1
  have hM0 := hM
  have hS : Sc σ σ := Sc.rfl
  refine MM.of (loc := [(0, .ref 76), (1, .int num), (2, .int x)]) (by decide +kernel) rfl (Nat.le_of_ble_eq_true rfl) ?_
  refine V_aload_n dM_envelopePays_0 rfl ?_
  refine V_bipush (v := 11) dM_envelopePays_1 (by decide) ?_
  refine V_callV (as := [.int 11]) (rest := []) (bs' := 0) rfl dM_envelopePays_3 cmM_body cvM_body mlM_356 (Or.inl ⟨_, _, _, _, _, rfl, k76, by decide, rfl⟩) rfl rfl (m_body hM (by decide) hr 11) (by decide) (Nat.le_refl _) (by decide) (Nat.le_of_ble_eq_true rfl) ?_
  rintro _ _ s3 ⟨rfl, rfl, hM, hS1⟩ -
  refine V_non ?_
  have hS := hS.trans hS1
  have hr : gi (bodyL 8 11 M) 76 57 = nI 9 := gi_eq
  have hR := hM.1
  refine V_aload_n dM_envelopePays_6 rfl ?_
  refine V_iload_n dM_envelopePays_7 rfl ?_
  refine V_iload_n dM_envelopePays_8 rfl ?_
  refine V_callV (as := [.int num, .int x]) (rest := []) (bs' := 0) rfl dM_envelopePays_9 cmM_sealsAct cvM_sealsAct mlM_362 (Or.inl ⟨_, _, _, _, _, rfl, k76, by decide, rfl⟩) rfl rfl (m_sealsAct_6_9 hM he hn hK hv hr x) (by decide) (Nat.le_refl _) (by decide) (Nat.le_of_ble_eq_true rfl) ?_
  rintro _ _ s9 ⟨rfl, rfl, hM, hS1⟩ -
  refine V_one ?_
  have hS := hS.trans hS1
  have hr : gi (bodyL 10 10 (bodyL 9 71 (bodyL 8 11 M))) 76 57 = nI 11 := gi_eq
  have hR := hM.1
  refine V_aload_n dM_envelopePays_12 rfl ?_
  refine V_getR (a := 79) dM_envelopePays_13 flM_29 k76 rfl (r76_6 hR) ?_
  refine V_iload_n dM_envelopePays_16 rfl ?_
  refine V_ialdN (j := e) dM_envelopePays_17 k79 hn (by omega) (by decide) ?_
  refine V_topI (x' := v) ((mR hM rfl).trans hv) ?_
  refine V_isub dM_envelopePays_18 ?_
  exact V_iret dM_envelopePays_19 rfl rfl ⟨rfl, rfl, hM, hS⟩
theorem m_envelopeSeals_6_11 {l : Launch} {G : GT} {M σ : Hp} (hM : RM M σ) {e : Nat} {num v : Int32} (he : e < 8) (hn : num = nI e) (hK : gi M 78 e = nI 6) (hv : gi M 79 e = v) (hr : gi M 76 57 = nI 11) (x : Int32) : MM l G mM_envelopeSeals 1 0 0 [.ref 76, .int num, .int x] KA σ (PB (bodyL 11 10 M) σ (some (.int (x + num)))) := by
  have hR := hM.1
  have hM0 := hM
  have hS : Sc σ σ := Sc.rfl
  refine MM.of (loc := [(0, .ref 76), (1, .int num), (2, .int x)]) (by decide +kernel) rfl (Nat.le_of_ble_eq_true rfl) ?_
  refine V_aload_n dM_envelopeSeals_0 rfl ?_
  refine V_bipush (v := 10) dM_envelopeSeals_1 (by decide) ?_
  refine V_callV (as := [.int 10]) (rest := []) (bs' := 0) rfl dM_envelopeSeals_3 cmM_body cvM_body mlM_356 (Or.inl ⟨_, _, _, _, _, rfl, k76, by decide, rfl⟩) rfl rfl (m_body hM (by decide) hr 10) (by decide) (Nat.le_refl _) (by decide) (Nat.le_of_ble_eq_true rfl) ?_
  rintro _ _ s3 ⟨rfl, rfl, hM, hS1⟩ -
  refine V_non ?_
  have hS := hS.trans hS1
  have hr : gi (bodyL 11 10 M) 76 57 = nI 12 := gi_eq
  have hR := hM.1
  refine V_iload_n dM_envelopeSeals_6 rfl ?_
  refine V_iload_n dM_envelopeSeals_7 rfl ?_
  refine V_iadd dM_envelopeSeals_8 ?_
  exact V_iret dM_envelopeSeals_9 rfl rfl ⟨rfl, rfl, hM, hS⟩
theorem m_paysAct_6_7 {l : Launch} {G : GT} {M σ : Hp} (hM : RM M σ) {e : Nat} {num v : Int32} (he : e < 8) (hn : num = nI e) (hK : gi M 78 e = nI 6) (hv : gi M 79 e = v) (hr : gi M 76 57 = nI 7) (x : Int32) : MM l G mM_paysAct 5 0 0 [.ref 76, .int num, .int x] KA σ (PB (bodyL 11 10 (bodyL 10 10 (bodyL 9 71 (bodyL 8 11 (bodyL 7 70 M))))) σ (some (.int ((((x + num) ^^^ v) - v) + (2 + num))))) := by
  have hR := hM.1
  have hM0 := hM
  have hS : Sc σ σ := Sc.rfl
  refine MM.of (loc := [(0, .ref 76), (1, .int num), (2, .int x)]) (by decide +kernel) rfl (Nat.le_of_ble_eq_true rfl) ?_
  refine V_aload_n dM_paysAct_0 rfl ?_
  refine V_getR (a := 78) dM_paysAct_1 flM_26 k76 rfl (r76_5 hR) ?_
  refine V_iload_n dM_paysAct_4 rfl ?_
  refine V_ialdN (j := e) dM_paysAct_5 k78 hn (by omega) (by decide) ?_
  refine V_topI (x' := 6) ((mR hM rfl).trans hK) ?_
  refine V_lsw (tgt := 62) dM_paysAct_6 (by decide) rfl rfl ?_
  refine V_aload_n dM_paysAct_62 rfl ?_
  refine V_bipush (v := 70) dM_paysAct_63 (by decide) ?_
  refine V_callV (as := [.int 70]) (rest := []) (bs' := 0) rfl dM_paysAct_65 cmM_body cvM_body mlM_356 (Or.inl ⟨_, _, _, _, _, rfl, k76, by decide, rfl⟩) rfl rfl (m_body hM (by decide) hr 70) (by decide) (Nat.le_refl _) (by decide) (Nat.le_of_ble_eq_true rfl) ?_
  rintro _ _ s65 ⟨rfl, rfl, hM, hS1⟩ -
  refine V_non ?_
  have hS := hS.trans hS1
  have hr : gi (bodyL 7 70 M) 76 57 = nI 8 := gi_eq
  have hR := hM.1
  refine V_aload_n dM_paysAct_68 rfl ?_
  refine V_iload_n dM_paysAct_69 rfl ?_
  refine V_iload_n dM_paysAct_70 rfl ?_
  refine V_callV (as := [.int num, .int x]) (rest := []) (bs' := 0) rfl dM_paysAct_71 cmM_envelopePays cvM_envelopePays mlM_365 (Or.inl ⟨_, _, _, _, _, rfl, k76, by decide, rfl⟩) rfl rfl (m_envelopePays_6_8 hM he hn hK hv hr x) (by decide) (Nat.le_refl _) (by decide) (Nat.le_of_ble_eq_true rfl) ?_
  rintro _ _ s71 ⟨rfl, rfl, hM, hS1⟩ -
  refine V_one ?_
  have hS := hS.trans hS1
  have hr : gi (bodyL 10 10 (bodyL 9 71 (bodyL 8 11 (bodyL 7 70 M)))) 76 57 = nI 11 := gi_eq
  have hR := hM.1
  refine V_istore_n (loc' := [(3, .int (((x + num) ^^^ v) - v)), (0, .ref 76), (1, .int num), (2, .int x)]) dM_paysAct_74 (by decide) rfl ?_
  refine V_iload_n dM_paysAct_75 rfl ?_
  refine V_aload_n dM_paysAct_76 rfl ?_
  refine V_iload_n dM_paysAct_77 rfl ?_
  refine V_iconst (v := 2) dM_paysAct_78 (by decide) ?_
  refine V_callV (as := [.int num, .int 2]) (rest := [.int (((x + num) ^^^ v) - v)]) (bs' := 0) rfl dM_paysAct_79 cmM_envelopeSeals cvM_envelopeSeals mlM_359 (Or.inl ⟨_, _, _, _, _, rfl, k76, by decide, rfl⟩) rfl rfl (m_envelopeSeals_6_11 hM he hn hK hv hr 2) (by decide) (Nat.le_refl _) (by decide) (Nat.le_of_ble_eq_true rfl) ?_
  rintro _ _ s79 ⟨rfl, rfl, hM, hS1⟩ -
  refine V_one ?_
  have hS := hS.trans hS1
  have hr : gi (bodyL 11 10 (bodyL 10 10 (bodyL 9 71 (bodyL 8 11 (bodyL 7 70 M))))) 76 57 = nI 12 := gi_eq
  have hR := hM.1
  refine V_iadd dM_paysAct_82 ?_
  exact V_iret dM_paysAct_83 rfl rfl ⟨rfl, rfl, hM, hS⟩
theorem m_tellsAct_6_0 {l : Launch} {G : GT} {M σ : Hp} (hM : RM M σ) {e : Nat} {num v : Int32} (he : e < 8) (hn : num = nI e) (hK : gi M 78 e = nI 6) (hv : gi M 79 e = v) (hr : gi M 76 57 = nI 0) (x : Int32) : MM l G mM_tellsAct 7 0 0 [.ref 76, .int num, .int x] KA σ (PB (bodyL 11 10 (bodyL 10 10 (bodyL 9 71 (bodyL 8 11 (bodyL 7 70 (bodyL 6 10 (bodyL 5 10 (bodyL 4 71 (bodyL 3 11 (bodyL 2 70 (bodyL 1 12 (bodyL 0 40 M)))))))))))) σ (some (.int ((((((x + num) ^^^ v) - v) + (2 + num)) * 2) + ((((1 + num) ^^^ v) - v) + (2 + num)))))) := by
  have hR := hM.1
  have hM0 := hM
  have hS : Sc σ σ := Sc.rfl
  refine MM.of (loc := [(0, .ref 76), (1, .int num), (2, .int x)]) (by decide +kernel) rfl (Nat.le_of_ble_eq_true rfl) ?_
  refine V_aload_n dM_tellsAct_0 rfl ?_
  refine V_getR (a := 78) dM_tellsAct_1 flM_26 k76 rfl (r76_5 hR) ?_
  refine V_iload_n dM_tellsAct_4 rfl ?_
  refine V_ialdN (j := e) dM_tellsAct_5 k78 hn (by omega) (by decide) ?_
  refine V_topI (x' := 6) ((mR hM rfl).trans hK) ?_
  refine V_tsC (tgt := 36) 6 rfl dM_tellsAct_6 (by decide) (by decide) rfl rfl ?_
  refine V_aload_n dM_tellsAct_36 rfl ?_
  refine V_bipush (v := 40) dM_tellsAct_37 (by decide) ?_
  refine V_callV (as := [.int 40]) (rest := []) (bs' := 0) rfl dM_tellsAct_39 cmM_body cvM_body mlM_356 (Or.inl ⟨_, _, _, _, _, rfl, k76, by decide, rfl⟩) rfl rfl (m_body hM (by decide) hr 40) (by decide) (Nat.le_refl _) (by decide) (Nat.le_of_ble_eq_true rfl) ?_
  rintro _ _ s39 ⟨rfl, rfl, hM, hS1⟩ -
  refine V_non ?_
  have hS := hS.trans hS1
  have hr : gi (bodyL 0 40 M) 76 57 = nI 1 := gi_eq
  have hR := hM.1
  refine V_aload_n dM_tellsAct_42 rfl ?_
  refine V_iload_n dM_tellsAct_43 rfl ?_
  refine V_iload_n dM_tellsAct_44 rfl ?_
  refine V_callV (as := [.int num, .int x]) (rest := []) (bs' := 0) rfl dM_tellsAct_45 cmM_envelopeTells cvM_envelopeTells mlM_374 (Or.inl ⟨_, _, _, _, _, rfl, k76, by decide, rfl⟩) rfl rfl (m_envelopeTells_6_1 hM he hn hK hv hr x) (by decide) (Nat.le_refl _) (by decide) (Nat.le_of_ble_eq_true rfl) ?_
  rintro _ _ s45 ⟨rfl, rfl, hM, hS1⟩ -
  refine V_one ?_
  have hS := hS.trans hS1
  have hr : gi (bodyL 6 10 (bodyL 5 10 (bodyL 4 71 (bodyL 3 11 (bodyL 2 70 (bodyL 1 12 (bodyL 0 40 M))))))) 76 57 = nI 7 := gi_eq
  have hR := hM.1
  refine V_istore_n (loc' := [(3, .int (((((x + num) ^^^ v) - v) + (2 + num)) * 2)), (0, .ref 76), (1, .int num), (2, .int x)]) dM_tellsAct_48 (by decide) rfl ?_
  refine V_iload_n dM_tellsAct_49 rfl ?_
  refine V_aload_n dM_tellsAct_50 rfl ?_
  refine V_iload_n dM_tellsAct_51 rfl ?_
  refine V_iconst (v := 1) dM_tellsAct_52 (by decide) ?_
  refine V_callV (as := [.int num, .int 1]) (rest := [.int (((((x + num) ^^^ v) - v) + (2 + num)) * 2)]) (bs' := 0) rfl dM_tellsAct_53 cmM_paysAct cvM_paysAct mlM_371 (Or.inl ⟨_, _, _, _, _, rfl, k76, by decide, rfl⟩) rfl rfl (m_paysAct_6_7 hM he hn hK hv hr 1) (by decide) (Nat.le_refl _) (by decide) (Nat.le_of_ble_eq_true rfl) ?_
  rintro _ _ s53 ⟨rfl, rfl, hM, hS1⟩ -
  refine V_one ?_
  have hS := hS.trans hS1
  have hr : gi (bodyL 11 10 (bodyL 10 10 (bodyL 9 71 (bodyL 8 11 (bodyL 7 70 (bodyL 6 10 (bodyL 5 10 (bodyL 4 71 (bodyL 3 11 (bodyL 2 70 (bodyL 1 12 (bodyL 0 40 M)))))))))))) 76 57 = nI 12 := gi_eq
  have hR := hM.1
  refine V_iadd dM_tellsAct_56 ?_
  exact V_iret dM_tellsAct_57 rfl rfl ⟨rfl, rfl, hM, hS⟩
