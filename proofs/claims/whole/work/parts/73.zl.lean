/-! the law: each of its calls-/
/-- it answers true -/
def PT : Option Value → List Kd → Hp → Prop := fun r _ _ => r = some (.int 1)
/-- both objects say the same -/
def OKs (s : Hp) : Prop := ∃ (L : Nat → List Cl) (M : Hp), RC L M s ∧ RM M s ∧ Inv L M ∧ Bo M
theorem zc_0 {l : Launch} {G : GT} {i : Nat} {L : Nat → List Cl} {M s : Hp} (hi6 : i + 6 ≤ gL G) (hN : gL G ≤ 3072) (hC : RC L M s) (hM : RM M s) (hI : Inv L M) (hB : Bo M) (hk : ∀ s, OKs s → V l G mZ_law room_1 (KA.length + 0) 0 1488 [(3, .int (nI i)), (2, .ref 76), (1, .ref 0), (0, .float 0)] [] KA s PT) : V l G mZ_law room_1 (KA.length + 0) 0 220 [(3, .int (nI i)), (2, .ref 76), (1, .ref 0), (0, .float 0)] [] KA s PT := by
  have hR := hC.1
  refine V_aload_n dZ_law_220 rfl ?_
  refine V_aload_nO dZ_law_221 rfl ?_
  refine V_iload_n dZ_law_222 rfl ?_
  refine V_iconst (v := 1) dZ_law_223 (by decide) ?_
  refine V_iadd dZ_law_224 ?_
  refine V_sald dZ_law_225 (scr_in (k := 1) hi6 hN (by decide)) ?_
  refine V_topI (x' := gX G (i + 1)) (scr_cl (k := 1) (gX G) hi6 hN (by decide)) ?_
  refine V_callV (as := [.int (gX G (i + 1))]) (rest := []) (bs' := 0) rfl dZ_law_226 cmG_world cvG_world mlZ_13 (Or.inl ⟨_, _, _, _, _, rfl, k0, by decide, rfl⟩) rfl rfl (g_world hC hI (gX G (i + 1))) (by decide) (Nat.le_refl _) (by decide) (Nat.le_of_ble_eq_true rfl) ?_
  rintro _ _ s1 ⟨rfl, rfl, hC2, hS1⟩ -
  refine V_one ?_
  have hM1 := RM_sm hM hS1 hC2.1
  refine V_aload_n dZ_law_229 rfl ?_
  refine V_aload_nO dZ_law_230 rfl ?_
  refine V_iload_n dZ_law_231 rfl ?_
  refine V_iconst (v := 1) dZ_law_232 (by decide) ?_
  refine V_iadd dZ_law_233 ?_
  refine V_sald dZ_law_234 (scr_in (k := 1) hi6 hN (by decide)) ?_
  refine V_topI (x' := gX G (i + 1)) (scr_cl (k := 1) (gX G) hi6 hN (by decide)) ?_
  refine V_callV (as := [.int (gX G (i + 1))]) (rest := [.int ((q_world M (gX G (i + 1))).1)]) (bs' := 0) rfl dZ_law_235 cmM_world cvM_world mlZ_17 (Or.inl ⟨_, _, _, _, _, rfl, k76, by decide, rfl⟩) rfl rfl (m_world hM1 hI (gX G (i + 1))) (by decide) (Nat.le_refl _) (by decide) (Nat.le_of_ble_eq_true rfl) ?_
  rintro _ _ s2 ⟨rfl, rfl, hM2, hS2⟩ -
  refine V_one ?_
  have hC3 := RC_sc hC2 hS2 hM2.1
  refine V_icmp_eq (tgt := 1488) dZ_law_238 rfl (fun _ => ?_) (fun h => absurd h (not_not_intro rfl))
  exact hk s2 ⟨L, (q_world M (gX G (i + 1))).2, hC3, hM2, Iq_world hI (gX G (i + 1)), Bq_world hB (gX G (i + 1))⟩
theorem zc_1 {l : Launch} {G : GT} {i : Nat} {L : Nat → List Cl} {M s : Hp} (hi6 : i + 6 ≤ gL G) (hN : gL G ≤ 3072) (hC : RC L M s) (hM : RM M s) (hI : Inv L M) (hB : Bo M) (hk : ∀ s, OKs s → V l G mZ_law room_1 (KA.length + 0) 0 1488 [(3, .int (nI i)), (2, .ref 76), (1, .ref 0), (0, .float 0)] [] KA s PT) : V l G mZ_law room_1 (KA.length + 0) 0 243 [(3, .int (nI i)), (2, .ref 76), (1, .ref 0), (0, .float 0)] [] KA s PT := by
  have hR := hC.1
  refine V_aload_n dZ_law_243 rfl ?_
  refine V_aload_nO dZ_law_244 rfl ?_
  refine V_iload_n dZ_law_245 rfl ?_
  refine V_iconst (v := 1) dZ_law_246 (by decide) ?_
  refine V_iadd dZ_law_247 ?_
  refine V_sald dZ_law_248 (scr_in (k := 1) hi6 hN (by decide)) ?_
  refine V_topI (x' := gX G (i + 1)) (scr_cl (k := 1) (gX G) hi6 hN (by decide)) ?_
  refine V_aload_nO dZ_law_249 rfl ?_
  refine V_iload_n dZ_law_250 rfl ?_
  refine V_iconst (v := 2) dZ_law_251 (by decide) ?_
  refine V_iadd dZ_law_252 ?_
  refine V_sald dZ_law_253 (scr_in (k := 2) hi6 hN (by decide)) ?_
  refine V_topI (x' := gX G (i + 2)) (scr_cl (k := 2) (gX G) hi6 hN (by decide)) ?_
  refine V_callV (as := [.int (gX G (i + 1)), .int (gX G (i + 2))]) (rest := []) (bs' := 0) rfl dZ_law_254 cmG_chance cvG_chance mlZ_18 (Or.inl ⟨_, _, _, _, _, rfl, k0, by decide, rfl⟩) rfl rfl (g_chance hC hI (gX G (i + 1)) (gX G (i + 2))) (by decide) (Nat.le_refl _) (by decide) (Nat.le_of_ble_eq_true rfl) ?_
  rintro _ _ s1 ⟨rfl, rfl, hC2, hS1⟩ -
  refine V_one ?_
  have hM1 := RM_sm hM hS1 hC2.1
  refine V_aload_n dZ_law_257 rfl ?_
  refine V_aload_nO dZ_law_258 rfl ?_
  refine V_iload_n dZ_law_259 rfl ?_
  refine V_iconst (v := 1) dZ_law_260 (by decide) ?_
  refine V_iadd dZ_law_261 ?_
  refine V_sald dZ_law_262 (scr_in (k := 1) hi6 hN (by decide)) ?_
  refine V_topI (x' := gX G (i + 1)) (scr_cl (k := 1) (gX G) hi6 hN (by decide)) ?_
  refine V_aload_nO dZ_law_263 rfl ?_
  refine V_iload_n dZ_law_264 rfl ?_
  refine V_iconst (v := 2) dZ_law_265 (by decide) ?_
  refine V_iadd dZ_law_266 ?_
  refine V_sald dZ_law_267 (scr_in (k := 2) hi6 hN (by decide)) ?_
  refine V_topI (x' := gX G (i + 2)) (scr_cl (k := 2) (gX G) hi6 hN (by decide)) ?_
  refine V_callV (as := [.int (gX G (i + 1)), .int (gX G (i + 2))]) (rest := [.int ((q_chance M (gX G (i + 1)) (gX G (i + 2))).1)]) (bs' := 0) rfl dZ_law_268 cmM_chance cvM_chance mlZ_22 (Or.inl ⟨_, _, _, _, _, rfl, k76, by decide, rfl⟩) rfl rfl (m_chance hM1 hI (gX G (i + 1)) (gX G (i + 2))) (by decide) (Nat.le_refl _) (by decide) (Nat.le_of_ble_eq_true rfl) ?_
  rintro _ _ s2 ⟨rfl, rfl, hM2, hS2⟩ -
  refine V_one ?_
  have hC3 := RC_sc hC2 hS2 hM2.1
  refine V_icmp_eq (tgt := 1488) dZ_law_271 rfl (fun _ => ?_) (fun h => absurd h (not_not_intro rfl))
  exact hk s2 ⟨L, (q_chance M (gX G (i + 1)) (gX G (i + 2))).2, hC3, hM2, Iq_chance hI (gX G (i + 1)) (gX G (i + 2)), Bq_chance hB (gX G (i + 1)) (gX G (i + 2))⟩
theorem zc_2 {l : Launch} {G : GT} {i : Nat} {L : Nat → List Cl} {M s : Hp} (hi6 : i + 6 ≤ gL G) (hN : gL G ≤ 3072) (hC : RC L M s) (hM : RM M s) (hI : Inv L M) (hB : Bo M) (hk : ∀ s, OKs s → V l G mZ_law room_1 (KA.length + 0) 0 1488 [(3, .int (nI i)), (2, .ref 76), (1, .ref 0), (0, .float 0)] [] KA s PT) : V l G mZ_law room_1 (KA.length + 0) 0 276 [(3, .int (nI i)), (2, .ref 76), (1, .ref 0), (0, .float 0)] [] KA s PT := by
  have hR := hC.1
  refine V_aload_n dZ_law_276 rfl ?_
  refine V_aload_nO dZ_law_277 rfl ?_
  refine V_iload_n dZ_law_278 rfl ?_
  refine V_iconst (v := 1) dZ_law_279 (by decide) ?_
  refine V_iadd dZ_law_280 ?_
  refine V_sald dZ_law_281 (scr_in (k := 1) hi6 hN (by decide)) ?_
  refine V_topI (x' := gX G (i + 1)) (scr_cl (k := 1) (gX G) hi6 hN (by decide)) ?_
  refine V_aload_nO dZ_law_282 rfl ?_
  refine V_iload_n dZ_law_283 rfl ?_
  refine V_iconst (v := 2) dZ_law_284 (by decide) ?_
  refine V_iadd dZ_law_285 ?_
  refine V_sald dZ_law_286 (scr_in (k := 2) hi6 hN (by decide)) ?_
  refine V_topI (x' := gX G (i + 2)) (scr_cl (k := 2) (gX G) hi6 hN (by decide)) ?_
  refine V_aload_nO dZ_law_287 rfl ?_
  refine V_iload_n dZ_law_288 rfl ?_
  refine V_iconst (v := 3) dZ_law_289 (by decide) ?_
  refine V_iadd dZ_law_290 ?_
  refine V_sald dZ_law_291 (scr_in (k := 3) hi6 hN (by decide)) ?_
  refine V_topI (x' := gX G (i + 3)) (scr_cl (k := 3) (gX G) hi6 hN (by decide)) ?_
  refine V_aload_nO dZ_law_292 rfl ?_
  refine V_iload_n dZ_law_293 rfl ?_
  refine V_iconst (v := 4) dZ_law_294 (by decide) ?_
  refine V_iadd dZ_law_295 ?_
  refine V_sald dZ_law_296 (scr_in (k := 4) hi6 hN (by decide)) ?_
  refine V_topI (x' := gX G (i + 4)) (scr_cl (k := 4) (gX G) hi6 hN (by decide)) ?_
  refine V_callV (as := [.int (gX G (i + 1)), .int (gX G (i + 2)), .int (gX G (i + 3)), .int (gX G (i + 4))]) (rest := []) (bs' := 0) rfl dZ_law_297 cmG_envelope cvG_envelope mlZ_23 (Or.inl ⟨_, _, _, _, _, rfl, k0, by decide, rfl⟩) rfl rfl (g_envelope hC hI (gX G (i + 1)) (gX G (i + 2)) (gX G (i + 3)) (gX G (i + 4))) (by decide) (Nat.le_refl _) (by decide) (Nat.le_of_ble_eq_true rfl) ?_
  rintro _ _ s1 ⟨rfl, rfl, hC2, hS1⟩ -
  refine V_one ?_
  have hM1 := RM_sm hM hS1 hC2.1
  refine V_aload_n dZ_law_300 rfl ?_
  refine V_aload_nO dZ_law_301 rfl ?_
  refine V_iload_n dZ_law_302 rfl ?_
  refine V_iconst (v := 1) dZ_law_303 (by decide) ?_
  refine V_iadd dZ_law_304 ?_
  refine V_sald dZ_law_305 (scr_in (k := 1) hi6 hN (by decide)) ?_
  refine V_topI (x' := gX G (i + 1)) (scr_cl (k := 1) (gX G) hi6 hN (by decide)) ?_
  refine V_aload_nO dZ_law_306 rfl ?_
  refine V_iload_n dZ_law_307 rfl ?_
  refine V_iconst (v := 2) dZ_law_308 (by decide) ?_
  refine V_iadd dZ_law_309 ?_
  refine V_sald dZ_law_310 (scr_in (k := 2) hi6 hN (by decide)) ?_
  refine V_topI (x' := gX G (i + 2)) (scr_cl (k := 2) (gX G) hi6 hN (by decide)) ?_
  refine V_aload_nO dZ_law_311 rfl ?_
  refine V_iload_n dZ_law_312 rfl ?_
  refine V_iconst (v := 3) dZ_law_313 (by decide) ?_
  refine V_iadd dZ_law_314 ?_
  refine V_sald dZ_law_315 (scr_in (k := 3) hi6 hN (by decide)) ?_
  refine V_topI (x' := gX G (i + 3)) (scr_cl (k := 3) (gX G) hi6 hN (by decide)) ?_
  refine V_aload_nO dZ_law_316 rfl ?_
  refine V_iload_n dZ_law_317 rfl ?_
  refine V_iconst (v := 4) dZ_law_318 (by decide) ?_
  refine V_iadd dZ_law_319 ?_
  refine V_sald dZ_law_320 (scr_in (k := 4) hi6 hN (by decide)) ?_
  refine V_topI (x' := gX G (i + 4)) (scr_cl (k := 4) (gX G) hi6 hN (by decide)) ?_
  refine V_callV (as := [.int (gX G (i + 1)), .int (gX G (i + 2)), .int (gX G (i + 3)), .int (gX G (i + 4))]) (rest := [.int ((q_envelope M (gX G (i + 1)) (gX G (i + 2)) (gX G (i + 3)) (gX G (i + 4))).1)]) (bs' := 0) rfl dZ_law_321 cmM_envelope cvM_envelope mlZ_27 (Or.inl ⟨_, _, _, _, _, rfl, k76, by decide, rfl⟩) rfl rfl (m_envelope hM1 hI (gX G (i + 1)) (gX G (i + 2)) (gX G (i + 3)) (gX G (i + 4))) (by decide) (Nat.le_refl _) (by decide) (Nat.le_of_ble_eq_true rfl) ?_
  rintro _ _ s2 ⟨rfl, rfl, hM2, hS2⟩ -
  refine V_one ?_
  have hC3 := RC_sc hC2 hS2 hM2.1
  refine V_icmp_eq (tgt := 1488) dZ_law_324 rfl (fun _ => ?_) (fun h => absurd h (not_not_intro rfl))
  exact hk s2 ⟨L, (q_envelope M (gX G (i + 1)) (gX G (i + 2)) (gX G (i + 3)) (gX G (i + 4))).2, hC3, hM2, Iq_envelope hI (gX G (i + 1)) (gX G (i + 2)) (gX G (i + 3)) (gX G (i + 4)), Bq_envelope hB (gX G (i + 1)) (gX G (i + 2)) (gX G (i + 3)) (gX G (i + 4))⟩
theorem zc_3 {l : Launch} {G : GT} {i : Nat} {L : Nat → List Cl} {M s : Hp} (hi6 : i + 6 ≤ gL G) (hN : gL G ≤ 3072) (hC : RC L M s) (hM : RM M s) (hI : Inv L M) (hB : Bo M) (hk : ∀ s, OKs s → V l G mZ_law room_1 (KA.length + 0) 0 1488 [(3, .int (nI i)), (2, .ref 76), (1, .ref 0), (0, .float 0)] [] KA s PT) : V l G mZ_law room_1 (KA.length + 0) 0 329 [(3, .int (nI i)), (2, .ref 76), (1, .ref 0), (0, .float 0)] [] KA s PT := by
  have hR := hC.1
  refine V_aload_n dZ_law_329 rfl ?_
  refine V_aload_nO dZ_law_330 rfl ?_
  refine V_iload_n dZ_law_331 rfl ?_
  refine V_iconst (v := 1) dZ_law_332 (by decide) ?_
  refine V_iadd dZ_law_333 ?_
  refine V_sald dZ_law_334 (scr_in (k := 1) hi6 hN (by decide)) ?_
  refine V_topI (x' := gX G (i + 1)) (scr_cl (k := 1) (gX G) hi6 hN (by decide)) ?_
  refine V_aload_nO dZ_law_335 rfl ?_
  refine V_iload_n dZ_law_336 rfl ?_
  refine V_iconst (v := 2) dZ_law_337 (by decide) ?_
  refine V_iadd dZ_law_338 ?_
  refine V_sald dZ_law_339 (scr_in (k := 2) hi6 hN (by decide)) ?_
  refine V_topI (x' := gX G (i + 2)) (scr_cl (k := 2) (gX G) hi6 hN (by decide)) ?_
  refine V_callV (as := [.int (gX G (i + 1)), .int (gX G (i + 2))]) (rest := []) (bs' := 0) rfl dZ_law_340 cmG_of cvG_of mlZ_28 (Or.inl ⟨_, _, _, _, _, rfl, k0, by decide, rfl⟩) rfl rfl (g_of hC hI (gX G (i + 1)) (gX G (i + 2))) (by decide) (Nat.le_refl _) (by decide) (Nat.le_of_ble_eq_true rfl) ?_
  rintro _ _ s1 ⟨rfl, rfl, hC2, hS1⟩ -
  refine V_one ?_
  have hM1 := RM_sm hM hS1 hC2.1
  refine V_aload_n dZ_law_343 rfl ?_
  refine V_aload_nO dZ_law_344 rfl ?_
  refine V_iload_n dZ_law_345 rfl ?_
  refine V_iconst (v := 1) dZ_law_346 (by decide) ?_
  refine V_iadd dZ_law_347 ?_
  refine V_sald dZ_law_348 (scr_in (k := 1) hi6 hN (by decide)) ?_
  refine V_topI (x' := gX G (i + 1)) (scr_cl (k := 1) (gX G) hi6 hN (by decide)) ?_
  refine V_aload_nO dZ_law_349 rfl ?_
  refine V_iload_n dZ_law_350 rfl ?_
  refine V_iconst (v := 2) dZ_law_351 (by decide) ?_
  refine V_iadd dZ_law_352 ?_
  refine V_sald dZ_law_353 (scr_in (k := 2) hi6 hN (by decide)) ?_
  refine V_topI (x' := gX G (i + 2)) (scr_cl (k := 2) (gX G) hi6 hN (by decide)) ?_
  refine V_callV (as := [.int (gX G (i + 1)), .int (gX G (i + 2))]) (rest := [.int ((q_of M (gX G (i + 1)) (gX G (i + 2))).1)]) (bs' := 0) rfl dZ_law_354 cmM_of cvM_of mlZ_31 (Or.inl ⟨_, _, _, _, _, rfl, k76, by decide, rfl⟩) rfl rfl (m_of hM1 hI (gX G (i + 1)) (gX G (i + 2))) (by decide) (Nat.le_refl _) (by decide) (Nat.le_of_ble_eq_true rfl) ?_
  rintro _ _ s2 ⟨rfl, rfl, hM2, hS2⟩ -
  refine V_one ?_
  have hC3 := RC_sc hC2 hS2 hM2.1
  refine V_icmp_eq (tgt := 1488) dZ_law_357 rfl (fun _ => ?_) (fun h => absurd h (not_not_intro rfl))
  have e := Nq_of (M := M) (gX G (i + 1)) (gX G (i + 2))
  rw [e] at hC3 hM2
  exact hk s2 ⟨L, M, hC3, hM2, hI, hB⟩
theorem zc_4 {l : Launch} {G : GT} {i : Nat} {L : Nat → List Cl} {M s : Hp} (hi6 : i + 6 ≤ gL G) (hN : gL G ≤ 3072) (hC : RC L M s) (hM : RM M s) (hI : Inv L M) (hB : Bo M) (hk : ∀ s, OKs s → V l G mZ_law room_1 (KA.length + 0) 0 1488 [(3, .int (nI i)), (2, .ref 76), (1, .ref 0), (0, .float 0)] [] KA s PT) : V l G mZ_law room_1 (KA.length + 0) 0 362 [(3, .int (nI i)), (2, .ref 76), (1, .ref 0), (0, .float 0)] [] KA s PT := by
  have hR := hC.1
  refine V_aload_n dZ_law_362 rfl ?_
  refine V_aload_nO dZ_law_363 rfl ?_
  refine V_iload_n dZ_law_364 rfl ?_
  refine V_iconst (v := 1) dZ_law_365 (by decide) ?_
  refine V_iadd dZ_law_366 ?_
  refine V_sald dZ_law_367 (scr_in (k := 1) hi6 hN (by decide)) ?_
  refine V_topI (x' := gX G (i + 1)) (scr_cl (k := 1) (gX G) hi6 hN (by decide)) ?_
  refine V_aload_nO dZ_law_368 rfl ?_
  refine V_iload_n dZ_law_369 rfl ?_
  refine V_iconst (v := 2) dZ_law_370 (by decide) ?_
  refine V_iadd dZ_law_371 ?_
  refine V_sald dZ_law_372 (scr_in (k := 2) hi6 hN (by decide)) ?_
  refine V_topI (x' := gX G (i + 2)) (scr_cl (k := 2) (gX G) hi6 hN (by decide)) ?_
  refine V_callV (as := [.int (gX G (i + 1)), .int (gX G (i + 2))]) (rest := []) (bs' := 0) rfl dZ_law_373 cmG_price cvG_price mlZ_32 (Or.inl ⟨_, _, _, _, _, rfl, k0, by decide, rfl⟩) rfl rfl (g_price hC hI (gX G (i + 1)) (gX G (i + 2))) (by decide) (Nat.le_refl _) (by decide) (Nat.le_of_ble_eq_true rfl) ?_
  rintro _ _ s1 ⟨rfl, rfl, hC2, hS1⟩ -
  refine V_one ?_
  have hM1 := RM_sm hM hS1 hC2.1
  refine V_aload_n dZ_law_376 rfl ?_
  refine V_aload_nO dZ_law_377 rfl ?_
  refine V_iload_n dZ_law_378 rfl ?_
  refine V_iconst (v := 1) dZ_law_379 (by decide) ?_
  refine V_iadd dZ_law_380 ?_
  refine V_sald dZ_law_381 (scr_in (k := 1) hi6 hN (by decide)) ?_
  refine V_topI (x' := gX G (i + 1)) (scr_cl (k := 1) (gX G) hi6 hN (by decide)) ?_
  refine V_aload_nO dZ_law_382 rfl ?_
  refine V_iload_n dZ_law_383 rfl ?_
  refine V_iconst (v := 2) dZ_law_384 (by decide) ?_
  refine V_iadd dZ_law_385 ?_
  refine V_sald dZ_law_386 (scr_in (k := 2) hi6 hN (by decide)) ?_
  refine V_topI (x' := gX G (i + 2)) (scr_cl (k := 2) (gX G) hi6 hN (by decide)) ?_
  refine V_callV (as := [.int (gX G (i + 1)), .int (gX G (i + 2))]) (rest := [.int ((q_price M (gX G (i + 1)) (gX G (i + 2))).1)]) (bs' := 0) rfl dZ_law_387 cmM_price cvM_price mlZ_35 (Or.inl ⟨_, _, _, _, _, rfl, k76, by decide, rfl⟩) rfl rfl (m_price hM1 hI (gX G (i + 1)) (gX G (i + 2))) (by decide) (Nat.le_refl _) (by decide) (Nat.le_of_ble_eq_true rfl) ?_
  rintro _ _ s2 ⟨rfl, rfl, hM2, hS2⟩ -
  refine V_one ?_
  have hC3 := RC_sc hC2 hS2 hM2.1
  refine V_icmp_eq (tgt := 1488) dZ_law_390 rfl (fun _ => ?_) (fun h => absurd h (not_not_intro rfl))
  exact hk s2 ⟨L, (q_price M (gX G (i + 1)) (gX G (i + 2))).2, hC3, hM2, Iq_price hI (gX G (i + 1)) (gX G (i + 2)), Bq_price hB (gX G (i + 1)) (gX G (i + 2))⟩
theorem zc_5 {l : Launch} {G : GT} {i : Nat} {L : Nat → List Cl} {M s : Hp} (hi6 : i + 6 ≤ gL G) (hN : gL G ≤ 3072) (hC : RC L M s) (hM : RM M s) (hI : Inv L M) (hB : Bo M) (hk : ∀ s, OKs s → V l G mZ_law room_1 (KA.length + 0) 0 1488 [(3, .int (nI i)), (2, .ref 76), (1, .ref 0), (0, .float 0)] [] KA s PT) : V l G mZ_law room_1 (KA.length + 0) 0 395 [(3, .int (nI i)), (2, .ref 76), (1, .ref 0), (0, .float 0)] [] KA s PT := by
  have hR := hC.1
  refine V_aload_n dZ_law_395 rfl ?_
  refine V_aload_nO dZ_law_396 rfl ?_
  refine V_iload_n dZ_law_397 rfl ?_
  refine V_iconst (v := 1) dZ_law_398 (by decide) ?_
  refine V_iadd dZ_law_399 ?_
  refine V_sald dZ_law_400 (scr_in (k := 1) hi6 hN (by decide)) ?_
  refine V_topI (x' := gX G (i + 1)) (scr_cl (k := 1) (gX G) hi6 hN (by decide)) ?_
  refine V_aload_nO dZ_law_401 rfl ?_
  refine V_iload_n dZ_law_402 rfl ?_
  refine V_iconst (v := 2) dZ_law_403 (by decide) ?_
  refine V_iadd dZ_law_404 ?_
  refine V_sald dZ_law_405 (scr_in (k := 2) hi6 hN (by decide)) ?_
  refine V_topI (x' := gX G (i + 2)) (scr_cl (k := 2) (gX G) hi6 hN (by decide)) ?_
  refine V_callV (as := [.int (gX G (i + 1)), .int (gX G (i + 2))]) (rest := []) (bs' := 0) rfl dZ_law_406 cmG_say cvG_say mlZ_36 (Or.inl ⟨_, _, _, _, _, rfl, k0, by decide, rfl⟩) rfl rfl (g_say hC hI (gX G (i + 1)) (gX G (i + 2))) (by decide) (Nat.le_refl _) (by decide) (Nat.le_of_ble_eq_true rfl) ?_
  rintro _ _ s1 ⟨rfl, rfl, hC2, hS1⟩ -
  refine V_one ?_
  have hM1 := RM_sm hM hS1 hC2.1
  refine V_aload_n dZ_law_409 rfl ?_
  refine V_aload_nO dZ_law_410 rfl ?_
  refine V_iload_n dZ_law_411 rfl ?_
  refine V_iconst (v := 1) dZ_law_412 (by decide) ?_
  refine V_iadd dZ_law_413 ?_
  refine V_sald dZ_law_414 (scr_in (k := 1) hi6 hN (by decide)) ?_
  refine V_topI (x' := gX G (i + 1)) (scr_cl (k := 1) (gX G) hi6 hN (by decide)) ?_
  refine V_aload_nO dZ_law_415 rfl ?_
  refine V_iload_n dZ_law_416 rfl ?_
  refine V_iconst (v := 2) dZ_law_417 (by decide) ?_
  refine V_iadd dZ_law_418 ?_
  refine V_sald dZ_law_419 (scr_in (k := 2) hi6 hN (by decide)) ?_
  refine V_topI (x' := gX G (i + 2)) (scr_cl (k := 2) (gX G) hi6 hN (by decide)) ?_
  refine V_callV (as := [.int (gX G (i + 1)), .int (gX G (i + 2))]) (rest := [.int ((q_say M (gX G (i + 1)) (gX G (i + 2))).1)]) (bs' := 0) rfl dZ_law_420 cmM_say cvM_say mlZ_39 (Or.inl ⟨_, _, _, _, _, rfl, k76, by decide, rfl⟩) rfl rfl (m_say hM1 hI (gX G (i + 1)) (gX G (i + 2))) (by decide) (Nat.le_refl _) (by decide) (Nat.le_of_ble_eq_true rfl) ?_
  rintro _ _ s2 ⟨rfl, rfl, hM2, hS2⟩ -
  refine V_one ?_
  have hC3 := RC_sc hC2 hS2 hM2.1
  refine V_icmp_eq (tgt := 1488) dZ_law_423 rfl (fun _ => ?_) (fun h => absurd h (not_not_intro rfl))
  exact hk s2 ⟨L, (q_say M (gX G (i + 1)) (gX G (i + 2))).2, hC3, hM2, Iq_say hI (gX G (i + 1)) (gX G (i + 2)), Bq_say hB (gX G (i + 1)) (gX G (i + 2))⟩
theorem zc_6 {l : Launch} {G : GT} {i : Nat} {L : Nat → List Cl} {M s : Hp} (hi6 : i + 6 ≤ gL G) (hN : gL G ≤ 3072) (hC : RC L M s) (hM : RM M s) (hI : Inv L M) (hB : Bo M) (hk : ∀ s, OKs s → V l G mZ_law room_1 (KA.length + 0) 0 1488 [(3, .int (nI i)), (2, .ref 76), (1, .ref 0), (0, .float 0)] [] KA s PT) : V l G mZ_law room_1 (KA.length + 0) 0 428 [(3, .int (nI i)), (2, .ref 76), (1, .ref 0), (0, .float 0)] [] KA s PT := by
  have hR := hC.1
  refine V_aload_n dZ_law_428 rfl ?_
  refine V_aload_nO dZ_law_429 rfl ?_
  refine V_iload_n dZ_law_430 rfl ?_
  refine V_iconst (v := 1) dZ_law_431 (by decide) ?_
  refine V_iadd dZ_law_432 ?_
  refine V_sald dZ_law_433 (scr_in (k := 1) hi6 hN (by decide)) ?_
  refine V_topI (x' := gX G (i + 1)) (scr_cl (k := 1) (gX G) hi6 hN (by decide)) ?_
  refine V_aload_nO dZ_law_434 rfl ?_
  refine V_iload_n dZ_law_435 rfl ?_
  refine V_iconst (v := 2) dZ_law_436 (by decide) ?_
  refine V_iadd dZ_law_437 ?_
  refine V_sald dZ_law_438 (scr_in (k := 2) hi6 hN (by decide)) ?_
  refine V_topI (x' := gX G (i + 2)) (scr_cl (k := 2) (gX G) hi6 hN (by decide)) ?_
  refine V_aload_nO dZ_law_439 rfl ?_
  refine V_iload_n dZ_law_440 rfl ?_
  refine V_iconst (v := 3) dZ_law_441 (by decide) ?_
  refine V_iadd dZ_law_442 ?_
  refine V_sald dZ_law_443 (scr_in (k := 3) hi6 hN (by decide)) ?_
  refine V_topI (x' := gX G (i + 3)) (scr_cl (k := 3) (gX G) hi6 hN (by decide)) ?_
  refine V_callV (as := [.int (gX G (i + 1)), .int (gX G (i + 2)), .int (gX G (i + 3))]) (rest := []) (bs' := 0) rfl dZ_law_444 cmG_row cvG_row mlZ_40 (Or.inl ⟨_, _, _, _, _, rfl, k0, by decide, rfl⟩) rfl rfl (g_row hC hI (gX G (i + 1)) (gX G (i + 2)) (gX G (i + 3))) (by decide) (Nat.le_refl _) (by decide) (Nat.le_of_ble_eq_true rfl) ?_
  rintro _ _ s1 ⟨rfl, rfl, hC2, hS1⟩ -
  refine V_one ?_
  have hM1 := RM_sm hM hS1 hC2.1
  refine V_aload_n dZ_law_447 rfl ?_
  refine V_aload_nO dZ_law_448 rfl ?_
  refine V_iload_n dZ_law_449 rfl ?_
  refine V_iconst (v := 1) dZ_law_450 (by decide) ?_
  refine V_iadd dZ_law_451 ?_
  refine V_sald dZ_law_452 (scr_in (k := 1) hi6 hN (by decide)) ?_
  refine V_topI (x' := gX G (i + 1)) (scr_cl (k := 1) (gX G) hi6 hN (by decide)) ?_
  refine V_aload_nO dZ_law_453 rfl ?_
  refine V_iload_n dZ_law_454 rfl ?_
  refine V_iconst (v := 2) dZ_law_455 (by decide) ?_
  refine V_iadd dZ_law_456 ?_
  refine V_sald dZ_law_457 (scr_in (k := 2) hi6 hN (by decide)) ?_
  refine V_topI (x' := gX G (i + 2)) (scr_cl (k := 2) (gX G) hi6 hN (by decide)) ?_
  refine V_aload_nO dZ_law_458 rfl ?_
  refine V_iload_n dZ_law_459 rfl ?_
  refine V_iconst (v := 3) dZ_law_460 (by decide) ?_
  refine V_iadd dZ_law_461 ?_
  refine V_sald dZ_law_462 (scr_in (k := 3) hi6 hN (by decide)) ?_
  refine V_topI (x' := gX G (i + 3)) (scr_cl (k := 3) (gX G) hi6 hN (by decide)) ?_
  refine V_callV (as := [.int (gX G (i + 1)), .int (gX G (i + 2)), .int (gX G (i + 3))]) (rest := [.int ((q_row M (gX G (i + 1)) (gX G (i + 2)) (gX G (i + 3))).1)]) (bs' := 0) rfl dZ_law_463 cmM_row cvM_row mlZ_44 (Or.inl ⟨_, _, _, _, _, rfl, k76, by decide, rfl⟩) rfl rfl (m_row hM1 hI (gX G (i + 1)) (gX G (i + 2)) (gX G (i + 3))) (by decide) (Nat.le_refl _) (by decide) (Nat.le_of_ble_eq_true rfl) ?_
  rintro _ _ s2 ⟨rfl, rfl, hM2, hS2⟩ -
  refine V_one ?_
  have hC3 := RC_sc hC2 hS2 hM2.1
  refine V_icmp_eq (tgt := 1488) dZ_law_466 rfl (fun _ => ?_) (fun h => absurd h (not_not_intro rfl))
  exact hk s2 ⟨L, (q_row M (gX G (i + 1)) (gX G (i + 2)) (gX G (i + 3))).2, hC3, hM2, Iq_row hI (gX G (i + 1)) (gX G (i + 2)) (gX G (i + 3)), Bq_row hB (gX G (i + 1)) (gX G (i + 2)) (gX G (i + 3))⟩
theorem zc_7 {l : Launch} {G : GT} {i : Nat} {L : Nat → List Cl} {M s : Hp} (hi6 : i + 6 ≤ gL G) (hN : gL G ≤ 3072) (hC : RC L M s) (hM : RM M s) (hI : Inv L M) (hB : Bo M) (hk : ∀ s, OKs s → V l G mZ_law room_1 (KA.length + 0) 0 1488 [(3, .int (nI i)), (2, .ref 76), (1, .ref 0), (0, .float 0)] [] KA s PT) : V l G mZ_law room_1 (KA.length + 0) 0 471 [(3, .int (nI i)), (2, .ref 76), (1, .ref 0), (0, .float 0)] [] KA s PT := by
  have hR := hC.1
  refine V_aload_n dZ_law_471 rfl ?_
  refine V_aload_nO dZ_law_472 rfl ?_
  refine V_iload_n dZ_law_473 rfl ?_
  refine V_iconst (v := 1) dZ_law_474 (by decide) ?_
  refine V_iadd dZ_law_475 ?_
  refine V_sald dZ_law_476 (scr_in (k := 1) hi6 hN (by decide)) ?_
  refine V_topI (x' := gX G (i + 1)) (scr_cl (k := 1) (gX G) hi6 hN (by decide)) ?_
  refine V_callV (as := [.int (gX G (i + 1))]) (rest := []) (bs' := 0) rfl dZ_law_477 cmG_feed cvG_feed mlZ_45 (Or.inl ⟨_, _, _, _, _, rfl, k0, by decide, rfl⟩) rfl rfl (g_feed hC hI (gX G (i + 1))) (by decide) (Nat.le_refl _) (by decide) (Nat.le_of_ble_eq_true rfl) ?_
  rintro _ _ s1 ⟨rfl, rfl, hC2, hS1⟩ -
  refine V_one ?_
  have hM1 := RM_sm hM hS1 hC2.1
  refine V_aload_n dZ_law_480 rfl ?_
  refine V_aload_nO dZ_law_481 rfl ?_
  refine V_iload_n dZ_law_482 rfl ?_
  refine V_iconst (v := 1) dZ_law_483 (by decide) ?_
  refine V_iadd dZ_law_484 ?_
  refine V_sald dZ_law_485 (scr_in (k := 1) hi6 hN (by decide)) ?_
  refine V_topI (x' := gX G (i + 1)) (scr_cl (k := 1) (gX G) hi6 hN (by decide)) ?_
  refine V_callV (as := [.int (gX G (i + 1))]) (rest := [.int ((q_feed M (gX G (i + 1))).1)]) (bs' := 0) rfl dZ_law_486 cmM_feed cvM_feed mlZ_48 (Or.inl ⟨_, _, _, _, _, rfl, k76, by decide, rfl⟩) rfl rfl (m_feed hM1 hI (gX G (i + 1))) (by decide) (Nat.le_refl _) (by decide) (Nat.le_of_ble_eq_true rfl) ?_
  rintro _ _ s2 ⟨rfl, rfl, hM2, hS2⟩ -
  refine V_one ?_
  have hC3 := RC_sc hC2 hS2 hM2.1
  refine V_icmp_eq (tgt := 1488) dZ_law_489 rfl (fun _ => ?_) (fun h => absurd h (not_not_intro rfl))
  exact hk s2 ⟨L, (q_feed M (gX G (i + 1))).2, hC3, hM2, Iq_feed hI (gX G (i + 1)), Bq_feed hB (gX G (i + 1))⟩
theorem zc_9 {l : Launch} {G : GT} {i : Nat} {L : Nat → List Cl} {M s : Hp} (hi6 : i + 6 ≤ gL G) (hN : gL G ≤ 3072) (hC : RC L M s) (hM : RM M s) (hI : Inv L M) (hB : Bo M) (hk : ∀ s, OKs s → V l G mZ_law room_1 (KA.length + 0) 0 1488 [(3, .int (nI i)), (2, .ref 76), (1, .ref 0), (0, .float 0)] [] KA s PT) : V l G mZ_law room_1 (KA.length + 0) 0 507 [(3, .int (nI i)), (2, .ref 76), (1, .ref 0), (0, .float 0)] [] KA s PT := by
  have hR := hC.1
  refine V_aload_n dZ_law_507 rfl ?_
  refine V_aload_nO dZ_law_508 rfl ?_
  refine V_iload_n dZ_law_509 rfl ?_
  refine V_iconst (v := 1) dZ_law_510 (by decide) ?_
  refine V_iadd dZ_law_511 ?_
  refine V_sald dZ_law_512 (scr_in (k := 1) hi6 hN (by decide)) ?_
  refine V_topI (x' := gX G (i + 1)) (scr_cl (k := 1) (gX G) hi6 hN (by decide)) ?_
  refine V_callV (as := [.int (gX G (i + 1))]) (rest := []) (bs' := 0) rfl dZ_law_513 cmG_told cvG_told mlZ_54 (Or.inl ⟨_, _, _, _, _, rfl, k0, by decide, rfl⟩) rfl rfl (g_told hC hI (gX G (i + 1))) (by decide) (Nat.le_refl _) (by decide) (Nat.le_of_ble_eq_true rfl) ?_
  rintro _ _ s1 ⟨rfl, rfl, hC2, hS1⟩ -
  refine V_one ?_
  have hM1 := RM_sm hM hS1 hC2.1
  refine V_aload_n dZ_law_516 rfl ?_
  refine V_aload_nO dZ_law_517 rfl ?_
  refine V_iload_n dZ_law_518 rfl ?_
  refine V_iconst (v := 1) dZ_law_519 (by decide) ?_
  refine V_iadd dZ_law_520 ?_
  refine V_sald dZ_law_521 (scr_in (k := 1) hi6 hN (by decide)) ?_
  refine V_topI (x' := gX G (i + 1)) (scr_cl (k := 1) (gX G) hi6 hN (by decide)) ?_
  refine V_callV (as := [.int (gX G (i + 1))]) (rest := [.int ((q_told L M (gX G (i + 1))).1)]) (bs' := 0) rfl dZ_law_522 cmM_told cvM_told mlZ_57 (Or.inl ⟨_, _, _, _, _, rfl, k76, by decide, rfl⟩) rfl rfl (m_told hM1 hI (gX G (i + 1))) (by decide) (Nat.le_refl _) (by decide) (Nat.le_of_ble_eq_true rfl) ?_
  rintro _ _ s2 ⟨rfl, rfl, hM2, hS2⟩ -
  refine V_one ?_
  have hC3 := RC_sc hC2 hS2 hM2.1
  refine V_icmp_eq (tgt := 1488) dZ_law_525 rfl (fun _ => ?_) (fun h => absurd h (not_not_intro rfl))
  have e := Nq_told (L := L) (M := M) (gX G (i + 1))
  rw [e] at hC3 hM2
  exact hk s2 ⟨L, M, hC3, hM2, hI, hB⟩
theorem zc_10 {l : Launch} {G : GT} {i : Nat} {L : Nat → List Cl} {M s : Hp} (hi6 : i + 6 ≤ gL G) (hN : gL G ≤ 3072) (hC : RC L M s) (hM : RM M s) (hI : Inv L M) (hB : Bo M) (hk : ∀ s, OKs s → V l G mZ_law room_1 (KA.length + 0) 0 1488 [(3, .int (nI i)), (2, .ref 76), (1, .ref 0), (0, .float 0)] [] KA s PT) : V l G mZ_law room_1 (KA.length + 0) 0 530 [(3, .int (nI i)), (2, .ref 76), (1, .ref 0), (0, .float 0)] [] KA s PT := by
  have hR := hC.1
  refine V_aload_n dZ_law_530 rfl ?_
  refine V_aload_nO dZ_law_531 rfl ?_
  refine V_iload_n dZ_law_532 rfl ?_
  refine V_iconst (v := 1) dZ_law_533 (by decide) ?_
  refine V_iadd dZ_law_534 ?_
  refine V_sald dZ_law_535 (scr_in (k := 1) hi6 hN (by decide)) ?_
  refine V_topI (x' := gX G (i + 1)) (scr_cl (k := 1) (gX G) hi6 hN (by decide)) ?_
  refine V_callV (as := [.int (gX G (i + 1))]) (rest := []) (bs' := 0) rfl dZ_law_536 cmG_pass cvG_pass mlZ_58 (Or.inl ⟨_, _, _, _, _, rfl, k0, by decide, rfl⟩) rfl rfl (g_pass hC hI (gX G (i + 1))) (by decide) (Nat.le_refl _) (by decide) (Nat.le_of_ble_eq_true rfl) ?_
  rintro _ _ s1 ⟨rfl, rfl, hC2, hS1⟩ -
  refine V_one ?_
  have hM1 := RM_sm hM hS1 hC2.1
  refine V_aload_n dZ_law_539 rfl ?_
  refine V_aload_nO dZ_law_540 rfl ?_
  refine V_iload_n dZ_law_541 rfl ?_
  refine V_iconst (v := 1) dZ_law_542 (by decide) ?_
  refine V_iadd dZ_law_543 ?_
  refine V_sald dZ_law_544 (scr_in (k := 1) hi6 hN (by decide)) ?_
  refine V_topI (x' := gX G (i + 1)) (scr_cl (k := 1) (gX G) hi6 hN (by decide)) ?_
  refine V_callV (as := [.int (gX G (i + 1))]) (rest := [.int ((q_pass M (gX G (i + 1))).1)]) (bs' := 0) rfl dZ_law_545 cmM_pass cvM_pass mlZ_61 (Or.inl ⟨_, _, _, _, _, rfl, k76, by decide, rfl⟩) rfl rfl (m_pass hM1 hI (gX G (i + 1))) (by decide) (Nat.le_refl _) (by decide) (Nat.le_of_ble_eq_true rfl) ?_
  rintro _ _ s2 ⟨rfl, rfl, hM2, hS2⟩ -
  refine V_one ?_
  have hC3 := RC_sc hC2 hS2 hM2.1
  refine V_icmp_eq (tgt := 1488) dZ_law_548 rfl (fun _ => ?_) (fun h => absurd h (not_not_intro rfl))
  exact hk s2 ⟨L, (q_pass M (gX G (i + 1))).2, hC3, hM2, Iq_pass hI (gX G (i + 1)), Bq_pass hB (gX G (i + 1))⟩
theorem zc_11 {l : Launch} {G : GT} {i : Nat} {L : Nat → List Cl} {M s : Hp} (hi6 : i + 6 ≤ gL G) (hN : gL G ≤ 3072) (hC : RC L M s) (hM : RM M s) (hI : Inv L M) (hB : Bo M) (hk : ∀ s, OKs s → V l G mZ_law room_1 (KA.length + 0) 0 1488 [(3, .int (nI i)), (2, .ref 76), (1, .ref 0), (0, .float 0)] [] KA s PT) : V l G mZ_law room_1 (KA.length + 0) 0 553 [(3, .int (nI i)), (2, .ref 76), (1, .ref 0), (0, .float 0)] [] KA s PT := by
  have hR := hC.1
  refine V_aload_n dZ_law_553 rfl ?_
  refine V_aload_nO dZ_law_554 rfl ?_
  refine V_iload_n dZ_law_555 rfl ?_
  refine V_iconst (v := 1) dZ_law_556 (by decide) ?_
  refine V_iadd dZ_law_557 ?_
  refine V_sald dZ_law_558 (scr_in (k := 1) hi6 hN (by decide)) ?_
  refine V_topI (x' := gX G (i + 1)) (scr_cl (k := 1) (gX G) hi6 hN (by decide)) ?_
  refine V_callV (as := [.int (gX G (i + 1))]) (rest := []) (bs' := 0) rfl dZ_law_559 cmG_come cvG_come mlZ_62 (Or.inl ⟨_, _, _, _, _, rfl, k0, by decide, rfl⟩) rfl rfl (g_come hC hI (gX G (i + 1))) (by decide) (Nat.le_refl _) (by decide) (Nat.le_of_ble_eq_true rfl) ?_
  rintro _ _ s1 ⟨rfl, rfl, hC2, hS1⟩ -
  refine V_one ?_
  have hM1 := RM_sm hM hS1 hC2.1
  refine V_aload_n dZ_law_562 rfl ?_
  refine V_aload_nO dZ_law_563 rfl ?_
  refine V_iload_n dZ_law_564 rfl ?_
  refine V_iconst (v := 1) dZ_law_565 (by decide) ?_
  refine V_iadd dZ_law_566 ?_
  refine V_sald dZ_law_567 (scr_in (k := 1) hi6 hN (by decide)) ?_
  refine V_topI (x' := gX G (i + 1)) (scr_cl (k := 1) (gX G) hi6 hN (by decide)) ?_
  refine V_callV (as := [.int (gX G (i + 1))]) (rest := [.int ((q_come L M (gX G (i + 1))).1)]) (bs' := 0) rfl dZ_law_568 cmM_come cvM_come mlZ_65 (Or.inl ⟨_, _, _, _, _, rfl, k76, by decide, rfl⟩) rfl rfl (m_come hM1 hI (gX G (i + 1))) (by decide) (Nat.le_refl _) (by decide) (Nat.le_of_ble_eq_true rfl) ?_
  rintro _ _ s2 ⟨rfl, rfl, hM2, hS2⟩ -
  refine V_one ?_
  have hC3 := RC_sc hC2 hS2 hM2.1
  refine V_icmp_eq (tgt := 1488) dZ_law_571 rfl (fun _ => ?_) (fun h => absurd h (not_not_intro rfl))
  exact hk s2 ⟨L, (q_come L M (gX G (i + 1))).2, hC3, hM2, Iq_come hI (gX G (i + 1)), Bq_come hB (gX G (i + 1))⟩
theorem zc_12 {l : Launch} {G : GT} {i : Nat} {L : Nat → List Cl} {M s : Hp} (hi6 : i + 6 ≤ gL G) (hN : gL G ≤ 3072) (hC : RC L M s) (hM : RM M s) (hI : Inv L M) (hB : Bo M) (hk : ∀ s, OKs s → V l G mZ_law room_1 (KA.length + 0) 0 1488 [(3, .int (nI i)), (2, .ref 76), (1, .ref 0), (0, .float 0)] [] KA s PT) : V l G mZ_law room_1 (KA.length + 0) 0 576 [(3, .int (nI i)), (2, .ref 76), (1, .ref 0), (0, .float 0)] [] KA s PT := by
  have hR := hC.1
  refine V_aload_n dZ_law_576 rfl ?_
  refine V_aload_nO dZ_law_577 rfl ?_
  refine V_iload_n dZ_law_578 rfl ?_
  refine V_iconst (v := 1) dZ_law_579 (by decide) ?_
  refine V_iadd dZ_law_580 ?_
  refine V_sald dZ_law_581 (scr_in (k := 1) hi6 hN (by decide)) ?_
  refine V_topI (x' := gX G (i + 1)) (scr_cl (k := 1) (gX G) hi6 hN (by decide)) ?_
  refine V_aload_nO dZ_law_582 rfl ?_
  refine V_iload_n dZ_law_583 rfl ?_
  refine V_iconst (v := 2) dZ_law_584 (by decide) ?_
  refine V_iadd dZ_law_585 ?_
  refine V_sald dZ_law_586 (scr_in (k := 2) hi6 hN (by decide)) ?_
  refine V_topI (x' := gX G (i + 2)) (scr_cl (k := 2) (gX G) hi6 hN (by decide)) ?_
  refine V_callV (as := [.int (gX G (i + 1)), .int (gX G (i + 2))]) (rest := []) (bs' := 0) rfl dZ_law_587 cmG_pay cvG_pay mlZ_66 (Or.inl ⟨_, _, _, _, _, rfl, k0, by decide, rfl⟩) rfl rfl (g_pay hC hI (gX G (i + 1)) (gX G (i + 2))) (by decide) (Nat.le_refl _) (by decide) (Nat.le_of_ble_eq_true rfl) ?_
  rintro _ _ s1 ⟨rfl, rfl, hC2, hS1⟩ -
  refine V_one ?_
  have hM1 := RM_sm hM hS1 hC2.1
  refine V_aload_n dZ_law_590 rfl ?_
  refine V_aload_nO dZ_law_591 rfl ?_
  refine V_iload_n dZ_law_592 rfl ?_
  refine V_iconst (v := 1) dZ_law_593 (by decide) ?_
  refine V_iadd dZ_law_594 ?_
  refine V_sald dZ_law_595 (scr_in (k := 1) hi6 hN (by decide)) ?_
  refine V_topI (x' := gX G (i + 1)) (scr_cl (k := 1) (gX G) hi6 hN (by decide)) ?_
  refine V_aload_nO dZ_law_596 rfl ?_
  refine V_iload_n dZ_law_597 rfl ?_
  refine V_iconst (v := 2) dZ_law_598 (by decide) ?_
  refine V_iadd dZ_law_599 ?_
  refine V_sald dZ_law_600 (scr_in (k := 2) hi6 hN (by decide)) ?_
  refine V_topI (x' := gX G (i + 2)) (scr_cl (k := 2) (gX G) hi6 hN (by decide)) ?_
  refine V_callV (as := [.int (gX G (i + 1)), .int (gX G (i + 2))]) (rest := [.int ((q_pay L M (gX G (i + 1)) (gX G (i + 2))).1)]) (bs' := 0) rfl dZ_law_601 cmM_pay cvM_pay mlZ_69 (Or.inl ⟨_, _, _, _, _, rfl, k76, by decide, rfl⟩) rfl rfl (m_pay hM1 hI (gX G (i + 1)) (gX G (i + 2))) (by decide) (Nat.le_refl _) (by decide) (Nat.le_of_ble_eq_true rfl) ?_
  rintro _ _ s2 ⟨rfl, rfl, hM2, hS2⟩ -
  refine V_one ?_
  have hC3 := RC_sc hC2 hS2 hM2.1
  refine V_icmp_eq (tgt := 1488) dZ_law_604 rfl (fun _ => ?_) (fun h => absurd h (not_not_intro rfl))
  have e := Nq_pay (L := L) (M := M) (gX G (i + 1)) (gX G (i + 2))
  rw [e] at hC3 hM2
  exact hk s2 ⟨L, M, hC3, hM2, hI, hB⟩
theorem zc_13 {l : Launch} {G : GT} {i : Nat} {L : Nat → List Cl} {M s : Hp} (hi6 : i + 6 ≤ gL G) (hN : gL G ≤ 3072) (hC : RC L M s) (hM : RM M s) (hI : Inv L M) (hB : Bo M) (hk : ∀ s, OKs s → V l G mZ_law room_1 (KA.length + 0) 0 1488 [(3, .int (nI i)), (2, .ref 76), (1, .ref 0), (0, .float 0)] [] KA s PT) : V l G mZ_law room_1 (KA.length + 0) 0 609 [(3, .int (nI i)), (2, .ref 76), (1, .ref 0), (0, .float 0)] [] KA s PT := by
  have hR := hC.1
  refine V_aload_n dZ_law_609 rfl ?_
  refine V_aload_nO dZ_law_610 rfl ?_
  refine V_iload_n dZ_law_611 rfl ?_
  refine V_iconst (v := 1) dZ_law_612 (by decide) ?_
  refine V_iadd dZ_law_613 ?_
  refine V_sald dZ_law_614 (scr_in (k := 1) hi6 hN (by decide)) ?_
  refine V_topI (x' := gX G (i + 1)) (scr_cl (k := 1) (gX G) hi6 hN (by decide)) ?_
  refine V_aload_nO dZ_law_615 rfl ?_
  refine V_iload_n dZ_law_616 rfl ?_
  refine V_iconst (v := 2) dZ_law_617 (by decide) ?_
  refine V_iadd dZ_law_618 ?_
  refine V_sald dZ_law_619 (scr_in (k := 2) hi6 hN (by decide)) ?_
  refine V_topI (x' := gX G (i + 2)) (scr_cl (k := 2) (gX G) hi6 hN (by decide)) ?_
  refine V_callV (as := [.int (gX G (i + 1)), .int (gX G (i + 2))]) (rest := []) (bs' := 0) rfl dZ_law_620 cmG_mean cvG_mean mlZ_70 (Or.inl ⟨_, _, _, _, _, rfl, k0, by decide, rfl⟩) rfl rfl (g_mean hC hI (gX G (i + 1)) (gX G (i + 2))) (by decide) (Nat.le_refl _) (by decide) (Nat.le_of_ble_eq_true rfl) ?_
  rintro _ _ s1 ⟨rfl, rfl, hC2, hS1⟩ -
  refine V_one ?_
  have hM1 := RM_sm hM hS1 hC2.1
  refine V_aload_n dZ_law_623 rfl ?_
  refine V_aload_nO dZ_law_624 rfl ?_
  refine V_iload_n dZ_law_625 rfl ?_
  refine V_iconst (v := 1) dZ_law_626 (by decide) ?_
  refine V_iadd dZ_law_627 ?_
  refine V_sald dZ_law_628 (scr_in (k := 1) hi6 hN (by decide)) ?_
  refine V_topI (x' := gX G (i + 1)) (scr_cl (k := 1) (gX G) hi6 hN (by decide)) ?_
  refine V_aload_nO dZ_law_629 rfl ?_
  refine V_iload_n dZ_law_630 rfl ?_
  refine V_iconst (v := 2) dZ_law_631 (by decide) ?_
  refine V_iadd dZ_law_632 ?_
  refine V_sald dZ_law_633 (scr_in (k := 2) hi6 hN (by decide)) ?_
  refine V_topI (x' := gX G (i + 2)) (scr_cl (k := 2) (gX G) hi6 hN (by decide)) ?_
  refine V_callV (as := [.int (gX G (i + 1)), .int (gX G (i + 2))]) (rest := [.long ((q_mean L M (gX G (i + 1)) (gX G (i + 2))).1)]) (bs' := 0) rfl dZ_law_634 cmM_mean cvM_mean mlZ_74 (Or.inl ⟨_, _, _, _, _, rfl, k76, by decide, rfl⟩) rfl rfl (m_mean hM1 hI (gX G (i + 1)) (gX G (i + 2))) (by decide) (Nat.le_refl _) (by decide) (Nat.le_of_ble_eq_true rfl) ?_
  rintro _ _ s2 ⟨rfl, rfl, hM2, hS2⟩ -
  refine V_one ?_
  have hC3 := RC_sc hC2 hS2 hM2.1
  refine V_lcmp dZ_law_637 ?_
  refine V_topI (x' := 0) (lgc _) ?_
  refine V_if_eq (tgt := 1488) dZ_law_638 rfl (fun _ => ?_) (fun h => absurd h (not_not_intro rfl))
  have e := Nq_mean (L := L) (M := M) (gX G (i + 1)) (gX G (i + 2))
  rw [e] at hC3 hM2
  exact hk s2 ⟨L, M, hC3, hM2, hI, hB⟩
theorem zc_14 {l : Launch} {G : GT} {i : Nat} {L : Nat → List Cl} {M s : Hp} (hi6 : i + 6 ≤ gL G) (hN : gL G ≤ 3072) (hC : RC L M s) (hM : RM M s) (hI : Inv L M) (hB : Bo M) (hk : ∀ s, OKs s → V l G mZ_law room_1 (KA.length + 0) 0 1488 [(3, .int (nI i)), (2, .ref 76), (1, .ref 0), (0, .float 0)] [] KA s PT) : V l G mZ_law room_1 (KA.length + 0) 0 643 [(3, .int (nI i)), (2, .ref 76), (1, .ref 0), (0, .float 0)] [] KA s PT := by
  have hR := hC.1
  refine V_aload_n dZ_law_643 rfl ?_
  refine V_aload_nO dZ_law_644 rfl ?_
  refine V_iload_n dZ_law_645 rfl ?_
  refine V_iconst (v := 1) dZ_law_646 (by decide) ?_
  refine V_iadd dZ_law_647 ?_
  refine V_sald dZ_law_648 (scr_in (k := 1) hi6 hN (by decide)) ?_
  refine V_topI (x' := gX G (i + 1)) (scr_cl (k := 1) (gX G) hi6 hN (by decide)) ?_
  refine V_aload_nO dZ_law_649 rfl ?_
  refine V_iload_n dZ_law_650 rfl ?_
  refine V_iconst (v := 2) dZ_law_651 (by decide) ?_
  refine V_iadd dZ_law_652 ?_
  refine V_sald dZ_law_653 (scr_in (k := 2) hi6 hN (by decide)) ?_
  refine V_topI (x' := gX G (i + 2)) (scr_cl (k := 2) (gX G) hi6 hN (by decide)) ?_
  refine V_callV (as := [.int (gX G (i + 1)), .int (gX G (i + 2))]) (rest := []) (bs' := 0) rfl dZ_law_654 cmG_gain cvG_gain mlZ_75 (Or.inl ⟨_, _, _, _, _, rfl, k0, by decide, rfl⟩) rfl rfl (g_gain hC hI (gX G (i + 1)) (gX G (i + 2))) (by decide) (Nat.le_refl _) (by decide) (Nat.le_of_ble_eq_true rfl) ?_
  rintro _ _ s1 ⟨rfl, rfl, hC2, hS1⟩ -
  refine V_one ?_
  have hM1 := RM_sm hM hS1 hC2.1
  refine V_aload_n dZ_law_657 rfl ?_
  refine V_aload_nO dZ_law_658 rfl ?_
  refine V_iload_n dZ_law_659 rfl ?_
  refine V_iconst (v := 1) dZ_law_660 (by decide) ?_
  refine V_iadd dZ_law_661 ?_
  refine V_sald dZ_law_662 (scr_in (k := 1) hi6 hN (by decide)) ?_
  refine V_topI (x' := gX G (i + 1)) (scr_cl (k := 1) (gX G) hi6 hN (by decide)) ?_
  refine V_aload_nO dZ_law_663 rfl ?_
  refine V_iload_n dZ_law_664 rfl ?_
  refine V_iconst (v := 2) dZ_law_665 (by decide) ?_
  refine V_iadd dZ_law_666 ?_
  refine V_sald dZ_law_667 (scr_in (k := 2) hi6 hN (by decide)) ?_
  refine V_topI (x' := gX G (i + 2)) (scr_cl (k := 2) (gX G) hi6 hN (by decide)) ?_
  refine V_callV (as := [.int (gX G (i + 1)), .int (gX G (i + 2))]) (rest := [.int ((q_gain L M (gX G (i + 1)) (gX G (i + 2))).1)]) (bs' := 0) rfl dZ_law_668 cmM_gain cvM_gain mlZ_78 (Or.inl ⟨_, _, _, _, _, rfl, k76, by decide, rfl⟩) rfl rfl (m_gain hM1 hI (gX G (i + 1)) (gX G (i + 2))) (by decide) (Nat.le_refl _) (by decide) (Nat.le_of_ble_eq_true rfl) ?_
  rintro _ _ s2 ⟨rfl, rfl, hM2, hS2⟩ -
  refine V_one ?_
  have hC3 := RC_sc hC2 hS2 hM2.1
  refine V_icmp_eq (tgt := 1488) dZ_law_671 rfl (fun _ => ?_) (fun h => absurd h (not_not_intro rfl))
  have e := Nq_gain (L := L) (M := M) (gX G (i + 1)) (gX G (i + 2))
  rw [e] at hC3 hM2
  exact hk s2 ⟨L, M, hC3, hM2, hI, hB⟩
theorem zc_15 {l : Launch} {G : GT} {i : Nat} {L : Nat → List Cl} {M s : Hp} (hi6 : i + 6 ≤ gL G) (hN : gL G ≤ 3072) (hC : RC L M s) (hM : RM M s) (hI : Inv L M) (hB : Bo M) (hk : ∀ s, OKs s → V l G mZ_law room_1 (KA.length + 0) 0 1488 [(3, .int (nI i)), (2, .ref 76), (1, .ref 0), (0, .float 0)] [] KA s PT) : V l G mZ_law room_1 (KA.length + 0) 0 676 [(3, .int (nI i)), (2, .ref 76), (1, .ref 0), (0, .float 0)] [] KA s PT := by
  have hR := hC.1
  refine V_aload_n dZ_law_676 rfl ?_
  refine V_aload_nO dZ_law_677 rfl ?_
  refine V_iload_n dZ_law_678 rfl ?_
  refine V_iconst (v := 1) dZ_law_679 (by decide) ?_
  refine V_iadd dZ_law_680 ?_
  refine V_sald dZ_law_681 (scr_in (k := 1) hi6 hN (by decide)) ?_
  refine V_topI (x' := gX G (i + 1)) (scr_cl (k := 1) (gX G) hi6 hN (by decide)) ?_
  refine V_callV (as := [.int (gX G (i + 1))]) (rest := []) (bs' := 0) rfl dZ_law_682 cmG_least cvG_least mlZ_79 (Or.inl ⟨_, _, _, _, _, rfl, k0, by decide, rfl⟩) rfl rfl (g_least hC hI (gX G (i + 1))) (by decide) (Nat.le_refl _) (by decide) (Nat.le_of_ble_eq_true rfl) ?_
  rintro _ _ s1 ⟨rfl, rfl, hC2, hS1⟩ -
  refine V_one ?_
  have hM1 := RM_sm hM hS1 hC2.1
  refine V_aload_n dZ_law_685 rfl ?_
  refine V_aload_nO dZ_law_686 rfl ?_
  refine V_iload_n dZ_law_687 rfl ?_
  refine V_iconst (v := 1) dZ_law_688 (by decide) ?_
  refine V_iadd dZ_law_689 ?_
  refine V_sald dZ_law_690 (scr_in (k := 1) hi6 hN (by decide)) ?_
  refine V_topI (x' := gX G (i + 1)) (scr_cl (k := 1) (gX G) hi6 hN (by decide)) ?_
  refine V_callV (as := [.int (gX G (i + 1))]) (rest := [.int ((q_least L M (gX G (i + 1))).1)]) (bs' := 0) rfl dZ_law_691 cmM_least cvM_least mlZ_82 (Or.inl ⟨_, _, _, _, _, rfl, k76, by decide, rfl⟩) rfl rfl (m_least hM1 hI (gX G (i + 1))) (by decide) (Nat.le_refl _) (by decide) (Nat.le_of_ble_eq_true rfl) ?_
  rintro _ _ s2 ⟨rfl, rfl, hM2, hS2⟩ -
  refine V_one ?_
  have hC3 := RC_sc hC2 hS2 hM2.1
  refine V_icmp_eq (tgt := 1488) dZ_law_694 rfl (fun _ => ?_) (fun h => absurd h (not_not_intro rfl))
  have e := Nq_least (L := L) (M := M) (gX G (i + 1))
  rw [e] at hC3 hM2
  exact hk s2 ⟨L, M, hC3, hM2, hI, hB⟩
theorem zc_16 {l : Launch} {G : GT} {i : Nat} {L : Nat → List Cl} {M s : Hp} (hi6 : i + 6 ≤ gL G) (hN : gL G ≤ 3072) (hC : RC L M s) (hM : RM M s) (hI : Inv L M) (hB : Bo M) (hk : ∀ s, OKs s → V l G mZ_law room_1 (KA.length + 0) 0 1488 [(3, .int (nI i)), (2, .ref 76), (1, .ref 0), (0, .float 0)] [] KA s PT) : V l G mZ_law room_1 (KA.length + 0) 0 699 [(3, .int (nI i)), (2, .ref 76), (1, .ref 0), (0, .float 0)] [] KA s PT := by
  have hR := hC.1
  refine V_aload_n dZ_law_699 rfl ?_
  refine V_aload_nO dZ_law_700 rfl ?_
  refine V_iload_n dZ_law_701 rfl ?_
  refine V_iconst (v := 1) dZ_law_702 (by decide) ?_
  refine V_iadd dZ_law_703 ?_
  refine V_sald dZ_law_704 (scr_in (k := 1) hi6 hN (by decide)) ?_
  refine V_topI (x' := gX G (i + 1)) (scr_cl (k := 1) (gX G) hi6 hN (by decide)) ?_
  refine V_aload_nO dZ_law_705 rfl ?_
  refine V_iload_n dZ_law_706 rfl ?_
  refine V_iconst (v := 2) dZ_law_707 (by decide) ?_
  refine V_iadd dZ_law_708 ?_
  refine V_sald dZ_law_709 (scr_in (k := 2) hi6 hN (by decide)) ?_
  refine V_topI (x' := gX G (i + 2)) (scr_cl (k := 2) (gX G) hi6 hN (by decide)) ?_
  refine V_if_eq (tgt := 717) dZ_law_710 rfl (fun c710 => ?_) (fun c710 => ?_)
  · skip
    refine V_iconst (v := 0) dZ_law_717 (by decide) ?_
    refine V_callV (as := [.int (gX G (i + 1)), .int 0]) (rest := []) (bs' := 0) rfl dZ_law_718 cmG_open cvG_open mlZ_83 (Or.inl ⟨_, _, _, _, _, rfl, k0, by decide, rfl⟩) rfl rfl (g_open hC hI (gX G (i + 1)) 0 (Or.inl rfl)) (by decide) (Nat.le_refl _) (by decide) (Nat.le_of_ble_eq_true rfl) ?_
    rintro _ _ s1 ⟨rfl, rfl, hC2, hS1⟩ -
    refine V_one ?_
    have hM1 := RM_sm hM hS1 hC2.1
    refine V_aload_n dZ_law_721 rfl ?_
    refine V_aload_nO dZ_law_722 rfl ?_
    refine V_iload_n dZ_law_723 rfl ?_
    refine V_iconst (v := 1) dZ_law_724 (by decide) ?_
    refine V_iadd dZ_law_725 ?_
    refine V_sald dZ_law_726 (scr_in (k := 1) hi6 hN (by decide)) ?_
    refine V_topI (x' := gX G (i + 1)) (scr_cl (k := 1) (gX G) hi6 hN (by decide)) ?_
    refine V_aload_nO dZ_law_727 rfl ?_
    refine V_iload_n dZ_law_728 rfl ?_
    refine V_iconst (v := 2) dZ_law_729 (by decide) ?_
    refine V_iadd dZ_law_730 ?_
    refine V_sald dZ_law_731 (scr_in (k := 2) hi6 hN (by decide)) ?_
    refine V_topI (x' := gX G (i + 2)) (scr_cl (k := 2) (gX G) hi6 hN (by decide)) ?_
    refine V_if_eq (tgt := 739) dZ_law_732 rfl (fun _ => ?_) (fun h => absurd h (not_not_intro c710))
    refine V_iconst (v := 0) dZ_law_739 (by decide) ?_
    refine V_callV (as := [.int (gX G (i + 1)), .int 0]) (rest := [.int ((q_open M (gX G (i + 1)) 0).1)]) (bs' := 0) rfl dZ_law_740 cmM_open cvM_open mlZ_87 (Or.inl ⟨_, _, _, _, _, rfl, k76, by decide, rfl⟩) rfl rfl (m_open hM1 hI (gX G (i + 1)) 0 (Or.inl rfl)) (by decide) (Nat.le_refl _) (by decide) (Nat.le_of_ble_eq_true rfl) ?_
    rintro _ _ s2 ⟨rfl, rfl, hM2, hS2⟩ -
    refine V_one ?_
    have hC3 := RC_sc hC2 hS2 hM2.1
    refine V_icmp_eq (tgt := 1488) dZ_law_743 rfl (fun _ => ?_) (fun h => absurd h (not_not_intro rfl))
    exact hk s2 ⟨L, (q_open M (gX G (i + 1)) 0).2, hC3, hM2, Iq_open hI (gX G (i + 1)) 0 (Or.inl rfl), Bq_open hB (gX G (i + 1)) 0 (Or.inl rfl)⟩
  · skip
    refine V_iconst (v := 1) dZ_law_713 (by decide) ?_
    refine V_goto (tgt := 718) dZ_law_714 rfl ?_
    refine V_callV (as := [.int (gX G (i + 1)), .int 1]) (rest := []) (bs' := 0) rfl dZ_law_718 cmG_open cvG_open mlZ_83 (Or.inl ⟨_, _, _, _, _, rfl, k0, by decide, rfl⟩) rfl rfl (g_open hC hI (gX G (i + 1)) 1 (Or.inr rfl)) (by decide) (Nat.le_refl _) (by decide) (Nat.le_of_ble_eq_true rfl) ?_
    rintro _ _ s1 ⟨rfl, rfl, hC2, hS1⟩ -
    refine V_one ?_
    have hM1 := RM_sm hM hS1 hC2.1
    refine V_aload_n dZ_law_721 rfl ?_
    refine V_aload_nO dZ_law_722 rfl ?_
    refine V_iload_n dZ_law_723 rfl ?_
    refine V_iconst (v := 1) dZ_law_724 (by decide) ?_
    refine V_iadd dZ_law_725 ?_
    refine V_sald dZ_law_726 (scr_in (k := 1) hi6 hN (by decide)) ?_
    refine V_topI (x' := gX G (i + 1)) (scr_cl (k := 1) (gX G) hi6 hN (by decide)) ?_
    refine V_aload_nO dZ_law_727 rfl ?_
    refine V_iload_n dZ_law_728 rfl ?_
    refine V_iconst (v := 2) dZ_law_729 (by decide) ?_
    refine V_iadd dZ_law_730 ?_
    refine V_sald dZ_law_731 (scr_in (k := 2) hi6 hN (by decide)) ?_
    refine V_topI (x' := gX G (i + 2)) (scr_cl (k := 2) (gX G) hi6 hN (by decide)) ?_
    refine V_if_eq (tgt := 739) dZ_law_732 rfl (fun h => absurd h c710) (fun _ => ?_)
    refine V_iconst (v := 1) dZ_law_735 (by decide) ?_
    refine V_goto (tgt := 740) dZ_law_736 rfl ?_
    refine V_callV (as := [.int (gX G (i + 1)), .int 1]) (rest := [.int ((q_open M (gX G (i + 1)) 1).1)]) (bs' := 0) rfl dZ_law_740 cmM_open cvM_open mlZ_87 (Or.inl ⟨_, _, _, _, _, rfl, k76, by decide, rfl⟩) rfl rfl (m_open hM1 hI (gX G (i + 1)) 1 (Or.inr rfl)) (by decide) (Nat.le_refl _) (by decide) (Nat.le_of_ble_eq_true rfl) ?_
    rintro _ _ s2 ⟨rfl, rfl, hM2, hS2⟩ -
    refine V_one ?_
    have hC3 := RC_sc hC2 hS2 hM2.1
    refine V_icmp_eq (tgt := 1488) dZ_law_743 rfl (fun _ => ?_) (fun h => absurd h (not_not_intro rfl))
    exact hk s2 ⟨L, (q_open M (gX G (i + 1)) 1).2, hC3, hM2, Iq_open hI (gX G (i + 1)) 1 (Or.inr rfl), Bq_open hB (gX G (i + 1)) 1 (Or.inr rfl)⟩
theorem zc_17 {l : Launch} {G : GT} {i : Nat} {L : Nat → List Cl} {M s : Hp} (hi6 : i + 6 ≤ gL G) (hN : gL G ≤ 3072) (hC : RC L M s) (hM : RM M s) (hI : Inv L M) (hB : Bo M) (hk : ∀ s, OKs s → V l G mZ_law room_1 (KA.length + 0) 0 1488 [(3, .int (nI i)), (2, .ref 76), (1, .ref 0), (0, .float 0)] [] KA s PT) : V l G mZ_law room_1 (KA.length + 0) 0 748 [(3, .int (nI i)), (2, .ref 76), (1, .ref 0), (0, .float 0)] [] KA s PT := by
  have hR := hC.1
  refine V_aload_n dZ_law_748 rfl ?_
  refine V_callV (as := []) (rest := []) (bs' := 0) rfl dZ_law_749 cmG_left cvG_left mlZ_88 (Or.inl ⟨_, _, _, _, _, rfl, k0, by decide, rfl⟩) rfl rfl (g_left hC hI) (by decide) (Nat.le_refl _) (by decide) (Nat.le_of_ble_eq_true rfl) ?_
  rintro _ _ s1 ⟨rfl, rfl, hC2, hS1⟩ -
  refine V_one ?_
  have hM1 := RM_sm hM hS1 hC2.1
  refine V_aload_n dZ_law_752 rfl ?_
  refine V_callV (as := []) (rest := [.int ((q_left M).1)]) (bs' := 0) rfl dZ_law_753 cmM_left cvM_left mlZ_91 (Or.inl ⟨_, _, _, _, _, rfl, k76, by decide, rfl⟩) rfl rfl (m_left hM1 hI) (by decide) (Nat.le_refl _) (by decide) (Nat.le_of_ble_eq_true rfl) ?_
  rintro _ _ s2 ⟨rfl, rfl, hM2, hS2⟩ -
  refine V_one ?_
  have hC3 := RC_sc hC2 hS2 hM2.1
  refine V_icmp_eq (tgt := 1488) dZ_law_756 rfl (fun _ => ?_) (fun h => absurd h (not_not_intro rfl))
  have e := Nq_left (M := M) 
  rw [e] at hC3 hM2
  exact hk s2 ⟨L, M, hC3, hM2, hI, hB⟩
theorem zc_18 {l : Launch} {G : GT} {i : Nat} {L : Nat → List Cl} {M s : Hp} (hi6 : i + 6 ≤ gL G) (hN : gL G ≤ 3072) (hC : RC L M s) (hM : RM M s) (hI : Inv L M) (hB : Bo M) (hk : ∀ s, OKs s → V l G mZ_law room_1 (KA.length + 0) 0 1488 [(3, .int (nI i)), (2, .ref 76), (1, .ref 0), (0, .float 0)] [] KA s PT) : V l G mZ_law room_1 (KA.length + 0) 0 761 [(3, .int (nI i)), (2, .ref 76), (1, .ref 0), (0, .float 0)] [] KA s PT := by
  have hR := hC.1
  refine V_aload_n dZ_law_761 rfl ?_
  refine V_aload_nO dZ_law_762 rfl ?_
  refine V_iload_n dZ_law_763 rfl ?_
  refine V_iconst (v := 1) dZ_law_764 (by decide) ?_
  refine V_iadd dZ_law_765 ?_
  refine V_sald dZ_law_766 (scr_in (k := 1) hi6 hN (by decide)) ?_
  refine V_topI (x' := gX G (i + 1)) (scr_cl (k := 1) (gX G) hi6 hN (by decide)) ?_
  refine V_aload_nO dZ_law_767 rfl ?_
  refine V_iload_n dZ_law_768 rfl ?_
  refine V_iconst (v := 2) dZ_law_769 (by decide) ?_
  refine V_iadd dZ_law_770 ?_
  refine V_sald dZ_law_771 (scr_in (k := 2) hi6 hN (by decide)) ?_
  refine V_topI (x' := gX G (i + 2)) (scr_cl (k := 2) (gX G) hi6 hN (by decide)) ?_
  refine V_callV (as := [.int (gX G (i + 1)), .int (gX G (i + 2))]) (rest := []) (bs' := 0) rfl dZ_law_772 cmG_odds cvG_odds mlZ_92 (Or.inl ⟨_, _, _, _, _, rfl, k0, by decide, rfl⟩) rfl rfl (g_odds hC hI (gX G (i + 1)) (gX G (i + 2))) (by decide) (Nat.le_refl _) (by decide) (Nat.le_of_ble_eq_true rfl) ?_
  rintro _ _ s1 ⟨rfl, rfl, hC2, hS1⟩ -
  refine V_one ?_
  have hM1 := RM_sm hM hS1 hC2.1
  refine V_aload_n dZ_law_775 rfl ?_
  refine V_aload_nO dZ_law_776 rfl ?_
  refine V_iload_n dZ_law_777 rfl ?_
  refine V_iconst (v := 1) dZ_law_778 (by decide) ?_
  refine V_iadd dZ_law_779 ?_
  refine V_sald dZ_law_780 (scr_in (k := 1) hi6 hN (by decide)) ?_
  refine V_topI (x' := gX G (i + 1)) (scr_cl (k := 1) (gX G) hi6 hN (by decide)) ?_
  refine V_aload_nO dZ_law_781 rfl ?_
  refine V_iload_n dZ_law_782 rfl ?_
  refine V_iconst (v := 2) dZ_law_783 (by decide) ?_
  refine V_iadd dZ_law_784 ?_
  refine V_sald dZ_law_785 (scr_in (k := 2) hi6 hN (by decide)) ?_
  refine V_topI (x' := gX G (i + 2)) (scr_cl (k := 2) (gX G) hi6 hN (by decide)) ?_
  refine V_callV (as := [.int (gX G (i + 1)), .int (gX G (i + 2))]) (rest := [.long ((q_odds M (gX G (i + 1)) (gX G (i + 2))).1)]) (bs' := 0) rfl dZ_law_786 cmM_odds cvM_odds mlZ_95 (Or.inl ⟨_, _, _, _, _, rfl, k76, by decide, rfl⟩) rfl rfl (m_odds hM1 hI (gX G (i + 1)) (gX G (i + 2))) (by decide) (Nat.le_refl _) (by decide) (Nat.le_of_ble_eq_true rfl) ?_
  rintro _ _ s2 ⟨rfl, rfl, hM2, hS2⟩ -
  refine V_one ?_
  have hC3 := RC_sc hC2 hS2 hM2.1
  refine V_lcmp dZ_law_789 ?_
  refine V_topI (x' := 0) (lgc _) ?_
  refine V_if_eq (tgt := 1488) dZ_law_790 rfl (fun _ => ?_) (fun h => absurd h (not_not_intro rfl))
  have e := Nq_odds (M := M) (gX G (i + 1)) (gX G (i + 2))
  rw [e] at hC3 hM2
  exact hk s2 ⟨L, M, hC3, hM2, hI, hB⟩
theorem zc_19 {l : Launch} {G : GT} {i : Nat} {L : Nat → List Cl} {M s : Hp} (hi6 : i + 6 ≤ gL G) (hN : gL G ≤ 3072) (hC : RC L M s) (hM : RM M s) (hI : Inv L M) (hB : Bo M) (hk : ∀ s, OKs s → V l G mZ_law room_1 (KA.length + 0) 0 1488 [(3, .int (nI i)), (2, .ref 76), (1, .ref 0), (0, .float 0)] [] KA s PT) : V l G mZ_law room_1 (KA.length + 0) 0 795 [(3, .int (nI i)), (2, .ref 76), (1, .ref 0), (0, .float 0)] [] KA s PT := by
  have hR := hC.1
  refine V_aload_n dZ_law_795 rfl ?_
  refine V_callV (as := []) (rest := []) (bs' := 0) rfl dZ_law_796 cmG_knew cvG_knew mlZ_96 (Or.inl ⟨_, _, _, _, _, rfl, k0, by decide, rfl⟩) rfl rfl (g_knew hC hI) (by decide) (Nat.le_refl _) (by decide) (Nat.le_of_ble_eq_true rfl) ?_
  rintro _ _ s1 ⟨rfl, rfl, hC2, hS1⟩ -
  refine V_one ?_
  have hM1 := RM_sm hM hS1 hC2.1
  refine V_aload_n dZ_law_799 rfl ?_
  refine V_callV (as := []) (rest := [.int ((q_knew M).1)]) (bs' := 0) rfl dZ_law_800 cmM_knew cvM_knew mlZ_99 (Or.inl ⟨_, _, _, _, _, rfl, k76, by decide, rfl⟩) rfl rfl (m_knew hM1 hI) (by decide) (Nat.le_refl _) (by decide) (Nat.le_of_ble_eq_true rfl) ?_
  rintro _ _ s2 ⟨rfl, rfl, hM2, hS2⟩ -
  refine V_one ?_
  have hC3 := RC_sc hC2 hS2 hM2.1
  refine V_icmp_eq (tgt := 1488) dZ_law_803 rfl (fun _ => ?_) (fun h => absurd h (not_not_intro rfl))
  have e := Nq_knew (M := M) 
  rw [e] at hC3 hM2
  exact hk s2 ⟨L, M, hC3, hM2, hI, hB⟩
theorem zc_20 {l : Launch} {G : GT} {i : Nat} {L : Nat → List Cl} {M s : Hp} (hi6 : i + 6 ≤ gL G) (hN : gL G ≤ 3072) (hC : RC L M s) (hM : RM M s) (hI : Inv L M) (hB : Bo M) (hk : ∀ s, OKs s → V l G mZ_law room_1 (KA.length + 0) 0 1488 [(3, .int (nI i)), (2, .ref 76), (1, .ref 0), (0, .float 0)] [] KA s PT) : V l G mZ_law room_1 (KA.length + 0) 0 808 [(3, .int (nI i)), (2, .ref 76), (1, .ref 0), (0, .float 0)] [] KA s PT := by
  have hR := hC.1
  refine V_aload_n dZ_law_808 rfl ?_
  refine V_aload_nO dZ_law_809 rfl ?_
  refine V_iload_n dZ_law_810 rfl ?_
  refine V_iconst (v := 1) dZ_law_811 (by decide) ?_
  refine V_iadd dZ_law_812 ?_
  refine V_sald dZ_law_813 (scr_in (k := 1) hi6 hN (by decide)) ?_
  refine V_topI (x' := gX G (i + 1)) (scr_cl (k := 1) (gX G) hi6 hN (by decide)) ?_
  refine V_aload_nO dZ_law_814 rfl ?_
  refine V_iload_n dZ_law_815 rfl ?_
  refine V_iconst (v := 2) dZ_law_816 (by decide) ?_
  refine V_iadd dZ_law_817 ?_
  refine V_sald dZ_law_818 (scr_in (k := 2) hi6 hN (by decide)) ?_
  refine V_topI (x' := gX G (i + 2)) (scr_cl (k := 2) (gX G) hi6 hN (by decide)) ?_
  refine V_callV (as := [.int (gX G (i + 1)), .int (gX G (i + 2))]) (rest := []) (bs' := 0) rfl dZ_law_819 cmG_best cvG_best mlZ_100 (Or.inl ⟨_, _, _, _, _, rfl, k0, by decide, rfl⟩) rfl rfl (g_best hC hI (gX G (i + 1)) (gX G (i + 2))) (by decide) (Nat.le_refl _) (by decide) (Nat.le_of_ble_eq_true rfl) ?_
  rintro _ _ s1 ⟨rfl, rfl, hC2, hS1⟩ -
  refine V_one ?_
  have hM1 := RM_sm hM hS1 hC2.1
  refine V_aload_n dZ_law_822 rfl ?_
  refine V_aload_nO dZ_law_823 rfl ?_
  refine V_iload_n dZ_law_824 rfl ?_
  refine V_iconst (v := 1) dZ_law_825 (by decide) ?_
  refine V_iadd dZ_law_826 ?_
  refine V_sald dZ_law_827 (scr_in (k := 1) hi6 hN (by decide)) ?_
  refine V_topI (x' := gX G (i + 1)) (scr_cl (k := 1) (gX G) hi6 hN (by decide)) ?_
  refine V_aload_nO dZ_law_828 rfl ?_
  refine V_iload_n dZ_law_829 rfl ?_
  refine V_iconst (v := 2) dZ_law_830 (by decide) ?_
  refine V_iadd dZ_law_831 ?_
  refine V_sald dZ_law_832 (scr_in (k := 2) hi6 hN (by decide)) ?_
  refine V_topI (x' := gX G (i + 2)) (scr_cl (k := 2) (gX G) hi6 hN (by decide)) ?_
  refine V_callV (as := [.int (gX G (i + 1)), .int (gX G (i + 2))]) (rest := [.int ((q_best L M (gX G (i + 1)) (gX G (i + 2))).1)]) (bs' := 0) rfl dZ_law_833 cmM_best cvM_best mlZ_103 (Or.inl ⟨_, _, _, _, _, rfl, k76, by decide, rfl⟩) rfl rfl (m_best hM1 hI (gX G (i + 1)) (gX G (i + 2))) (by decide) (Nat.le_refl _) (by decide) (Nat.le_of_ble_eq_true rfl) ?_
  rintro _ _ s2 ⟨rfl, rfl, hM2, hS2⟩ -
  refine V_one ?_
  have hC3 := RC_sc hC2 hS2 hM2.1
  refine V_icmp_eq (tgt := 1488) dZ_law_836 rfl (fun _ => ?_) (fun h => absurd h (not_not_intro rfl))
  have e := Nq_best (L := L) (M := M) (gX G (i + 1)) (gX G (i + 2))
  rw [e] at hC3 hM2
  exact hk s2 ⟨L, M, hC3, hM2, hI, hB⟩
theorem zc_21 {l : Launch} {G : GT} {i : Nat} {L : Nat → List Cl} {M s : Hp} (hi6 : i + 6 ≤ gL G) (hN : gL G ≤ 3072) (hC : RC L M s) (hM : RM M s) (hI : Inv L M) (hB : Bo M) (hk : ∀ s, OKs s → V l G mZ_law room_1 (KA.length + 0) 0 1488 [(3, .int (nI i)), (2, .ref 76), (1, .ref 0), (0, .float 0)] [] KA s PT) : V l G mZ_law room_1 (KA.length + 0) 0 841 [(3, .int (nI i)), (2, .ref 76), (1, .ref 0), (0, .float 0)] [] KA s PT := by
  have hR := hC.1
  refine V_aload_n dZ_law_841 rfl ?_
  refine V_aload_nO dZ_law_842 rfl ?_
  refine V_iload_n dZ_law_843 rfl ?_
  refine V_iconst (v := 1) dZ_law_844 (by decide) ?_
  refine V_iadd dZ_law_845 ?_
  refine V_sald dZ_law_846 (scr_in (k := 1) hi6 hN (by decide)) ?_
  refine V_topI (x' := gX G (i + 1)) (scr_cl (k := 1) (gX G) hi6 hN (by decide)) ?_
  refine V_callV (as := [.int (gX G (i + 1))]) (rest := []) (bs' := 0) rfl dZ_law_847 cmG_safest cvG_safest mlZ_104 (Or.inl ⟨_, _, _, _, _, rfl, k0, by decide, rfl⟩) rfl rfl (g_safest hC hI (gX G (i + 1))) (by decide) (Nat.le_refl _) (by decide) (Nat.le_of_ble_eq_true rfl) ?_
  rintro _ _ s1 ⟨rfl, rfl, hC2, hS1⟩ -
  refine V_one ?_
  have hM1 := RM_sm hM hS1 hC2.1
  refine V_aload_n dZ_law_850 rfl ?_
  refine V_aload_nO dZ_law_851 rfl ?_
  refine V_iload_n dZ_law_852 rfl ?_
  refine V_iconst (v := 1) dZ_law_853 (by decide) ?_
  refine V_iadd dZ_law_854 ?_
  refine V_sald dZ_law_855 (scr_in (k := 1) hi6 hN (by decide)) ?_
  refine V_topI (x' := gX G (i + 1)) (scr_cl (k := 1) (gX G) hi6 hN (by decide)) ?_
  refine V_callV (as := [.int (gX G (i + 1))]) (rest := [.int ((q_safest L M (gX G (i + 1))).1)]) (bs' := 0) rfl dZ_law_856 cmM_safest cvM_safest mlZ_107 (Or.inl ⟨_, _, _, _, _, rfl, k76, by decide, rfl⟩) rfl rfl (m_safest hM1 hI (gX G (i + 1))) (by decide) (Nat.le_refl _) (by decide) (Nat.le_of_ble_eq_true rfl) ?_
  rintro _ _ s2 ⟨rfl, rfl, hM2, hS2⟩ -
  refine V_one ?_
  have hC3 := RC_sc hC2 hS2 hM2.1
  refine V_icmp_eq (tgt := 1488) dZ_law_859 rfl (fun _ => ?_) (fun h => absurd h (not_not_intro rfl))
  have e := Nq_safest (L := L) (M := M) (gX G (i + 1))
  rw [e] at hC3 hM2
  exact hk s2 ⟨L, M, hC3, hM2, hI, hB⟩
theorem zc_22 {l : Launch} {G : GT} {i : Nat} {L : Nat → List Cl} {M s : Hp} (hi6 : i + 6 ≤ gL G) (hN : gL G ≤ 3072) (hC : RC L M s) (hM : RM M s) (hI : Inv L M) (hB : Bo M) (hk : ∀ s, OKs s → V l G mZ_law room_1 (KA.length + 0) 0 1488 [(3, .int (nI i)), (2, .ref 76), (1, .ref 0), (0, .float 0)] [] KA s PT) : V l G mZ_law room_1 (KA.length + 0) 0 864 [(3, .int (nI i)), (2, .ref 76), (1, .ref 0), (0, .float 0)] [] KA s PT := by
  have hR := hC.1
  refine V_aload_n dZ_law_864 rfl ?_
  refine V_callV (as := []) (rest := []) (bs' := 0) rfl dZ_law_865 cmG_sure cvG_sure mlZ_108 (Or.inl ⟨_, _, _, _, _, rfl, k0, by decide, rfl⟩) rfl rfl (g_sure hC hI) (by decide) (Nat.le_refl _) (by decide) (Nat.le_of_ble_eq_true rfl) ?_
  rintro _ _ s1 ⟨rfl, rfl, hC2, hS1⟩ -
  refine V_one ?_
  have hM1 := RM_sm hM hS1 hC2.1
  refine V_aload_n dZ_law_868 rfl ?_
  refine V_callV (as := []) (rest := [.int ((q_sure L M).1)]) (bs' := 0) rfl dZ_law_869 cmM_sure cvM_sure mlZ_111 (Or.inl ⟨_, _, _, _, _, rfl, k76, by decide, rfl⟩) rfl rfl (m_sure hM1 hI) (by decide) (Nat.le_refl _) (by decide) (Nat.le_of_ble_eq_true rfl) ?_
  rintro _ _ s2 ⟨rfl, rfl, hM2, hS2⟩ -
  refine V_one ?_
  have hC3 := RC_sc hC2 hS2 hM2.1
  refine V_icmp_eq (tgt := 1488) dZ_law_872 rfl (fun _ => ?_) (fun h => absurd h (not_not_intro rfl))
  have e := Nq_sure (L := L) (M := M) 
  rw [e] at hC3 hM2
  exact hk s2 ⟨L, M, hC3, hM2, hI, hB⟩
theorem zc_23 {l : Launch} {G : GT} {i : Nat} {L : Nat → List Cl} {M s : Hp} (hi6 : i + 6 ≤ gL G) (hN : gL G ≤ 3072) (hC : RC L M s) (hM : RM M s) (hI : Inv L M) (hB : Bo M) (hk : ∀ s, OKs s → V l G mZ_law room_1 (KA.length + 0) 0 1488 [(3, .int (nI i)), (2, .ref 76), (1, .ref 0), (0, .float 0)] [] KA s PT) : V l G mZ_law room_1 (KA.length + 0) 0 877 [(3, .int (nI i)), (2, .ref 76), (1, .ref 0), (0, .float 0)] [] KA s PT := by
  have hR := hC.1
  refine V_aload_n dZ_law_877 rfl ?_
  refine V_callV (as := []) (rest := []) (bs' := 0) rfl dZ_law_878 cmG_hedge cvG_hedge mlZ_112 (Or.inl ⟨_, _, _, _, _, rfl, k0, by decide, rfl⟩) rfl rfl (g_hedge hC hI) (by decide) (Nat.le_refl _) (by decide) (Nat.le_of_ble_eq_true rfl) ?_
  rintro _ _ s1 ⟨rfl, rfl, hC2, hS1⟩ -
  refine V_one ?_
  have hM1 := RM_sm hM hS1 hC2.1
  refine V_aload_n dZ_law_881 rfl ?_
  refine V_callV (as := []) (rest := [.int ((q_hedge L M).1)]) (bs' := 0) rfl dZ_law_882 cmM_hedge cvM_hedge mlZ_115 (Or.inl ⟨_, _, _, _, _, rfl, k76, by decide, rfl⟩) rfl rfl (m_hedge hM1 hI) (by decide) (Nat.le_refl _) (by decide) (Nat.le_of_ble_eq_true rfl) ?_
  rintro _ _ s2 ⟨rfl, rfl, hM2, hS2⟩ -
  refine V_one ?_
  have hC3 := RC_sc hC2 hS2 hM2.1
  refine V_icmp_eq (tgt := 1488) dZ_law_885 rfl (fun _ => ?_) (fun h => absurd h (not_not_intro rfl))
  have e := Nq_hedge (L := L) (M := M) 
  rw [e] at hC3 hM2
  exact hk s2 ⟨L, M, hC3, hM2, hI, hB⟩
theorem zc_24 {l : Launch} {G : GT} {i : Nat} {L : Nat → List Cl} {M s : Hp} (hi6 : i + 6 ≤ gL G) (hN : gL G ≤ 3072) (hC : RC L M s) (hM : RM M s) (hI : Inv L M) (hB : Bo M) (hk : ∀ s, OKs s → V l G mZ_law room_1 (KA.length + 0) 0 1488 [(3, .int (nI i)), (2, .ref 76), (1, .ref 0), (0, .float 0)] [] KA s PT) : V l G mZ_law room_1 (KA.length + 0) 0 890 [(3, .int (nI i)), (2, .ref 76), (1, .ref 0), (0, .float 0)] [] KA s PT := by
  have hR := hC.1
  refine V_aload_n dZ_law_890 rfl ?_
  refine V_aload_nO dZ_law_891 rfl ?_
  refine V_iload_n dZ_law_892 rfl ?_
  refine V_iconst (v := 1) dZ_law_893 (by decide) ?_
  refine V_iadd dZ_law_894 ?_
  refine V_sald dZ_law_895 (scr_in (k := 1) hi6 hN (by decide)) ?_
  refine V_topI (x' := gX G (i + 1)) (scr_cl (k := 1) (gX G) hi6 hN (by decide)) ?_
  refine V_callV (as := [.int (gX G (i + 1))]) (rest := []) (bs' := 0) rfl dZ_law_896 cmG_against cvG_against mlZ_116 (Or.inl ⟨_, _, _, _, _, rfl, k0, by decide, rfl⟩) rfl rfl (g_against hC hI (gX G (i + 1))) (by decide) (Nat.le_refl _) (by decide) (Nat.le_of_ble_eq_true rfl) ?_
  rintro _ _ s1 ⟨rfl, rfl, hC2, hS1⟩ -
  refine V_one ?_
  have hM1 := RM_sm hM hS1 hC2.1
  refine V_aload_n dZ_law_899 rfl ?_
  refine V_aload_nO dZ_law_900 rfl ?_
  refine V_iload_n dZ_law_901 rfl ?_
  refine V_iconst (v := 1) dZ_law_902 (by decide) ?_
  refine V_iadd dZ_law_903 ?_
  refine V_sald dZ_law_904 (scr_in (k := 1) hi6 hN (by decide)) ?_
  refine V_topI (x' := gX G (i + 1)) (scr_cl (k := 1) (gX G) hi6 hN (by decide)) ?_
  refine V_callV (as := [.int (gX G (i + 1))]) (rest := [.int ((q_against M (gX G (i + 1))).1)]) (bs' := 0) rfl dZ_law_905 cmM_against cvM_against mlZ_119 (Or.inl ⟨_, _, _, _, _, rfl, k76, by decide, rfl⟩) rfl rfl (m_against hM1 hI (gX G (i + 1))) (by decide) (Nat.le_refl _) (by decide) (Nat.le_of_ble_eq_true rfl) ?_
  rintro _ _ s2 ⟨rfl, rfl, hM2, hS2⟩ -
  refine V_one ?_
  have hC3 := RC_sc hC2 hS2 hM2.1
  refine V_icmp_eq (tgt := 1488) dZ_law_908 rfl (fun _ => ?_) (fun h => absurd h (not_not_intro rfl))
  have e := Nq_against (M := M) (gX G (i + 1))
  rw [e] at hC3 hM2
  exact hk s2 ⟨L, M, hC3, hM2, hI, hB⟩
theorem zc_25 {l : Launch} {G : GT} {i : Nat} {L : Nat → List Cl} {M s : Hp} (hi6 : i + 6 ≤ gL G) (hN : gL G ≤ 3072) (hC : RC L M s) (hM : RM M s) (hI : Inv L M) (hB : Bo M) (hk : ∀ s, OKs s → V l G mZ_law room_1 (KA.length + 0) 0 1488 [(3, .int (nI i)), (2, .ref 76), (1, .ref 0), (0, .float 0)] [] KA s PT) : V l G mZ_law room_1 (KA.length + 0) 0 913 [(3, .int (nI i)), (2, .ref 76), (1, .ref 0), (0, .float 0)] [] KA s PT := by
  have hR := hC.1
  refine V_aload_n dZ_law_913 rfl ?_
  refine V_aload_nO dZ_law_914 rfl ?_
  refine V_iload_n dZ_law_915 rfl ?_
  refine V_iconst (v := 1) dZ_law_916 (by decide) ?_
  refine V_iadd dZ_law_917 ?_
  refine V_sald dZ_law_918 (scr_in (k := 1) hi6 hN (by decide)) ?_
  refine V_topI (x' := gX G (i + 1)) (scr_cl (k := 1) (gX G) hi6 hN (by decide)) ?_
  refine V_aload_nO dZ_law_919 rfl ?_
  refine V_iload_n dZ_law_920 rfl ?_
  refine V_iconst (v := 2) dZ_law_921 (by decide) ?_
  refine V_iadd dZ_law_922 ?_
  refine V_sald dZ_law_923 (scr_in (k := 2) hi6 hN (by decide)) ?_
  refine V_topI (x' := gX G (i + 2)) (scr_cl (k := 2) (gX G) hi6 hN (by decide)) ?_
  refine V_aload_nO dZ_law_924 rfl ?_
  refine V_iload_n dZ_law_925 rfl ?_
  refine V_iconst (v := 3) dZ_law_926 (by decide) ?_
  refine V_iadd dZ_law_927 ?_
  refine V_sald dZ_law_928 (scr_in (k := 3) hi6 hN (by decide)) ?_
  refine V_topI (x' := gX G (i + 3)) (scr_cl (k := 3) (gX G) hi6 hN (by decide)) ?_
  refine V_callV (as := [.int (gX G (i + 1)), .int (gX G (i + 2)), .int (gX G (i + 3))]) (rest := []) (bs' := 0) rfl dZ_law_929 cmG_when cvG_when mlZ_120 (Or.inl ⟨_, _, _, _, _, rfl, k0, by decide, rfl⟩) rfl rfl (g_when hC hI (gX G (i + 1)) (gX G (i + 2)) (gX G (i + 3))) (by decide) (Nat.le_refl _) (by decide) (Nat.le_of_ble_eq_true rfl) ?_
  rintro _ _ s1 ⟨rfl, rfl, hC2, hS1⟩ -
  refine V_one ?_
  have hM1 := RM_sm hM hS1 hC2.1
  refine V_aload_n dZ_law_932 rfl ?_
  refine V_aload_nO dZ_law_933 rfl ?_
  refine V_iload_n dZ_law_934 rfl ?_
  refine V_iconst (v := 1) dZ_law_935 (by decide) ?_
  refine V_iadd dZ_law_936 ?_
  refine V_sald dZ_law_937 (scr_in (k := 1) hi6 hN (by decide)) ?_
  refine V_topI (x' := gX G (i + 1)) (scr_cl (k := 1) (gX G) hi6 hN (by decide)) ?_
  refine V_aload_nO dZ_law_938 rfl ?_
  refine V_iload_n dZ_law_939 rfl ?_
  refine V_iconst (v := 2) dZ_law_940 (by decide) ?_
  refine V_iadd dZ_law_941 ?_
  refine V_sald dZ_law_942 (scr_in (k := 2) hi6 hN (by decide)) ?_
  refine V_topI (x' := gX G (i + 2)) (scr_cl (k := 2) (gX G) hi6 hN (by decide)) ?_
  refine V_aload_nO dZ_law_943 rfl ?_
  refine V_iload_n dZ_law_944 rfl ?_
  refine V_iconst (v := 3) dZ_law_945 (by decide) ?_
  refine V_iadd dZ_law_946 ?_
  refine V_sald dZ_law_947 (scr_in (k := 3) hi6 hN (by decide)) ?_
  refine V_topI (x' := gX G (i + 3)) (scr_cl (k := 3) (gX G) hi6 hN (by decide)) ?_
  refine V_callV (as := [.int (gX G (i + 1)), .int (gX G (i + 2)), .int (gX G (i + 3))]) (rest := [.int ((q_when L M (gX G (i + 1)) (gX G (i + 2)) (gX G (i + 3))).1)]) (bs' := 0) rfl dZ_law_948 cmM_when cvM_when mlZ_123 (Or.inl ⟨_, _, _, _, _, rfl, k76, by decide, rfl⟩) rfl rfl (m_when hM1 hI (gX G (i + 1)) (gX G (i + 2)) (gX G (i + 3))) (by decide) (Nat.le_refl _) (by decide) (Nat.le_of_ble_eq_true rfl) ?_
  rintro _ _ s2 ⟨rfl, rfl, hM2, hS2⟩ -
  refine V_one ?_
  have hC3 := RC_sc hC2 hS2 hM2.1
  refine V_icmp_eq (tgt := 1488) dZ_law_951 rfl (fun _ => ?_) (fun h => absurd h (not_not_intro rfl))
  have e := Nq_when (L := L) (M := M) (gX G (i + 1)) (gX G (i + 2)) (gX G (i + 3))
  rw [e] at hC3 hM2
  exact hk s2 ⟨L, M, hC3, hM2, hI, hB⟩
theorem zc_26 {l : Launch} {G : GT} {i : Nat} {L : Nat → List Cl} {M s : Hp} (hi6 : i + 6 ≤ gL G) (hN : gL G ≤ 3072) (hC : RC L M s) (hM : RM M s) (hI : Inv L M) (hB : Bo M) (hk : ∀ s, OKs s → V l G mZ_law room_1 (KA.length + 0) 0 1488 [(3, .int (nI i)), (2, .ref 76), (1, .ref 0), (0, .float 0)] [] KA s PT) : V l G mZ_law room_1 (KA.length + 0) 0 956 [(3, .int (nI i)), (2, .ref 76), (1, .ref 0), (0, .float 0)] [] KA s PT := by
  have hR := hC.1
  refine V_aload_n dZ_law_956 rfl ?_
  refine V_aload_nO dZ_law_957 rfl ?_
  refine V_iload_n dZ_law_958 rfl ?_
  refine V_iconst (v := 1) dZ_law_959 (by decide) ?_
  refine V_iadd dZ_law_960 ?_
  refine V_sald dZ_law_961 (scr_in (k := 1) hi6 hN (by decide)) ?_
  refine V_topI (x' := gX G (i + 1)) (scr_cl (k := 1) (gX G) hi6 hN (by decide)) ?_
  refine V_callV (as := [.int (gX G (i + 1))]) (rest := []) (bs' := 0) rfl dZ_law_962 cmG_crowd cvG_crowd mlZ_124 (Or.inl ⟨_, _, _, _, _, rfl, k0, by decide, rfl⟩) rfl rfl (g_crowd hC hI (gX G (i + 1))) (by decide) (Nat.le_refl _) (by decide) (Nat.le_of_ble_eq_true rfl) ?_
  rintro _ _ s1 ⟨rfl, rfl, hC2, hS1⟩ -
  refine V_one ?_
  have hM1 := RM_sm hM hS1 hC2.1
  refine V_aload_n dZ_law_965 rfl ?_
  refine V_aload_nO dZ_law_966 rfl ?_
  refine V_iload_n dZ_law_967 rfl ?_
  refine V_iconst (v := 1) dZ_law_968 (by decide) ?_
  refine V_iadd dZ_law_969 ?_
  refine V_sald dZ_law_970 (scr_in (k := 1) hi6 hN (by decide)) ?_
  refine V_topI (x' := gX G (i + 1)) (scr_cl (k := 1) (gX G) hi6 hN (by decide)) ?_
  refine V_callV (as := [.int (gX G (i + 1))]) (rest := [.int ((q_crowd M (gX G (i + 1))).1)]) (bs' := 0) rfl dZ_law_971 cmM_crowd cvM_crowd mlZ_127 (Or.inl ⟨_, _, _, _, _, rfl, k76, by decide, rfl⟩) rfl rfl (m_crowd hM1 hI (gX G (i + 1))) (by decide) (Nat.le_refl _) (by decide) (Nat.le_of_ble_eq_true rfl) ?_
  rintro _ _ s2 ⟨rfl, rfl, hM2, hS2⟩ -
  refine V_one ?_
  have hC3 := RC_sc hC2 hS2 hM2.1
  refine V_icmp_eq (tgt := 1488) dZ_law_974 rfl (fun _ => ?_) (fun h => absurd h (not_not_intro rfl))
  have e := Nq_crowd (M := M) (gX G (i + 1))
  rw [e] at hC3 hM2
  exact hk s2 ⟨L, M, hC3, hM2, hI, hB⟩
theorem zc_27 {l : Launch} {G : GT} {i : Nat} {L : Nat → List Cl} {M s : Hp} (hi6 : i + 6 ≤ gL G) (hN : gL G ≤ 3072) (hC : RC L M s) (hM : RM M s) (hI : Inv L M) (hB : Bo M) (hk : ∀ s, OKs s → V l G mZ_law room_1 (KA.length + 0) 0 1488 [(3, .int (nI i)), (2, .ref 76), (1, .ref 0), (0, .float 0)] [] KA s PT) : V l G mZ_law room_1 (KA.length + 0) 0 979 [(3, .int (nI i)), (2, .ref 76), (1, .ref 0), (0, .float 0)] [] KA s PT := by
  have hR := hC.1
  refine V_aload_n dZ_law_979 rfl ?_
  refine V_callV (as := []) (rest := []) (bs' := 0) rfl dZ_law_980 cmG_cheap cvG_cheap mlZ_128 (Or.inl ⟨_, _, _, _, _, rfl, k0, by decide, rfl⟩) rfl rfl (g_cheap hC hI) (by decide) (Nat.le_refl _) (by decide) (Nat.le_of_ble_eq_true rfl) ?_
  rintro _ _ s1 ⟨rfl, rfl, hC2, hS1⟩ -
  refine V_one ?_
  have hM1 := RM_sm hM hS1 hC2.1
  refine V_aload_n dZ_law_983 rfl ?_
  refine V_callV (as := []) (rest := [.int ((q_cheap L M).1)]) (bs' := 0) rfl dZ_law_984 cmM_cheap cvM_cheap mlZ_131 (Or.inl ⟨_, _, _, _, _, rfl, k76, by decide, rfl⟩) rfl rfl (m_cheap hM1 hI) (by decide) (Nat.le_refl _) (by decide) (Nat.le_of_ble_eq_true rfl) ?_
  rintro _ _ s2 ⟨rfl, rfl, hM2, hS2⟩ -
  refine V_one ?_
  have hC3 := RC_sc hC2 hS2 hM2.1
  refine V_icmp_eq (tgt := 1488) dZ_law_987 rfl (fun _ => ?_) (fun h => absurd h (not_not_intro rfl))
  have e := Nq_cheap (L := L) (M := M) 
  rw [e] at hC3 hM2
  exact hk s2 ⟨L, M, hC3, hM2, hI, hB⟩
theorem zc_28 {l : Launch} {G : GT} {i : Nat} {L : Nat → List Cl} {M s : Hp} (hi6 : i + 6 ≤ gL G) (hN : gL G ≤ 3072) (hC : RC L M s) (hM : RM M s) (hI : Inv L M) (hB : Bo M) (hk : ∀ s, OKs s → V l G mZ_law room_1 (KA.length + 0) 0 1488 [(3, .int (nI i)), (2, .ref 76), (1, .ref 0), (0, .float 0)] [] KA s PT) : V l G mZ_law room_1 (KA.length + 0) 0 992 [(3, .int (nI i)), (2, .ref 76), (1, .ref 0), (0, .float 0)] [] KA s PT := by
  have hR := hC.1
  refine V_aload_n dZ_law_992 rfl ?_
  refine V_aload_nO dZ_law_993 rfl ?_
  refine V_iload_n dZ_law_994 rfl ?_
  refine V_iconst (v := 1) dZ_law_995 (by decide) ?_
  refine V_iadd dZ_law_996 ?_
  refine V_sald dZ_law_997 (scr_in (k := 1) hi6 hN (by decide)) ?_
  refine V_topI (x' := gX G (i + 1)) (scr_cl (k := 1) (gX G) hi6 hN (by decide)) ?_
  refine V_callV (as := [.int (gX G (i + 1))]) (rest := []) (bs' := 0) rfl dZ_law_998 cmG_burnt cvG_burnt mlZ_132 (Or.inl ⟨_, _, _, _, _, rfl, k0, by decide, rfl⟩) rfl rfl (g_burnt hC hI (gX G (i + 1))) (by decide) (Nat.le_refl _) (by decide) (Nat.le_of_ble_eq_true rfl) ?_
  rintro _ _ s1 ⟨rfl, rfl, hC2, hS1⟩ -
  refine V_one ?_
  have hM1 := RM_sm hM hS1 hC2.1
  refine V_aload_n dZ_law_1001 rfl ?_
  refine V_aload_nO dZ_law_1002 rfl ?_
  refine V_iload_n dZ_law_1003 rfl ?_
  refine V_iconst (v := 1) dZ_law_1004 (by decide) ?_
  refine V_iadd dZ_law_1005 ?_
  refine V_sald dZ_law_1006 (scr_in (k := 1) hi6 hN (by decide)) ?_
  refine V_topI (x' := gX G (i + 1)) (scr_cl (k := 1) (gX G) hi6 hN (by decide)) ?_
  refine V_callV (as := [.int (gX G (i + 1))]) (rest := [.int ((q_burnt L M (gX G (i + 1))).1)]) (bs' := 0) rfl dZ_law_1007 cmM_burnt cvM_burnt mlZ_135 (Or.inl ⟨_, _, _, _, _, rfl, k76, by decide, rfl⟩) rfl rfl (m_burnt hM1 hI (gX G (i + 1))) (by decide) (Nat.le_refl _) (by decide) (Nat.le_of_ble_eq_true rfl) ?_
  rintro _ _ s2 ⟨rfl, rfl, hM2, hS2⟩ -
  refine V_one ?_
  have hC3 := RC_sc hC2 hS2 hM2.1
  refine V_icmp_eq (tgt := 1488) dZ_law_1010 rfl (fun _ => ?_) (fun h => absurd h (not_not_intro rfl))
  have e := Nq_burnt (L := L) (M := M) (gX G (i + 1))
  rw [e] at hC3 hM2
  exact hk s2 ⟨L, M, hC3, hM2, hI, hB⟩
theorem zc_29 {l : Launch} {G : GT} {i : Nat} {L : Nat → List Cl} {M s : Hp} (hi6 : i + 6 ≤ gL G) (hN : gL G ≤ 3072) (hC : RC L M s) (hM : RM M s) (hI : Inv L M) (hB : Bo M) (hk : ∀ s, OKs s → V l G mZ_law room_1 (KA.length + 0) 0 1488 [(3, .int (nI i)), (2, .ref 76), (1, .ref 0), (0, .float 0)] [] KA s PT) : V l G mZ_law room_1 (KA.length + 0) 0 1015 [(3, .int (nI i)), (2, .ref 76), (1, .ref 0), (0, .float 0)] [] KA s PT := by
  have hR := hC.1
  refine V_aload_n dZ_law_1015 rfl ?_
  refine V_aload_nO dZ_law_1016 rfl ?_
  refine V_iload_n dZ_law_1017 rfl ?_
  refine V_iconst (v := 1) dZ_law_1018 (by decide) ?_
  refine V_iadd dZ_law_1019 ?_
  refine V_sald dZ_law_1020 (scr_in (k := 1) hi6 hN (by decide)) ?_
  refine V_topI (x' := gX G (i + 1)) (scr_cl (k := 1) (gX G) hi6 hN (by decide)) ?_
  refine V_callV (as := [.int (gX G (i + 1))]) (rest := []) (bs' := 0) rfl dZ_law_1021 cmG_worth cvG_worth mlZ_136 (Or.inl ⟨_, _, _, _, _, rfl, k0, by decide, rfl⟩) rfl rfl (g_worth hC hI (gX G (i + 1))) (by decide) (Nat.le_refl _) (by decide) (Nat.le_of_ble_eq_true rfl) ?_
  rintro _ _ s1 ⟨rfl, rfl, hC2, hS1⟩ -
  refine V_one ?_
  have hM1 := RM_sm hM hS1 hC2.1
  refine V_aload_n dZ_law_1024 rfl ?_
  refine V_aload_nO dZ_law_1025 rfl ?_
  refine V_iload_n dZ_law_1026 rfl ?_
  refine V_iconst (v := 1) dZ_law_1027 (by decide) ?_
  refine V_iadd dZ_law_1028 ?_
  refine V_sald dZ_law_1029 (scr_in (k := 1) hi6 hN (by decide)) ?_
  refine V_topI (x' := gX G (i + 1)) (scr_cl (k := 1) (gX G) hi6 hN (by decide)) ?_
  refine V_callV (as := [.int (gX G (i + 1))]) (rest := [.int ((q_worth L M (gX G (i + 1))).1)]) (bs' := 0) rfl dZ_law_1030 cmM_worth cvM_worth mlZ_139 (Or.inl ⟨_, _, _, _, _, rfl, k76, by decide, rfl⟩) rfl rfl (m_worth hM1 hI (gX G (i + 1))) (by decide) (Nat.le_refl _) (by decide) (Nat.le_of_ble_eq_true rfl) ?_
  rintro _ _ s2 ⟨rfl, rfl, hM2, hS2⟩ -
  refine V_one ?_
  have hC3 := RC_sc hC2 hS2 hM2.1
  refine V_icmp_eq (tgt := 1488) dZ_law_1033 rfl (fun _ => ?_) (fun h => absurd h (not_not_intro rfl))
  have e := Nq_worth (L := L) (M := M) (gX G (i + 1))
  rw [e] at hC3 hM2
  exact hk s2 ⟨L, M, hC3, hM2, hI, hB⟩
theorem zc_30 {l : Launch} {G : GT} {i : Nat} {L : Nat → List Cl} {M s : Hp} (hi6 : i + 6 ≤ gL G) (hN : gL G ≤ 3072) (hC : RC L M s) (hM : RM M s) (hI : Inv L M) (hB : Bo M) (hk : ∀ s, OKs s → V l G mZ_law room_1 (KA.length + 0) 0 1488 [(3, .int (nI i)), (2, .ref 76), (1, .ref 0), (0, .float 0)] [] KA s PT) : V l G mZ_law room_1 (KA.length + 0) 0 1038 [(3, .int (nI i)), (2, .ref 76), (1, .ref 0), (0, .float 0)] [] KA s PT := by
  have hR := hC.1
  refine V_aload_n dZ_law_1038 rfl ?_
  refine V_aload_nO dZ_law_1039 rfl ?_
  refine V_iload_n dZ_law_1040 rfl ?_
  refine V_iconst (v := 1) dZ_law_1041 (by decide) ?_
  refine V_iadd dZ_law_1042 ?_
  refine V_sald dZ_law_1043 (scr_in (k := 1) hi6 hN (by decide)) ?_
  refine V_topI (x' := gX G (i + 1)) (scr_cl (k := 1) (gX G) hi6 hN (by decide)) ?_
  refine V_aload_nO dZ_law_1044 rfl ?_
  refine V_iload_n dZ_law_1045 rfl ?_
  refine V_iconst (v := 2) dZ_law_1046 (by decide) ?_
  refine V_iadd dZ_law_1047 ?_
  refine V_sald dZ_law_1048 (scr_in (k := 2) hi6 hN (by decide)) ?_
  refine V_topI (x' := gX G (i + 2)) (scr_cl (k := 2) (gX G) hi6 hN (by decide)) ?_
  refine V_aload_nO dZ_law_1049 rfl ?_
  refine V_iload_n dZ_law_1050 rfl ?_
  refine V_iconst (v := 3) dZ_law_1051 (by decide) ?_
  refine V_iadd dZ_law_1052 ?_
  refine V_sald dZ_law_1053 (scr_in (k := 3) hi6 hN (by decide)) ?_
  refine V_topI (x' := gX G (i + 3)) (scr_cl (k := 3) (gX G) hi6 hN (by decide)) ?_
  refine V_callV (as := [.int (gX G (i + 1)), .int (gX G (i + 2)), .int (gX G (i + 3))]) (rest := []) (bs' := 0) rfl dZ_law_1054 cmG_book cvG_book mlZ_140 (Or.inl ⟨_, _, _, _, _, rfl, k0, by decide, rfl⟩) rfl rfl (g_book hC hI (gX G (i + 1)) (gX G (i + 2)) (gX G (i + 3))) (by decide) (Nat.le_refl _) (by decide) (Nat.le_of_ble_eq_true rfl) ?_
  rintro _ _ s1 ⟨rfl, rfl, hC2, hS1⟩ -
  refine V_one ?_
  have hM1 := RM_sm hM hS1 hC2.1
  refine V_aload_n dZ_law_1057 rfl ?_
  refine V_aload_nO dZ_law_1058 rfl ?_
  refine V_iload_n dZ_law_1059 rfl ?_
  refine V_iconst (v := 1) dZ_law_1060 (by decide) ?_
  refine V_iadd dZ_law_1061 ?_
  refine V_sald dZ_law_1062 (scr_in (k := 1) hi6 hN (by decide)) ?_
  refine V_topI (x' := gX G (i + 1)) (scr_cl (k := 1) (gX G) hi6 hN (by decide)) ?_
  refine V_aload_nO dZ_law_1063 rfl ?_
  refine V_iload_n dZ_law_1064 rfl ?_
  refine V_iconst (v := 2) dZ_law_1065 (by decide) ?_
  refine V_iadd dZ_law_1066 ?_
  refine V_sald dZ_law_1067 (scr_in (k := 2) hi6 hN (by decide)) ?_
  refine V_topI (x' := gX G (i + 2)) (scr_cl (k := 2) (gX G) hi6 hN (by decide)) ?_
  refine V_aload_nO dZ_law_1068 rfl ?_
  refine V_iload_n dZ_law_1069 rfl ?_
  refine V_iconst (v := 3) dZ_law_1070 (by decide) ?_
  refine V_iadd dZ_law_1071 ?_
  refine V_sald dZ_law_1072 (scr_in (k := 3) hi6 hN (by decide)) ?_
  refine V_topI (x' := gX G (i + 3)) (scr_cl (k := 3) (gX G) hi6 hN (by decide)) ?_
  refine V_callV (as := [.int (gX G (i + 1)), .int (gX G (i + 2)), .int (gX G (i + 3))]) (rest := [.int ((q_book M (gX G (i + 1)) (gX G (i + 2)) (gX G (i + 3))).1)]) (bs' := 0) rfl dZ_law_1073 cmM_book cvM_book mlZ_143 (Or.inl ⟨_, _, _, _, _, rfl, k76, by decide, rfl⟩) rfl rfl (m_book hM1 hI (gX G (i + 1)) (gX G (i + 2)) (gX G (i + 3))) (by decide) (Nat.le_refl _) (by decide) (Nat.le_of_ble_eq_true rfl) ?_
  rintro _ _ s2 ⟨rfl, rfl, hM2, hS2⟩ -
  refine V_one ?_
  have hC3 := RC_sc hC2 hS2 hM2.1
  refine V_icmp_eq (tgt := 1488) dZ_law_1076 rfl (fun _ => ?_) (fun h => absurd h (not_not_intro rfl))
  exact hk s2 ⟨L, (q_book M (gX G (i + 1)) (gX G (i + 2)) (gX G (i + 3))).2, hC3, hM2, Iq_book hI (gX G (i + 1)) (gX G (i + 2)) (gX G (i + 3)), Bq_book hB (gX G (i + 1)) (gX G (i + 2)) (gX G (i + 3))⟩
theorem zc_31 {l : Launch} {G : GT} {i : Nat} {L : Nat → List Cl} {M s : Hp} (hi6 : i + 6 ≤ gL G) (hN : gL G ≤ 3072) (hC : RC L M s) (hM : RM M s) (hI : Inv L M) (hB : Bo M) (hk : ∀ s, OKs s → V l G mZ_law room_1 (KA.length + 0) 0 1488 [(3, .int (nI i)), (2, .ref 76), (1, .ref 0), (0, .float 0)] [] KA s PT) : V l G mZ_law room_1 (KA.length + 0) 0 1081 [(3, .int (nI i)), (2, .ref 76), (1, .ref 0), (0, .float 0)] [] KA s PT := by
  have hR := hC.1
  refine V_aload_n dZ_law_1081 rfl ?_
  refine V_callV (as := []) (rest := []) (bs' := 0) rfl dZ_law_1082 cmG_looked cvG_looked mlZ_144 (Or.inl ⟨_, _, _, _, _, rfl, k0, by decide, rfl⟩) rfl rfl (g_looked hC hI) (by decide) (Nat.le_refl _) (by decide) (Nat.le_of_ble_eq_true rfl) ?_
  rintro _ _ s1 ⟨rfl, rfl, hC2, hS1⟩ -
  refine V_one ?_
  have hM1 := RM_sm hM hS1 hC2.1
  refine V_aload_n dZ_law_1085 rfl ?_
  refine V_callV (as := []) (rest := [.int ((q_looked L M).1)]) (bs' := 0) rfl dZ_law_1086 cmM_looked cvM_looked mlZ_147 (Or.inl ⟨_, _, _, _, _, rfl, k76, by decide, rfl⟩) rfl rfl (m_looked hM1 hI) (by decide) (Nat.le_refl _) (by decide) (Nat.le_of_ble_eq_true rfl) ?_
  rintro _ _ s2 ⟨rfl, rfl, hM2, hS2⟩ -
  refine V_one ?_
  have hC3 := RC_sc hC2 hS2 hM2.1
  refine V_icmp_eq (tgt := 1488) dZ_law_1089 rfl (fun _ => ?_) (fun h => absurd h (not_not_intro rfl))
  have e := Nq_looked (L := L) (M := M) 
  rw [e] at hC3 hM2
  exact hk s2 ⟨L, M, hC3, hM2, hI, hB⟩
theorem zc_32 {l : Launch} {G : GT} {i : Nat} {L : Nat → List Cl} {M s : Hp} (hi6 : i + 6 ≤ gL G) (hN : gL G ≤ 3072) (hC : RC L M s) (hM : RM M s) (hI : Inv L M) (hB : Bo M) (hk : ∀ s, OKs s → V l G mZ_law room_1 (KA.length + 0) 0 1488 [(3, .int (nI i)), (2, .ref 76), (1, .ref 0), (0, .float 0)] [] KA s PT) : V l G mZ_law room_1 (KA.length + 0) 0 1094 [(3, .int (nI i)), (2, .ref 76), (1, .ref 0), (0, .float 0)] [] KA s PT := by
  have hR := hC.1
  refine V_aload_n dZ_law_1094 rfl ?_
  refine V_aload_nO dZ_law_1095 rfl ?_
  refine V_iload_n dZ_law_1096 rfl ?_
  refine V_iconst (v := 1) dZ_law_1097 (by decide) ?_
  refine V_iadd dZ_law_1098 ?_
  refine V_sald dZ_law_1099 (scr_in (k := 1) hi6 hN (by decide)) ?_
  refine V_topI (x' := gX G (i + 1)) (scr_cl (k := 1) (gX G) hi6 hN (by decide)) ?_
  refine V_aload_nO dZ_law_1100 rfl ?_
  refine V_iload_n dZ_law_1101 rfl ?_
  refine V_iconst (v := 2) dZ_law_1102 (by decide) ?_
  refine V_iadd dZ_law_1103 ?_
  refine V_sald dZ_law_1104 (scr_in (k := 2) hi6 hN (by decide)) ?_
  refine V_topI (x' := gX G (i + 2)) (scr_cl (k := 2) (gX G) hi6 hN (by decide)) ?_
  refine V_callV (as := [.int (gX G (i + 1)), .int (gX G (i + 2))]) (rest := []) (bs' := 0) rfl dZ_law_1105 cmG_judge cvG_judge mlZ_148 (Or.inl ⟨_, _, _, _, _, rfl, k0, by decide, rfl⟩) rfl rfl (g_judge hC hI (gX G (i + 1)) (gX G (i + 2))) (by decide) (Nat.le_refl _) (by decide) (Nat.le_of_ble_eq_true rfl) ?_
  rintro _ _ s1 ⟨rfl, rfl, hC2, hS1⟩ -
  refine V_one ?_
  have hM1 := RM_sm hM hS1 hC2.1
  refine V_aload_n dZ_law_1108 rfl ?_
  refine V_aload_nO dZ_law_1109 rfl ?_
  refine V_iload_n dZ_law_1110 rfl ?_
  refine V_iconst (v := 1) dZ_law_1111 (by decide) ?_
  refine V_iadd dZ_law_1112 ?_
  refine V_sald dZ_law_1113 (scr_in (k := 1) hi6 hN (by decide)) ?_
  refine V_topI (x' := gX G (i + 1)) (scr_cl (k := 1) (gX G) hi6 hN (by decide)) ?_
  refine V_aload_nO dZ_law_1114 rfl ?_
  refine V_iload_n dZ_law_1115 rfl ?_
  refine V_iconst (v := 2) dZ_law_1116 (by decide) ?_
  refine V_iadd dZ_law_1117 ?_
  refine V_sald dZ_law_1118 (scr_in (k := 2) hi6 hN (by decide)) ?_
  refine V_topI (x' := gX G (i + 2)) (scr_cl (k := 2) (gX G) hi6 hN (by decide)) ?_
  refine V_callV (as := [.int (gX G (i + 1)), .int (gX G (i + 2))]) (rest := [.int ((q_judge M (gX G (i + 1)) (gX G (i + 2))).1)]) (bs' := 0) rfl dZ_law_1119 cmM_judge cvM_judge mlZ_151 (Or.inl ⟨_, _, _, _, _, rfl, k76, by decide, rfl⟩) rfl rfl (m_judge hM1 hI (gX G (i + 1)) (gX G (i + 2))) (by decide) (Nat.le_refl _) (by decide) (Nat.le_of_ble_eq_true rfl) ?_
  rintro _ _ s2 ⟨rfl, rfl, hM2, hS2⟩ -
  refine V_one ?_
  have hC3 := RC_sc hC2 hS2 hM2.1
  refine V_icmp_eq (tgt := 1488) dZ_law_1122 rfl (fun _ => ?_) (fun h => absurd h (not_not_intro rfl))
  have e := Nq_judge (M := M) (gX G (i + 1)) (gX G (i + 2))
  rw [e] at hC3 hM2
  exact hk s2 ⟨L, M, hC3, hM2, hI, hB⟩
theorem zc_33 {l : Launch} {G : GT} {i : Nat} {L : Nat → List Cl} {M s : Hp} (hi6 : i + 6 ≤ gL G) (hN : gL G ≤ 3072) (hC : RC L M s) (hM : RM M s) (hI : Inv L M) (hB : Bo M) (hk : ∀ s, OKs s → V l G mZ_law room_1 (KA.length + 0) 0 1488 [(3, .int (nI i)), (2, .ref 76), (1, .ref 0), (0, .float 0)] [] KA s PT) : V l G mZ_law room_1 (KA.length + 0) 0 1127 [(3, .int (nI i)), (2, .ref 76), (1, .ref 0), (0, .float 0)] [] KA s PT := by
  have hR := hC.1
  refine V_aload_n dZ_law_1127 rfl ?_
  refine V_callV (as := []) (rest := []) (bs' := 0) rfl dZ_law_1128 cmG_image cvG_image mlZ_152 (Or.inl ⟨_, _, _, _, _, rfl, k0, by decide, rfl⟩) rfl rfl (g_image hC hI) (by decide) (Nat.le_refl _) (by decide) (Nat.le_of_ble_eq_true rfl) ?_
  rintro _ _ s1 ⟨rfl, rfl, hC2, hS1⟩ -
  refine V_one ?_
  have hM1 := RM_sm hM hS1 hC2.1
  refine V_aload_n dZ_law_1131 rfl ?_
  refine V_callV (as := []) (rest := [.int ((q_image M).1)]) (bs' := 0) rfl dZ_law_1132 cmM_image cvM_image mlZ_155 (Or.inl ⟨_, _, _, _, _, rfl, k76, by decide, rfl⟩) rfl rfl (m_image hM1 hI hB) (by decide) (Nat.le_refl _) (by decide) (Nat.le_of_ble_eq_true rfl) ?_
  rintro _ _ s2 ⟨rfl, rfl, hM2, hS2⟩ -
  refine V_one ?_
  have hC3 := RC_sc hC2 hS2 hM2.1
  refine V_icmp_eq (tgt := 1488) dZ_law_1135 rfl (fun _ => ?_) (fun h => absurd h (not_not_intro rfl))
  exact hk s2 ⟨L, (q_image M).2, hC3, hM2, Iq_image hI , Bq_image hB ⟩
theorem zc_34 {l : Launch} {G : GT} {i : Nat} {L : Nat → List Cl} {M s : Hp} (hi6 : i + 6 ≤ gL G) (hN : gL G ≤ 3072) (hC : RC L M s) (hM : RM M s) (hI : Inv L M) (hB : Bo M) (hk : ∀ s, OKs s → V l G mZ_law room_1 (KA.length + 0) 0 1488 [(3, .int (nI i)), (2, .ref 76), (1, .ref 0), (0, .float 0)] [] KA s PT) : V l G mZ_law room_1 (KA.length + 0) 0 1140 [(3, .int (nI i)), (2, .ref 76), (1, .ref 0), (0, .float 0)] [] KA s PT := by
  have hR := hC.1
  refine V_aload_n dZ_law_1140 rfl ?_
  refine V_callV (as := []) (rest := []) (bs' := 0) rfl dZ_law_1141 cmG_undo cvG_undo mlZ_156 (Or.inl ⟨_, _, _, _, _, rfl, k0, by decide, rfl⟩) rfl rfl (g_undo hC hI) (by decide) (Nat.le_refl _) (by decide) (Nat.le_of_ble_eq_true rfl) ?_
  rintro _ _ s1 ⟨rfl, rfl, hC2, hS1⟩ -
  refine V_one ?_
  have hM1 := RM_sm hM hS1 hC2.1
  refine V_aload_n dZ_law_1144 rfl ?_
  refine V_callV (as := []) (rest := [.int ((q_undo M).1)]) (bs' := 0) rfl dZ_law_1145 cmM_undo cvM_undo mlZ_159 (Or.inl ⟨_, _, _, _, _, rfl, k76, by decide, rfl⟩) rfl rfl (m_undo hM1 hI hB) (by decide) (Nat.le_refl _) (by decide) (Nat.le_of_ble_eq_true rfl) ?_
  rintro _ _ s2 ⟨rfl, rfl, hM2, hS2⟩ -
  refine V_one ?_
  have hC3 := RC_sc hC2 hS2 hM2.1
  refine V_icmp_eq (tgt := 1488) dZ_law_1148 rfl (fun _ => ?_) (fun h => absurd h (not_not_intro rfl))
  exact hk s2 ⟨L, (q_undo M).2, hC3, hM2, Iq_undo hI , Bq_undo hB ⟩
theorem zc_35 {l : Launch} {G : GT} {i : Nat} {L : Nat → List Cl} {M s : Hp} (hi6 : i + 6 ≤ gL G) (hN : gL G ≤ 3072) (hC : RC L M s) (hM : RM M s) (hI : Inv L M) (hB : Bo M) (hk : ∀ s, OKs s → V l G mZ_law room_1 (KA.length + 0) 0 1488 [(3, .int (nI i)), (2, .ref 76), (1, .ref 0), (0, .float 0)] [] KA s PT) : V l G mZ_law room_1 (KA.length + 0) 0 1153 [(3, .int (nI i)), (2, .ref 76), (1, .ref 0), (0, .float 0)] [] KA s PT := by
  have hR := hC.1
  refine V_aload_n dZ_law_1153 rfl ?_
  refine V_aload_nO dZ_law_1154 rfl ?_
  refine V_iload_n dZ_law_1155 rfl ?_
  refine V_iconst (v := 1) dZ_law_1156 (by decide) ?_
  refine V_iadd dZ_law_1157 ?_
  refine V_sald dZ_law_1158 (scr_in (k := 1) hi6 hN (by decide)) ?_
  refine V_topI (x' := gX G (i + 1)) (scr_cl (k := 1) (gX G) hi6 hN (by decide)) ?_
  refine V_aload_nO dZ_law_1159 rfl ?_
  refine V_iload_n dZ_law_1160 rfl ?_
  refine V_iconst (v := 2) dZ_law_1161 (by decide) ?_
  refine V_iadd dZ_law_1162 ?_
  refine V_sald dZ_law_1163 (scr_in (k := 2) hi6 hN (by decide)) ?_
  refine V_topI (x' := gX G (i + 2)) (scr_cl (k := 2) (gX G) hi6 hN (by decide)) ?_
  refine V_aload_nO dZ_law_1164 rfl ?_
  refine V_iload_n dZ_law_1165 rfl ?_
  refine V_iconst (v := 3) dZ_law_1166 (by decide) ?_
  refine V_iadd dZ_law_1167 ?_
  refine V_sald dZ_law_1168 (scr_in (k := 3) hi6 hN (by decide)) ?_
  refine V_topI (x' := gX G (i + 3)) (scr_cl (k := 3) (gX G) hi6 hN (by decide)) ?_
  refine V_callV (as := [.int (gX G (i + 1)), .int (gX G (i + 2)), .int (gX G (i + 3))]) (rest := []) (bs' := 0) rfl dZ_law_1169 cmG_act cvG_act mlZ_160 (Or.inl ⟨_, _, _, _, _, rfl, k0, by decide, rfl⟩) rfl rfl (g_act hC hI (gX G (i + 1)) (gX G (i + 2)) (gX G (i + 3))) (by decide) (Nat.le_refl _) (by decide) (Nat.le_of_ble_eq_true rfl) ?_
  rintro _ _ s1 ⟨rfl, rfl, hC2, hS1⟩ -
  refine V_one ?_
  have hM1 := RM_sm hM hS1 hC2.1
  refine V_aload_n dZ_law_1172 rfl ?_
  refine V_aload_nO dZ_law_1173 rfl ?_
  refine V_iload_n dZ_law_1174 rfl ?_
  refine V_iconst (v := 1) dZ_law_1175 (by decide) ?_
  refine V_iadd dZ_law_1176 ?_
  refine V_sald dZ_law_1177 (scr_in (k := 1) hi6 hN (by decide)) ?_
  refine V_topI (x' := gX G (i + 1)) (scr_cl (k := 1) (gX G) hi6 hN (by decide)) ?_
  refine V_aload_nO dZ_law_1178 rfl ?_
  refine V_iload_n dZ_law_1179 rfl ?_
  refine V_iconst (v := 2) dZ_law_1180 (by decide) ?_
  refine V_iadd dZ_law_1181 ?_
  refine V_sald dZ_law_1182 (scr_in (k := 2) hi6 hN (by decide)) ?_
  refine V_topI (x' := gX G (i + 2)) (scr_cl (k := 2) (gX G) hi6 hN (by decide)) ?_
  refine V_aload_nO dZ_law_1183 rfl ?_
  refine V_iload_n dZ_law_1184 rfl ?_
  refine V_iconst (v := 3) dZ_law_1185 (by decide) ?_
  refine V_iadd dZ_law_1186 ?_
  refine V_sald dZ_law_1187 (scr_in (k := 3) hi6 hN (by decide)) ?_
  refine V_topI (x' := gX G (i + 3)) (scr_cl (k := 3) (gX G) hi6 hN (by decide)) ?_
  refine V_callV (as := [.int (gX G (i + 1)), .int (gX G (i + 2)), .int (gX G (i + 3))]) (rest := [.int ((q_act M (gX G (i + 1)) (gX G (i + 2)) (gX G (i + 3))).1)]) (bs' := 0) rfl dZ_law_1188 cmM_act cvM_act mlZ_163 (Or.inl ⟨_, _, _, _, _, rfl, k76, by decide, rfl⟩) rfl rfl (m_act hM1 hI (gX G (i + 1)) (gX G (i + 2)) (gX G (i + 3))) (by decide) (Nat.le_refl _) (by decide) (Nat.le_of_ble_eq_true rfl) ?_
  rintro _ _ s2 ⟨rfl, rfl, hM2, hS2⟩ -
  refine V_one ?_
  have hC3 := RC_sc hC2 hS2 hM2.1
  refine V_icmp_eq (tgt := 1488) dZ_law_1191 rfl (fun _ => ?_) (fun h => absurd h (not_not_intro rfl))
  exact hk s2 ⟨L, (q_act M (gX G (i + 1)) (gX G (i + 2)) (gX G (i + 3))).2, hC3, hM2, Iq_act hI (gX G (i + 1)) (gX G (i + 2)) (gX G (i + 3)), Bq_act hB (gX G (i + 1)) (gX G (i + 2)) (gX G (i + 3))⟩
theorem zc_36 {l : Launch} {G : GT} {i : Nat} {L : Nat → List Cl} {M s : Hp} (hi6 : i + 6 ≤ gL G) (hN : gL G ≤ 3072) (hC : RC L M s) (hM : RM M s) (hI : Inv L M) (hB : Bo M) (hk : ∀ s, OKs s → V l G mZ_law room_1 (KA.length + 0) 0 1488 [(3, .int (nI i)), (2, .ref 76), (1, .ref 0), (0, .float 0)] [] KA s PT) : V l G mZ_law room_1 (KA.length + 0) 0 1196 [(3, .int (nI i)), (2, .ref 76), (1, .ref 0), (0, .float 0)] [] KA s PT := by
  have hR := hC.1
  refine V_aload_n dZ_law_1196 rfl ?_
  refine V_aload_nO dZ_law_1197 rfl ?_
  refine V_iload_n dZ_law_1198 rfl ?_
  refine V_iconst (v := 1) dZ_law_1199 (by decide) ?_
  refine V_iadd dZ_law_1200 ?_
  refine V_sald dZ_law_1201 (scr_in (k := 1) hi6 hN (by decide)) ?_
  refine V_topI (x' := gX G (i + 1)) (scr_cl (k := 1) (gX G) hi6 hN (by decide)) ?_
  refine V_callV (as := [.int (gX G (i + 1))]) (rest := []) (bs' := 0) rfl dZ_law_1202 cmG_trace cvG_trace mlZ_164 (Or.inl ⟨_, _, _, _, _, rfl, k0, by decide, rfl⟩) rfl rfl (g_trace hC hI (gX G (i + 1))) (by decide) (Nat.le_refl _) (by decide) (Nat.le_of_ble_eq_true rfl) ?_
  rintro _ _ s1 ⟨rfl, rfl, hC2, hS1⟩ -
  refine V_one ?_
  have hM1 := RM_sm hM hS1 hC2.1
  refine V_aload_n dZ_law_1205 rfl ?_
  refine V_aload_nO dZ_law_1206 rfl ?_
  refine V_iload_n dZ_law_1207 rfl ?_
  refine V_iconst (v := 1) dZ_law_1208 (by decide) ?_
  refine V_iadd dZ_law_1209 ?_
  refine V_sald dZ_law_1210 (scr_in (k := 1) hi6 hN (by decide)) ?_
  refine V_topI (x' := gX G (i + 1)) (scr_cl (k := 1) (gX G) hi6 hN (by decide)) ?_
  refine V_callV (as := [.int (gX G (i + 1))]) (rest := [.int ((q_trace M (gX G (i + 1))).1)]) (bs' := 0) rfl dZ_law_1211 cmM_trace cvM_trace mlZ_167 (Or.inl ⟨_, _, _, _, _, rfl, k76, by decide, rfl⟩) rfl rfl (m_trace hM1 hI (gX G (i + 1))) (by decide) (Nat.le_refl _) (by decide) (Nat.le_of_ble_eq_true rfl) ?_
  rintro _ _ s2 ⟨rfl, rfl, hM2, hS2⟩ -
  refine V_one ?_
  have hC3 := RC_sc hC2 hS2 hM2.1
  refine V_icmp_eq (tgt := 1488) dZ_law_1214 rfl (fun _ => ?_) (fun h => absurd h (not_not_intro rfl))
  have e := Nq_trace (M := M) (gX G (i + 1))
  rw [e] at hC3 hM2
  exact hk s2 ⟨L, M, hC3, hM2, hI, hB⟩
theorem zc_37 {l : Launch} {G : GT} {i : Nat} {L : Nat → List Cl} {M s : Hp} (hi6 : i + 6 ≤ gL G) (hN : gL G ≤ 3072) (hC : RC L M s) (hM : RM M s) (hI : Inv L M) (hB : Bo M) (hk : ∀ s, OKs s → V l G mZ_law room_1 (KA.length + 0) 0 1488 [(3, .int (nI i)), (2, .ref 76), (1, .ref 0), (0, .float 0)] [] KA s PT) : V l G mZ_law room_1 (KA.length + 0) 0 1219 [(3, .int (nI i)), (2, .ref 76), (1, .ref 0), (0, .float 0)] [] KA s PT := by
  have hR := hC.1
  refine V_aload_n dZ_law_1219 rfl ?_
  refine V_aload_nO dZ_law_1220 rfl ?_
  refine V_iload_n dZ_law_1221 rfl ?_
  refine V_iconst (v := 1) dZ_law_1222 (by decide) ?_
  refine V_iadd dZ_law_1223 ?_
  refine V_sald dZ_law_1224 (scr_in (k := 1) hi6 hN (by decide)) ?_
  refine V_topI (x' := gX G (i + 1)) (scr_cl (k := 1) (gX G) hi6 hN (by decide)) ?_
  refine V_aload_nO dZ_law_1225 rfl ?_
  refine V_iload_n dZ_law_1226 rfl ?_
  refine V_iconst (v := 2) dZ_law_1227 (by decide) ?_
  refine V_iadd dZ_law_1228 ?_
  refine V_sald dZ_law_1229 (scr_in (k := 2) hi6 hN (by decide)) ?_
  refine V_topI (x' := gX G (i + 2)) (scr_cl (k := 2) (gX G) hi6 hN (by decide)) ?_
  refine V_callV (as := [.int (gX G (i + 1)), .int (gX G (i + 2))]) (rest := []) (bs' := 0) rfl dZ_law_1230 cmG_taken cvG_taken mlZ_168 (Or.inl ⟨_, _, _, _, _, rfl, k0, by decide, rfl⟩) rfl rfl (g_taken hC hI (gX G (i + 1)) (gX G (i + 2))) (by decide) (Nat.le_refl _) (by decide) (Nat.le_of_ble_eq_true rfl) ?_
  rintro _ _ s1 ⟨rfl, rfl, hC2, hS1⟩ -
  refine V_one ?_
  have hM1 := RM_sm hM hS1 hC2.1
  refine V_aload_n dZ_law_1233 rfl ?_
  refine V_aload_nO dZ_law_1234 rfl ?_
  refine V_iload_n dZ_law_1235 rfl ?_
  refine V_iconst (v := 1) dZ_law_1236 (by decide) ?_
  refine V_iadd dZ_law_1237 ?_
  refine V_sald dZ_law_1238 (scr_in (k := 1) hi6 hN (by decide)) ?_
  refine V_topI (x' := gX G (i + 1)) (scr_cl (k := 1) (gX G) hi6 hN (by decide)) ?_
  refine V_aload_nO dZ_law_1239 rfl ?_
  refine V_iload_n dZ_law_1240 rfl ?_
  refine V_iconst (v := 2) dZ_law_1241 (by decide) ?_
  refine V_iadd dZ_law_1242 ?_
  refine V_sald dZ_law_1243 (scr_in (k := 2) hi6 hN (by decide)) ?_
  refine V_topI (x' := gX G (i + 2)) (scr_cl (k := 2) (gX G) hi6 hN (by decide)) ?_
  refine V_callV (as := [.int (gX G (i + 1)), .int (gX G (i + 2))]) (rest := [.int ((q_taken M (gX G (i + 1)) (gX G (i + 2))).1)]) (bs' := 0) rfl dZ_law_1244 cmM_taken cvM_taken mlZ_171 (Or.inl ⟨_, _, _, _, _, rfl, k76, by decide, rfl⟩) rfl rfl (m_taken hM1 hI (gX G (i + 1)) (gX G (i + 2))) (by decide) (Nat.le_refl _) (by decide) (Nat.le_of_ble_eq_true rfl) ?_
  rintro _ _ s2 ⟨rfl, rfl, hM2, hS2⟩ -
  refine V_one ?_
  have hC3 := RC_sc hC2 hS2 hM2.1
  refine V_icmp_eq (tgt := 1488) dZ_law_1247 rfl (fun _ => ?_) (fun h => absurd h (not_not_intro rfl))
  have e := Nq_taken (M := M) (gX G (i + 1)) (gX G (i + 2))
  rw [e] at hC3 hM2
  exact hk s2 ⟨L, M, hC3, hM2, hI, hB⟩
theorem zc_38 {l : Launch} {G : GT} {i : Nat} {L : Nat → List Cl} {M s : Hp} (hi6 : i + 6 ≤ gL G) (hN : gL G ≤ 3072) (hC : RC L M s) (hM : RM M s) (hI : Inv L M) (hB : Bo M) (hk : ∀ s, OKs s → V l G mZ_law room_1 (KA.length + 0) 0 1488 [(3, .int (nI i)), (2, .ref 76), (1, .ref 0), (0, .float 0)] [] KA s PT) : V l G mZ_law room_1 (KA.length + 0) 0 1252 [(3, .int (nI i)), (2, .ref 76), (1, .ref 0), (0, .float 0)] [] KA s PT := by
  have hR := hC.1
  refine V_aload_n dZ_law_1252 rfl ?_
  refine V_aload_nO dZ_law_1253 rfl ?_
  refine V_iload_n dZ_law_1254 rfl ?_
  refine V_iconst (v := 1) dZ_law_1255 (by decide) ?_
  refine V_iadd dZ_law_1256 ?_
  refine V_sald dZ_law_1257 (scr_in (k := 1) hi6 hN (by decide)) ?_
  refine V_topI (x' := gX G (i + 1)) (scr_cl (k := 1) (gX G) hi6 hN (by decide)) ?_
  refine V_callV (as := [.int (gX G (i + 1))]) (rest := []) (bs' := 0) rfl dZ_law_1258 cmG_count cvG_count mlZ_172 (Or.inl ⟨_, _, _, _, _, rfl, k0, by decide, rfl⟩) rfl rfl (g_count hC hI (gX G (i + 1))) (by decide) (Nat.le_refl _) (by decide) (Nat.le_of_ble_eq_true rfl) ?_
  rintro _ _ s1 ⟨rfl, rfl, hC2, hS1⟩ -
  refine V_one ?_
  have hM1 := RM_sm hM hS1 hC2.1
  refine V_aload_n dZ_law_1261 rfl ?_
  refine V_aload_nO dZ_law_1262 rfl ?_
  refine V_iload_n dZ_law_1263 rfl ?_
  refine V_iconst (v := 1) dZ_law_1264 (by decide) ?_
  refine V_iadd dZ_law_1265 ?_
  refine V_sald dZ_law_1266 (scr_in (k := 1) hi6 hN (by decide)) ?_
  refine V_topI (x' := gX G (i + 1)) (scr_cl (k := 1) (gX G) hi6 hN (by decide)) ?_
  refine V_callV (as := [.int (gX G (i + 1))]) (rest := [.int ((q_count M (gX G (i + 1))).1)]) (bs' := 0) rfl dZ_law_1267 cmM_count cvM_count mlZ_175 (Or.inl ⟨_, _, _, _, _, rfl, k76, by decide, rfl⟩) rfl rfl (m_count hM1 hI (gX G (i + 1))) (by decide) (Nat.le_refl _) (by decide) (Nat.le_of_ble_eq_true rfl) ?_
  rintro _ _ s2 ⟨rfl, rfl, hM2, hS2⟩ -
  refine V_one ?_
  have hC3 := RC_sc hC2 hS2 hM2.1
  refine V_icmp_eq (tgt := 1488) dZ_law_1270 rfl (fun _ => ?_) (fun h => absurd h (not_not_intro rfl))
  have e := Nq_count (M := M) (gX G (i + 1))
  rw [e] at hC3 hM2
  exact hk s2 ⟨L, M, hC3, hM2, hI, hB⟩
theorem zc_39 {l : Launch} {G : GT} {i : Nat} {L : Nat → List Cl} {M s : Hp} (hi6 : i + 6 ≤ gL G) (hN : gL G ≤ 3072) (hC : RC L M s) (hM : RM M s) (hI : Inv L M) (hB : Bo M) (hk : ∀ s, OKs s → V l G mZ_law room_1 (KA.length + 0) 0 1488 [(3, .int (nI i)), (2, .ref 76), (1, .ref 0), (0, .float 0)] [] KA s PT) : V l G mZ_law room_1 (KA.length + 0) 0 1275 [(3, .int (nI i)), (2, .ref 76), (1, .ref 0), (0, .float 0)] [] KA s PT := by
  have hR := hC.1
  refine V_aload_n dZ_law_1275 rfl ?_
  refine V_aload_nO dZ_law_1276 rfl ?_
  refine V_iload_n dZ_law_1277 rfl ?_
  refine V_iconst (v := 1) dZ_law_1278 (by decide) ?_
  refine V_iadd dZ_law_1279 ?_
  refine V_sald dZ_law_1280 (scr_in (k := 1) hi6 hN (by decide)) ?_
  refine V_topI (x' := gX G (i + 1)) (scr_cl (k := 1) (gX G) hi6 hN (by decide)) ?_
  refine V_aload_nO dZ_law_1281 rfl ?_
  refine V_iload_n dZ_law_1282 rfl ?_
  refine V_iconst (v := 2) dZ_law_1283 (by decide) ?_
  refine V_iadd dZ_law_1284 ?_
  refine V_sald dZ_law_1285 (scr_in (k := 2) hi6 hN (by decide)) ?_
  refine V_topI (x' := gX G (i + 2)) (scr_cl (k := 2) (gX G) hi6 hN (by decide)) ?_
  refine V_aload_nO dZ_law_1286 rfl ?_
  refine V_iload_n dZ_law_1287 rfl ?_
  refine V_iconst (v := 3) dZ_law_1288 (by decide) ?_
  refine V_iadd dZ_law_1289 ?_
  refine V_sald dZ_law_1290 (scr_in (k := 3) hi6 hN (by decide)) ?_
  refine V_topI (x' := gX G (i + 3)) (scr_cl (k := 3) (gX G) hi6 hN (by decide)) ?_
  refine V_callV (as := [.int (gX G (i + 1)), .int (gX G (i + 2)), .int (gX G (i + 3))]) (rest := []) (bs' := 0) rfl dZ_law_1291 cmG_tape cvG_tape mlZ_176 (Or.inl ⟨_, _, _, _, _, rfl, k0, by decide, rfl⟩) rfl rfl (g_tape hC hI (gX G (i + 1)) (gX G (i + 2)) (gX G (i + 3))) (by decide) (Nat.le_refl _) (by decide) (Nat.le_of_ble_eq_true rfl) ?_
  rintro _ _ s1 ⟨rfl, rfl, hC2, hS1⟩ -
  refine V_one ?_
  have hM1 := RM_sm hM hS1 hC2.1
  refine V_aload_n dZ_law_1294 rfl ?_
  refine V_aload_nO dZ_law_1295 rfl ?_
  refine V_iload_n dZ_law_1296 rfl ?_
  refine V_iconst (v := 1) dZ_law_1297 (by decide) ?_
  refine V_iadd dZ_law_1298 ?_
  refine V_sald dZ_law_1299 (scr_in (k := 1) hi6 hN (by decide)) ?_
  refine V_topI (x' := gX G (i + 1)) (scr_cl (k := 1) (gX G) hi6 hN (by decide)) ?_
  refine V_aload_nO dZ_law_1300 rfl ?_
  refine V_iload_n dZ_law_1301 rfl ?_
  refine V_iconst (v := 2) dZ_law_1302 (by decide) ?_
  refine V_iadd dZ_law_1303 ?_
  refine V_sald dZ_law_1304 (scr_in (k := 2) hi6 hN (by decide)) ?_
  refine V_topI (x' := gX G (i + 2)) (scr_cl (k := 2) (gX G) hi6 hN (by decide)) ?_
  refine V_aload_nO dZ_law_1305 rfl ?_
  refine V_iload_n dZ_law_1306 rfl ?_
  refine V_iconst (v := 3) dZ_law_1307 (by decide) ?_
  refine V_iadd dZ_law_1308 ?_
  refine V_sald dZ_law_1309 (scr_in (k := 3) hi6 hN (by decide)) ?_
  refine V_topI (x' := gX G (i + 3)) (scr_cl (k := 3) (gX G) hi6 hN (by decide)) ?_
  refine V_callV (as := [.int (gX G (i + 1)), .int (gX G (i + 2)), .int (gX G (i + 3))]) (rest := [.int ((q_tape M (gX G (i + 1)) (gX G (i + 2)) (gX G (i + 3))).1)]) (bs' := 0) rfl dZ_law_1310 cmM_tape cvM_tape mlZ_179 (Or.inl ⟨_, _, _, _, _, rfl, k76, by decide, rfl⟩) rfl rfl (m_tape hM1 hI (gX G (i + 1)) (gX G (i + 2)) (gX G (i + 3))) (by decide) (Nat.le_refl _) (by decide) (Nat.le_of_ble_eq_true rfl) ?_
  rintro _ _ s2 ⟨rfl, rfl, hM2, hS2⟩ -
  refine V_one ?_
  have hC3 := RC_sc hC2 hS2 hM2.1
  refine V_icmp_eq (tgt := 1488) dZ_law_1313 rfl (fun _ => ?_) (fun h => absurd h (not_not_intro rfl))
  exact hk s2 ⟨L, (q_tape M (gX G (i + 1)) (gX G (i + 2)) (gX G (i + 3))).2, hC3, hM2, Iq_tape hI (gX G (i + 1)) (gX G (i + 2)) (gX G (i + 3)), Bq_tape hB (gX G (i + 1)) (gX G (i + 2)) (gX G (i + 3))⟩
theorem zc_40 {l : Launch} {G : GT} {i : Nat} {L : Nat → List Cl} {M s : Hp} (hi6 : i + 6 ≤ gL G) (hN : gL G ≤ 3072) (hC : RC L M s) (hM : RM M s) (hI : Inv L M) (hB : Bo M) (hk : ∀ s, OKs s → V l G mZ_law room_1 (KA.length + 0) 0 1488 [(3, .int (nI i)), (2, .ref 76), (1, .ref 0), (0, .float 0)] [] KA s PT) : V l G mZ_law room_1 (KA.length + 0) 0 1318 [(3, .int (nI i)), (2, .ref 76), (1, .ref 0), (0, .float 0)] [] KA s PT := by
  have hR := hC.1
  refine V_aload_n dZ_law_1318 rfl ?_
  refine V_aload_nO dZ_law_1319 rfl ?_
  refine V_iload_n dZ_law_1320 rfl ?_
  refine V_iconst (v := 1) dZ_law_1321 (by decide) ?_
  refine V_iadd dZ_law_1322 ?_
  refine V_sald dZ_law_1323 (scr_in (k := 1) hi6 hN (by decide)) ?_
  refine V_topI (x' := gX G (i + 1)) (scr_cl (k := 1) (gX G) hi6 hN (by decide)) ?_
  refine V_aload_nO dZ_law_1324 rfl ?_
  refine V_iload_n dZ_law_1325 rfl ?_
  refine V_iconst (v := 2) dZ_law_1326 (by decide) ?_
  refine V_iadd dZ_law_1327 ?_
  refine V_sald dZ_law_1328 (scr_in (k := 2) hi6 hN (by decide)) ?_
  refine V_topI (x' := gX G (i + 2)) (scr_cl (k := 2) (gX G) hi6 hN (by decide)) ?_
  refine V_aload_nO dZ_law_1329 rfl ?_
  refine V_iload_n dZ_law_1330 rfl ?_
  refine V_iconst (v := 3) dZ_law_1331 (by decide) ?_
  refine V_iadd dZ_law_1332 ?_
  refine V_sald dZ_law_1333 (scr_in (k := 3) hi6 hN (by decide)) ?_
  refine V_topI (x' := gX G (i + 3)) (scr_cl (k := 3) (gX G) hi6 hN (by decide)) ?_
  refine V_i2l dZ_law_1334 ?_
  refine V_bipush (v := 32) dZ_law_1335 (by decide) ?_
  refine V_lshl dZ_law_1337 ?_
  refine V_aload_nO dZ_law_1338 rfl ?_
  refine V_iload_n dZ_law_1339 rfl ?_
  refine V_iconst (v := 4) dZ_law_1340 (by decide) ?_
  refine V_iadd dZ_law_1341 ?_
  refine V_sald dZ_law_1342 (scr_in (k := 4) hi6 hN (by decide)) ?_
  refine V_topI (x' := gX G (i + 4)) (scr_cl (k := 4) (gX G) hi6 hN (by decide)) ?_
  refine V_i2l dZ_law_1343 ?_
  refine V_ldc2 dZ_law_1344 klZ_180 ?_
  refine V_land dZ_law_1347 ?_
  refine V_lor dZ_law_1348 ?_
  refine V_callV (as := [.int (gX G (i + 1)), .int (gX G (i + 2)), .long ((((gX G (i + 3)).toInt64) <<< ((32 : Int32).toInt64 &&& 63)) ||| (((gX G (i + 4)).toInt64) &&& 4294967295))]) (rest := []) (bs' := 0) rfl dZ_law_1349 cmG_item cvG_item mlZ_182 (Or.inl ⟨_, _, _, _, _, rfl, k0, by decide, rfl⟩) rfl rfl (g_item hC hI (gX G (i + 1)) (gX G (i + 2)) ((((gX G (i + 3)).toInt64) <<< ((32 : Int32).toInt64 &&& 63)) ||| (((gX G (i + 4)).toInt64) &&& 4294967295))) (by decide) (Nat.le_refl _) (by decide) (Nat.le_of_ble_eq_true rfl) ?_
  rintro _ _ s1 ⟨rfl, rfl, hC2, hS1⟩ -
  refine V_one ?_
  have hM1 := RM_sm hM hS1 hC2.1
  refine V_aload_n dZ_law_1352 rfl ?_
  refine V_aload_nO dZ_law_1353 rfl ?_
  refine V_iload_n dZ_law_1354 rfl ?_
  refine V_iconst (v := 1) dZ_law_1355 (by decide) ?_
  refine V_iadd dZ_law_1356 ?_
  refine V_sald dZ_law_1357 (scr_in (k := 1) hi6 hN (by decide)) ?_
  refine V_topI (x' := gX G (i + 1)) (scr_cl (k := 1) (gX G) hi6 hN (by decide)) ?_
  refine V_aload_nO dZ_law_1358 rfl ?_
  refine V_iload_n dZ_law_1359 rfl ?_
  refine V_iconst (v := 2) dZ_law_1360 (by decide) ?_
  refine V_iadd dZ_law_1361 ?_
  refine V_sald dZ_law_1362 (scr_in (k := 2) hi6 hN (by decide)) ?_
  refine V_topI (x' := gX G (i + 2)) (scr_cl (k := 2) (gX G) hi6 hN (by decide)) ?_
  refine V_aload_nO dZ_law_1363 rfl ?_
  refine V_iload_n dZ_law_1364 rfl ?_
  refine V_iconst (v := 3) dZ_law_1365 (by decide) ?_
  refine V_iadd dZ_law_1366 ?_
  refine V_sald dZ_law_1367 (scr_in (k := 3) hi6 hN (by decide)) ?_
  refine V_topI (x' := gX G (i + 3)) (scr_cl (k := 3) (gX G) hi6 hN (by decide)) ?_
  refine V_i2l dZ_law_1368 ?_
  refine V_bipush (v := 32) dZ_law_1369 (by decide) ?_
  refine V_lshl dZ_law_1371 ?_
  refine V_aload_nO dZ_law_1372 rfl ?_
  refine V_iload_n dZ_law_1373 rfl ?_
  refine V_iconst (v := 4) dZ_law_1374 (by decide) ?_
  refine V_iadd dZ_law_1375 ?_
  refine V_sald dZ_law_1376 (scr_in (k := 4) hi6 hN (by decide)) ?_
  refine V_topI (x' := gX G (i + 4)) (scr_cl (k := 4) (gX G) hi6 hN (by decide)) ?_
  refine V_i2l dZ_law_1377 ?_
  refine V_ldc2 dZ_law_1378 klZ_180 ?_
  refine V_land dZ_law_1381 ?_
  refine V_lor dZ_law_1382 ?_
  refine V_callV (as := [.int (gX G (i + 1)), .int (gX G (i + 2)), .long ((((gX G (i + 3)).toInt64) <<< ((32 : Int32).toInt64 &&& 63)) ||| (((gX G (i + 4)).toInt64) &&& 4294967295))]) (rest := [.int ((q_item M (gX G (i + 1)) (gX G (i + 2)) ((((gX G (i + 3)).toInt64) <<< ((32 : Int32).toInt64 &&& 63)) ||| (((gX G (i + 4)).toInt64) &&& 4294967295))).1)]) (bs' := 0) rfl dZ_law_1383 cmM_item cvM_item mlZ_186 (Or.inl ⟨_, _, _, _, _, rfl, k76, by decide, rfl⟩) rfl rfl (m_item hM1 hI (gX G (i + 1)) (gX G (i + 2)) ((((gX G (i + 3)).toInt64) <<< ((32 : Int32).toInt64 &&& 63)) ||| (((gX G (i + 4)).toInt64) &&& 4294967295))) (by decide) (Nat.le_refl _) (by decide) (Nat.le_of_ble_eq_true rfl) ?_
  rintro _ _ s2 ⟨rfl, rfl, hM2, hS2⟩ -
  refine V_one ?_
  have hC3 := RC_sc hC2 hS2 hM2.1
  refine V_icmp_eq (tgt := 1488) dZ_law_1386 rfl (fun _ => ?_) (fun h => absurd h (not_not_intro rfl))
  exact hk s2 ⟨L, (q_item M (gX G (i + 1)) (gX G (i + 2)) ((((gX G (i + 3)).toInt64) <<< ((32 : Int32).toInt64 &&& 63)) ||| (((gX G (i + 4)).toInt64) &&& 4294967295))).2, hC3, hM2, Iq_item hI (gX G (i + 1)) (gX G (i + 2)) ((((gX G (i + 3)).toInt64) <<< ((32 : Int32).toInt64 &&& 63)) ||| (((gX G (i + 4)).toInt64) &&& 4294967295)), Bq_item hB (gX G (i + 1)) (gX G (i + 2)) ((((gX G (i + 3)).toInt64) <<< ((32 : Int32).toInt64 &&& 63)) ||| (((gX G (i + 4)).toInt64) &&& 4294967295))⟩
theorem zc_41 {l : Launch} {G : GT} {i : Nat} {L : Nat → List Cl} {M s : Hp} (hi6 : i + 6 ≤ gL G) (hN : gL G ≤ 3072) (hC : RC L M s) (hM : RM M s) (hI : Inv L M) (hB : Bo M) (hk : ∀ s, OKs s → V l G mZ_law room_1 (KA.length + 0) 0 1488 [(3, .int (nI i)), (2, .ref 76), (1, .ref 0), (0, .float 0)] [] KA s PT) : V l G mZ_law room_1 (KA.length + 0) 0 1391 [(3, .int (nI i)), (2, .ref 76), (1, .ref 0), (0, .float 0)] [] KA s PT := by
  have hR := hC.1
  refine V_aload_n dZ_law_1391 rfl ?_
  refine V_aload_nO dZ_law_1392 rfl ?_
  refine V_iload_n dZ_law_1393 rfl ?_
  refine V_iconst (v := 1) dZ_law_1394 (by decide) ?_
  refine V_iadd dZ_law_1395 ?_
  refine V_sald dZ_law_1396 (scr_in (k := 1) hi6 hN (by decide)) ?_
  refine V_topI (x' := gX G (i + 1)) (scr_cl (k := 1) (gX G) hi6 hN (by decide)) ?_
  refine V_aload_nO dZ_law_1397 rfl ?_
  refine V_iload_n dZ_law_1398 rfl ?_
  refine V_iconst (v := 2) dZ_law_1399 (by decide) ?_
  refine V_iadd dZ_law_1400 ?_
  refine V_sald dZ_law_1401 (scr_in (k := 2) hi6 hN (by decide)) ?_
  refine V_topI (x' := gX G (i + 2)) (scr_cl (k := 2) (gX G) hi6 hN (by decide)) ?_
  refine V_callV (as := [.int (gX G (i + 1)), .int (gX G (i + 2))]) (rest := []) (bs' := 0) rfl dZ_law_1402 cmG_read cvG_read mlZ_187 (Or.inl ⟨_, _, _, _, _, rfl, k0, by decide, rfl⟩) rfl rfl (g_read hC hI (gX G (i + 1)) (gX G (i + 2))) (by decide) (Nat.le_refl _) (by decide) (Nat.le_of_ble_eq_true rfl) ?_
  rintro _ _ s1 ⟨rfl, rfl, hC2, hS1⟩ -
  refine V_one ?_
  have hM1 := RM_sm hM hS1 hC2.1
  refine V_aload_n dZ_law_1405 rfl ?_
  refine V_aload_nO dZ_law_1406 rfl ?_
  refine V_iload_n dZ_law_1407 rfl ?_
  refine V_iconst (v := 1) dZ_law_1408 (by decide) ?_
  refine V_iadd dZ_law_1409 ?_
  refine V_sald dZ_law_1410 (scr_in (k := 1) hi6 hN (by decide)) ?_
  refine V_topI (x' := gX G (i + 1)) (scr_cl (k := 1) (gX G) hi6 hN (by decide)) ?_
  refine V_aload_nO dZ_law_1411 rfl ?_
  refine V_iload_n dZ_law_1412 rfl ?_
  refine V_iconst (v := 2) dZ_law_1413 (by decide) ?_
  refine V_iadd dZ_law_1414 ?_
  refine V_sald dZ_law_1415 (scr_in (k := 2) hi6 hN (by decide)) ?_
  refine V_topI (x' := gX G (i + 2)) (scr_cl (k := 2) (gX G) hi6 hN (by decide)) ?_
  refine V_callV (as := [.int (gX G (i + 1)), .int (gX G (i + 2))]) (rest := [.long ((q_read M (gX G (i + 1)) (gX G (i + 2))).1)]) (bs' := 0) rfl dZ_law_1416 cmM_read cvM_read mlZ_190 (Or.inl ⟨_, _, _, _, _, rfl, k76, by decide, rfl⟩) rfl rfl (m_read hM1 hI (gX G (i + 1)) (gX G (i + 2))) (by decide) (Nat.le_refl _) (by decide) (Nat.le_of_ble_eq_true rfl) ?_
  rintro _ _ s2 ⟨rfl, rfl, hM2, hS2⟩ -
  refine V_one ?_
  have hC3 := RC_sc hC2 hS2 hM2.1
  refine V_lcmp dZ_law_1419 ?_
  refine V_topI (x' := 0) (lgc _) ?_
  refine V_if_eq (tgt := 1488) dZ_law_1420 rfl (fun _ => ?_) (fun h => absurd h (not_not_intro rfl))
  have e := Nq_read (M := M) (gX G (i + 1)) (gX G (i + 2))
  rw [e] at hC3 hM2
  exact hk s2 ⟨L, M, hC3, hM2, hI, hB⟩
theorem zc_42 {l : Launch} {G : GT} {i : Nat} {L : Nat → List Cl} {M s : Hp} (hi6 : i + 6 ≤ gL G) (hN : gL G ≤ 3072) (hC : RC L M s) (hM : RM M s) (hI : Inv L M) (hB : Bo M) (hk : ∀ s, OKs s → V l G mZ_law room_1 (KA.length + 0) 0 1488 [(3, .int (nI i)), (2, .ref 76), (1, .ref 0), (0, .float 0)] [] KA s PT) : V l G mZ_law room_1 (KA.length + 0) 0 1425 [(3, .int (nI i)), (2, .ref 76), (1, .ref 0), (0, .float 0)] [] KA s PT := by
  have hR := hC.1
  refine V_aload_n dZ_law_1425 rfl ?_
  refine V_aload_nO dZ_law_1426 rfl ?_
  refine V_iload_n dZ_law_1427 rfl ?_
  refine V_iconst (v := 1) dZ_law_1428 (by decide) ?_
  refine V_iadd dZ_law_1429 ?_
  refine V_sald dZ_law_1430 (scr_in (k := 1) hi6 hN (by decide)) ?_
  refine V_topI (x' := gX G (i + 1)) (scr_cl (k := 1) (gX G) hi6 hN (by decide)) ?_
  refine V_aload_nO dZ_law_1431 rfl ?_
  refine V_iload_n dZ_law_1432 rfl ?_
  refine V_iconst (v := 2) dZ_law_1433 (by decide) ?_
  refine V_iadd dZ_law_1434 ?_
  refine V_sald dZ_law_1435 (scr_in (k := 2) hi6 hN (by decide)) ?_
  refine V_topI (x' := gX G (i + 2)) (scr_cl (k := 2) (gX G) hi6 hN (by decide)) ?_
  refine V_aload_nO dZ_law_1436 rfl ?_
  refine V_iload_n dZ_law_1437 rfl ?_
  refine V_iconst (v := 3) dZ_law_1438 (by decide) ?_
  refine V_iadd dZ_law_1439 ?_
  refine V_sald dZ_law_1440 (scr_in (k := 3) hi6 hN (by decide)) ?_
  refine V_topI (x' := gX G (i + 3)) (scr_cl (k := 3) (gX G) hi6 hN (by decide)) ?_
  refine V_aload_nO dZ_law_1441 rfl ?_
  refine V_iload_n dZ_law_1442 rfl ?_
  refine V_iconst (v := 4) dZ_law_1443 (by decide) ?_
  refine V_iadd dZ_law_1444 ?_
  refine V_sald dZ_law_1445 (scr_in (k := 4) hi6 hN (by decide)) ?_
  refine V_topI (x' := gX G (i + 4)) (scr_cl (k := 4) (gX G) hi6 hN (by decide)) ?_
  refine V_aload_nO dZ_law_1446 rfl ?_
  refine V_iload_n dZ_law_1447 rfl ?_
  refine V_iconst (v := 5) dZ_law_1448 (by decide) ?_
  refine V_iadd dZ_law_1449 ?_
  refine V_sald dZ_law_1450 (scr_in (k := 5) hi6 hN (by decide)) ?_
  refine V_topI (x' := gX G (i + 5)) (scr_cl (k := 5) (gX G) hi6 hN (by decide)) ?_
  refine V_callV (as := [.int (gX G (i + 1)), .int (gX G (i + 2)), .int (gX G (i + 3)), .int (gX G (i + 4)), .int (gX G (i + 5))]) (rest := []) (bs' := 0) rfl dZ_law_1451 cmG_shift cvG_shift mlZ_191 (Or.inl ⟨_, _, _, _, _, rfl, k0, by decide, rfl⟩) rfl rfl (g_shift hC hI (gX G (i + 1)) (gX G (i + 2)) (gX G (i + 3)) (gX G (i + 4)) (gX G (i + 5))) (by decide) (Nat.le_refl _) (by decide) (Nat.le_of_ble_eq_true rfl) ?_
  rintro _ _ s1 ⟨rfl, rfl, hC2, hS1⟩ -
  refine V_one ?_
  have hM1 := RM_sm hM hS1 hC2.1
  refine V_aload_n dZ_law_1454 rfl ?_
  refine V_aload_nO dZ_law_1455 rfl ?_
  refine V_iload_n dZ_law_1456 rfl ?_
  refine V_iconst (v := 1) dZ_law_1457 (by decide) ?_
  refine V_iadd dZ_law_1458 ?_
  refine V_sald dZ_law_1459 (scr_in (k := 1) hi6 hN (by decide)) ?_
  refine V_topI (x' := gX G (i + 1)) (scr_cl (k := 1) (gX G) hi6 hN (by decide)) ?_
  refine V_aload_nO dZ_law_1460 rfl ?_
  refine V_iload_n dZ_law_1461 rfl ?_
  refine V_iconst (v := 2) dZ_law_1462 (by decide) ?_
  refine V_iadd dZ_law_1463 ?_
  refine V_sald dZ_law_1464 (scr_in (k := 2) hi6 hN (by decide)) ?_
  refine V_topI (x' := gX G (i + 2)) (scr_cl (k := 2) (gX G) hi6 hN (by decide)) ?_
  refine V_aload_nO dZ_law_1465 rfl ?_
  refine V_iload_n dZ_law_1466 rfl ?_
  refine V_iconst (v := 3) dZ_law_1467 (by decide) ?_
  refine V_iadd dZ_law_1468 ?_
  refine V_sald dZ_law_1469 (scr_in (k := 3) hi6 hN (by decide)) ?_
  refine V_topI (x' := gX G (i + 3)) (scr_cl (k := 3) (gX G) hi6 hN (by decide)) ?_
  refine V_aload_nO dZ_law_1470 rfl ?_
  refine V_iload_n dZ_law_1471 rfl ?_
  refine V_iconst (v := 4) dZ_law_1472 (by decide) ?_
  refine V_iadd dZ_law_1473 ?_
  refine V_sald dZ_law_1474 (scr_in (k := 4) hi6 hN (by decide)) ?_
  refine V_topI (x' := gX G (i + 4)) (scr_cl (k := 4) (gX G) hi6 hN (by decide)) ?_
  refine V_aload_nO dZ_law_1475 rfl ?_
  refine V_iload_n dZ_law_1476 rfl ?_
  refine V_iconst (v := 5) dZ_law_1477 (by decide) ?_
  refine V_iadd dZ_law_1478 ?_
  refine V_sald dZ_law_1479 (scr_in (k := 5) hi6 hN (by decide)) ?_
  refine V_topI (x' := gX G (i + 5)) (scr_cl (k := 5) (gX G) hi6 hN (by decide)) ?_
  refine V_callV (as := [.int (gX G (i + 1)), .int (gX G (i + 2)), .int (gX G (i + 3)), .int (gX G (i + 4)), .int (gX G (i + 5))]) (rest := [.int ((q_shift M (gX G (i + 1)) (gX G (i + 2)) (gX G (i + 3)) (gX G (i + 4)) (gX G (i + 5))).1)]) (bs' := 0) rfl dZ_law_1480 cmM_shift cvM_shift mlZ_195 (Or.inl ⟨_, _, _, _, _, rfl, k76, by decide, rfl⟩) rfl rfl (m_shift hM1 hI (gX G (i + 1)) (gX G (i + 2)) (gX G (i + 3)) (gX G (i + 4)) (gX G (i + 5))) (by decide) (Nat.le_refl _) (by decide) (Nat.le_of_ble_eq_true rfl) ?_
  rintro _ _ s2 ⟨rfl, rfl, hM2, hS2⟩ -
  refine V_one ?_
  have hC3 := RC_sc hC2 hS2 hM2.1
  refine V_icmp_eq (tgt := 1488) dZ_law_1483 rfl (fun _ => ?_) (fun h => absurd h (not_not_intro rfl))
  exact hk s2 ⟨L, (q_shift M (gX G (i + 1)) (gX G (i + 2)) (gX G (i + 3)) (gX G (i + 4)) (gX G (i + 5))).2, hC3, hM2, Iq_shift hI (gX G (i + 1)) (gX G (i + 2)) (gX G (i + 3)) (gX G (i + 4)) (gX G (i + 5)), Bq_shift hB (gX G (i + 1)) (gX G (i + 2)) (gX G (i + 3)) (gX G (i + 4)) (gX G (i + 5))⟩
theorem zc_8 {l : Launch} {G : GT} {i : Nat} {L : Nat → List Cl} {M s : Hp} (hi6 : i + 6 ≤ gL G) (hN : gL G ≤ 3072) (hC : RC L M s) (hM : RM M s) (hI : Inv L M) (hB : Bo M) (hk : ∀ s, OKs s → V l G mZ_law room_1 (KA.length + 0) 0 1488 [(3, .int (nI i)), (2, .ref 76), (1, .ref 0), (0, .float 0)] [] KA s PT) : V l G mZ_law room_1 (KA.length + 0) 0 494 [(3, .int (nI i)), (2, .ref 76), (1, .ref 0), (0, .float 0)] [] KA s PT := by
  have hR := hC.1
  refine V_aload_n dZ_law_494 rfl ?_
  refine V_callV (as := []) (rest := []) (bs' := 0) rfl dZ_law_495 cmG_law cvG_law mlZ_49 (Or.inl ⟨_, _, _, _, _, rfl, k0, by decide, rfl⟩) rfl rfl (g_law hC hI) (by decide) (Nat.le_refl _) (by decide) (Nat.le_of_ble_eq_true rfl) ?_
  rintro _ _ s1 ⟨rfl, rfl, hS1, hRF1, hC2⟩ -
  refine V_one ?_
  have hM1 := RM_sm hM hS1 hRF1
  refine V_aload_n dZ_law_498 rfl ?_
  refine V_callV (as := []) (rest := [.int (aL M)]) (bs' := 0) rfl dZ_law_499 cmM_law cvM_law mlZ_53 (Or.inl ⟨_, _, _, _, _, rfl, k76, by decide, rfl⟩) rfl rfl (m_law hM1 hI hB) (by decide) (Nat.le_refl _) (by decide) (Nat.le_of_ble_eq_true rfl) ?_
  rintro _ _ s2 ⟨rfl, rfl, hS2, L2, M2, hL2, hM2⟩ -
  refine V_one ?_
  have hC3 := RC_sc (hC2 L2 M2 hL2) hS2 hM2.1
  refine V_icmp_eq (tgt := 1488) dZ_law_502 rfl (fun _ => ?_) (fun h => absurd h (not_not_intro rfl))
  exact hk s2 ⟨L2, M2, hC3, hM2, hL2.1, hL2.2.1⟩
