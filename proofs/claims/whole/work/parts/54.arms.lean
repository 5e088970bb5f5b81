/-! the arms of the law -/
section LA
variable {p : Program} {l : Launch} {e : Env} {s : State} {m : MethodId} {below : List Frame} {meth : Method} {c0 : Code} {D : va_G} {cI cR : ClassId} {bS L : Nat} {xs : Nat → Int32} {i : Nat} {hi : mm_HI} {τ : mm_T} {σ : ST}
set_option maxHeartbeats 2000000 in
theorem arm_0 (C : LC p s m meth c0 D cI cR bS L xs) (hi3 : i + 3 < L) (hCC : CS σ hi τ) (hMM : MS σ hi τ) (KK : ∀ (σ2 : ST) (h2 : mm_HI) (t2 : mm_T), CS σ2 h2 t2 → MS σ2 h2 t2 → LW p l e s m below meth c0 D cI cR bS 862 i [] h2 t2) : LW p l e s m below meth c0 D cI cR bS 164 i [] hi τ := by
  obtain ⟨P, ⟨n, f, t, K, pn, pf, pt⟩, im, sl, N, b, tr⟩ := σ
  have hC : cS P n f t K pn pf pt im sl N b tr hi τ := hCC
  have hM : mS P n f t K pn pf pt im sl N b tr hi τ := hMM
  refine l_a1 C dL_law_164 ?_
  refine l_scr C (k := 1) dL_law_165 dL_law_166 dL_law_167 dL_law_168 dL_law_169 (by decide) (by omega) ?_
  refine l_cV C (c := 0) (as1 := [.int (xs (i + 1))]) (st := []) dL_law_170 cv_L_13 rfl rfl (by decide) (c_type (by decide) hC) (by decide) ?_
  rintro v h2 t2 ⟨rfl, q1, q2, q3⟩
  refine l_a2 C dL_law_173 ?_
  refine l_scr C (k := 1) dL_law_174 dL_law_175 dL_law_176 dL_law_177 dL_law_178 (by decide) (by omega) ?_
  have hM2 : mS P n f t K pn pf pt im sl N b tr h2 t2 := MS.mv hMM q2 q1.hr q3
  refine l_cV C (c := 106) (as1 := [.int (xs (i + 1))]) (st := [.int _]) dL_law_179 cv_L_17 rfl rfl (by decide) (m_type (by decide) hM2) (Nat.le_of_ble_eq_true rfl) ?_
  rintro v h3 t3 ⟨rfl, r1, r2, r3, r4⟩
  refine l_eq C (tgt := 862) dL_law_182 (by decide) ?_
  exact KK _ h3 t3 (q1.mv r2 r3 r4) r1
set_option maxHeartbeats 2000000 in
theorem arm_1 (C : LC p s m meth c0 D cI cR bS L xs) (hi3 : i + 3 < L) (hCC : CS σ hi τ) (hMM : MS σ hi τ) (KK : ∀ (σ2 : ST) (h2 : mm_HI) (t2 : mm_T), CS σ2 h2 t2 → MS σ2 h2 t2 → LW p l e s m below meth c0 D cI cR bS 862 i [] h2 t2) : LW p l e s m below meth c0 D cI cR bS 187 i [] hi τ := by
  obtain ⟨P, ⟨n, f, t, K, pn, pf, pt⟩, im, sl, N, b, tr⟩ := σ
  have hC : cS P n f t K pn pf pt im sl N b tr hi τ := hCC
  have hM : mS P n f t K pn pf pt im sl N b tr hi τ := hMM
  refine l_a1 C dL_law_187 ?_
  refine l_cV C (c := 0) (as1 := []) (st := []) dL_law_188 cv_L_18 rfl rfl (by decide) (c_clear (by decide) hC) (by decide) ?_
  rintro v h2 t2 ⟨rfl, q1, q2, q3⟩
  refine l_a2 C dL_law_191 ?_
  have hM2 : mS P n f t K pn pf pt im sl N b tr h2 t2 := MS.mv hMM q2 q1.hr q3
  refine l_cV C (c := 106) (as1 := []) (st := [.int _]) dL_law_192 cv_L_22 rfl rfl (by decide) (m_clear (by decide) hM2) (Nat.le_of_ble_eq_true rfl) ?_
  rintro v h3 t3 ⟨rfl, r1, r2, r3, r4⟩
  refine l_eq C (tgt := 862) dL_law_195 (by decide) ?_
  exact KK _ h3 t3 (q1.mv r2 r3 r4) r1
set_option maxHeartbeats 2000000 in
theorem arm_2 (C : LC p s m meth c0 D cI cR bS L xs) (hi3 : i + 3 < L) (hCC : CS σ hi τ) (hMM : MS σ hi τ) (KK : ∀ (σ2 : ST) (h2 : mm_HI) (t2 : mm_T), CS σ2 h2 t2 → MS σ2 h2 t2 → LW p l e s m below meth c0 D cI cR bS 862 i [] h2 t2) : LW p l e s m below meth c0 D cI cR bS 200 i [] hi τ := by
  obtain ⟨P, ⟨n, f, t, K, pn, pf, pt⟩, im, sl, N, b, tr⟩ := σ
  have hC : cS P n f t K pn pf pt im sl N b tr hi τ := hCC
  have hM : mS P n f t K pn pf pt im sl N b tr hi τ := hMM
  refine l_a1 C dL_law_200 ?_
  refine l_cV C (c := 0) (as1 := []) (st := []) dL_law_201 cv_L_23 rfl rfl (by decide) (c_page (by decide) hC) (by decide) ?_
  rintro v h2 t2 ⟨rfl, q1, q2, q3⟩
  refine l_a2 C dL_law_204 ?_
  have hM2 : mS P n f t K pn pf pt im sl N b tr h2 t2 := MS.mv hMM q2 q1.hr q3
  refine l_cV C (c := 106) (as1 := []) (st := [.int _]) dL_law_205 cv_L_26 rfl rfl (by decide) (m_page (by decide) hM2) (Nat.le_of_ble_eq_true rfl) ?_
  rintro v h3 t3 ⟨rfl, r1, r2, r3, r4⟩
  refine l_eq C (tgt := 862) dL_law_208 (by decide) ?_
  exact KK _ h3 t3 (q1.mv r2 r3 r4) r1
set_option maxHeartbeats 2000000 in
theorem arm_3 (C : LC p s m meth c0 D cI cR bS L xs) (hi3 : i + 3 < L) (hCC : CS σ hi τ) (hMM : MS σ hi τ) (KK : ∀ (σ2 : ST) (h2 : mm_HI) (t2 : mm_T), CS σ2 h2 t2 → MS σ2 h2 t2 → LW p l e s m below meth c0 D cI cR bS 862 i [] h2 t2) : LW p l e s m below meth c0 D cI cR bS 213 i [] hi τ := by
  obtain ⟨P, ⟨n, f, t, K, pn, pf, pt⟩, im, sl, N, b, tr⟩ := σ
  have hC : cS P n f t K pn pf pt im sl N b tr hi τ := hCC
  have hM : mS P n f t K pn pf pt im sl N b tr hi τ := hMM
  refine l_a1 C dL_law_213 ?_
  refine l_scr C (k := 1) dL_law_214 dL_law_215 dL_law_216 dL_law_217 dL_law_218 (by decide) (by omega) ?_
  refine l_scr C (k := 2) dL_law_219 dL_law_220 dL_law_221 dL_law_222 dL_law_223 (by decide) (by omega) ?_
  refine l_cV C (c := 0) (as1 := [.int (xs (i + 1)), .int (xs (i + 2))]) (st := []) dL_law_224 cv_L_27 rfl rfl (by decide) (c_strip (by decide) hC) (by decide) ?_
  rintro v h2 t2 ⟨rfl, q1, q2, q3⟩
  refine l_a2 C dL_law_227 ?_
  refine l_scr C (k := 1) dL_law_228 dL_law_229 dL_law_230 dL_law_231 dL_law_232 (by decide) (by omega) ?_
  refine l_scr C (k := 2) dL_law_233 dL_law_234 dL_law_235 dL_law_236 dL_law_237 (by decide) (by omega) ?_
  have hM2 : mS P n f t K pn pf pt im sl N b tr h2 t2 := MS.mv hMM q2 q1.hr q3
  refine l_cV C (c := 106) (as1 := [.int (xs (i + 1)), .int (xs (i + 2))]) (st := [.int _]) dL_law_238 cv_L_31 rfl rfl (by decide) (m_strip (by decide) hM2) (Nat.le_of_ble_eq_true rfl) ?_
  rintro v h3 t3 ⟨rfl, r1, r2, r3, r4⟩
  refine l_eq C (tgt := 862) dL_law_241 (by decide) ?_
  exact KK _ h3 t3 (q1.mv r2 r3 r4) r1
set_option maxHeartbeats 2000000 in
theorem arm_4 (C : LC p s m meth c0 D cI cR bS L xs) (hi3 : i + 3 < L) (hCC : CS σ hi τ) (hMM : MS σ hi τ) (KK : ∀ (σ2 : ST) (h2 : mm_HI) (t2 : mm_T), CS σ2 h2 t2 → MS σ2 h2 t2 → LW p l e s m below meth c0 D cI cR bS 862 i [] h2 t2) : LW p l e s m below meth c0 D cI cR bS 246 i [] hi τ := by
  obtain ⟨P, ⟨n, f, t, K, pn, pf, pt⟩, im, sl, N, b, tr⟩ := σ
  have hC : cS P n f t K pn pf pt im sl N b tr hi τ := hCC
  have hM : mS P n f t K pn pf pt im sl N b tr hi τ := hMM
  refine l_a1 C dL_law_246 ?_
  refine l_scr C (k := 1) dL_law_247 dL_law_248 dL_law_249 dL_law_250 dL_law_251 (by decide) (by omega) ?_
  refine l_scr C (k := 2) dL_law_252 dL_law_253 dL_law_254 dL_law_255 dL_law_256 (by decide) (by omega) ?_
  refine l_scr C (k := 3) dL_law_257 dL_law_258 dL_law_259 dL_law_260 dL_law_261 (by decide) (by omega) ?_
  refine l_cV C (c := 0) (as1 := [.int (xs (i + 1)), .int (xs (i + 2)), .int (xs (i + 3))]) (st := []) dL_law_262 cv_L_32 rfl rfl (by decide) (c_sign (by decide) hC) (by decide) ?_
  rintro v h2 t2 ⟨rfl, q1, q2, q3⟩
  refine l_a2 C dL_law_265 ?_
  refine l_scr C (k := 1) dL_law_266 dL_law_267 dL_law_268 dL_law_269 dL_law_270 (by decide) (by omega) ?_
  refine l_scr C (k := 2) dL_law_271 dL_law_272 dL_law_273 dL_law_274 dL_law_275 (by decide) (by omega) ?_
  refine l_scr C (k := 3) dL_law_276 dL_law_277 dL_law_278 dL_law_279 dL_law_280 (by decide) (by omega) ?_
  have hM2 : mS P n f t K pn pf pt im sl N b tr h2 t2 := MS.mv hMM q2 q1.hr q3
  refine l_cV C (c := 106) (as1 := [.int (xs (i + 1)), .int (xs (i + 2)), .int (xs (i + 3))]) (st := [.int _]) dL_law_281 cv_L_36 rfl rfl (by decide) (m_sign (by decide) hM2) (Nat.le_of_ble_eq_true rfl) ?_
  rintro v h3 t3 ⟨rfl, r1, r2, r3, r4⟩
  refine l_eq C (tgt := 862) dL_law_284 (by decide) ?_
  exact KK _ h3 t3 (q1.mv r2 r3 r4) r1
set_option maxHeartbeats 2000000 in
theorem arm_5 (C : LC p s m meth c0 D cI cR bS L xs) (hi3 : i + 3 < L) (hCC : CS σ hi τ) (hMM : MS σ hi τ) (KK : ∀ (σ2 : ST) (h2 : mm_HI) (t2 : mm_T), CS σ2 h2 t2 → MS σ2 h2 t2 → LW p l e s m below meth c0 D cI cR bS 862 i [] h2 t2) : LW p l e s m below meth c0 D cI cR bS 289 i [] hi τ := by
  obtain ⟨P, ⟨n, f, t, K, pn, pf, pt⟩, im, sl, N, b, tr⟩ := σ
  have hC : cS P n f t K pn pf pt im sl N b tr hi τ := hCC
  have hM : mS P n f t K pn pf pt im sl N b tr hi τ := hMM
  refine l_a1 C dL_law_289 ?_
  refine l_scr C (k := 1) dL_law_290 dL_law_291 dL_law_292 dL_law_293 dL_law_294 (by decide) (by omega) ?_
  refine l_cV C (c := 0) (as1 := [.int (xs (i + 1))]) (st := []) dL_law_295 cv_L_37 rfl rfl (by decide) (c_place (by decide) hC) (by decide) ?_
  rintro v h2 t2 ⟨rfl, q1, q2, q3⟩
  refine l_a2 C dL_law_298 ?_
  refine l_scr C (k := 1) dL_law_299 dL_law_300 dL_law_301 dL_law_302 dL_law_303 (by decide) (by omega) ?_
  have hM2 : mS P n f t K pn pf pt im sl N b tr h2 t2 := MS.mv hMM q2 q1.hr q3
  refine l_cV C (c := 106) (as1 := [.int (xs (i + 1))]) (st := [.int _]) dL_law_304 cv_L_40 rfl rfl (by decide) (m_place (by decide) hM2) (Nat.le_of_ble_eq_true rfl) ?_
  rintro v h3 t3 ⟨rfl, r1, r2, r3, r4⟩
  refine l_eq C (tgt := 862) dL_law_307 (by decide) ?_
  exact KK _ h3 t3 (q1.mv r2 r3 r4) r1
set_option maxHeartbeats 2000000 in
theorem arm_6 (C : LC p s m meth c0 D cI cR bS L xs) (hi3 : i + 3 < L) (hCC : CS σ hi τ) (hMM : MS σ hi τ) (KK : ∀ (σ2 : ST) (h2 : mm_HI) (t2 : mm_T), CS σ2 h2 t2 → MS σ2 h2 t2 → LW p l e s m below meth c0 D cI cR bS 862 i [] h2 t2) : LW p l e s m below meth c0 D cI cR bS 312 i [] hi τ := by
  obtain ⟨P, ⟨n, f, t, K, pn, pf, pt⟩, im, sl, N, b, tr⟩ := σ
  have hC : cS P n f t K pn pf pt im sl N b tr hi τ := hCC
  have hM : mS P n f t K pn pf pt im sl N b tr hi τ := hMM
  refine l_a1 C dL_law_312 ?_
  refine l_scr C (k := 1) dL_law_313 dL_law_314 dL_law_315 dL_law_316 dL_law_317 (by decide) (by omega) ?_
  refine l_scr C (k := 2) dL_law_318 dL_law_319 dL_law_320 dL_law_321 dL_law_322 (by decide) (by omega) ?_
  refine l_cV C (c := 0) (as1 := [.int (xs (i + 1)), .int (xs (i + 2))]) (st := []) dL_law_323 cv_L_41 rfl rfl (by decide) (c_word (by decide) hC) (by decide) ?_
  rintro v h2 t2 ⟨rfl, q1, q2, q3⟩
  refine l_a2 C dL_law_326 ?_
  refine l_scr C (k := 1) dL_law_327 dL_law_328 dL_law_329 dL_law_330 dL_law_331 (by decide) (by omega) ?_
  refine l_scr C (k := 2) dL_law_332 dL_law_333 dL_law_334 dL_law_335 dL_law_336 (by decide) (by omega) ?_
  have hM2 : mS P n f t K pn pf pt im sl N b tr h2 t2 := MS.mv hMM q2 q1.hr q3
  refine l_cV C (c := 106) (as1 := [.int (xs (i + 1)), .int (xs (i + 2))]) (st := [.int _]) dL_law_337 cv_L_44 rfl rfl (by decide) (m_word (by decide) hM2) (Nat.le_of_ble_eq_true rfl) ?_
  rintro v h3 t3 ⟨rfl, r1, r2, r3, r4⟩
  refine l_eq C (tgt := 862) dL_law_340 (by decide) ?_
  exact KK _ h3 t3 (q1.mv r2 r3 r4) r1
set_option maxHeartbeats 2000000 in
theorem arm_7 (C : LC p s m meth c0 D cI cR bS L xs) (hi3 : i + 3 < L) (hCC : CS σ hi τ) (hMM : MS σ hi τ) (KK : ∀ (σ2 : ST) (h2 : mm_HI) (t2 : mm_T), CS σ2 h2 t2 → MS σ2 h2 t2 → LW p l e s m below meth c0 D cI cR bS 862 i [] h2 t2) : LW p l e s m below meth c0 D cI cR bS 345 i [] hi τ := by
  obtain ⟨P, ⟨n, f, t, K, pn, pf, pt⟩, im, sl, N, b, tr⟩ := σ
  have hC : cS P n f t K pn pf pt im sl N b tr hi τ := hCC
  have hM : mS P n f t K pn pf pt im sl N b tr hi τ := hMM
  refine l_a1 C dL_law_345 ?_
  refine l_scr C (k := 1) dL_law_346 dL_law_347 dL_law_348 dL_law_349 dL_law_350 (by decide) (by omega) ?_
  refine l_scr C (k := 2) dL_law_351 dL_law_352 dL_law_353 dL_law_354 dL_law_355 (by decide) (by omega) ?_
  refine l_cV C (c := 0) (as1 := [.int (xs (i + 1)), .int (xs (i + 2))]) (st := []) dL_law_356 cv_L_45 rfl rfl (by decide) (c_swaps (by decide) hC) (by decide) ?_
  rintro v h2 t2 ⟨rfl, q1, q2, q3⟩
  refine l_a2 C dL_law_359 ?_
  refine l_scr C (k := 1) dL_law_360 dL_law_361 dL_law_362 dL_law_363 dL_law_364 (by decide) (by omega) ?_
  refine l_scr C (k := 2) dL_law_365 dL_law_366 dL_law_367 dL_law_368 dL_law_369 (by decide) (by omega) ?_
  have hM2 : mS P n f t K pn pf pt im sl N b tr h2 t2 := MS.mv hMM q2 q1.hr q3
  refine l_cV C (c := 106) (as1 := [.int (xs (i + 1)), .int (xs (i + 2))]) (st := [.int _]) dL_law_370 cv_L_48 rfl rfl (by decide) (m_swaps (by decide) hM2) (Nat.le_of_ble_eq_true rfl) ?_
  rintro v h3 t3 ⟨rfl, r1, r2, r3, r4⟩
  refine l_eq C (tgt := 862) dL_law_373 (by decide) ?_
  exact KK _ h3 t3 (q1.mv r2 r3 r4) r1
set_option maxHeartbeats 2000000 in
theorem arm_8 (C : LC p s m meth c0 D cI cR bS L xs) (hi3 : i + 3 < L) (hCC : CS σ hi τ) (hMM : MS σ hi τ) (KK : ∀ (σ2 : ST) (h2 : mm_HI) (t2 : mm_T), CS σ2 h2 t2 → MS σ2 h2 t2 → LW p l e s m below meth c0 D cI cR bS 862 i [] h2 t2) : LW p l e s m below meth c0 D cI cR bS 378 i [] hi τ := by
  obtain ⟨P, ⟨n, f, t, K, pn, pf, pt⟩, im, sl, N, b, tr⟩ := σ
  have hC : cS P n f t K pn pf pt im sl N b tr hi τ := hCC
  have hM : mS P n f t K pn pf pt im sl N b tr hi τ := hMM
  refine l_a1 C dL_law_378 ?_
  refine l_scr C (k := 1) dL_law_379 dL_law_380 dL_law_381 dL_law_382 dL_law_383 (by decide) (by omega) ?_
  refine l_scr C (k := 2) dL_law_384 dL_law_385 dL_law_386 dL_law_387 dL_law_388 (by decide) (by omega) ?_
  refine l_cV C (c := 0) (as1 := [.int (xs (i + 1)), .int (xs (i + 2))]) (st := []) dL_law_389 cv_L_49 rfl rfl (by decide) (c_moves (by decide) hC) (by decide) ?_
  rintro v h2 t2 ⟨rfl, q1, q2, q3⟩
  refine l_a2 C dL_law_392 ?_
  refine l_scr C (k := 1) dL_law_393 dL_law_394 dL_law_395 dL_law_396 dL_law_397 (by decide) (by omega) ?_
  refine l_scr C (k := 2) dL_law_398 dL_law_399 dL_law_400 dL_law_401 dL_law_402 (by decide) (by omega) ?_
  have hM2 : mS P n f t K pn pf pt im sl N b tr h2 t2 := MS.mv hMM q2 q1.hr q3
  refine l_cV C (c := 106) (as1 := [.int (xs (i + 1)), .int (xs (i + 2))]) (st := [.int _]) dL_law_403 cv_L_52 rfl rfl (by decide) (m_moves (by decide) hM2) (Nat.le_of_ble_eq_true rfl) ?_
  rintro v h3 t3 ⟨rfl, r1, r2, r3, r4⟩
  refine l_eq C (tgt := 862) dL_law_406 (by decide) ?_
  exact KK _ h3 t3 (q1.mv r2 r3 r4) r1
set_option maxHeartbeats 2000000 in
theorem arm_9 (C : LC p s m meth c0 D cI cR bS L xs) (hi3 : i + 3 < L) (hCC : CS σ hi τ) (hMM : MS σ hi τ) (KK : ∀ (σ2 : ST) (h2 : mm_HI) (t2 : mm_T), CS σ2 h2 t2 → MS σ2 h2 t2 → LW p l e s m below meth c0 D cI cR bS 862 i [] h2 t2) : LW p l e s m below meth c0 D cI cR bS 411 i [] hi τ := by
  obtain ⟨P, ⟨n, f, t, K, pn, pf, pt⟩, im, sl, N, b, tr⟩ := σ
  have hC : cS P n f t K pn pf pt im sl N b tr hi τ := hCC
  have hM : mS P n f t K pn pf pt im sl N b tr hi τ := hMM
  refine l_a1 C dL_law_411 ?_
  refine l_scr C (k := 1) dL_law_412 dL_law_413 dL_law_414 dL_law_415 dL_law_416 (by decide) (by omega) ?_
  refine l_cV C (c := 0) (as1 := [.int (xs (i + 1))]) (st := []) dL_law_417 cv_L_53 rfl rfl (by decide) (c_turn (by decide) hC) (by decide) ?_
  rintro v h2 t2 ⟨rfl, q1, q2, q3⟩
  refine l_a2 C dL_law_420 ?_
  refine l_scr C (k := 1) dL_law_421 dL_law_422 dL_law_423 dL_law_424 dL_law_425 (by decide) (by omega) ?_
  have hM2 : mS P n f t K pn pf pt im sl N b tr h2 t2 := MS.mv hMM q2 q1.hr q3
  refine l_cV C (c := 106) (as1 := [.int (xs (i + 1))]) (st := [.int _]) dL_law_426 cv_L_56 rfl rfl (by decide) (m_turn (by decide) hM2) (Nat.le_of_ble_eq_true rfl) ?_
  rintro v h3 t3 ⟨rfl, r1, r2, r3, r4⟩
  refine l_eq C (tgt := 862) dL_law_429 (by decide) ?_
  exact KK _ h3 t3 (q1.mv r2 r3 r4) r1
set_option maxHeartbeats 2000000 in
theorem arm_10 (C : LC p s m meth c0 D cI cR bS L xs) (hi3 : i + 3 < L) (hCC : CS σ hi τ) (hMM : MS σ hi τ) (KK : ∀ (σ2 : ST) (h2 : mm_HI) (t2 : mm_T), CS σ2 h2 t2 → MS σ2 h2 t2 → LW p l e s m below meth c0 D cI cR bS 862 i [] h2 t2) : LW p l e s m below meth c0 D cI cR bS 434 i [] hi τ := by
  obtain ⟨P, ⟨n, f, t, K, pn, pf, pt⟩, im, sl, N, b, tr⟩ := σ
  have hC : cS P n f t K pn pf pt im sl N b tr hi τ := hCC
  have hM : mS P n f t K pn pf pt im sl N b tr hi τ := hMM
  refine l_a1 C dL_law_434 ?_
  refine l_scr C (k := 1) dL_law_435 dL_law_436 dL_law_437 dL_law_438 dL_law_439 (by decide) (by omega) ?_
  refine l_cV C (c := 0) (as1 := [.int (xs (i + 1))]) (st := []) dL_law_440 cv_L_57 rfl rfl (by decide) (c_takes (by decide) hC) (by decide) ?_
  rintro v h2 t2 ⟨rfl, q1, q2, q3⟩
  refine l_a2 C dL_law_443 ?_
  refine l_scr C (k := 1) dL_law_444 dL_law_445 dL_law_446 dL_law_447 dL_law_448 (by decide) (by omega) ?_
  have hM2 : mS P n f t K pn pf pt im sl N b tr h2 t2 := MS.mv hMM q2 q1.hr q3
  refine l_cV C (c := 106) (as1 := [.int (xs (i + 1))]) (st := [.int _]) dL_law_449 cv_L_60 rfl rfl (by decide) (m_takes (by decide) hM2) (Nat.le_of_ble_eq_true rfl) ?_
  rintro v h3 t3 ⟨rfl, r1, r2, r3, r4⟩
  refine l_eq C (tgt := 862) dL_law_452 (by decide) ?_
  exact KK _ h3 t3 (q1.mv r2 r3 r4) r1
set_option maxHeartbeats 2000000 in
theorem arm_11 (C : LC p s m meth c0 D cI cR bS L xs) (hi3 : i + 3 < L) (hCC : CS σ hi τ) (hMM : MS σ hi τ) (KK : ∀ (σ2 : ST) (h2 : mm_HI) (t2 : mm_T), CS σ2 h2 t2 → MS σ2 h2 t2 → LW p l e s m below meth c0 D cI cR bS 862 i [] h2 t2) : LW p l e s m below meth c0 D cI cR bS 457 i [] hi τ := by
  obtain ⟨P, ⟨n, f, t, K, pn, pf, pt⟩, im, sl, N, b, tr⟩ := σ
  have hC : cS P n f t K pn pf pt im sl N b tr hi τ := hCC
  have hM : mS P n f t K pn pf pt im sl N b tr hi τ := hMM
  refine l_a1 C dL_law_457 ?_
  refine l_scr C (k := 1) dL_law_458 dL_law_459 dL_law_460 dL_law_461 dL_law_462 (by decide) (by omega) ?_
  refine l_cV C (c := 0) (as1 := [.int (xs (i + 1))]) (st := []) dL_law_463 cv_L_61 rfl rfl (by decide) (c_lays (by decide) hC) (by decide) ?_
  rintro v h2 t2 ⟨rfl, q1, q2, q3⟩
  refine l_a2 C dL_law_466 ?_
  refine l_scr C (k := 1) dL_law_467 dL_law_468 dL_law_469 dL_law_470 dL_law_471 (by decide) (by omega) ?_
  have hM2 : mS P n f t K pn pf pt im sl N b tr h2 t2 := MS.mv hMM q2 q1.hr q3
  refine l_cV C (c := 106) (as1 := [.int (xs (i + 1))]) (st := [.int _]) dL_law_472 cv_L_64 rfl rfl (by decide) (m_lays (by decide) hM2) (Nat.le_of_ble_eq_true rfl) ?_
  rintro v h3 t3 ⟨rfl, r1, r2, r3, r4⟩
  refine l_eq C (tgt := 862) dL_law_475 (by decide) ?_
  exact KK _ h3 t3 (q1.mv r2 r3 r4) r1
set_option maxHeartbeats 2000000 in
theorem arm_12 (C : LC p s m meth c0 D cI cR bS L xs) (hi3 : i + 3 < L) (hCC : CS σ hi τ) (hMM : MS σ hi τ) (KK : ∀ (σ2 : ST) (h2 : mm_HI) (t2 : mm_T), CS σ2 h2 t2 → MS σ2 h2 t2 → LW p l e s m below meth c0 D cI cR bS 862 i [] h2 t2) : LW p l e s m below meth c0 D cI cR bS 480 i [] hi τ := by
  obtain ⟨P, ⟨n, f, t, K, pn, pf, pt⟩, im, sl, N, b, tr⟩ := σ
  have hC : cS P n f t K pn pf pt im sl N b tr hi τ := hCC
  have hM : mS P n f t K pn pf pt im sl N b tr hi τ := hMM
  refine l_a1 C dL_law_480 ?_
  refine l_cV C (c := 0) (as1 := []) (st := []) dL_law_481 cv_L_65 rfl rfl (by decide) (c_undo (by decide) hC) (by decide) ?_
  rintro v h2 t2 ⟨rfl, q1, q2, q3⟩
  refine l_a2 C dL_law_484 ?_
  have hM2 : mS P n f t K pn pf pt im sl N b tr h2 t2 := MS.mv hMM q2 q1.hr q3
  refine l_cV C (c := 106) (as1 := []) (st := [.int _]) dL_law_485 cv_L_68 rfl rfl (by decide) (m_undo (by decide) hM2) (Nat.le_of_ble_eq_true rfl) ?_
  rintro v h3 t3 ⟨rfl, r1, r2, r3, r4⟩
  refine l_eq C (tgt := 862) dL_law_488 (by decide) ?_
  exact KK _ h3 t3 (q1.mv r2 r3 r4) r1
set_option maxHeartbeats 2000000 in
theorem arm_13 (C : LC p s m meth c0 D cI cR bS L xs) (hi3 : i + 3 < L) (hCC : CS σ hi τ) (hMM : MS σ hi τ) (KK : ∀ (σ2 : ST) (h2 : mm_HI) (t2 : mm_T), CS σ2 h2 t2 → MS σ2 h2 t2 → LW p l e s m below meth c0 D cI cR bS 862 i [] h2 t2) : LW p l e s m below meth c0 D cI cR bS 493 i [] hi τ := by
  obtain ⟨P, ⟨n, f, t, K, pn, pf, pt⟩, im, sl, N, b, tr⟩ := σ
  have hC : cS P n f t K pn pf pt im sl N b tr hi τ := hCC
  have hM : mS P n f t K pn pf pt im sl N b tr hi τ := hMM
  refine l_a1 C dL_law_493 ?_
  refine l_scr C (k := 1) dL_law_494 dL_law_495 dL_law_496 dL_law_497 dL_law_498 (by decide) (by omega) ?_
  refine l_cV C (c := 0) (as1 := [.int (xs (i + 1))]) (st := []) dL_law_499 cv_L_69 rfl rfl (by decide) (c_now (by decide) hC) (by decide) ?_
  rintro v h2 t2 ⟨rfl, q1, q2, q3⟩
  refine l_a2 C dL_law_502 ?_
  refine l_scr C (k := 1) dL_law_503 dL_law_504 dL_law_505 dL_law_506 dL_law_507 (by decide) (by omega) ?_
  have hM2 : mS P n f t K pn pf pt im sl N b tr h2 t2 := MS.mv hMM q2 q1.hr q3
  refine l_cV C (c := 106) (as1 := [.int (xs (i + 1))]) (st := [.int _]) dL_law_508 cv_L_72 rfl rfl (by decide) (m_now (by decide) hM2) (Nat.le_of_ble_eq_true rfl) ?_
  rintro v h3 t3 ⟨rfl, r1, r2, r3, r4⟩
  refine l_eq C (tgt := 862) dL_law_511 (by decide) ?_
  exact KK _ h3 t3 (q1.mv r2 r3 r4) r1
set_option maxHeartbeats 2000000 in
theorem arm_14 (C : LC p s m meth c0 D cI cR bS L xs) (hi3 : i + 3 < L) (hCC : CS σ hi τ) (hMM : MS σ hi τ) (KK : ∀ (σ2 : ST) (h2 : mm_HI) (t2 : mm_T), CS σ2 h2 t2 → MS σ2 h2 t2 → LW p l e s m below meth c0 D cI cR bS 862 i [] h2 t2) : LW p l e s m below meth c0 D cI cR bS 516 i [] hi τ := by
  obtain ⟨P, ⟨n, f, t, K, pn, pf, pt⟩, im, sl, N, b, tr⟩ := σ
  have hC : cS P n f t K pn pf pt im sl N b tr hi τ := hCC
  have hM : mS P n f t K pn pf pt im sl N b tr hi τ := hMM
  refine l_a1 C dL_law_516 ?_
  refine l_scr C (k := 1) dL_law_517 dL_law_518 dL_law_519 dL_law_520 dL_law_521 (by decide) (by omega) ?_
  refine l_scr C (k := 2) dL_law_522 dL_law_523 dL_law_524 dL_law_525 dL_law_526 (by decide) (by omega) ?_
  refine l_cV C (c := 0) (as1 := [.int (xs (i + 1)), .int (xs (i + 2))]) (st := []) dL_law_527 cv_L_73 rfl rfl (by decide) (c_line (by decide) hC) (by decide) ?_
  rintro v h2 t2 ⟨rfl, q1, q2, q3⟩
  refine l_a2 C dL_law_530 ?_
  refine l_scr C (k := 1) dL_law_531 dL_law_532 dL_law_533 dL_law_534 dL_law_535 (by decide) (by omega) ?_
  refine l_scr C (k := 2) dL_law_536 dL_law_537 dL_law_538 dL_law_539 dL_law_540 (by decide) (by omega) ?_
  have hM2 : mS P n f t K pn pf pt im sl N b tr h2 t2 := MS.mv hMM q2 q1.hr q3
  refine l_cV C (c := 106) (as1 := [.int (xs (i + 1)), .int (xs (i + 2))]) (st := [.int _]) dL_law_541 cv_L_76 rfl rfl (by decide) (m_line (by decide) hM2) (Nat.le_of_ble_eq_true rfl) ?_
  rintro v h3 t3 ⟨rfl, r1, r2, r3, r4⟩
  refine l_eq C (tgt := 862) dL_law_544 (by decide) ?_
  exact KK _ h3 t3 (q1.mv r2 r3 r4) r1
set_option maxHeartbeats 2000000 in
theorem arm_15 (C : LC p s m meth c0 D cI cR bS L xs) (hi3 : i + 3 < L) (hCC : CS σ hi τ) (hMM : MS σ hi τ) (KK : ∀ (σ2 : ST) (h2 : mm_HI) (t2 : mm_T), CS σ2 h2 t2 → MS σ2 h2 t2 → LW p l e s m below meth c0 D cI cR bS 862 i [] h2 t2) : LW p l e s m below meth c0 D cI cR bS 549 i [] hi τ := by
  obtain ⟨P, ⟨n, f, t, K, pn, pf, pt⟩, im, sl, N, b, tr⟩ := σ
  have hC : cS P n f t K pn pf pt im sl N b tr hi τ := hCC
  have hM : mS P n f t K pn pf pt im sl N b tr hi τ := hMM
  refine l_a1 C dL_law_549 ?_
  refine l_scr C (k := 1) dL_law_550 dL_law_551 dL_law_552 dL_law_553 dL_law_554 (by decide) (by omega) ?_
  refine l_scr C (k := 2) dL_law_555 dL_law_556 dL_law_557 dL_law_558 dL_law_559 (by decide) (by omega) ?_
  refine l_cV C (c := 0) (as1 := [.int (xs (i + 1)), .int (xs (i + 2))]) (st := []) dL_law_560 cv_L_77 rfl rfl (by decide) (c_reads (by decide) hC) (by decide) ?_
  rintro v h2 t2 ⟨rfl, q1, q2, q3⟩
  refine l_a2 C dL_law_563 ?_
  refine l_scr C (k := 1) dL_law_564 dL_law_565 dL_law_566 dL_law_567 dL_law_568 (by decide) (by omega) ?_
  refine l_scr C (k := 2) dL_law_569 dL_law_570 dL_law_571 dL_law_572 dL_law_573 (by decide) (by omega) ?_
  have hM2 : mS P n f t K pn pf pt im sl N b tr h2 t2 := MS.mv hMM q2 q1.hr q3
  refine l_cV C (c := 106) (as1 := [.int (xs (i + 1)), .int (xs (i + 2))]) (st := [.int _]) dL_law_574 cv_L_80 rfl rfl (by decide) (m_reads (by decide) hM2) (Nat.le_of_ble_eq_true rfl) ?_
  rintro v h3 t3 ⟨rfl, r1, r2, r3, r4⟩
  refine l_eq C (tgt := 862) dL_law_577 (by decide) ?_
  exact KK _ h3 t3 (q1.mv r2 r3 r4) r1
set_option maxHeartbeats 2000000 in
theorem arm_16 (C : LC p s m meth c0 D cI cR bS L xs) (hi3 : i + 3 < L) (hCC : CS σ hi τ) (hMM : MS σ hi τ) (KK : ∀ (σ2 : ST) (h2 : mm_HI) (t2 : mm_T), CS σ2 h2 t2 → MS σ2 h2 t2 → LW p l e s m below meth c0 D cI cR bS 862 i [] h2 t2) : LW p l e s m below meth c0 D cI cR bS 582 i [] hi τ := by
  obtain ⟨P, ⟨n, f, t, K, pn, pf, pt⟩, im, sl, N, b, tr⟩ := σ
  have hC : cS P n f t K pn pf pt im sl N b tr hi τ := hCC
  have hM : mS P n f t K pn pf pt im sl N b tr hi τ := hMM
  refine l_a1 C dL_law_582 ?_
  refine l_scr C (k := 1) dL_law_583 dL_law_584 dL_law_585 dL_law_586 dL_law_587 (by decide) (by omega) ?_
  refine l_cV C (c := 0) (as1 := [.int (xs (i + 1))]) (st := []) dL_law_588 cv_L_81 rfl rfl (by decide) (c_orders (by decide) hC) (by decide) ?_
  rintro v h2 t2 ⟨rfl, q1, q2, q3⟩
  refine l_a2 C dL_law_591 ?_
  refine l_scr C (k := 1) dL_law_592 dL_law_593 dL_law_594 dL_law_595 dL_law_596 (by decide) (by omega) ?_
  have hM2 : mS P n f t K pn pf pt im sl N b tr h2 t2 := MS.mv hMM q2 q1.hr q3
  refine l_cV C (c := 106) (as1 := [.int (xs (i + 1))]) (st := [.int _]) dL_law_597 cv_L_84 rfl rfl (by decide) (m_orders (by decide) hM2) (Nat.le_of_ble_eq_true rfl) ?_
  rintro v h3 t3 ⟨rfl, r1, r2, r3, r4⟩
  refine l_eq C (tgt := 862) dL_law_600 (by decide) ?_
  exact KK _ h3 t3 (q1.mv r2 r3 r4) r1
set_option maxHeartbeats 2000000 in
theorem arm_17 (C : LC p s m meth c0 D cI cR bS L xs) (hi3 : i + 3 < L) (hCC : CS σ hi τ) (hMM : MS σ hi τ) (KK : ∀ (σ2 : ST) (h2 : mm_HI) (t2 : mm_T), CS σ2 h2 t2 → MS σ2 h2 t2 → LW p l e s m below meth c0 D cI cR bS 862 i [] h2 t2) : LW p l e s m below meth c0 D cI cR bS 605 i [] hi τ := by
  obtain ⟨P, ⟨n, f, t, K, pn, pf, pt⟩, im, sl, N, b, tr⟩ := σ
  have hC : cS P n f t K pn pf pt im sl N b tr hi τ := hCC
  have hM : mS P n f t K pn pf pt im sl N b tr hi τ := hMM
  refine l_a1 C dL_law_605 ?_
  refine l_scr C (k := 1) dL_law_606 dL_law_607 dL_law_608 dL_law_609 dL_law_610 (by decide) (by omega) ?_
  refine l_cV C (c := 0) (as1 := [.int (xs (i + 1))]) (st := []) dL_law_611 cv_L_85 rfl rfl (by decide) (c_either (by decide) hC) (by decide) ?_
  rintro v h2 t2 ⟨rfl, q1, q2, q3⟩
  refine l_a2 C dL_law_614 ?_
  refine l_scr C (k := 1) dL_law_615 dL_law_616 dL_law_617 dL_law_618 dL_law_619 (by decide) (by omega) ?_
  have hM2 : mS P n f t K pn pf pt im sl N b tr h2 t2 := MS.mv hMM q2 q1.hr q3
  refine l_cV C (c := 106) (as1 := [.int (xs (i + 1))]) (st := [.int _]) dL_law_620 cv_L_88 rfl rfl (by decide) (m_either (by decide) hM2) (Nat.le_of_ble_eq_true rfl) ?_
  rintro v h3 t3 ⟨rfl, r1, r2, r3, r4⟩
  refine l_eq C (tgt := 862) dL_law_623 (by decide) ?_
  exact KK _ h3 t3 (q1.mv r2 r3 r4) r1
set_option maxHeartbeats 2000000 in
theorem arm_18 (C : LC p s m meth c0 D cI cR bS L xs) (hi3 : i + 3 < L) (hCC : CS σ hi τ) (hMM : MS σ hi τ) (KK : ∀ (σ2 : ST) (h2 : mm_HI) (t2 : mm_T), CS σ2 h2 t2 → MS σ2 h2 t2 → LW p l e s m below meth c0 D cI cR bS 862 i [] h2 t2) : LW p l e s m below meth c0 D cI cR bS 628 i [] hi τ := by
  obtain ⟨P, ⟨n, f, t, K, pn, pf, pt⟩, im, sl, N, b, tr⟩ := σ
  have hC : cS P n f t K pn pf pt im sl N b tr hi τ := hCC
  have hM : mS P n f t K pn pf pt im sl N b tr hi τ := hMM
  refine l_a1 C dL_law_628 ?_
  refine l_scr C (k := 1) dL_law_629 dL_law_630 dL_law_631 dL_law_632 dL_law_633 (by decide) (by omega) ?_
  refine l_cV C (c := 0) (as1 := [.int (xs (i + 1))]) (st := []) dL_law_634 cv_L_89 rfl rfl (by decide) (c_best (by decide) hC) (by decide) ?_
  rintro v h2 t2 ⟨rfl, q1, q2, q3⟩
  refine l_a2 C dL_law_637 ?_
  refine l_scr C (k := 1) dL_law_638 dL_law_639 dL_law_640 dL_law_641 dL_law_642 (by decide) (by omega) ?_
  have hM2 : mS P n f t K pn pf pt im sl N b tr h2 t2 := MS.mv hMM q2 q1.hr q3
  refine l_cV C (c := 106) (as1 := [.int (xs (i + 1))]) (st := [.int _]) dL_law_643 cv_L_92 rfl rfl (by decide) (m_best (by decide) hM2) (Nat.le_of_ble_eq_true rfl) ?_
  rintro v h3 t3 ⟨rfl, r1, r2, r3, r4⟩
  refine l_eq C (tgt := 862) dL_law_646 (by decide) ?_
  exact KK _ h3 t3 (q1.mv r2 r3 r4) r1
set_option maxHeartbeats 2000000 in
theorem arm_19 (C : LC p s m meth c0 D cI cR bS L xs) (hi3 : i + 3 < L) (hCC : CS σ hi τ) (hMM : MS σ hi τ) (KK : ∀ (σ2 : ST) (h2 : mm_HI) (t2 : mm_T), CS σ2 h2 t2 → MS σ2 h2 t2 → LW p l e s m below meth c0 D cI cR bS 862 i [] h2 t2) : LW p l e s m below meth c0 D cI cR bS 651 i [] hi τ := by
  obtain ⟨P, ⟨n, f, t, K, pn, pf, pt⟩, im, sl, N, b, tr⟩ := σ
  have hC : cS P n f t K pn pf pt im sl N b tr hi τ := hCC
  have hM : mS P n f t K pn pf pt im sl N b tr hi τ := hMM
  refine l_a1 C dL_law_651 ?_
  refine l_scr C (k := 1) dL_law_652 dL_law_653 dL_law_654 dL_law_655 dL_law_656 (by decide) (by omega) ?_
  refine l_cV C (c := 0) (as1 := [.int (xs (i + 1))]) (st := []) dL_law_657 cv_L_93 rfl rfl (by decide) (c_odds (by decide) hC) (by decide) ?_
  rintro v h2 t2 ⟨rfl, q1, q2, q3⟩
  refine l_a2 C dL_law_660 ?_
  refine l_scr C (k := 1) dL_law_661 dL_law_662 dL_law_663 dL_law_664 dL_law_665 (by decide) (by omega) ?_
  have hM2 : mS P n f t K pn pf pt im sl N b tr h2 t2 := MS.mv hMM q2 q1.hr q3
  refine l_cV C (c := 106) (as1 := [.int (xs (i + 1))]) (st := [.int _]) dL_law_666 cv_L_96 rfl rfl (by decide) (m_odds (by decide) hM2) (Nat.le_of_ble_eq_true rfl) ?_
  rintro v h3 t3 ⟨rfl, r1, r2, r3, r4⟩
  refine l_eq C (tgt := 862) dL_law_669 (by decide) ?_
  exact KK _ h3 t3 (q1.mv r2 r3 r4) r1
set_option maxHeartbeats 2000000 in
theorem arm_20 (C : LC p s m meth c0 D cI cR bS L xs) (hi3 : i + 3 < L) (hCC : CS σ hi τ) (hMM : MS σ hi τ) (KK : ∀ (σ2 : ST) (h2 : mm_HI) (t2 : mm_T), CS σ2 h2 t2 → MS σ2 h2 t2 → LW p l e s m below meth c0 D cI cR bS 862 i [] h2 t2) : LW p l e s m below meth c0 D cI cR bS 674 i [] hi τ := by
  obtain ⟨P, ⟨n, f, t, K, pn, pf, pt⟩, im, sl, N, b, tr⟩ := σ
  have hC : cS P n f t K pn pf pt im sl N b tr hi τ := hCC
  have hM : mS P n f t K pn pf pt im sl N b tr hi τ := hMM
  refine l_a1 C dL_law_674 ?_
  refine l_scr C (k := 1) dL_law_675 dL_law_676 dL_law_677 dL_law_678 dL_law_679 (by decide) (by omega) ?_
  refine l_scr C (k := 2) dL_law_680 dL_law_681 dL_law_682 dL_law_683 dL_law_684 (by decide) (by omega) ?_
  refine l_cV C (c := 0) (as1 := [.int (xs (i + 1)), .int (xs (i + 2))]) (st := []) dL_law_685 cv_L_97 rfl rfl (by decide) (c_sees (by decide) hC) (by decide) ?_
  rintro v h2 t2 ⟨rfl, q1, q2, q3⟩
  refine l_a2 C dL_law_688 ?_
  refine l_scr C (k := 1) dL_law_689 dL_law_690 dL_law_691 dL_law_692 dL_law_693 (by decide) (by omega) ?_
  refine l_scr C (k := 2) dL_law_694 dL_law_695 dL_law_696 dL_law_697 dL_law_698 (by decide) (by omega) ?_
  have hM2 : mS P n f t K pn pf pt im sl N b tr h2 t2 := MS.mv hMM q2 q1.hr q3
  refine l_cV C (c := 106) (as1 := [.int (xs (i + 1)), .int (xs (i + 2))]) (st := [.int _]) dL_law_699 cv_L_100 rfl rfl (by decide) (m_sees (by decide) hM2) (Nat.le_of_ble_eq_true rfl) ?_
  rintro v h3 t3 ⟨rfl, r1, r2, r3, r4⟩
  refine l_eq C (tgt := 862) dL_law_702 (by decide) ?_
  exact KK _ h3 t3 (q1.mv r2 r3 r4) r1
set_option maxHeartbeats 2000000 in
theorem arm_21 (C : LC p s m meth c0 D cI cR bS L xs) (hi3 : i + 3 < L) (hCC : CS σ hi τ) (hMM : MS σ hi τ) (KK : ∀ (σ2 : ST) (h2 : mm_HI) (t2 : mm_T), CS σ2 h2 t2 → MS σ2 h2 t2 → LW p l e s m below meth c0 D cI cR bS 862 i [] h2 t2) : LW p l e s m below meth c0 D cI cR bS 707 i [] hi τ := by
  obtain ⟨P, ⟨n, f, t, K, pn, pf, pt⟩, im, sl, N, b, tr⟩ := σ
  have hC : cS P n f t K pn pf pt im sl N b tr hi τ := hCC
  have hM : mS P n f t K pn pf pt im sl N b tr hi τ := hMM
  refine l_a1 C dL_law_707 ?_
  refine l_cV C (c := 0) (as1 := []) (st := []) dL_law_708 cv_L_101 rfl rfl (by decide) (c_forget (by decide) hC) (by decide) ?_
  rintro v h2 t2 ⟨rfl, q1, q2, q3⟩
  refine l_a2 C dL_law_711 ?_
  have hM2 : mS P n f t K pn pf pt im sl N b tr h2 t2 := MS.mv hMM q2 q1.hr q3
  refine l_cV C (c := 106) (as1 := []) (st := [.int _]) dL_law_712 cv_L_104 rfl rfl (by decide) (m_forget (by decide) hM2) (Nat.le_of_ble_eq_true rfl) ?_
  rintro v h3 t3 ⟨rfl, r1, r2, r3, r4⟩
  refine l_eq C (tgt := 862) dL_law_715 (by decide) ?_
  exact KK _ h3 t3 (q1.mv r2 r3 r4) r1
set_option maxHeartbeats 2000000 in
theorem arm_22 (C : LC p s m meth c0 D cI cR bS L xs) (hi3 : i + 3 < L) (hCC : CS σ hi τ) (hMM : MS σ hi τ) (KK : ∀ (σ2 : ST) (h2 : mm_HI) (t2 : mm_T), CS σ2 h2 t2 → MS σ2 h2 t2 → LW p l e s m below meth c0 D cI cR bS 862 i [] h2 t2) : LW p l e s m below meth c0 D cI cR bS 720 i [] hi τ := by
  obtain ⟨P, ⟨n, f, t, K, pn, pf, pt⟩, im, sl, N, b, tr⟩ := σ
  have hC : cS P n f t K pn pf pt im sl N b tr hi τ := hCC
  have hM : mS P n f t K pn pf pt im sl N b tr hi τ := hMM
  refine l_a1 C dL_law_720 ?_
  refine l_cV C (c := 0) (as1 := []) (st := []) dL_law_721 cv_L_105 rfl rfl (by decide) (c_which (by decide) hC) (by decide) ?_
  rintro v h2 t2 ⟨rfl, q1, q2, q3⟩
  refine l_a2 C dL_law_724 ?_
  have hM2 : mS P n f t K pn pf pt im sl N b tr h2 t2 := MS.mv hMM q2 q1.hr q3
  refine l_cV C (c := 106) (as1 := []) (st := [.int _]) dL_law_725 cv_L_108 rfl rfl (by decide) (m_which (by decide) hM2) (Nat.le_of_ble_eq_true rfl) ?_
  rintro v h3 t3 ⟨rfl, r1, r2, r3, r4⟩
  refine l_eq C (tgt := 862) dL_law_728 (by decide) ?_
  exact KK _ h3 t3 (q1.mv r2 r3 r4) r1
set_option maxHeartbeats 2000000 in
theorem arm_23 (C : LC p s m meth c0 D cI cR bS L xs) (hi3 : i + 3 < L) (hCC : CS σ hi τ) (hMM : MS σ hi τ) (KK : ∀ (σ2 : ST) (h2 : mm_HI) (t2 : mm_T), CS σ2 h2 t2 → MS σ2 h2 t2 → LW p l e s m below meth c0 D cI cR bS 862 i [] h2 t2) : LW p l e s m below meth c0 D cI cR bS 733 i [] hi τ := by
  obtain ⟨P, ⟨n, f, t, K, pn, pf, pt⟩, im, sl, N, b, tr⟩ := σ
  have hC : cS P n f t K pn pf pt im sl N b tr hi τ := hCC
  have hM : mS P n f t K pn pf pt im sl N b tr hi τ := hMM
  refine l_a1 C dL_law_733 ?_
  refine l_cV C (c := 0) (as1 := []) (st := []) dL_law_734 cv_L_109 rfl rfl (by decide) (c_look (by decide) hC) (by decide) ?_
  rintro v h2 t2 ⟨rfl, q1, q2, q3⟩
  refine l_a2 C dL_law_737 ?_
  have hM2 : mS P n f t K pn pf pt im sl N b tr h2 t2 := MS.mv hMM q2 q1.hr q3
  refine l_cV C (c := 106) (as1 := []) (st := [.int _]) dL_law_738 cv_L_112 rfl rfl (by decide) (m_look (by decide) hM2) (Nat.le_of_ble_eq_true rfl) ?_
  rintro v h3 t3 ⟨rfl, r1, r2, r3, r4⟩
  refine l_eq C (tgt := 862) dL_law_741 (by decide) ?_
  exact KK _ h3 t3 (q1.mv r2 r3 r4) r1
set_option maxHeartbeats 2000000 in
theorem arm_24 (C : LC p s m meth c0 D cI cR bS L xs) (hi3 : i + 3 < L) (hCC : CS σ hi τ) (hMM : MS σ hi τ) (KK : ∀ (σ2 : ST) (h2 : mm_HI) (t2 : mm_T), CS σ2 h2 t2 → MS σ2 h2 t2 → LW p l e s m below meth c0 D cI cR bS 862 i [] h2 t2) : LW p l e s m below meth c0 D cI cR bS 746 i [] hi τ := by
  obtain ⟨P, ⟨n, f, t, K, pn, pf, pt⟩, im, sl, N, b, tr⟩ := σ
  have hC : cS P n f t K pn pf pt im sl N b tr hi τ := hCC
  have hM : mS P n f t K pn pf pt im sl N b tr hi τ := hMM
  refine l_a1 C dL_law_746 ?_
  refine l_scr C (k := 1) dL_law_747 dL_law_748 dL_law_749 dL_law_750 dL_law_751 (by decide) (by omega) ?_
  refine l_scr C (k := 2) dL_law_752 dL_law_753 dL_law_754 dL_law_755 dL_law_756 (by decide) (by omega) ?_
  refine l_cV C (c := 0) (as1 := [.int (xs (i + 1)), .int (xs (i + 2))]) (st := []) dL_law_757 cv_L_113 rfl rfl (by decide) (c_mark (by decide) hC) (by decide) ?_
  rintro v h2 t2 ⟨rfl, q1, q2, q3⟩
  refine l_a2 C dL_law_760 ?_
  refine l_scr C (k := 1) dL_law_761 dL_law_762 dL_law_763 dL_law_764 dL_law_765 (by decide) (by omega) ?_
  refine l_scr C (k := 2) dL_law_766 dL_law_767 dL_law_768 dL_law_769 dL_law_770 (by decide) (by omega) ?_
  have hM2 : mS P n f t K pn pf pt im sl N b tr h2 t2 := MS.mv hMM q2 q1.hr q3
  refine l_cV C (c := 106) (as1 := [.int (xs (i + 1)), .int (xs (i + 2))]) (st := [.int _]) dL_law_771 cv_L_116 rfl rfl (by decide) (m_mark (by decide) hM2) (Nat.le_of_ble_eq_true rfl) ?_
  rintro v h3 t3 ⟨rfl, r1, r2, r3, r4⟩
  refine l_eq C (tgt := 862) dL_law_774 (by decide) ?_
  exact KK _ h3 t3 (q1.mv r2 r3 r4) r1
set_option maxHeartbeats 2000000 in
theorem arm_25 (C : LC p s m meth c0 D cI cR bS L xs) (hi3 : i + 3 < L) (hCC : CS σ hi τ) (hMM : MS σ hi τ) (KK : ∀ (σ2 : ST) (h2 : mm_HI) (t2 : mm_T), CS σ2 h2 t2 → MS σ2 h2 t2 → LW p l e s m below meth c0 D cI cR bS 862 i [] h2 t2) : LW p l e s m below meth c0 D cI cR bS 779 i [] hi τ := by
  obtain ⟨P, ⟨n, f, t, K, pn, pf, pt⟩, im, sl, N, b, tr⟩ := σ
  have hC : cS P n f t K pn pf pt im sl N b tr hi τ := hCC
  have hM : mS P n f t K pn pf pt im sl N b tr hi τ := hMM
  refine l_a1 C dL_law_779 ?_
  refine l_scr C (k := 1) dL_law_780 dL_law_781 dL_law_782 dL_law_783 dL_law_784 (by decide) (by omega) ?_
  refine l_cV C (c := 0) (as1 := [.int (xs (i + 1))]) (st := []) dL_law_785 cv_L_117 rfl rfl (by decide) (c_keep (by decide) hC) (by decide) ?_
  rintro v h2 t2 ⟨rfl, q1, q2, q3⟩
  refine l_a2 C dL_law_788 ?_
  refine l_scr C (k := 1) dL_law_789 dL_law_790 dL_law_791 dL_law_792 dL_law_793 (by decide) (by omega) ?_
  have hM2 : mS P n f t K pn pf pt im sl N b tr h2 t2 := MS.mv hMM q2 q1.hr q3
  refine l_cV C (c := 106) (as1 := [.int (xs (i + 1))]) (st := [.int _]) dL_law_794 cv_L_120 rfl rfl (by decide) (m_keep (by decide) hM2) (Nat.le_of_ble_eq_true rfl) ?_
  rintro v h3 t3 ⟨rfl, r1, r2, r3, r4⟩
  refine l_eq C (tgt := 862) dL_law_797 (by decide) ?_
  exact KK _ h3 t3 (q1.mv r2 r3 r4) r1
set_option maxHeartbeats 2000000 in
theorem arm_26 (C : LC p s m meth c0 D cI cR bS L xs) (hi3 : i + 3 < L) (hCC : CS σ hi τ) (hMM : MS σ hi τ) (KK : ∀ (σ2 : ST) (h2 : mm_HI) (t2 : mm_T), CS σ2 h2 t2 → MS σ2 h2 t2 → LW p l e s m below meth c0 D cI cR bS 862 i [] h2 t2) : LW p l e s m below meth c0 D cI cR bS 802 i [] hi τ := by
  obtain ⟨P, ⟨n, f, t, K, pn, pf, pt⟩, im, sl, N, b, tr⟩ := σ
  have hC : cS P n f t K pn pf pt im sl N b tr hi τ := hCC
  have hM : mS P n f t K pn pf pt im sl N b tr hi τ := hMM
  refine l_a1 C dL_law_802 ?_
  refine l_scr C (k := 1) dL_law_803 dL_law_804 dL_law_805 dL_law_806 dL_law_807 (by decide) (by omega) ?_
  refine l_cV C (c := 0) (as1 := [.int (xs (i + 1))]) (st := []) dL_law_808 cv_L_121 rfl rfl (by decide) (c_back (by decide) hC) (by decide) ?_
  rintro v h2 t2 ⟨rfl, q1, q2, q3⟩
  refine l_a2 C dL_law_811 ?_
  refine l_scr C (k := 1) dL_law_812 dL_law_813 dL_law_814 dL_law_815 dL_law_816 (by decide) (by omega) ?_
  have hM2 : mS P n f t K pn pf pt im sl N b tr h2 t2 := MS.mv hMM q2 q1.hr q3
  refine l_cV C (c := 106) (as1 := [.int (xs (i + 1))]) (st := [.int _]) dL_law_817 cv_L_124 rfl rfl (by decide) (m_back (by decide) hM2) (Nat.le_of_ble_eq_true rfl) ?_
  rintro v h3 t3 ⟨rfl, r1, r2, r3, r4⟩
  refine l_eq C (tgt := 862) dL_law_820 (by decide) ?_
  exact KK _ h3 t3 (q1.mv r2 r3 r4) r1
set_option maxHeartbeats 2000000 in
theorem arm_27 (C : LC p s m meth c0 D cI cR bS L xs) (hi3 : i + 3 < L) (hCC : CS σ hi τ) (hMM : MS σ hi τ) (KK : ∀ (σ2 : ST) (h2 : mm_HI) (t2 : mm_T), CS σ2 h2 t2 → MS σ2 h2 t2 → LW p l e s m below meth c0 D cI cR bS 862 i [] h2 t2) : LW p l e s m below meth c0 D cI cR bS 825 i [] hi τ := by
  obtain ⟨P, ⟨n, f, t, K, pn, pf, pt⟩, im, sl, N, b, tr⟩ := σ
  have hC : cS P n f t K pn pf pt im sl N b tr hi τ := hCC
  have hM : mS P n f t K pn pf pt im sl N b tr hi τ := hMM
  refine l_a1 C dL_law_825 ?_
  refine l_scr C (k := 1) dL_law_826 dL_law_827 dL_law_828 dL_law_829 dL_law_830 (by decide) (by omega) ?_
  refine l_cV C (c := 0) (as1 := [.int (xs (i + 1))]) (st := []) dL_law_831 cv_L_125 rfl rfl (by decide) (c_count (by decide) hC) (by decide) ?_
  rintro v h2 t2 ⟨rfl, q1, q2, q3⟩
  refine l_a2 C dL_law_834 ?_
  refine l_scr C (k := 1) dL_law_835 dL_law_836 dL_law_837 dL_law_838 dL_law_839 (by decide) (by omega) ?_
  have hM2 : mS P n f t K pn pf pt im sl N b tr h2 t2 := MS.mv hMM q2 q1.hr q3
  refine l_cV C (c := 106) (as1 := [.int (xs (i + 1))]) (st := [.int _]) dL_law_840 cv_L_128 rfl rfl (by decide) (m_count (by decide) hM2) (Nat.le_of_ble_eq_true rfl) ?_
  rintro v h3 t3 ⟨rfl, r1, r2, r3, r4⟩
  refine l_eq C (tgt := 862) dL_law_843 (by decide) ?_
  exact KK _ h3 t3 (q1.mv r2 r3 r4) r1
set_option maxHeartbeats 2000000 in
theorem arm_28 (C : LC p s m meth c0 D cI cR bS L xs) (hi3 : i + 3 < L) (hCC : CS σ hi τ) (hMM : MS σ hi τ) (KK : ∀ (σ2 : ST) (h2 : mm_HI) (t2 : mm_T), CS σ2 h2 t2 → MS σ2 h2 t2 → LW p l e s m below meth c0 D cI cR bS 862 i [] h2 t2) : LW p l e s m below meth c0 D cI cR bS 848 i [] hi τ := by
  obtain ⟨P, ⟨n, f, t, K, pn, pf, pt⟩, im, sl, N, b, tr⟩ := σ
  have hC : cS P n f t K pn pf pt im sl N b tr hi τ := hCC
  have hM : mS P n f t K pn pf pt im sl N b tr hi τ := hMM
  refine l_a1 C dL_law_848 ?_
  refine l_cV C (c := 0) (as1 := []) (st := []) dL_law_849 cv_L_129 rfl rfl (by decide) (c_trace (by decide) hC) (by decide) ?_
  rintro v h2 t2 ⟨rfl, rfl, rfl⟩
  refine l_a2 C dL_law_852 ?_
  refine l_cV C (c := 106) (as1 := []) (st := [.long _]) dL_law_853 cv_L_133 rfl rfl (by decide) (m_trace (by decide) hM) (Nat.le_of_ble_eq_true rfl) ?_
  rintro v h3 t3 ⟨rfl, rfl, rfl⟩
  refine l_leq C (tgt := 862) dL_law_856 dL_law_857 (by decide) ?_
  exact KK _ h3 t3 hCC hMM
end LA
