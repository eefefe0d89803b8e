/-! the law's cases, 0 -/
section LC
variable {p : Program} {l : Launch} {e : Env} {s : State} {m : MethodId} {b L : Nat} {below : List Frame} {meth : Method} {c : Code} {G : pw_G} {xs : Nat → Int32}
theorem lc_row (C : pw_F p s m #[Value.ref b] meth c cL_law 4 RL ret wsL_law G) (X : va_X b L xs s s.heap) (hbl : b < s.heap.size) (hbA : ¬ gA G b) (hL : L ≤ 3072) {i : Nat} (hi : i + 6 ≤ L) {μ : pw_Mem} (I : Iv μ) (kk : ∀ μ', Iv μ' → lq_Go p l e s m b below meth c G 1263 (lq_lv G b i) [] μ') : lq_Go p l e s m b below meth c G 188 (lq_lv G b i) [] μ := by
  obtain ⟨r, μ1, μ2, h1, h2, I2⟩ := q_row I (xs (i + 1)) (xs (i + 2)) (xs (i + 3))
  refine lq_aload_n C dL_law_188 rfl 2 rfl ?_
  refine lq_arg C X hbl hbA hL (i := i) (j := 1) (by omega) (by decide) 3 0 rfl rfl dL_law_189 dL_law_190 dL_law_191 dL_law_192 dL_law_193 ?_
  refine lq_arg C X hbl hbA hL (i := i) (j := 2) (by omega) (by decide) 3 0 rfl rfl dL_law_194 dL_law_195 dL_law_196 dL_law_197 dL_law_198 ?_
  refine lq_arg C X hbl hbA hL (i := i) (j := 3) (by omega) (by decide) 3 0 rfl rfl dL_law_199 dL_law_200 dL_law_201 dL_law_202 dL_law_203 ?_
  refine lq_call (As := [.int (xs (i + 1)), .int (xs (i + 2)), .int (xs (i + 3))]) (rest := []) C (by decide) (pw_sh_0 _) rfl (ct_X5_row l C.2.2.2.2.2.2.2.2 h1) (cwV 3 C.2.2.2.2.1 gL_law_X5_row rfl rfl rfl (by decide +kernel) ⟨Nat.le_of_ble_eq_true rfl, Nat.le_of_ble_eq_true rfl⟩) rfl rfl (Nat.le_of_ble_eq_true rfl) dL_law_204 ?_
  refine lq_aload_n C dL_law_207 rfl 1 rfl ?_
  refine lq_arg C X hbl hbA hL (i := i) (j := 1) (by omega) (by decide) 3 0 rfl rfl dL_law_208 dL_law_209 dL_law_210 dL_law_211 dL_law_212 ?_
  refine lq_arg C X hbl hbA hL (i := i) (j := 2) (by omega) (by decide) 3 0 rfl rfl dL_law_213 dL_law_214 dL_law_215 dL_law_216 dL_law_217 ?_
  refine lq_arg C X hbl hbA hL (i := i) (j := 3) (by omega) (by decide) 3 0 rfl rfl dL_law_218 dL_law_219 dL_law_220 dL_law_221 dL_law_222 ?_
  refine lq_call (As := [.int (xs (i + 1)), .int (xs (i + 2)), .int (xs (i + 3))]) (rest := [.int r]) C (by decide) (pw_sh_54 _) rfl (ct_X6_row l C.2.2.2.2.2.2.2.2 h2) (cwV 3 C.2.2.2.2.1 gL_law_X6_row rfl rfl rfl (by decide +kernel) ⟨Nat.le_of_ble_eq_true rfl, Nat.le_of_ble_eq_true rfl⟩) rfl rfl (Nat.le_of_ble_eq_true rfl) dL_law_223 ?_
  exact lq_cmp C dL_law_226 (by decide) (kk μ2 I2)
theorem lc_set (C : pw_F p s m #[Value.ref b] meth c cL_law 4 RL ret wsL_law G) (X : va_X b L xs s s.heap) (hbl : b < s.heap.size) (hbA : ¬ gA G b) (hL : L ≤ 3072) {i : Nat} (hi : i + 6 ≤ L) {μ : pw_Mem} (I : Iv μ) (kk : ∀ μ', Iv μ' → lq_Go p l e s m b below meth c G 1263 (lq_lv G b i) [] μ') : lq_Go p l e s m b below meth c G 231 (lq_lv G b i) [] μ := by
  obtain ⟨r, μ1, μ2, h1, h2, I2⟩ := q_set I (xs (i + 1)) (xs (i + 2)) (xs (i + 3))
  refine lq_aload_n C dL_law_231 rfl 2 rfl ?_
  refine lq_arg C X hbl hbA hL (i := i) (j := 1) (by omega) (by decide) 3 0 rfl rfl dL_law_232 dL_law_233 dL_law_234 dL_law_235 dL_law_236 ?_
  refine lq_arg C X hbl hbA hL (i := i) (j := 2) (by omega) (by decide) 3 0 rfl rfl dL_law_237 dL_law_238 dL_law_239 dL_law_240 dL_law_241 ?_
  refine lq_arg C X hbl hbA hL (i := i) (j := 3) (by omega) (by decide) 3 0 rfl rfl dL_law_242 dL_law_243 dL_law_244 dL_law_245 dL_law_246 ?_
  refine lq_call (As := [.int (xs (i + 1)), .int (xs (i + 2)), .int (xs (i + 3))]) (rest := []) C (by decide) (pw_sh_0 _) rfl (ct_X5_set l C.2.2.2.2.2.2.2.2 h1) (cwV 3 C.2.2.2.2.1 gL_law_X5_set rfl rfl rfl (by decide +kernel) ⟨Nat.le_of_ble_eq_true rfl, Nat.le_of_ble_eq_true rfl⟩) rfl rfl (Nat.le_of_ble_eq_true rfl) dL_law_247 ?_
  refine lq_aload_n C dL_law_250 rfl 1 rfl ?_
  refine lq_arg C X hbl hbA hL (i := i) (j := 1) (by omega) (by decide) 3 0 rfl rfl dL_law_251 dL_law_252 dL_law_253 dL_law_254 dL_law_255 ?_
  refine lq_arg C X hbl hbA hL (i := i) (j := 2) (by omega) (by decide) 3 0 rfl rfl dL_law_256 dL_law_257 dL_law_258 dL_law_259 dL_law_260 ?_
  refine lq_arg C X hbl hbA hL (i := i) (j := 3) (by omega) (by decide) 3 0 rfl rfl dL_law_261 dL_law_262 dL_law_263 dL_law_264 dL_law_265 ?_
  refine lq_call (As := [.int (xs (i + 1)), .int (xs (i + 2)), .int (xs (i + 3))]) (rest := [.int r]) C (by decide) (pw_sh_54 _) rfl (ct_X6_set l C.2.2.2.2.2.2.2.2 h2) (cwV 3 C.2.2.2.2.1 gL_law_X6_set rfl rfl rfl (by decide +kernel) ⟨Nat.le_of_ble_eq_true rfl, Nat.le_of_ble_eq_true rfl⟩) rfl rfl (Nat.le_of_ble_eq_true rfl) dL_law_266 ?_
  exact lq_cmp C dL_law_269 (by decide) (kk μ2 I2)
theorem lc_copy (C : pw_F p s m #[Value.ref b] meth c cL_law 4 RL ret wsL_law G) (X : va_X b L xs s s.heap) (hbl : b < s.heap.size) (hbA : ¬ gA G b) (hL : L ≤ 3072) {i : Nat} (hi : i + 6 ≤ L) {μ : pw_Mem} (I : Iv μ) (kk : ∀ μ', Iv μ' → lq_Go p l e s m b below meth c G 1263 (lq_lv G b i) [] μ') : lq_Go p l e s m b below meth c G 274 (lq_lv G b i) [] μ := by
  obtain ⟨r, μ1, μ2, h1, h2, I2⟩ := q_copy I (xs (i + 1)) (xs (i + 2)) (xs (i + 3)) (xs (i + 4)) (xs (i + 5))
  refine lq_aload_n C dL_law_274 rfl 2 rfl ?_
  refine lq_arg C X hbl hbA hL (i := i) (j := 1) (by omega) (by decide) 3 0 rfl rfl dL_law_275 dL_law_276 dL_law_277 dL_law_278 dL_law_279 ?_
  refine lq_arg C X hbl hbA hL (i := i) (j := 2) (by omega) (by decide) 3 0 rfl rfl dL_law_280 dL_law_281 dL_law_282 dL_law_283 dL_law_284 ?_
  refine lq_arg C X hbl hbA hL (i := i) (j := 3) (by omega) (by decide) 3 0 rfl rfl dL_law_285 dL_law_286 dL_law_287 dL_law_288 dL_law_289 ?_
  refine lq_arg C X hbl hbA hL (i := i) (j := 4) (by omega) (by decide) 3 0 rfl rfl dL_law_290 dL_law_291 dL_law_292 dL_law_293 dL_law_294 ?_
  refine lq_arg C X hbl hbA hL (i := i) (j := 5) (by omega) (by decide) 3 0 rfl rfl dL_law_295 dL_law_296 dL_law_297 dL_law_298 dL_law_299 ?_
  refine lq_call (As := [.int (xs (i + 1)), .int (xs (i + 2)), .int (xs (i + 3)), .int (xs (i + 4)), .int (xs (i + 5))]) (rest := []) C (by decide) (pw_sh_0 _) rfl (ct_X5_copy l C.2.2.2.2.2.2.2.2 h1) (cwV 5 C.2.2.2.2.1 gL_law_X5_copy rfl rfl rfl (by decide +kernel) ⟨Nat.le_of_ble_eq_true rfl, Nat.le_of_ble_eq_true rfl⟩) rfl rfl (Nat.le_of_ble_eq_true rfl) dL_law_300 ?_
  refine lq_aload_n C dL_law_303 rfl 1 rfl ?_
  refine lq_arg C X hbl hbA hL (i := i) (j := 1) (by omega) (by decide) 3 0 rfl rfl dL_law_304 dL_law_305 dL_law_306 dL_law_307 dL_law_308 ?_
  refine lq_arg C X hbl hbA hL (i := i) (j := 2) (by omega) (by decide) 3 0 rfl rfl dL_law_309 dL_law_310 dL_law_311 dL_law_312 dL_law_313 ?_
  refine lq_arg C X hbl hbA hL (i := i) (j := 3) (by omega) (by decide) 3 0 rfl rfl dL_law_314 dL_law_315 dL_law_316 dL_law_317 dL_law_318 ?_
  refine lq_arg C X hbl hbA hL (i := i) (j := 4) (by omega) (by decide) 3 0 rfl rfl dL_law_319 dL_law_320 dL_law_321 dL_law_322 dL_law_323 ?_
  refine lq_arg C X hbl hbA hL (i := i) (j := 5) (by omega) (by decide) 3 0 rfl rfl dL_law_324 dL_law_325 dL_law_326 dL_law_327 dL_law_328 ?_
  refine lq_call (As := [.int (xs (i + 1)), .int (xs (i + 2)), .int (xs (i + 3)), .int (xs (i + 4)), .int (xs (i + 5))]) (rest := [.int r]) C (by decide) (pw_sh_54 _) rfl (ct_X6_copy l C.2.2.2.2.2.2.2.2 h2) (cwV 5 C.2.2.2.2.1 gL_law_X6_copy rfl rfl rfl (by decide +kernel) ⟨Nat.le_of_ble_eq_true rfl, Nat.le_of_ble_eq_true rfl⟩) rfl rfl (Nat.le_of_ble_eq_true rfl) dL_law_329 ?_
  exact lq_cmp C dL_law_332 (by decide) (kk μ2 I2)
theorem lc_drop (C : pw_F p s m #[Value.ref b] meth c cL_law 4 RL ret wsL_law G) (X : va_X b L xs s s.heap) (hbl : b < s.heap.size) (hbA : ¬ gA G b) (hL : L ≤ 3072) {i : Nat} (hi : i + 6 ≤ L) {μ : pw_Mem} (I : Iv μ) (kk : ∀ μ', Iv μ' → lq_Go p l e s m b below meth c G 1263 (lq_lv G b i) [] μ') : lq_Go p l e s m b below meth c G 337 (lq_lv G b i) [] μ := by
  obtain ⟨r, μ1, μ2, h1, h2, I2⟩ := q_drop I (xs (i + 1))
  refine lq_aload_n C dL_law_337 rfl 2 rfl ?_
  refine lq_arg C X hbl hbA hL (i := i) (j := 1) (by omega) (by decide) 3 0 rfl rfl dL_law_338 dL_law_339 dL_law_340 dL_law_341 dL_law_342 ?_
  refine lq_call (As := [.int (xs (i + 1))]) (rest := []) C (by decide) (pw_sh_0 _) rfl (ct_X5_drop l C.2.2.2.2.2.2.2.2 h1) (cwV 1 C.2.2.2.2.1 gL_law_X5_drop rfl rfl rfl (by decide +kernel) ⟨Nat.le_of_ble_eq_true rfl, Nat.le_of_ble_eq_true rfl⟩) rfl rfl (Nat.le_of_ble_eq_true rfl) dL_law_343 ?_
  refine lq_aload_n C dL_law_346 rfl 1 rfl ?_
  refine lq_arg C X hbl hbA hL (i := i) (j := 1) (by omega) (by decide) 3 0 rfl rfl dL_law_347 dL_law_348 dL_law_349 dL_law_350 dL_law_351 ?_
  refine lq_call (As := [.int (xs (i + 1))]) (rest := [.int r]) C (by decide) (pw_sh_54 _) rfl (ct_X6_drop l C.2.2.2.2.2.2.2.2 h2) (cwV 1 C.2.2.2.2.1 gL_law_X6_drop rfl rfl rfl (by decide +kernel) ⟨Nat.le_of_ble_eq_true rfl, Nat.le_of_ble_eq_true rfl⟩) rfl rfl (Nat.le_of_ble_eq_true rfl) dL_law_352 ?_
  exact lq_cmp C dL_law_355 (by decide) (kk μ2 I2)
theorem lc_feed (C : pw_F p s m #[Value.ref b] meth c cL_law 4 RL ret wsL_law G) (X : va_X b L xs s s.heap) (hbl : b < s.heap.size) (hbA : ¬ gA G b) (hL : L ≤ 3072) {i : Nat} (hi : i + 6 ≤ L) {μ : pw_Mem} (I : Iv μ) (kk : ∀ μ', Iv μ' → lq_Go p l e s m b below meth c G 1263 (lq_lv G b i) [] μ') : lq_Go p l e s m b below meth c G 360 (lq_lv G b i) [] μ := by
  obtain ⟨r, μ1, μ2, h1, h2, I2⟩ := q_feed I (xs (i + 1))
  refine lq_aload_n C dL_law_360 rfl 2 rfl ?_
  refine lq_arg C X hbl hbA hL (i := i) (j := 1) (by omega) (by decide) 3 0 rfl rfl dL_law_361 dL_law_362 dL_law_363 dL_law_364 dL_law_365 ?_
  refine lq_call (As := [.int (xs (i + 1))]) (rest := []) C (by decide) (pw_sh_0 _) rfl (ct_X5_feed l C.2.2.2.2.2.2.2.2 h1) (cwV 1 C.2.2.2.2.1 gL_law_X5_feed rfl rfl rfl (by decide +kernel) ⟨Nat.le_of_ble_eq_true rfl, Nat.le_of_ble_eq_true rfl⟩) rfl rfl (Nat.le_of_ble_eq_true rfl) dL_law_366 ?_
  refine lq_aload_n C dL_law_369 rfl 1 rfl ?_
  refine lq_arg C X hbl hbA hL (i := i) (j := 1) (by omega) (by decide) 3 0 rfl rfl dL_law_370 dL_law_371 dL_law_372 dL_law_373 dL_law_374 ?_
  refine lq_call (As := [.int (xs (i + 1))]) (rest := [.int r]) C (by decide) (pw_sh_54 _) rfl (ct_X6_feed l C.2.2.2.2.2.2.2.2 h2) (cwV 1 C.2.2.2.2.1 gL_law_X6_feed rfl rfl rfl (by decide +kernel) ⟨Nat.le_of_ble_eq_true rfl, Nat.le_of_ble_eq_true rfl⟩) rfl rfl (Nat.le_of_ble_eq_true rfl) dL_law_375 ?_
  exact lq_cmp C dL_law_378 (by decide) (kk μ2 I2)
theorem lc_road (C : pw_F p s m #[Value.ref b] meth c cL_law 4 RL ret wsL_law G) (X : va_X b L xs s s.heap) (hbl : b < s.heap.size) (hbA : ¬ gA G b) (hL : L ≤ 3072) {i : Nat} (hi : i + 6 ≤ L) {μ : pw_Mem} (I : Iv μ) (kk : ∀ μ', Iv μ' → lq_Go p l e s m b below meth c G 1263 (lq_lv G b i) [] μ') : lq_Go p l e s m b below meth c G 383 (lq_lv G b i) [] μ := by
  obtain ⟨r, μ1, μ2, h1, h2, I2⟩ := q_road I 
  refine lq_aload_n C dL_law_383 rfl 2 rfl ?_
  refine lq_call (As := []) (rest := []) C (by decide) (pw_sh_0 _) rfl (ct_X5_road l C.2.2.2.2.2.2.2.2 h1) (cwV 0 C.2.2.2.2.1 gL_law_X5_road rfl rfl rfl (by decide +kernel) ⟨Nat.le_of_ble_eq_true rfl, Nat.le_of_ble_eq_true rfl⟩) rfl rfl (Nat.le_of_ble_eq_true rfl) dL_law_384 ?_
  refine lq_aload_n C dL_law_387 rfl 1 rfl ?_
  refine lq_call (As := []) (rest := [.int r]) C (by decide) (pw_sh_54 _) rfl (ct_X6_road l C.2.2.2.2.2.2.2.2 h2) (cwV 0 C.2.2.2.2.1 gL_law_X6_road rfl rfl rfl (by decide +kernel) ⟨Nat.le_of_ble_eq_true rfl, Nat.le_of_ble_eq_true rfl⟩) rfl rfl (Nat.le_of_ble_eq_true rfl) dL_law_388 ?_
  exact lq_cmp C dL_law_391 (by decide) (kk μ2 I2)
theorem lc_fault (C : pw_F p s m #[Value.ref b] meth c cL_law 4 RL ret wsL_law G) (X : va_X b L xs s s.heap) (hbl : b < s.heap.size) (hbA : ¬ gA G b) (hL : L ≤ 3072) {i : Nat} (hi : i + 6 ≤ L) {μ : pw_Mem} (I : Iv μ) (kk : ∀ μ', Iv μ' → lq_Go p l e s m b below meth c G 1263 (lq_lv G b i) [] μ') : lq_Go p l e s m b below meth c G 396 (lq_lv G b i) [] μ := by
  obtain ⟨r, μ1, μ2, h1, h2, I2⟩ := q_fault I 
  refine lq_aload_n C dL_law_396 rfl 2 rfl ?_
  refine lq_call (As := []) (rest := []) C (by decide) (pw_sh_0 _) rfl (ct_X5_fault l C.2.2.2.2.2.2.2.2 h1) (cwV 0 C.2.2.2.2.1 gL_law_X5_fault rfl rfl rfl (by decide +kernel) ⟨Nat.le_of_ble_eq_true rfl, Nat.le_of_ble_eq_true rfl⟩) rfl rfl (Nat.le_of_ble_eq_true rfl) dL_law_397 ?_
  refine lq_aload_n C dL_law_400 rfl 1 rfl ?_
  refine lq_call (As := []) (rest := [.int r]) C (by decide) (pw_sh_54 _) rfl (ct_X6_fault l C.2.2.2.2.2.2.2.2 h2) (cwV 0 C.2.2.2.2.1 gL_law_X6_fault rfl rfl rfl (by decide +kernel) ⟨Nat.le_of_ble_eq_true rfl, Nat.le_of_ble_eq_true rfl⟩) rfl rfl (Nat.le_of_ble_eq_true rfl) dL_law_401 ?_
  exact lq_cmp C dL_law_404 (by decide) (kk μ2 I2)
theorem lc_hours (C : pw_F p s m #[Value.ref b] meth c cL_law 4 RL ret wsL_law G) (X : va_X b L xs s s.heap) (hbl : b < s.heap.size) (hbA : ¬ gA G b) (hL : L ≤ 3072) {i : Nat} (hi : i + 6 ≤ L) {μ : pw_Mem} (I : Iv μ) (kk : ∀ μ', Iv μ' → lq_Go p l e s m b below meth c G 1263 (lq_lv G b i) [] μ') : lq_Go p l e s m b below meth c G 409 (lq_lv G b i) [] μ := by
  obtain ⟨r, μ1, μ2, h1, h2, I2⟩ := q_hours I (xs (i + 1))
  refine lq_aload_n C dL_law_409 rfl 2 rfl ?_
  refine lq_arg C X hbl hbA hL (i := i) (j := 1) (by omega) (by decide) 3 0 rfl rfl dL_law_410 dL_law_411 dL_law_412 dL_law_413 dL_law_414 ?_
  refine lq_call (As := [.int (xs (i + 1))]) (rest := []) C (by decide) (pw_sh_0 _) rfl (ct_X5_hours l C.2.2.2.2.2.2.2.2 h1) (cwV 1 C.2.2.2.2.1 gL_law_X5_hours rfl rfl rfl (by decide +kernel) ⟨Nat.le_of_ble_eq_true rfl, Nat.le_of_ble_eq_true rfl⟩) rfl rfl (Nat.le_of_ble_eq_true rfl) dL_law_415 ?_
  refine lq_aload_n C dL_law_418 rfl 1 rfl ?_
  refine lq_arg C X hbl hbA hL (i := i) (j := 1) (by omega) (by decide) 3 0 rfl rfl dL_law_419 dL_law_420 dL_law_421 dL_law_422 dL_law_423 ?_
  refine lq_call (As := [.int (xs (i + 1))]) (rest := [.int r]) C (by decide) (pw_sh_54 _) rfl (ct_X6_hours l C.2.2.2.2.2.2.2.2 h2) (cwV 1 C.2.2.2.2.1 gL_law_X6_hours rfl rfl rfl (by decide +kernel) ⟨Nat.le_of_ble_eq_true rfl, Nat.le_of_ble_eq_true rfl⟩) rfl rfl (Nat.le_of_ble_eq_true rfl) dL_law_424 ?_
  exact lq_cmp C dL_law_427 (by decide) (kk μ2 I2)
theorem lc_put (C : pw_F p s m #[Value.ref b] meth c cL_law 4 RL ret wsL_law G) (X : va_X b L xs s s.heap) (hbl : b < s.heap.size) (hbA : ¬ gA G b) (hL : L ≤ 3072) {i : Nat} (hi : i + 6 ≤ L) {μ : pw_Mem} (I : Iv μ) (kk : ∀ μ', Iv μ' → lq_Go p l e s m b below meth c G 1263 (lq_lv G b i) [] μ') : lq_Go p l e s m b below meth c G 432 (lq_lv G b i) [] μ := by
  obtain ⟨r, μ1, μ2, h1, h2, I2⟩ := q_put I (xs (i + 1)) (xs (i + 2))
  refine lq_aload_n C dL_law_432 rfl 2 rfl ?_
  refine lq_arg C X hbl hbA hL (i := i) (j := 1) (by omega) (by decide) 3 0 rfl rfl dL_law_433 dL_law_434 dL_law_435 dL_law_436 dL_law_437 ?_
  refine lq_arg C X hbl hbA hL (i := i) (j := 2) (by omega) (by decide) 3 0 rfl rfl dL_law_438 dL_law_439 dL_law_440 dL_law_441 dL_law_442 ?_
  refine lq_call (As := [.int (xs (i + 1)), .int (xs (i + 2))]) (rest := []) C (by decide) (pw_sh_0 _) rfl (ct_X5_put l C.2.2.2.2.2.2.2.2 h1) (cwV 2 C.2.2.2.2.1 gL_law_X5_put rfl rfl rfl (by decide +kernel) ⟨Nat.le_of_ble_eq_true rfl, Nat.le_of_ble_eq_true rfl⟩) rfl rfl (Nat.le_of_ble_eq_true rfl) dL_law_443 ?_
  refine lq_aload_n C dL_law_446 rfl 1 rfl ?_
  refine lq_arg C X hbl hbA hL (i := i) (j := 1) (by omega) (by decide) 3 0 rfl rfl dL_law_447 dL_law_448 dL_law_449 dL_law_450 dL_law_451 ?_
  refine lq_arg C X hbl hbA hL (i := i) (j := 2) (by omega) (by decide) 3 0 rfl rfl dL_law_452 dL_law_453 dL_law_454 dL_law_455 dL_law_456 ?_
  refine lq_call (As := [.int (xs (i + 1)), .int (xs (i + 2))]) (rest := [.int r]) C (by decide) (pw_sh_54 _) rfl (ct_X6_put l C.2.2.2.2.2.2.2.2 h2) (cwV 2 C.2.2.2.2.1 gL_law_X6_put rfl rfl rfl (by decide +kernel) ⟨Nat.le_of_ble_eq_true rfl, Nat.le_of_ble_eq_true rfl⟩) rfl rfl (Nat.le_of_ble_eq_true rfl) dL_law_457 ?_
  exact lq_cmp C dL_law_460 (by decide) (kk μ2 I2)
theorem lc_skip (C : pw_F p s m #[Value.ref b] meth c cL_law 4 RL ret wsL_law G) (X : va_X b L xs s s.heap) (hbl : b < s.heap.size) (hbA : ¬ gA G b) (hL : L ≤ 3072) {i : Nat} (hi : i + 6 ≤ L) {μ : pw_Mem} (I : Iv μ) (kk : ∀ μ', Iv μ' → lq_Go p l e s m b below meth c G 1263 (lq_lv G b i) [] μ') : lq_Go p l e s m b below meth c G 465 (lq_lv G b i) [] μ := by
  obtain ⟨r, μ1, μ2, h1, h2, I2⟩ := q_skip I (xs (i + 1)) (xs (i + 2))
  refine lq_aload_n C dL_law_465 rfl 2 rfl ?_
  refine lq_arg C X hbl hbA hL (i := i) (j := 1) (by omega) (by decide) 3 0 rfl rfl dL_law_466 dL_law_467 dL_law_468 dL_law_469 dL_law_470 ?_
  refine lq_arg C X hbl hbA hL (i := i) (j := 2) (by omega) (by decide) 3 0 rfl rfl dL_law_471 dL_law_472 dL_law_473 dL_law_474 dL_law_475 ?_
  refine lq_call (As := [.int (xs (i + 1)), .int (xs (i + 2))]) (rest := []) C (by decide) (pw_sh_0 _) rfl (ct_X5_skip l C.2.2.2.2.2.2.2.2 h1) (cwV 2 C.2.2.2.2.1 gL_law_X5_skip rfl rfl rfl (by decide +kernel) ⟨Nat.le_of_ble_eq_true rfl, Nat.le_of_ble_eq_true rfl⟩) rfl rfl (Nat.le_of_ble_eq_true rfl) dL_law_476 ?_
  refine lq_aload_n C dL_law_479 rfl 1 rfl ?_
  refine lq_arg C X hbl hbA hL (i := i) (j := 1) (by omega) (by decide) 3 0 rfl rfl dL_law_480 dL_law_481 dL_law_482 dL_law_483 dL_law_484 ?_
  refine lq_arg C X hbl hbA hL (i := i) (j := 2) (by omega) (by decide) 3 0 rfl rfl dL_law_485 dL_law_486 dL_law_487 dL_law_488 dL_law_489 ?_
  refine lq_call (As := [.int (xs (i + 1)), .int (xs (i + 2))]) (rest := [.int r]) C (by decide) (pw_sh_54 _) rfl (ct_X6_skip l C.2.2.2.2.2.2.2.2 h2) (cwV 2 C.2.2.2.2.1 gL_law_X6_skip rfl rfl rfl (by decide +kernel) ⟨Nat.le_of_ble_eq_true rfl, Nat.le_of_ble_eq_true rfl⟩) rfl rfl (Nat.le_of_ble_eq_true rfl) dL_law_490 ?_
  exact lq_cmp C dL_law_493 (by decide) (kk μ2 I2)
theorem lc_forget (C : pw_F p s m #[Value.ref b] meth c cL_law 4 RL ret wsL_law G) (X : va_X b L xs s s.heap) (hbl : b < s.heap.size) (hbA : ¬ gA G b) (hL : L ≤ 3072) {i : Nat} (hi : i + 6 ≤ L) {μ : pw_Mem} (I : Iv μ) (kk : ∀ μ', Iv μ' → lq_Go p l e s m b below meth c G 1263 (lq_lv G b i) [] μ') : lq_Go p l e s m b below meth c G 498 (lq_lv G b i) [] μ := by
  obtain ⟨r, μ1, μ2, h1, h2, I2⟩ := q_forget I (xs (i + 1))
  refine lq_aload_n C dL_law_498 rfl 2 rfl ?_
  refine lq_arg C X hbl hbA hL (i := i) (j := 1) (by omega) (by decide) 3 0 rfl rfl dL_law_499 dL_law_500 dL_law_501 dL_law_502 dL_law_503 ?_
  refine lq_call (As := [.int (xs (i + 1))]) (rest := []) C (by decide) (pw_sh_0 _) rfl (ct_X5_forget l C.2.2.2.2.2.2.2.2 h1) (cwV 1 C.2.2.2.2.1 gL_law_X5_forget rfl rfl rfl (by decide +kernel) ⟨Nat.le_of_ble_eq_true rfl, Nat.le_of_ble_eq_true rfl⟩) rfl rfl (Nat.le_of_ble_eq_true rfl) dL_law_504 ?_
  refine lq_aload_n C dL_law_507 rfl 1 rfl ?_
  refine lq_arg C X hbl hbA hL (i := i) (j := 1) (by omega) (by decide) 3 0 rfl rfl dL_law_508 dL_law_509 dL_law_510 dL_law_511 dL_law_512 ?_
  refine lq_call (As := [.int (xs (i + 1))]) (rest := [.int r]) C (by decide) (pw_sh_54 _) rfl (ct_X6_forget l C.2.2.2.2.2.2.2.2 h2) (cwV 1 C.2.2.2.2.1 gL_law_X6_forget rfl rfl rfl (by decide +kernel) ⟨Nat.le_of_ble_eq_true rfl, Nat.le_of_ble_eq_true rfl⟩) rfl rfl (Nat.le_of_ble_eq_true rfl) dL_law_513 ?_
  exact lq_cmp C dL_law_516 (by decide) (kk μ2 I2)
theorem lc_undo (C : pw_F p s m #[Value.ref b] meth c cL_law 4 RL ret wsL_law G) (X : va_X b L xs s s.heap) (hbl : b < s.heap.size) (hbA : ¬ gA G b) (hL : L ≤ 3072) {i : Nat} (hi : i + 6 ≤ L) {μ : pw_Mem} (I : Iv μ) (kk : ∀ μ', Iv μ' → lq_Go p l e s m b below meth c G 1263 (lq_lv G b i) [] μ') : lq_Go p l e s m b below meth c G 521 (lq_lv G b i) [] μ := by
  obtain ⟨r, μ1, μ2, h1, h2, I2⟩ := q_undo I 
  refine lq_aload_n C dL_law_521 rfl 2 rfl ?_
  refine lq_call (As := []) (rest := []) C (by decide) (pw_sh_0 _) rfl (ct_X5_undo l C.2.2.2.2.2.2.2.2 h1) (cwV 0 C.2.2.2.2.1 gL_law_X5_undo rfl rfl rfl (by decide +kernel) ⟨Nat.le_of_ble_eq_true rfl, Nat.le_of_ble_eq_true rfl⟩) rfl rfl (Nat.le_of_ble_eq_true rfl) dL_law_522 ?_
  refine lq_aload_n C dL_law_525 rfl 1 rfl ?_
  refine lq_call (As := []) (rest := [.int r]) C (by decide) (pw_sh_54 _) rfl (ct_X6_undo l C.2.2.2.2.2.2.2.2 h2) (cwV 0 C.2.2.2.2.1 gL_law_X6_undo rfl rfl rfl (by decide +kernel) ⟨Nat.le_of_ble_eq_true rfl, Nat.le_of_ble_eq_true rfl⟩) rfl rfl (Nat.le_of_ble_eq_true rfl) dL_law_526 ?_
  exact lq_cmp C dL_law_529 (by decide) (kk μ2 I2)
end LC
