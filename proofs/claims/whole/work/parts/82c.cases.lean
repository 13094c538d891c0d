section LAW
variable {p : Program} {l : Launch} {e : Env} {s : State} {m : MethodId} {below : List Frame} {meth : Method} {c : Code} {H : Heap} {locs : List Loc} {cells slots : Nat} {Q : State → Prop}
variable {b L : Nat} {ls : Array Slot} {D : va_G} {k : Nat → ClassId} {xs : Nat → Int32} {x0 h0 og j : Nat} {X M : va_W} {th : Int32} {g : Nat → Int64}

theorem q_cover (C1 : LC p l s m meth c b L xs D k) (hR : Both k x0 h0 th X M) (hj : 3 * j + 3 ≤ L) (hP : va_P D vwCl ((X ++ oC k og g) ++ M) H) (hD : va_D (fun q => s.heap.size ≤ q) ((X ++ oC k og g) ++ M)) (hS : va_S (fun q => s.heap.size ≤ q) s.heap H locs) (hc1 : cells + 1 ≤ 601024) (hc2 : slots + 6 ≤ 7293034) (hl : lv_has ls 9 [(4, .int (nI (3 * j))), (3, .ref og), (2, .ref h0), (1, .ref x0), (0, .ref b)]) (kk : LK p l e s m below meth c b D k x0 h0 og j (cells + 1) (slots + 6) Q) : W p l e room_1 s m #[Value.ref b] below meth c H locs cells slots Q (F0 m 148 ls []) := by
  obtain ⟨hx, hb, hr, hml, hown, hts, hX, hbl, hlocks, hK, hN, hXP, hXZ, hL, hfl⟩ := id C1
  obtain ⟨X', M', code, r, hR', hW, hM⟩ := P_cover l hfl D k og hR (xs (3 * j + 1)) (xs (3 * j + 2))
  obtain ⟨fs, hM0⟩ := hR.m
  refine lv_aload_n hx hb dL_law_148 rfl (lv_at hl 3 rfl) ?_
  refine la_arg C1 hj (show 1 < 3 by omega) dL_law_149 dL_law_150 dL_law_152 (by decide) dL_law_153 dL_law_154 (lv_at hl 4 rfl) (lv_at hl 0 rfl) hS ?_
  refine la_arg C1 hj (show 2 < 3 by omega) dL_law_155 dL_law_156 dL_law_158 (by decide) dL_law_159 dL_law_160 (lv_at hl 4 rfl) (lv_at hl 0 rfl) hS ?_
  refine lv_aload_n hx hb dL_law_161 rfl (lv_at hl 1 rfl) ?_
  refine la_W (n := 4) C1 hW gL_law_L_cover rfl (by decide +kernel) (Nat.le_of_ble_eq_true rfl) dL_law_162 rfl rfl hl.1 hP hD hS hc1 hc2 (fun g' H locs hg hP hD hS => ?_)
  refine lv_istore (lv' := [(5, .int code), (4, .int (nI (3 * j))), (3, .ref og), (2, .ref h0), (1, .ref x0), (0, .ref b)]) hx hb dL_law_165 hl (by decide) rfl (fun ls hl => ?_)
  refine lv_aload_n hx hb dL_law_167 rfl (lv_at hl 3 rfl) ?_
  refine la_arg C1 hj (show 1 < 3 by omega) dL_law_168 dL_law_169 dL_law_171 (by decide) dL_law_172 dL_law_173 (lv_at hl 5 rfl) (lv_at hl 1 rfl) hS ?_
  refine la_arg C1 hj (show 2 < 3 by omega) dL_law_174 dL_law_175 dL_law_177 (by decide) dL_law_178 dL_law_179 (lv_at hl 5 rfl) (lv_at hl 1 rfl) hS ?_
  refine la_I (As := [.int (xs (3 * j + 1)), .int (xs (3 * j + 2))]) (rest := []) (n := 2) C1 hM hM0 (ci := 5) rfl gL_law_X5_cover rfl (by decide +kernel) (Nat.le_of_ble_eq_true rfl) dL_law_180 rfl rfl (Nat.le_of_ble_eq_true rfl) hl.1 (va_Psw hP) (va_Dsw hD) hS hc1 hc2 (fun H locs hP hD hS => ?_)
  exact la_tail C1 dL_law_183 dL_law_185 dL_law_186 dL_law_189 dL_law_191 dL_law_196 dL_law_198 dL_law_201 dL_law_202 dL_law_203 dL_law_204 dL_law_206 dL_law_207 dL_law_208 dL_law_213 (by decide) hR' hg (va_Psw hP) (va_Dsw hD) hS hc1 hc2 hl kk

theorem q_join (C1 : LC p l s m meth c b L xs D k) (hR : Both k x0 h0 th X M) (hj : 3 * j + 3 ≤ L) (hP : va_P D vwCl ((X ++ oC k og g) ++ M) H) (hD : va_D (fun q => s.heap.size ≤ q) ((X ++ oC k og g) ++ M)) (hS : va_S (fun q => s.heap.size ≤ q) s.heap H locs) (hc1 : cells + 1 ≤ 601024) (hc2 : slots + 6 ≤ 7293034) (hl : lv_has ls 9 [(4, .int (nI (3 * j))), (3, .ref og), (2, .ref h0), (1, .ref x0), (0, .ref b)]) (kk : LK p l e s m below meth c b D k x0 h0 og j (cells + 1) (slots + 6) Q) : W p l e room_1 s m #[Value.ref b] below meth c H locs cells slots Q (F0 m 216 ls []) := by
  obtain ⟨hx, hb, hr, hml, hown, hts, hX, hbl, hlocks, hK, hN, hXP, hXZ, hL, hfl⟩ := id C1
  obtain ⟨X', M', code, r, hR', hW, hM⟩ := P_join l hfl D k og hR (xs (3 * j + 1)) (xs (3 * j + 2))
  obtain ⟨fs, hM0⟩ := hR.m
  refine lv_aload_n hx hb dL_law_216 rfl (lv_at hl 3 rfl) ?_
  refine la_arg C1 hj (show 1 < 3 by omega) dL_law_217 dL_law_218 dL_law_220 (by decide) dL_law_221 dL_law_222 (lv_at hl 4 rfl) (lv_at hl 0 rfl) hS ?_
  refine la_arg C1 hj (show 2 < 3 by omega) dL_law_223 dL_law_224 dL_law_226 (by decide) dL_law_227 dL_law_228 (lv_at hl 4 rfl) (lv_at hl 0 rfl) hS ?_
  refine lv_aload_n hx hb dL_law_229 rfl (lv_at hl 1 rfl) ?_
  refine la_W (n := 4) C1 hW gL_law_L_join rfl (by decide +kernel) (Nat.le_of_ble_eq_true rfl) dL_law_230 rfl rfl hl.1 hP hD hS hc1 hc2 (fun g' H locs hg hP hD hS => ?_)
  refine lv_istore (lv' := [(5, .int code), (4, .int (nI (3 * j))), (3, .ref og), (2, .ref h0), (1, .ref x0), (0, .ref b)]) hx hb dL_law_233 hl (by decide) rfl (fun ls hl => ?_)
  refine lv_aload_n hx hb dL_law_235 rfl (lv_at hl 3 rfl) ?_
  refine la_arg C1 hj (show 1 < 3 by omega) dL_law_236 dL_law_237 dL_law_239 (by decide) dL_law_240 dL_law_241 (lv_at hl 5 rfl) (lv_at hl 1 rfl) hS ?_
  refine la_arg C1 hj (show 2 < 3 by omega) dL_law_242 dL_law_243 dL_law_245 (by decide) dL_law_246 dL_law_247 (lv_at hl 5 rfl) (lv_at hl 1 rfl) hS ?_
  refine la_I (As := [.int (xs (3 * j + 1)), .int (xs (3 * j + 2))]) (rest := []) (n := 2) C1 hM hM0 (ci := 5) rfl gL_law_X5_join rfl (by decide +kernel) (Nat.le_of_ble_eq_true rfl) dL_law_248 rfl rfl (Nat.le_of_ble_eq_true rfl) hl.1 (va_Psw hP) (va_Dsw hD) hS hc1 hc2 (fun H locs hP hD hS => ?_)
  exact la_tail C1 dL_law_251 dL_law_253 dL_law_254 dL_law_257 dL_law_259 dL_law_264 dL_law_266 dL_law_269 dL_law_270 dL_law_271 dL_law_272 dL_law_274 dL_law_275 dL_law_276 dL_law_281 (by decide) hR' hg (va_Psw hP) (va_Dsw hD) hS hc1 hc2 hl kk

theorem q_mark (C1 : LC p l s m meth c b L xs D k) (hR : Both k x0 h0 th X M) (hj : 3 * j + 3 ≤ L) (hP : va_P D vwCl ((X ++ oC k og g) ++ M) H) (hD : va_D (fun q => s.heap.size ≤ q) ((X ++ oC k og g) ++ M)) (hS : va_S (fun q => s.heap.size ≤ q) s.heap H locs) (hc1 : cells + 1 ≤ 601024) (hc2 : slots + 6 ≤ 7293034) (hl : lv_has ls 9 [(4, .int (nI (3 * j))), (3, .ref og), (2, .ref h0), (1, .ref x0), (0, .ref b)]) (kk : LK p l e s m below meth c b D k x0 h0 og j (cells + 1) (slots + 6) Q) : W p l e room_1 s m #[Value.ref b] below meth c H locs cells slots Q (F0 m 284 ls []) := by
  obtain ⟨hx, hb, hr, hml, hown, hts, hX, hbl, hlocks, hK, hN, hXP, hXZ, hL, hfl⟩ := id C1
  obtain ⟨X', M', code, r, hR', hW, hM⟩ := P_mark l hfl D k og hR (xs (3 * j + 1)) (xs (3 * j + 2))
  obtain ⟨fs, hM0⟩ := hR.m
  refine lv_aload_n hx hb dL_law_284 rfl (lv_at hl 3 rfl) ?_
  refine la_arg C1 hj (show 1 < 3 by omega) dL_law_285 dL_law_286 dL_law_288 (by decide) dL_law_289 dL_law_290 (lv_at hl 4 rfl) (lv_at hl 0 rfl) hS ?_
  refine la_arg C1 hj (show 2 < 3 by omega) dL_law_291 dL_law_292 dL_law_294 (by decide) dL_law_295 dL_law_296 (lv_at hl 4 rfl) (lv_at hl 0 rfl) hS ?_
  refine lv_aload_n hx hb dL_law_297 rfl (lv_at hl 1 rfl) ?_
  refine la_W (n := 4) C1 hW gL_law_L_mark rfl (by decide +kernel) (Nat.le_of_ble_eq_true rfl) dL_law_298 rfl rfl hl.1 hP hD hS hc1 hc2 (fun g' H locs hg hP hD hS => ?_)
  refine lv_istore (lv' := [(5, .int code), (4, .int (nI (3 * j))), (3, .ref og), (2, .ref h0), (1, .ref x0), (0, .ref b)]) hx hb dL_law_301 hl (by decide) rfl (fun ls hl => ?_)
  refine lv_aload_n hx hb dL_law_303 rfl (lv_at hl 3 rfl) ?_
  refine la_arg C1 hj (show 1 < 3 by omega) dL_law_304 dL_law_305 dL_law_307 (by decide) dL_law_308 dL_law_309 (lv_at hl 5 rfl) (lv_at hl 1 rfl) hS ?_
  refine la_arg C1 hj (show 2 < 3 by omega) dL_law_310 dL_law_311 dL_law_313 (by decide) dL_law_314 dL_law_315 (lv_at hl 5 rfl) (lv_at hl 1 rfl) hS ?_
  refine la_I (As := [.int (xs (3 * j + 1)), .int (xs (3 * j + 2))]) (rest := []) (n := 2) C1 hM hM0 (ci := 5) rfl gL_law_X5_mark rfl (by decide +kernel) (Nat.le_of_ble_eq_true rfl) dL_law_316 rfl rfl (Nat.le_of_ble_eq_true rfl) hl.1 (va_Psw hP) (va_Dsw hD) hS hc1 hc2 (fun H locs hP hD hS => ?_)
  exact la_tail C1 dL_law_319 dL_law_321 dL_law_322 dL_law_325 dL_law_327 dL_law_332 dL_law_334 dL_law_337 dL_law_338 dL_law_339 dL_law_340 dL_law_342 dL_law_343 dL_law_344 dL_law_349 (by decide) hR' hg (va_Psw hP) (va_Dsw hD) hS hc1 hc2 hl kk

theorem q_bar (C1 : LC p l s m meth c b L xs D k) (hR : Both k x0 h0 th X M) (hj : 3 * j + 3 ≤ L) (hP : va_P D vwCl ((X ++ oC k og g) ++ M) H) (hD : va_D (fun q => s.heap.size ≤ q) ((X ++ oC k og g) ++ M)) (hS : va_S (fun q => s.heap.size ≤ q) s.heap H locs) (hc1 : cells + 1 ≤ 601024) (hc2 : slots + 6 ≤ 7293034) (hl : lv_has ls 9 [(4, .int (nI (3 * j))), (3, .ref og), (2, .ref h0), (1, .ref x0), (0, .ref b)]) (kk : LK p l e s m below meth c b D k x0 h0 og j (cells + 1) (slots + 6) Q) : W p l e room_1 s m #[Value.ref b] below meth c H locs cells slots Q (F0 m 352 ls []) := by
  obtain ⟨hx, hb, hr, hml, hown, hts, hX, hbl, hlocks, hK, hN, hXP, hXZ, hL, hfl⟩ := id C1
  obtain ⟨X', M', code, r, hR', hW, hM⟩ := P_bar l hfl D k og hR (xs (3 * j + 1)) (xs (3 * j + 2))
  obtain ⟨fs, hM0⟩ := hR.m
  refine lv_aload_n hx hb dL_law_352 rfl (lv_at hl 3 rfl) ?_
  refine la_arg C1 hj (show 1 < 3 by omega) dL_law_353 dL_law_354 dL_law_356 (by decide) dL_law_357 dL_law_358 (lv_at hl 4 rfl) (lv_at hl 0 rfl) hS ?_
  refine la_arg C1 hj (show 2 < 3 by omega) dL_law_359 dL_law_360 dL_law_362 (by decide) dL_law_363 dL_law_364 (lv_at hl 4 rfl) (lv_at hl 0 rfl) hS ?_
  refine lv_aload_n hx hb dL_law_365 rfl (lv_at hl 1 rfl) ?_
  refine la_W (n := 4) C1 hW gL_law_L_bar rfl (by decide +kernel) (Nat.le_of_ble_eq_true rfl) dL_law_366 rfl rfl hl.1 hP hD hS hc1 hc2 (fun g' H locs hg hP hD hS => ?_)
  refine lv_istore (lv' := [(5, .int code), (4, .int (nI (3 * j))), (3, .ref og), (2, .ref h0), (1, .ref x0), (0, .ref b)]) hx hb dL_law_369 hl (by decide) rfl (fun ls hl => ?_)
  refine lv_aload_n hx hb dL_law_371 rfl (lv_at hl 3 rfl) ?_
  refine la_arg C1 hj (show 1 < 3 by omega) dL_law_372 dL_law_373 dL_law_375 (by decide) dL_law_376 dL_law_377 (lv_at hl 5 rfl) (lv_at hl 1 rfl) hS ?_
  refine la_arg C1 hj (show 2 < 3 by omega) dL_law_378 dL_law_379 dL_law_381 (by decide) dL_law_382 dL_law_383 (lv_at hl 5 rfl) (lv_at hl 1 rfl) hS ?_
  refine la_I (As := [.int (xs (3 * j + 1)), .int (xs (3 * j + 2))]) (rest := []) (n := 2) C1 hM hM0 (ci := 5) rfl gL_law_X5_bar rfl (by decide +kernel) (Nat.le_of_ble_eq_true rfl) dL_law_384 rfl rfl (Nat.le_of_ble_eq_true rfl) hl.1 (va_Psw hP) (va_Dsw hD) hS hc1 hc2 (fun H locs hP hD hS => ?_)
  exact la_tail C1 dL_law_387 dL_law_389 dL_law_390 dL_law_393 dL_law_395 dL_law_400 dL_law_402 dL_law_405 dL_law_406 dL_law_407 dL_law_408 dL_law_410 dL_law_411 dL_law_412 dL_law_417 (by decide) hR' hg (va_Psw hP) (va_Dsw hD) hS hc1 hc2 hl kk

theorem q_append (C1 : LC p l s m meth c b L xs D k) (hR : Both k x0 h0 th X M) (hj : 3 * j + 3 ≤ L) (hP : va_P D vwCl ((X ++ oC k og g) ++ M) H) (hD : va_D (fun q => s.heap.size ≤ q) ((X ++ oC k og g) ++ M)) (hS : va_S (fun q => s.heap.size ≤ q) s.heap H locs) (hc1 : cells + 1 ≤ 601024) (hc2 : slots + 6 ≤ 7293034) (hl : lv_has ls 9 [(4, .int (nI (3 * j))), (3, .ref og), (2, .ref h0), (1, .ref x0), (0, .ref b)]) (kk : LK p l e s m below meth c b D k x0 h0 og j (cells + 1) (slots + 6) Q) : W p l e room_1 s m #[Value.ref b] below meth c H locs cells slots Q (F0 m 459 ls []) := by
  obtain ⟨hx, hb, hr, hml, hown, hts, hX, hbl, hlocks, hK, hN, hXP, hXZ, hL, hfl⟩ := id C1
  obtain ⟨X', M', code, r, hR', hW, hM⟩ := P_append l hfl D k og hR (xs (3 * j + 1))
  obtain ⟨fs, hM0⟩ := hR.m
  refine lv_aload_n hx hb dL_law_459 rfl (lv_at hl 3 rfl) ?_
  refine la_arg C1 hj (show 1 < 3 by omega) dL_law_460 dL_law_461 dL_law_463 (by decide) dL_law_464 dL_law_465 (lv_at hl 4 rfl) (lv_at hl 0 rfl) hS ?_
  refine lv_aload_n hx hb dL_law_466 rfl (lv_at hl 1 rfl) ?_
  refine la_W (n := 3) C1 hW gL_law_L_append rfl (by decide +kernel) (Nat.le_of_ble_eq_true rfl) dL_law_467 rfl rfl hl.1 hP hD hS hc1 hc2 (fun g' H locs hg hP hD hS => ?_)
  refine lv_istore (lv' := [(5, .int code), (4, .int (nI (3 * j))), (3, .ref og), (2, .ref h0), (1, .ref x0), (0, .ref b)]) hx hb dL_law_470 hl (by decide) rfl (fun ls hl => ?_)
  refine lv_aload_n hx hb dL_law_472 rfl (lv_at hl 3 rfl) ?_
  refine la_arg C1 hj (show 1 < 3 by omega) dL_law_473 dL_law_474 dL_law_476 (by decide) dL_law_477 dL_law_478 (lv_at hl 5 rfl) (lv_at hl 1 rfl) hS ?_
  refine la_I (As := [.int (xs (3 * j + 1))]) (rest := []) (n := 1) C1 hM hM0 (ci := 5) rfl gL_law_X5_append rfl (by decide +kernel) (Nat.le_of_ble_eq_true rfl) dL_law_479 rfl rfl (Nat.le_of_ble_eq_true rfl) hl.1 (va_Psw hP) (va_Dsw hD) hS hc1 hc2 (fun H locs hP hD hS => ?_)
  exact la_tail C1 dL_law_482 dL_law_484 dL_law_485 dL_law_488 dL_law_490 dL_law_495 dL_law_497 dL_law_500 dL_law_501 dL_law_502 dL_law_503 dL_law_505 dL_law_506 dL_law_507 dL_law_512 (by decide) hR' hg (va_Psw hP) (va_Dsw hD) hS hc1 hc2 hl kk

theorem q_load (C1 : LC p l s m meth c b L xs D k) (hR : Both k x0 h0 th X M) (hj : 3 * j + 3 ≤ L) (hP : va_P D vwCl ((X ++ oC k og g) ++ M) H) (hD : va_D (fun q => s.heap.size ≤ q) ((X ++ oC k og g) ++ M)) (hS : va_S (fun q => s.heap.size ≤ q) s.heap H locs) (hc1 : cells + 1 ≤ 601024) (hc2 : slots + 6 ≤ 7293034) (hl : lv_has ls 9 [(4, .int (nI (3 * j))), (3, .ref og), (2, .ref h0), (1, .ref x0), (0, .ref b)]) (kk : LK p l e s m below meth c b D k x0 h0 og j (cells + 1) (slots + 6) Q) : W p l e room_1 s m #[Value.ref b] below meth c H locs cells slots Q (F0 m 541 ls []) := by
  obtain ⟨hx, hb, hr, hml, hown, hts, hX, hbl, hlocks, hK, hN, hXP, hXZ, hL, hfl⟩ := id C1
  obtain ⟨X', M', code, r, hR', hW, hM⟩ := P_load l hfl D k og hR 
  obtain ⟨fs, hM0⟩ := hR.m
  refine lv_aload_n hx hb dL_law_541 rfl (lv_at hl 3 rfl) ?_
  refine lv_aload_n hx hb dL_law_542 rfl (lv_at hl 1 rfl) ?_
  refine la_W (n := 2) C1 hW gL_law_L_load rfl (by decide +kernel) (Nat.le_of_ble_eq_true rfl) dL_law_543 rfl rfl hl.1 hP hD hS hc1 hc2 (fun g' H locs hg hP hD hS => ?_)
  refine lv_istore (lv' := [(5, .int code), (4, .int (nI (3 * j))), (3, .ref og), (2, .ref h0), (1, .ref x0), (0, .ref b)]) hx hb dL_law_546 hl (by decide) rfl (fun ls hl => ?_)
  refine lv_aload_n hx hb dL_law_548 rfl (lv_at hl 3 rfl) ?_
  refine la_I (As := []) (rest := []) (n := 0) C1 hM hM0 (ci := 5) rfl gL_law_X5_load rfl (by decide +kernel) (Nat.le_of_ble_eq_true rfl) dL_law_549 rfl rfl (Nat.le_of_ble_eq_true rfl) hl.1 (va_Psw hP) (va_Dsw hD) hS hc1 hc2 (fun H locs hP hD hS => ?_)
  exact la_tail C1 dL_law_552 dL_law_554 dL_law_555 dL_law_558 dL_law_560 dL_law_565 dL_law_567 dL_law_570 dL_law_571 dL_law_572 dL_law_573 dL_law_575 dL_law_576 dL_law_577 dL_law_582 (by decide) hR' hg (va_Psw hP) (va_Dsw hD) hS hc1 hc2 hl kk

theorem q_keep (C1 : LC p l s m meth c b L xs D k) (hR : Both k x0 h0 th X M) (hj : 3 * j + 3 ≤ L) (hP : va_P D vwCl ((X ++ oC k og g) ++ M) H) (hD : va_D (fun q => s.heap.size ≤ q) ((X ++ oC k og g) ++ M)) (hS : va_S (fun q => s.heap.size ≤ q) s.heap H locs) (hc1 : cells + 1 ≤ 601024) (hc2 : slots + 6 ≤ 7293034) (hl : lv_has ls 9 [(4, .int (nI (3 * j))), (3, .ref og), (2, .ref h0), (1, .ref x0), (0, .ref b)]) (kk : LK p l e s m below meth c b D k x0 h0 og j (cells + 1) (slots + 6) Q) : W p l e room_1 s m #[Value.ref b] below meth c H locs cells slots Q (F0 m 585 ls []) := by
  obtain ⟨hx, hb, hr, hml, hown, hts, hX, hbl, hlocks, hK, hN, hXP, hXZ, hL, hfl⟩ := id C1
  obtain ⟨X', M', code, r, hR', hW, hM⟩ := P_keep l hfl D k og hR (xs (3 * j + 1))
  obtain ⟨fs, hM0⟩ := hR.m
  refine lv_aload_n hx hb dL_law_585 rfl (lv_at hl 3 rfl) ?_
  refine la_arg C1 hj (show 1 < 3 by omega) dL_law_586 dL_law_587 dL_law_589 (by decide) dL_law_590 dL_law_591 (lv_at hl 4 rfl) (lv_at hl 0 rfl) hS ?_
  refine lv_aload_n hx hb dL_law_592 rfl (lv_at hl 1 rfl) ?_
  refine la_W (n := 3) C1 hW gL_law_L_keep rfl (by decide +kernel) (Nat.le_of_ble_eq_true rfl) dL_law_593 rfl rfl hl.1 hP hD hS hc1 hc2 (fun g' H locs hg hP hD hS => ?_)
  refine lv_istore (lv' := [(5, .int code), (4, .int (nI (3 * j))), (3, .ref og), (2, .ref h0), (1, .ref x0), (0, .ref b)]) hx hb dL_law_596 hl (by decide) rfl (fun ls hl => ?_)
  refine lv_aload_n hx hb dL_law_598 rfl (lv_at hl 3 rfl) ?_
  refine la_arg C1 hj (show 1 < 3 by omega) dL_law_599 dL_law_600 dL_law_602 (by decide) dL_law_603 dL_law_604 (lv_at hl 5 rfl) (lv_at hl 1 rfl) hS ?_
  refine la_I (As := [.int (xs (3 * j + 1))]) (rest := []) (n := 1) C1 hM hM0 (ci := 5) rfl gL_law_X5_keep rfl (by decide +kernel) (Nat.le_of_ble_eq_true rfl) dL_law_605 rfl rfl (Nat.le_of_ble_eq_true rfl) hl.1 (va_Psw hP) (va_Dsw hD) hS hc1 hc2 (fun H locs hP hD hS => ?_)
  exact la_tail C1 dL_law_608 dL_law_610 dL_law_611 dL_law_614 dL_law_616 dL_law_621 dL_law_623 dL_law_626 dL_law_627 dL_law_628 dL_law_629 dL_law_631 dL_law_632 dL_law_633 dL_law_638 (by decide) hR' hg (va_Psw hP) (va_Dsw hD) hS hc1 hc2 hl kk

theorem q_goBack (C1 : LC p l s m meth c b L xs D k) (hR : Both k x0 h0 th X M) (hj : 3 * j + 3 ≤ L) (hP : va_P D vwCl ((X ++ oC k og g) ++ M) H) (hD : va_D (fun q => s.heap.size ≤ q) ((X ++ oC k og g) ++ M)) (hS : va_S (fun q => s.heap.size ≤ q) s.heap H locs) (hc1 : cells + 1 ≤ 601024) (hc2 : slots + 6 ≤ 7293034) (hl : lv_has ls 9 [(4, .int (nI (3 * j))), (3, .ref og), (2, .ref h0), (1, .ref x0), (0, .ref b)]) (kk : LK p l e s m below meth c b D k x0 h0 og j (cells + 1) (slots + 6) Q) : W p l e room_1 s m #[Value.ref b] below meth c H locs cells slots Q (F0 m 641 ls []) := by
  obtain ⟨hx, hb, hr, hml, hown, hts, hX, hbl, hlocks, hK, hN, hXP, hXZ, hL, hfl⟩ := id C1
  obtain ⟨X', M', code, r, hR', hW, hM⟩ := P_goBack l hfl D k og hR (xs (3 * j + 1))
  obtain ⟨fs, hM0⟩ := hR.m
  refine lv_aload_n hx hb dL_law_641 rfl (lv_at hl 3 rfl) ?_
  refine la_arg C1 hj (show 1 < 3 by omega) dL_law_642 dL_law_643 dL_law_645 (by decide) dL_law_646 dL_law_647 (lv_at hl 4 rfl) (lv_at hl 0 rfl) hS ?_
  refine lv_aload_n hx hb dL_law_648 rfl (lv_at hl 1 rfl) ?_
  refine la_W (n := 3) C1 hW gL_law_L_goBack rfl (by decide +kernel) (Nat.le_of_ble_eq_true rfl) dL_law_649 rfl rfl hl.1 hP hD hS hc1 hc2 (fun g' H locs hg hP hD hS => ?_)
  refine lv_istore (lv' := [(5, .int code), (4, .int (nI (3 * j))), (3, .ref og), (2, .ref h0), (1, .ref x0), (0, .ref b)]) hx hb dL_law_652 hl (by decide) rfl (fun ls hl => ?_)
  refine lv_aload_n hx hb dL_law_654 rfl (lv_at hl 3 rfl) ?_
  refine la_arg C1 hj (show 1 < 3 by omega) dL_law_655 dL_law_656 dL_law_658 (by decide) dL_law_659 dL_law_660 (lv_at hl 5 rfl) (lv_at hl 1 rfl) hS ?_
  refine la_I (As := [.int (xs (3 * j + 1))]) (rest := []) (n := 1) C1 hM hM0 (ci := 5) rfl gL_law_X5_goBack rfl (by decide +kernel) (Nat.le_of_ble_eq_true rfl) dL_law_661 rfl rfl (Nat.le_of_ble_eq_true rfl) hl.1 (va_Psw hP) (va_Dsw hD) hS hc1 hc2 (fun H locs hP hD hS => ?_)
  exact la_tail C1 dL_law_664 dL_law_666 dL_law_667 dL_law_670 dL_law_672 dL_law_677 dL_law_679 dL_law_682 dL_law_683 dL_law_684 dL_law_685 dL_law_687 dL_law_688 dL_law_689 dL_law_694 (by decide) hR' hg (va_Psw hP) (va_Dsw hD) hS hc1 hc2 hl kk

theorem q_undo (C1 : LC p l s m meth c b L xs D k) (hR : Both k x0 h0 th X M) (hj : 3 * j + 3 ≤ L) (hP : va_P D vwCl ((X ++ oC k og g) ++ M) H) (hD : va_D (fun q => s.heap.size ≤ q) ((X ++ oC k og g) ++ M)) (hS : va_S (fun q => s.heap.size ≤ q) s.heap H locs) (hc1 : cells + 1 ≤ 601024) (hc2 : slots + 6 ≤ 7293034) (hl : lv_has ls 9 [(4, .int (nI (3 * j))), (3, .ref og), (2, .ref h0), (1, .ref x0), (0, .ref b)]) (kk : LK p l e s m below meth c b D k x0 h0 og j (cells + 1) (slots + 6) Q) : W p l e room_1 s m #[Value.ref b] below meth c H locs cells slots Q (F0 m 697 ls []) := by
  obtain ⟨hx, hb, hr, hml, hown, hts, hX, hbl, hlocks, hK, hN, hXP, hXZ, hL, hfl⟩ := id C1
  obtain ⟨X', M', code, r, hR', hW, hM⟩ := P_undo l hfl D k og hR 
  obtain ⟨fs, hM0⟩ := hR.m
  refine lv_aload_n hx hb dL_law_697 rfl (lv_at hl 3 rfl) ?_
  refine lv_aload_n hx hb dL_law_698 rfl (lv_at hl 1 rfl) ?_
  refine la_W (n := 2) C1 hW gL_law_L_undo rfl (by decide +kernel) (Nat.le_of_ble_eq_true rfl) dL_law_699 rfl rfl hl.1 hP hD hS hc1 hc2 (fun g' H locs hg hP hD hS => ?_)
  refine lv_istore (lv' := [(5, .int code), (4, .int (nI (3 * j))), (3, .ref og), (2, .ref h0), (1, .ref x0), (0, .ref b)]) hx hb dL_law_702 hl (by decide) rfl (fun ls hl => ?_)
  refine lv_aload_n hx hb dL_law_704 rfl (lv_at hl 3 rfl) ?_
  refine la_I (As := []) (rest := []) (n := 0) C1 hM hM0 (ci := 5) rfl gL_law_X5_undo rfl (by decide +kernel) (Nat.le_of_ble_eq_true rfl) dL_law_705 rfl rfl (Nat.le_of_ble_eq_true rfl) hl.1 (va_Psw hP) (va_Dsw hD) hS hc1 hc2 (fun H locs hP hD hS => ?_)
  exact la_tail C1 dL_law_708 dL_law_710 dL_law_711 dL_law_714 dL_law_716 dL_law_721 dL_law_723 dL_law_726 dL_law_727 dL_law_728 dL_law_729 dL_law_731 dL_law_732 dL_law_733 dL_law_738 (by decide) hR' hg (va_Psw hP) (va_Dsw hD) hS hc1 hc2 hl kk

theorem q_pieceOf (C1 : LC p l s m meth c b L xs D k) (hR : Both k x0 h0 th X M) (hj : 3 * j + 3 ≤ L) (hP : va_P D vwCl ((X ++ oC k og g) ++ M) H) (hD : va_D (fun q => s.heap.size ≤ q) ((X ++ oC k og g) ++ M)) (hS : va_S (fun q => s.heap.size ≤ q) s.heap H locs) (hc1 : cells + 1 ≤ 601024) (hc2 : slots + 6 ≤ 7293034) (hl : lv_has ls 9 [(4, .int (nI (3 * j))), (3, .ref og), (2, .ref h0), (1, .ref x0), (0, .ref b)]) (kk : LK p l e s m below meth c b D k x0 h0 og j (cells + 1) (slots + 6) Q) : W p l e room_1 s m #[Value.ref b] below meth c H locs cells slots Q (F0 m 741 ls []) := by
  obtain ⟨hx, hb, hr, hml, hown, hts, hX, hbl, hlocks, hK, hN, hXP, hXZ, hL, hfl⟩ := id C1
  obtain ⟨X', M', code, r, hR', hW, hM⟩ := P_pieceOf l hfl D k og hR (xs (3 * j + 1)) (xs (3 * j + 2))
  obtain ⟨fs, hM0⟩ := hR.m
  refine lv_aload_n hx hb dL_law_741 rfl (lv_at hl 3 rfl) ?_
  refine la_arg C1 hj (show 1 < 3 by omega) dL_law_742 dL_law_743 dL_law_745 (by decide) dL_law_746 dL_law_747 (lv_at hl 4 rfl) (lv_at hl 0 rfl) hS ?_
  refine la_arg C1 hj (show 2 < 3 by omega) dL_law_748 dL_law_749 dL_law_751 (by decide) dL_law_752 dL_law_753 (lv_at hl 4 rfl) (lv_at hl 0 rfl) hS ?_
  refine lv_aload_n hx hb dL_law_754 rfl (lv_at hl 1 rfl) ?_
  refine la_W (n := 4) C1 hW gL_law_L_pieceOf rfl (by decide +kernel) (Nat.le_of_ble_eq_true rfl) dL_law_755 rfl rfl hl.1 hP hD hS hc1 hc2 (fun g' H locs hg hP hD hS => ?_)
  refine lv_istore (lv' := [(5, .int code), (4, .int (nI (3 * j))), (3, .ref og), (2, .ref h0), (1, .ref x0), (0, .ref b)]) hx hb dL_law_758 hl (by decide) rfl (fun ls hl => ?_)
  refine lv_aload_n hx hb dL_law_760 rfl (lv_at hl 3 rfl) ?_
  refine la_arg C1 hj (show 1 < 3 by omega) dL_law_761 dL_law_762 dL_law_764 (by decide) dL_law_765 dL_law_766 (lv_at hl 5 rfl) (lv_at hl 1 rfl) hS ?_
  refine la_arg C1 hj (show 2 < 3 by omega) dL_law_767 dL_law_768 dL_law_770 (by decide) dL_law_771 dL_law_772 (lv_at hl 5 rfl) (lv_at hl 1 rfl) hS ?_
  refine la_I (As := [.int (xs (3 * j + 1)), .int (xs (3 * j + 2))]) (rest := []) (n := 2) C1 hM hM0 (ci := 5) rfl gL_law_X5_pieceOf rfl (by decide +kernel) (Nat.le_of_ble_eq_true rfl) dL_law_773 rfl rfl (Nat.le_of_ble_eq_true rfl) hl.1 (va_Psw hP) (va_Dsw hD) hS hc1 hc2 (fun H locs hP hD hS => ?_)
  exact la_tail C1 dL_law_776 dL_law_778 dL_law_779 dL_law_782 dL_law_784 dL_law_789 dL_law_791 dL_law_794 dL_law_795 dL_law_796 dL_law_797 dL_law_799 dL_law_800 dL_law_801 dL_law_806 (by decide) hR' hg (va_Psw hP) (va_Dsw hD) hS hc1 hc2 hl kk

theorem q_isJoined (C1 : LC p l s m meth c b L xs D k) (hR : Both k x0 h0 th X M) (hj : 3 * j + 3 ≤ L) (hP : va_P D vwCl ((X ++ oC k og g) ++ M) H) (hD : va_D (fun q => s.heap.size ≤ q) ((X ++ oC k og g) ++ M)) (hS : va_S (fun q => s.heap.size ≤ q) s.heap H locs) (hc1 : cells + 1 ≤ 601024) (hc2 : slots + 6 ≤ 7293034) (hl : lv_has ls 9 [(4, .int (nI (3 * j))), (3, .ref og), (2, .ref h0), (1, .ref x0), (0, .ref b)]) (kk : LK p l e s m below meth c b D k x0 h0 og j (cells + 1) (slots + 6) Q) : W p l e room_1 s m #[Value.ref b] below meth c H locs cells slots Q (F0 m 809 ls []) := by
  obtain ⟨hx, hb, hr, hml, hown, hts, hX, hbl, hlocks, hK, hN, hXP, hXZ, hL, hfl⟩ := id C1
  obtain ⟨X', M', code, r, hR', hW, hM⟩ := P_isJoined l hfl D k og hR (xs (3 * j + 1)) (xs (3 * j + 2))
  obtain ⟨fs, hM0⟩ := hR.m
  refine lv_aload_n hx hb dL_law_809 rfl (lv_at hl 3 rfl) ?_
  refine la_arg C1 hj (show 1 < 3 by omega) dL_law_810 dL_law_811 dL_law_813 (by decide) dL_law_814 dL_law_815 (lv_at hl 4 rfl) (lv_at hl 0 rfl) hS ?_
  refine la_arg C1 hj (show 2 < 3 by omega) dL_law_816 dL_law_817 dL_law_819 (by decide) dL_law_820 dL_law_821 (lv_at hl 4 rfl) (lv_at hl 0 rfl) hS ?_
  refine lv_aload_n hx hb dL_law_822 rfl (lv_at hl 1 rfl) ?_
  refine la_W (n := 4) C1 hW gL_law_L_isJoined rfl (by decide +kernel) (Nat.le_of_ble_eq_true rfl) dL_law_823 rfl rfl hl.1 hP hD hS hc1 hc2 (fun g' H locs hg hP hD hS => ?_)
  refine lv_istore (lv' := [(5, .int code), (4, .int (nI (3 * j))), (3, .ref og), (2, .ref h0), (1, .ref x0), (0, .ref b)]) hx hb dL_law_826 hl (by decide) rfl (fun ls hl => ?_)
  refine lv_aload_n hx hb dL_law_828 rfl (lv_at hl 3 rfl) ?_
  refine la_arg C1 hj (show 1 < 3 by omega) dL_law_829 dL_law_830 dL_law_832 (by decide) dL_law_833 dL_law_834 (lv_at hl 5 rfl) (lv_at hl 1 rfl) hS ?_
  refine la_arg C1 hj (show 2 < 3 by omega) dL_law_835 dL_law_836 dL_law_838 (by decide) dL_law_839 dL_law_840 (lv_at hl 5 rfl) (lv_at hl 1 rfl) hS ?_
  refine la_I (As := [.int (xs (3 * j + 1)), .int (xs (3 * j + 2))]) (rest := []) (n := 2) C1 hM hM0 (ci := 5) rfl gL_law_X5_isJoined rfl (by decide +kernel) (Nat.le_of_ble_eq_true rfl) dL_law_841 rfl rfl (Nat.le_of_ble_eq_true rfl) hl.1 (va_Psw hP) (va_Dsw hD) hS hc1 hc2 (fun H locs hP hD hS => ?_)
  exact la_tail C1 dL_law_844 dL_law_846 dL_law_847 dL_law_850 dL_law_852 dL_law_857 dL_law_859 dL_law_862 dL_law_863 dL_law_864 dL_law_865 dL_law_867 dL_law_868 dL_law_869 dL_law_874 (by decide) hR' hg (va_Psw hP) (va_Dsw hD) hS hc1 hc2 hl kk

theorem q_noted (C1 : LC p l s m meth c b L xs D k) (hR : Both k x0 h0 th X M) (hj : 3 * j + 3 ≤ L) (hP : va_P D vwCl ((X ++ oC k og g) ++ M) H) (hD : va_D (fun q => s.heap.size ≤ q) ((X ++ oC k og g) ++ M)) (hS : va_S (fun q => s.heap.size ≤ q) s.heap H locs) (hc1 : cells + 1 ≤ 601024) (hc2 : slots + 6 ≤ 7293034) (hl : lv_has ls 9 [(4, .int (nI (3 * j))), (3, .ref og), (2, .ref h0), (1, .ref x0), (0, .ref b)]) (kk : LK p l e s m below meth c b D k x0 h0 og j (cells + 1) (slots + 6) Q) : W p l e room_1 s m #[Value.ref b] below meth c H locs cells slots Q (F0 m 877 ls []) := by
  obtain ⟨hx, hb, hr, hml, hown, hts, hX, hbl, hlocks, hK, hN, hXP, hXZ, hL, hfl⟩ := id C1
  obtain ⟨X', M', code, r, hR', hW, hM⟩ := P_noted l hfl D k og hR (xs (3 * j + 1)) (xs (3 * j + 2))
  obtain ⟨fs, hM0⟩ := hR.m
  refine lv_aload_n hx hb dL_law_877 rfl (lv_at hl 3 rfl) ?_
  refine la_arg C1 hj (show 1 < 3 by omega) dL_law_878 dL_law_879 dL_law_881 (by decide) dL_law_882 dL_law_883 (lv_at hl 4 rfl) (lv_at hl 0 rfl) hS ?_
  refine la_arg C1 hj (show 2 < 3 by omega) dL_law_884 dL_law_885 dL_law_887 (by decide) dL_law_888 dL_law_889 (lv_at hl 4 rfl) (lv_at hl 0 rfl) hS ?_
  refine lv_aload_n hx hb dL_law_890 rfl (lv_at hl 1 rfl) ?_
  refine la_W (n := 4) C1 hW gL_law_L_noted rfl (by decide +kernel) (Nat.le_of_ble_eq_true rfl) dL_law_891 rfl rfl hl.1 hP hD hS hc1 hc2 (fun g' H locs hg hP hD hS => ?_)
  refine lv_istore (lv' := [(5, .int code), (4, .int (nI (3 * j))), (3, .ref og), (2, .ref h0), (1, .ref x0), (0, .ref b)]) hx hb dL_law_894 hl (by decide) rfl (fun ls hl => ?_)
  refine lv_aload_n hx hb dL_law_896 rfl (lv_at hl 3 rfl) ?_
  refine la_arg C1 hj (show 1 < 3 by omega) dL_law_897 dL_law_898 dL_law_900 (by decide) dL_law_901 dL_law_902 (lv_at hl 5 rfl) (lv_at hl 1 rfl) hS ?_
  refine la_arg C1 hj (show 2 < 3 by omega) dL_law_903 dL_law_904 dL_law_906 (by decide) dL_law_907 dL_law_908 (lv_at hl 5 rfl) (lv_at hl 1 rfl) hS ?_
  refine la_I (As := [.int (xs (3 * j + 1)), .int (xs (3 * j + 2))]) (rest := []) (n := 2) C1 hM hM0 (ci := 5) rfl gL_law_X5_noted rfl (by decide +kernel) (Nat.le_of_ble_eq_true rfl) dL_law_909 rfl rfl (Nat.le_of_ble_eq_true rfl) hl.1 (va_Psw hP) (va_Dsw hD) hS hc1 hc2 (fun H locs hP hD hS => ?_)
  exact la_tail C1 dL_law_912 dL_law_914 dL_law_915 dL_law_918 dL_law_920 dL_law_925 dL_law_927 dL_law_930 dL_law_931 dL_law_932 dL_law_933 dL_law_935 dL_law_936 dL_law_937 dL_law_942 (by decide) hR' hg (va_Psw hP) (va_Dsw hD) hS hc1 hc2 hl kk

theorem q_count (C1 : LC p l s m meth c b L xs D k) (hR : Both k x0 h0 th X M) (hj : 3 * j + 3 ≤ L) (hP : va_P D vwCl ((X ++ oC k og g) ++ M) H) (hD : va_D (fun q => s.heap.size ≤ q) ((X ++ oC k og g) ++ M)) (hS : va_S (fun q => s.heap.size ≤ q) s.heap H locs) (hc1 : cells + 1 ≤ 601024) (hc2 : slots + 6 ≤ 7293034) (hl : lv_has ls 9 [(4, .int (nI (3 * j))), (3, .ref og), (2, .ref h0), (1, .ref x0), (0, .ref b)]) (kk : LK p l e s m below meth c b D k x0 h0 og j (cells + 1) (slots + 6) Q) : W p l e room_1 s m #[Value.ref b] below meth c H locs cells slots Q (F0 m 945 ls []) := by
  obtain ⟨hx, hb, hr, hml, hown, hts, hX, hbl, hlocks, hK, hN, hXP, hXZ, hL, hfl⟩ := id C1
  obtain ⟨X', M', code, r, hR', hW, hM⟩ := P_count l hfl D k og hR (xs (3 * j + 1))
  obtain ⟨fs, hM0⟩ := hR.m
  refine lv_aload_n hx hb dL_law_945 rfl (lv_at hl 3 rfl) ?_
  refine la_arg C1 hj (show 1 < 3 by omega) dL_law_946 dL_law_947 dL_law_949 (by decide) dL_law_950 dL_law_951 (lv_at hl 4 rfl) (lv_at hl 0 rfl) hS ?_
  refine lv_aload_n hx hb dL_law_952 rfl (lv_at hl 1 rfl) ?_
  refine la_W (n := 3) C1 hW gL_law_L_count rfl (by decide +kernel) (Nat.le_of_ble_eq_true rfl) dL_law_953 rfl rfl hl.1 hP hD hS hc1 hc2 (fun g' H locs hg hP hD hS => ?_)
  refine lv_istore (lv' := [(5, .int code), (4, .int (nI (3 * j))), (3, .ref og), (2, .ref h0), (1, .ref x0), (0, .ref b)]) hx hb dL_law_956 hl (by decide) rfl (fun ls hl => ?_)
  refine lv_aload_n hx hb dL_law_958 rfl (lv_at hl 3 rfl) ?_
  refine la_arg C1 hj (show 1 < 3 by omega) dL_law_959 dL_law_960 dL_law_962 (by decide) dL_law_963 dL_law_964 (lv_at hl 5 rfl) (lv_at hl 1 rfl) hS ?_
  refine la_I (As := [.int (xs (3 * j + 1))]) (rest := []) (n := 1) C1 hM hM0 (ci := 5) rfl gL_law_X5_count rfl (by decide +kernel) (Nat.le_of_ble_eq_true rfl) dL_law_965 rfl rfl (Nat.le_of_ble_eq_true rfl) hl.1 (va_Psw hP) (va_Dsw hD) hS hc1 hc2 (fun H locs hP hD hS => ?_)
  exact la_tail C1 dL_law_968 dL_law_970 dL_law_971 dL_law_974 dL_law_976 dL_law_981 dL_law_983 dL_law_986 dL_law_987 dL_law_988 dL_law_989 dL_law_991 dL_law_992 dL_law_993 dL_law_998 (by decide) hR' hg (va_Psw hP) (va_Dsw hD) hS hc1 hc2 hl kk

theorem q_heaviest (C1 : LC p l s m meth c b L xs D k) (hR : Both k x0 h0 th X M) (hj : 3 * j + 3 ≤ L) (hP : va_P D vwCl ((X ++ oC k og g) ++ M) H) (hD : va_D (fun q => s.heap.size ≤ q) ((X ++ oC k og g) ++ M)) (hS : va_S (fun q => s.heap.size ≤ q) s.heap H locs) (hc1 : cells + 1 ≤ 601024) (hc2 : slots + 6 ≤ 7293034) (hl : lv_has ls 9 [(4, .int (nI (3 * j))), (3, .ref og), (2, .ref h0), (1, .ref x0), (0, .ref b)]) (kk : LK p l e s m below meth c b D k x0 h0 og j (cells + 1) (slots + 6) Q) : W p l e room_1 s m #[Value.ref b] below meth c H locs cells slots Q (F0 m 1001 ls []) := by
  obtain ⟨hx, hb, hr, hml, hown, hts, hX, hbl, hlocks, hK, hN, hXP, hXZ, hL, hfl⟩ := id C1
  obtain ⟨X', M', code, r, hR', hW, hM⟩ := P_heaviest l hfl D k og hR (xs (3 * j + 1))
  obtain ⟨fs, hM0⟩ := hR.m
  refine lv_aload_n hx hb dL_law_1001 rfl (lv_at hl 3 rfl) ?_
  refine la_arg C1 hj (show 1 < 3 by omega) dL_law_1002 dL_law_1003 dL_law_1005 (by decide) dL_law_1006 dL_law_1007 (lv_at hl 4 rfl) (lv_at hl 0 rfl) hS ?_
  refine lv_aload_n hx hb dL_law_1008 rfl (lv_at hl 1 rfl) ?_
  refine la_W (n := 3) C1 hW gL_law_L_heaviest rfl (by decide +kernel) (Nat.le_of_ble_eq_true rfl) dL_law_1009 rfl rfl hl.1 hP hD hS hc1 hc2 (fun g' H locs hg hP hD hS => ?_)
  refine lv_istore (lv' := [(5, .int code), (4, .int (nI (3 * j))), (3, .ref og), (2, .ref h0), (1, .ref x0), (0, .ref b)]) hx hb dL_law_1012 hl (by decide) rfl (fun ls hl => ?_)
  refine lv_aload_n hx hb dL_law_1014 rfl (lv_at hl 3 rfl) ?_
  refine la_arg C1 hj (show 1 < 3 by omega) dL_law_1015 dL_law_1016 dL_law_1018 (by decide) dL_law_1019 dL_law_1020 (lv_at hl 5 rfl) (lv_at hl 1 rfl) hS ?_
  refine la_I (As := [.int (xs (3 * j + 1))]) (rest := []) (n := 1) C1 hM hM0 (ci := 5) rfl gL_law_X5_heaviest rfl (by decide +kernel) (Nat.le_of_ble_eq_true rfl) dL_law_1021 rfl rfl (Nat.le_of_ble_eq_true rfl) hl.1 (va_Psw hP) (va_Dsw hD) hS hc1 hc2 (fun H locs hP hD hS => ?_)
  exact la_tail C1 dL_law_1024 dL_law_1026 dL_law_1027 dL_law_1030 dL_law_1032 dL_law_1037 dL_law_1039 dL_law_1042 dL_law_1043 dL_law_1044 dL_law_1045 dL_law_1047 dL_law_1048 dL_law_1049 dL_law_1054 (by decide) hR' hg (va_Psw hP) (va_Dsw hD) hS hc1 hc2 hl kk

theorem q_openWay (C1 : LC p l s m meth c b L xs D k) (hR : Both k x0 h0 th X M) (hj : 3 * j + 3 ≤ L) (hP : va_P D vwCl ((X ++ oC k og g) ++ M) H) (hD : va_D (fun q => s.heap.size ≤ q) ((X ++ oC k og g) ++ M)) (hS : va_S (fun q => s.heap.size ≤ q) s.heap H locs) (hc1 : cells + 1 ≤ 601024) (hc2 : slots + 6 ≤ 7293034) (hl : lv_has ls 9 [(4, .int (nI (3 * j))), (3, .ref og), (2, .ref h0), (1, .ref x0), (0, .ref b)]) (kk : LK p l e s m below meth c b D k x0 h0 og j (cells + 1) (slots + 6) Q) : W p l e room_1 s m #[Value.ref b] below meth c H locs cells slots Q (F0 m 1057 ls []) := by
  obtain ⟨hx, hb, hr, hml, hown, hts, hX, hbl, hlocks, hK, hN, hXP, hXZ, hL, hfl⟩ := id C1
  obtain ⟨X', M', code, r, hR', hW, hM⟩ := P_openWay l hfl D k og hR (xs (3 * j + 1))
  obtain ⟨fs, hM0⟩ := hR.m
  refine lv_aload_n hx hb dL_law_1057 rfl (lv_at hl 3 rfl) ?_
  refine la_arg C1 hj (show 1 < 3 by omega) dL_law_1058 dL_law_1059 dL_law_1061 (by decide) dL_law_1062 dL_law_1063 (lv_at hl 4 rfl) (lv_at hl 0 rfl) hS ?_
  refine lv_aload_n hx hb dL_law_1064 rfl (lv_at hl 1 rfl) ?_
  refine la_W (n := 3) C1 hW gL_law_L_openWay rfl (by decide +kernel) (Nat.le_of_ble_eq_true rfl) dL_law_1065 rfl rfl hl.1 hP hD hS hc1 hc2 (fun g' H locs hg hP hD hS => ?_)
  refine lv_istore (lv' := [(5, .int code), (4, .int (nI (3 * j))), (3, .ref og), (2, .ref h0), (1, .ref x0), (0, .ref b)]) hx hb dL_law_1068 hl (by decide) rfl (fun ls hl => ?_)
  refine lv_aload_n hx hb dL_law_1070 rfl (lv_at hl 3 rfl) ?_
  refine la_arg C1 hj (show 1 < 3 by omega) dL_law_1071 dL_law_1072 dL_law_1074 (by decide) dL_law_1075 dL_law_1076 (lv_at hl 5 rfl) (lv_at hl 1 rfl) hS ?_
  refine la_I (As := [.int (xs (3 * j + 1))]) (rest := []) (n := 1) C1 hM hM0 (ci := 5) rfl gL_law_X5_openWay rfl (by decide +kernel) (Nat.le_of_ble_eq_true rfl) dL_law_1077 rfl rfl (Nat.le_of_ble_eq_true rfl) hl.1 (va_Psw hP) (va_Dsw hD) hS hc1 hc2 (fun H locs hP hD hS => ?_)
  exact la_tail C1 dL_law_1080 dL_law_1082 dL_law_1083 dL_law_1086 dL_law_1088 dL_law_1093 dL_law_1095 dL_law_1098 dL_law_1099 dL_law_1100 dL_law_1101 dL_law_1103 dL_law_1104 dL_law_1105 dL_law_1110 (by decide) hR' hg (va_Psw hP) (va_Dsw hD) hS hc1 hc2 hl kk

theorem q_step (C1 : LC p l s m meth c b L xs D k) (hR : Both k x0 h0 th X M) (hj : 3 * j + 3 ≤ L) (hP : va_P D vwCl ((X ++ oC k og g) ++ M) H) (hD : va_D (fun q => s.heap.size ≤ q) ((X ++ oC k og g) ++ M)) (hS : va_S (fun q => s.heap.size ≤ q) s.heap H locs) (hc1 : cells + 1 ≤ 601024) (hc2 : slots + 6 ≤ 7293034) (hl : lv_has ls 9 [(4, .int (nI (3 * j))), (3, .ref og), (2, .ref h0), (1, .ref x0), (0, .ref b)]) (kk : LK p l e s m below meth c b D k x0 h0 og j (cells + 1) (slots + 6) Q) : W p l e room_1 s m #[Value.ref b] below meth c H locs cells slots Q (F0 m 420 ls []) :=
  la_plain C1 (P_step l D k hR) gL_law_X4_step rfl (by decide +kernel) (Nat.le_of_ble_eq_true rfl) gL_law_X5_step rfl (by decide +kernel) (Nat.le_of_ble_eq_true rfl) dL_law_420 dL_law_421 dL_law_424 dL_law_425 dL_law_428 (by decide) hR hP hD hS hc1 hc2 hl kk

theorem q_split (C1 : LC p l s m meth c b L xs D k) (hR : Both k x0 h0 th X M) (hj : 3 * j + 3 ≤ L) (hP : va_P D vwCl ((X ++ oC k og g) ++ M) H) (hD : va_D (fun q => s.heap.size ≤ q) ((X ++ oC k og g) ++ M)) (hS : va_S (fun q => s.heap.size ≤ q) s.heap H locs) (hc1 : cells + 1 ≤ 601024) (hc2 : slots + 6 ≤ 7293034) (hl : lv_has ls 9 [(4, .int (nI (3 * j))), (3, .ref og), (2, .ref h0), (1, .ref x0), (0, .ref b)]) (kk : LK p l e s m below meth c b D k x0 h0 og j (cells + 1) (slots + 6) Q) : W p l e room_1 s m #[Value.ref b] below meth c H locs cells slots Q (F0 m 433 ls []) :=
  la_plain C1 (P_split l D k hR) gL_law_X4_split rfl (by decide +kernel) (Nat.le_of_ble_eq_true rfl) gL_law_X5_split rfl (by decide +kernel) (Nat.le_of_ble_eq_true rfl) dL_law_433 dL_law_434 dL_law_437 dL_law_438 dL_law_441 (by decide) hR hP hD hS hc1 hc2 hl kk

theorem q_begin (C1 : LC p l s m meth c b L xs D k) (hR : Both k x0 h0 th X M) (hj : 3 * j + 3 ≤ L) (hP : va_P D vwCl ((X ++ oC k og g) ++ M) H) (hD : va_D (fun q => s.heap.size ≤ q) ((X ++ oC k og g) ++ M)) (hS : va_S (fun q => s.heap.size ≤ q) s.heap H locs) (hc1 : cells + 1 ≤ 601024) (hc2 : slots + 6 ≤ 7293034) (hl : lv_has ls 9 [(4, .int (nI (3 * j))), (3, .ref og), (2, .ref h0), (1, .ref x0), (0, .ref b)]) (kk : LK p l e s m below meth c b D k x0 h0 og j (cells + 1) (slots + 6) Q) : W p l e room_1 s m #[Value.ref b] below meth c H locs cells slots Q (F0 m 446 ls []) :=
  la_plain C1 (P_begin l D k hR) gL_law_X4_begin rfl (by decide +kernel) (Nat.le_of_ble_eq_true rfl) gL_law_X5_begin rfl (by decide +kernel) (Nat.le_of_ble_eq_true rfl) dL_law_446 dL_law_447 dL_law_450 dL_law_451 dL_law_454 (by decide) hR hP hD hS hc1 hc2 hl kk

theorem q_clearBuffer (C1 : LC p l s m meth c b L xs D k) (hR : Both k x0 h0 th X M) (hj : 3 * j + 3 ≤ L) (hP : va_P D vwCl ((X ++ oC k og g) ++ M) H) (hD : va_D (fun q => s.heap.size ≤ q) ((X ++ oC k og g) ++ M)) (hS : va_S (fun q => s.heap.size ≤ q) s.heap H locs) (hc1 : cells + 1 ≤ 601024) (hc2 : slots + 6 ≤ 7293034) (hl : lv_has ls 9 [(4, .int (nI (3 * j))), (3, .ref og), (2, .ref h0), (1, .ref x0), (0, .ref b)]) (kk : LK p l e s m below meth c b D k x0 h0 og j (cells + 1) (slots + 6) Q) : W p l e room_1 s m #[Value.ref b] below meth c H locs cells slots Q (F0 m 515 ls []) :=
  la_plain C1 (P_clearBuffer l D k hR) gL_law_X4_clearBuffer rfl (by decide +kernel) (Nat.le_of_ble_eq_true rfl) gL_law_X5_clearBuffer rfl (by decide +kernel) (Nat.le_of_ble_eq_true rfl) dL_law_515 dL_law_516 dL_law_519 dL_law_520 dL_law_523 (by decide) hR hP hD hS hc1 hc2 hl kk

theorem q_firstError (C1 : LC p l s m meth c b L xs D k) (hR : Both k x0 h0 th X M) (hj : 3 * j + 3 ≤ L) (hP : va_P D vwCl ((X ++ oC k og g) ++ M) H) (hD : va_D (fun q => s.heap.size ≤ q) ((X ++ oC k og g) ++ M)) (hS : va_S (fun q => s.heap.size ≤ q) s.heap H locs) (hc1 : cells + 1 ≤ 601024) (hc2 : slots + 6 ≤ 7293034) (hl : lv_has ls 9 [(4, .int (nI (3 * j))), (3, .ref og), (2, .ref h0), (1, .ref x0), (0, .ref b)]) (kk : LK p l e s m below meth c b D k x0 h0 og j (cells + 1) (slots + 6) Q) : W p l e room_1 s m #[Value.ref b] below meth c H locs cells slots Q (F0 m 528 ls []) :=
  la_plain C1 (P_firstError l D k hR) gL_law_X4_firstError rfl (by decide +kernel) (Nat.le_of_ble_eq_true rfl) gL_law_X5_firstError rfl (by decide +kernel) (Nat.le_of_ble_eq_true rfl) dL_law_528 dL_law_529 dL_law_532 dL_law_533 dL_law_536 (by decide) hR hP hD hS hc1 hc2 hl kk

theorem q_ifSplit (C1 : LC p l s m meth c b L xs D k) (hR : Both k x0 h0 th X M) (hj : 3 * j + 3 ≤ L) (hP : va_P D vwCl ((X ++ oC k og g) ++ M) H) (hD : va_D (fun q => s.heap.size ≤ q) ((X ++ oC k og g) ++ M)) (hS : va_S (fun q => s.heap.size ≤ q) s.heap H locs) (hc1 : cells + 1 ≤ 601024) (hc2 : slots + 6 ≤ 7293034) (hl : lv_has ls 9 [(4, .int (nI (3 * j))), (3, .ref og), (2, .ref h0), (1, .ref x0), (0, .ref b)]) (kk : LK p l e s m below meth c b D k x0 h0 og j (cells + 1) (slots + 6) Q) : W p l e room_1 s m #[Value.ref b] below meth c H locs cells slots Q (F0 m 1113 ls []) :=
  la_plain C1 (P_ifSplit l D k hR) gL_law_X4_ifSplit rfl (by decide +kernel) (Nat.le_of_ble_eq_true rfl) gL_law_X5_ifSplit rfl (by decide +kernel) (Nat.le_of_ble_eq_true rfl) dL_law_1113 dL_law_1114 dL_law_1117 dL_law_1118 dL_law_1121 (by decide) hR hP hD hS hc1 hc2 hl kk

theorem q_mainPiece (C1 : LC p l s m meth c b L xs D k) (hR : Both k x0 h0 th X M) (hj : 3 * j + 3 ≤ L) (hP : va_P D vwCl ((X ++ oC k og g) ++ M) H) (hD : va_D (fun q => s.heap.size ≤ q) ((X ++ oC k og g) ++ M)) (hS : va_S (fun q => s.heap.size ≤ q) s.heap H locs) (hc1 : cells + 1 ≤ 601024) (hc2 : slots + 6 ≤ 7293034) (hl : lv_has ls 9 [(4, .int (nI (3 * j))), (3, .ref og), (2, .ref h0), (1, .ref x0), (0, .ref b)]) (kk : LK p l e s m below meth c b D k x0 h0 og j (cells + 1) (slots + 6) Q) : W p l e room_1 s m #[Value.ref b] below meth c H locs cells slots Q (F0 m 1126 ls []) :=
  la_plain C1 (P_mainPiece l D k hR) gL_law_X4_mainPiece rfl (by decide +kernel) (Nat.le_of_ble_eq_true rfl) gL_law_X5_mainPiece rfl (by decide +kernel) (Nat.le_of_ble_eq_true rfl) dL_law_1126 dL_law_1127 dL_law_1130 dL_law_1131 dL_law_1134 (by decide) hR hP hD hS hc1 hc2 hl kk

theorem q_digest (C1 : LC p l s m meth c b L xs D k) (hR : Both k x0 h0 th X M) (hj : 3 * j + 3 ≤ L) (hP : va_P D vwCl ((X ++ oC k og g) ++ M) H) (hD : va_D (fun q => s.heap.size ≤ q) ((X ++ oC k og g) ++ M)) (hS : va_S (fun q => s.heap.size ≤ q) s.heap H locs) (hc1 : cells + 1 ≤ 601024) (hc2 : slots + 6 ≤ 7293034) (hl : lv_has ls 9 [(4, .int (nI (3 * j))), (3, .ref og), (2, .ref h0), (1, .ref x0), (0, .ref b)]) (kk : LK p l e s m below meth c b D k x0 h0 og j (cells + 1) (slots + 6) Q) : W p l e room_1 s m #[Value.ref b] below meth c H locs cells slots Q (F0 m 1180 ls []) := by
  obtain ⟨hx, hb, hr, hml, hown, hts, hX, hbl, hlocks, hK, hN, hXP, hXZ, hL, hfl⟩ := id C1
  obtain ⟨X', M', th', r, hR', hX1, hM1⟩ := P_digest l D k hR
  obtain ⟨fs, hX0⟩ := hR.x
  obtain ⟨fs2, hM0⟩ := hR.m
  refine lv_aload_n hx hb dL_law_1180 rfl (lv_at hl 3 rfl) ?_
  refine la_L (As := []) (rest := []) (n := 0) C1 hX1 hX0 (ci := 4) rfl gL_law_X4_digest rfl (by decide +kernel) (Nat.le_of_ble_eq_true rfl) dL_law_1181 rfl rfl (Nat.le_of_ble_eq_true rfl) hl.1 (by rw [← List.append_assoc]; exact hP) (by rw [← List.append_assoc]; exact hD) hS (by omega) (by omega) (fun H locs hP hD hS => ?_)
  rw [← List.append_assoc] at hP hD
  refine lv_aload_n hx hb dL_law_1184 rfl (lv_at hl 2 rfl) ?_
  refine la_L (As := []) (rest := [.long r]) (n := 0) C1 hM1 hM0 (ci := 5) rfl gL_law_X5_digest rfl (by decide +kernel) (Nat.le_of_ble_eq_true rfl) dL_law_1185 rfl rfl (Nat.le_of_ble_eq_true rfl) hl.1 (va_Psw hP) (va_Dsw hD) hS (by omega) (by omega) (fun H locs hP hD hS => ?_)
  refine W.lcmp hx hb dL_law_1188 ?_
  refine tp_e (y := 0) (lg_cmp_same _) ?_
  refine lv_if_eq (tgt := 1194) hx hb dL_law_1189 (by decide) (fun _ => ?_) (fun h9 => absurd rfl h9)
  refine W.widen (k := cells + 1) (n := slots + 6) (by omega) (by omega) ?_
  exact kk X' M' th' g H locs ls hR' (va_Psw hP) (va_Dsw hD) hS hl

theorem q_explained (C1 : LC p l s m meth c b L xs D k) (hR : Both k x0 h0 th X M) (hj : 3 * j + 3 ≤ L) (hP : va_P D vwCl ((X ++ oC k og g) ++ M) H) (hD : va_D (fun q => s.heap.size ≤ q) ((X ++ oC k og g) ++ M)) (hS : va_S (fun q => s.heap.size ≤ q) s.heap H locs) (hc1 : cells + 1 ≤ 601024) (hc2 : slots + 6 ≤ 7293034) (hl : lv_has ls 9 [(4, .int (nI (3 * j))), (3, .ref og), (2, .ref h0), (1, .ref x0), (0, .ref b)]) (kk : LK p l e s m below meth c b D k x0 h0 og j (cells + 1) (slots + 6) Q) : W p l e room_1 s m #[Value.ref b] below meth c H locs cells slots Q (F0 m 1139 ls []) := by
  obtain ⟨hx, hb, hr, hml, hown, hts, hX, hbl, hlocks, hK, hN, hXP, hXZ, hL, hfl⟩ := id C1
  obtain ⟨X', M', th', r, hR', hX1, hM1⟩ := P_explained l D k hR
  obtain ⟨fs, hX0⟩ := hR.x
  obtain ⟨fs2, hM0⟩ := hR.m
  refine lv_aload_n hx hb dL_law_1139 rfl (lv_at hl 3 rfl) ?_
  refine la_D (As := []) (rest := []) (n := 0) C1 hX1 hX0 (ci := 4) rfl gL_law_X4_explained rfl (by decide +kernel) (Nat.le_of_ble_eq_true rfl) dL_law_1140 rfl rfl (Nat.le_of_ble_eq_true rfl) hl.1 (by rw [← List.append_assoc]; exact hP) (by rw [← List.append_assoc]; exact hD) hS (by omega) (by omega) (fun H locs hP hD hS => ?_)
  rw [← List.append_assoc] at hP hD
  refine lv_dstore (lv' := [(5, .double r), (4, .int (nI (3 * j))), (3, .ref og), (2, .ref h0), (1, .ref x0), (0, .ref b)]) hx hb dL_law_1143 hl (by decide) rfl (fun ls hl => ?_)
  refine lv_aload_n hx hb dL_law_1145 rfl (lv_at hl 3 rfl) ?_
  refine la_D (As := []) (rest := []) (n := 0) C1 hM1 hM0 (ci := 5) rfl gL_law_X5_explained rfl (by decide +kernel) (Nat.le_of_ble_eq_true rfl) dL_law_1146 rfl rfl (Nat.le_of_ble_eq_true rfl) hl.1 (va_Psw hP) (va_Dsw hD) hS (by omega) (by omega) (fun H locs hP hD hS => ?_)
  refine lv_dstore (lv' := [(7, .double r), (5, .double r), (4, .int (nI (3 * j))), (3, .ref og), (2, .ref h0), (1, .ref x0), (0, .ref b)]) hx hb dL_law_1149 hl (by decide) rfl (fun ls hl => ?_)
  refine lv_dload hx hb dL_law_1151 (lv_at hl 1 rfl) ?_
  refine lv_dload hx hb dL_law_1153 (lv_at hl 0 rfl) ?_
  refine lv_dcmp hx hb dL_law_1155 ?_
  refine W.widen (k := cells + 1) (n := slots + 6) (by omega) (by omega) ?_
  rcases dcmp_self r with h9 | h9
  · rw [h9]
    refine lv_if_eq (tgt := 1177) hx hb dL_law_1156 (by decide) (fun h8 => absurd h8 (by decide)) (fun _ => ?_)
    refine lv_dload hx hb dL_law_1159 (lv_at hl 1 rfl) ?_
    refine lv_dload hx hb dL_law_1161 (lv_at hl 1 rfl) ?_
    refine lv_dcmp hx hb dL_law_1163 ?_
    rw [h9]
    refine lv_if_eq (tgt := 1175) hx hb dL_law_1164 (by decide) (fun h8 => absurd h8 (by decide)) (fun _ => ?_)
    refine lv_dload hx hb dL_law_1167 (lv_at hl 0 rfl) ?_
    refine lv_dload hx hb dL_law_1169 (lv_at hl 0 rfl) ?_
    refine lv_dcmp hx hb dL_law_1171 ?_
    rw [h9]
    refine lv_if_ne (tgt := 1177) hx hb dL_law_1172 (by decide) (fun _ => ?_) (fun h8 => absurd h8 (by decide))
    refine lv_goto (tgt := 1194) hx hb dL_law_1177 (by decide) ?_
    exact kk X' M' th' g H locs ls hR' (va_Psw hP) (va_Dsw hD) hS (lv_sub hl [2, 3, 4, 5, 6] rfl)
  · rw [h9]
    refine lv_if_eq (tgt := 1177) hx hb dL_law_1156 (by decide) (fun _ => ?_) (fun h8 => absurd rfl h8)
    refine lv_goto (tgt := 1194) hx hb dL_law_1177 (by decide) ?_
    exact kk X' M' th' g H locs ls hR' (va_Psw hP) (va_Dsw hD) hS (lv_sub hl [2, 3, 4, 5, 6] rfl)
end LAW
