/-! the law: a call of both, case by case -/
set_option maxHeartbeats 1000000 in
set_option maxRecDepth 100000 in
theorem law_c0 {c : cx} {bs Ls : Nat} {xss : Nat → Int32} {Q : Option Value → va_W → Prop} {X : nX} {Y : nY} {i : Nat} (hi : i + 7 ≤ Ls) (hL : Ls ≤ 3584) (hR : Rel X Y) (k : ∀ X Y, Rel X Y → lz c bs Ls xss Q 1573 (lvL c bs i) [] X Y) : lz c bs Ls xss Q 204 (lvL c bs i) [] X Y := by
  obtain ⟨v, X1, Y1, X2, Y2, h1, h2, h3⟩ := st_things (c := c) hR (xss (i + 1))
  refine ly_aload_n dL_law_204 2 rfl ?_
  refine ly_aload_n dL_law_205 3 rfl ?_
  refine ly_iload_n dL_law_206 0 rfl ?_
  refine ly_iconst (v := nI 1) dL_law_207 (by decide) ?_
  refine ly_add dL_law_208 ?_
  refine ly_sld dL_law_209 (by omega) (by omega) ?_
  refine lz_callV (As := [_]) (i := 0) dL_law_210 vlL_13 clX7_things rfl rfl (by omega) (sh_r0 _ _) rfl (Nat.le_of_ble_eq_true rfl) (Nat.le_of_ble_eq_true rfl) h1 ?_
  refine ly_aload_n dL_law_213 1 rfl ?_
  refine ly_aload_n dL_law_214 3 rfl ?_
  refine ly_iload_n dL_law_215 0 rfl ?_
  refine ly_iconst (v := nI 1) dL_law_216 (by decide) ?_
  refine ly_add dL_law_217 ?_
  refine ly_sld dL_law_218 (by omega) (by omega) ?_
  refine lz_callV (As := [_]) (i := 105) dL_law_219 vlL_17 clX8_things rfl rfl (by omega) (sh_r105 _ _) rfl (Nat.le_of_ble_eq_true rfl) (Nat.le_of_ble_eq_true rfl) h2 ?_
  exact ly_icmp_eq 1573 dL_law_222 (by decide) (fun _ => k X2 Y2 h3) (fun h9 => absurd rfl h9)
set_option maxHeartbeats 1000000 in
set_option maxRecDepth 100000 in
theorem law_c1 {c : cx} {bs Ls : Nat} {xss : Nat → Int32} {Q : Option Value → va_W → Prop} {X : nX} {Y : nY} {i : Nat} (hi : i + 7 ≤ Ls) (hL : Ls ≤ 3584) (hR : Rel X Y) (k : ∀ X Y, Rel X Y → lz c bs Ls xss Q 1573 (lvL c bs i) [] X Y) : lz c bs Ls xss Q 227 (lvL c bs i) [] X Y := by
  obtain ⟨v, X1, Y1, X2, Y2, h1, h2, h3⟩ := st_sheet (c := c) hR (xss (i + 1)) (xss (i + 2)) (xss (i + 3))
  refine ly_aload_n dL_law_227 2 rfl ?_
  refine ly_aload_n dL_law_228 3 rfl ?_
  refine ly_iload_n dL_law_229 0 rfl ?_
  refine ly_iconst (v := nI 1) dL_law_230 (by decide) ?_
  refine ly_add dL_law_231 ?_
  refine ly_sld dL_law_232 (by omega) (by omega) ?_
  refine ly_aload_n dL_law_233 3 rfl ?_
  refine ly_iload_n dL_law_234 0 rfl ?_
  refine ly_iconst (v := nI 2) dL_law_235 (by decide) ?_
  refine ly_add dL_law_236 ?_
  refine ly_sld dL_law_237 (by omega) (by omega) ?_
  refine ly_aload_n dL_law_238 3 rfl ?_
  refine ly_iload_n dL_law_239 0 rfl ?_
  refine ly_iconst (v := nI 3) dL_law_240 (by decide) ?_
  refine ly_add dL_law_241 ?_
  refine ly_sld dL_law_242 (by omega) (by omega) ?_
  refine lz_callV (As := [_, _, _]) (i := 0) dL_law_243 vlL_18 clX7_sheet rfl rfl (by omega) (sh_r0 _ _) rfl (Nat.le_of_ble_eq_true rfl) (Nat.le_of_ble_eq_true rfl) h1 ?_
  refine ly_aload_n dL_law_246 1 rfl ?_
  refine ly_aload_n dL_law_247 3 rfl ?_
  refine ly_iload_n dL_law_248 0 rfl ?_
  refine ly_iconst (v := nI 1) dL_law_249 (by decide) ?_
  refine ly_add dL_law_250 ?_
  refine ly_sld dL_law_251 (by omega) (by omega) ?_
  refine ly_aload_n dL_law_252 3 rfl ?_
  refine ly_iload_n dL_law_253 0 rfl ?_
  refine ly_iconst (v := nI 2) dL_law_254 (by decide) ?_
  refine ly_add dL_law_255 ?_
  refine ly_sld dL_law_256 (by omega) (by omega) ?_
  refine ly_aload_n dL_law_257 3 rfl ?_
  refine ly_iload_n dL_law_258 0 rfl ?_
  refine ly_iconst (v := nI 3) dL_law_259 (by decide) ?_
  refine ly_add dL_law_260 ?_
  refine ly_sld dL_law_261 (by omega) (by omega) ?_
  refine lz_callV (As := [_, _, _]) (i := 105) dL_law_262 vlL_22 clX8_sheet rfl rfl (by omega) (sh_r105 _ _) rfl (Nat.le_of_ble_eq_true rfl) (Nat.le_of_ble_eq_true rfl) h2 ?_
  exact ly_icmp_eq 1573 dL_law_265 (by decide) (fun _ => k X2 Y2 h3) (fun h9 => absurd rfl h9)
set_option maxHeartbeats 1000000 in
set_option maxRecDepth 100000 in
theorem law_c2 {c : cx} {bs Ls : Nat} {xss : Nat → Int32} {Q : Option Value → va_W → Prop} {X : nX} {Y : nY} {i : Nat} (hi : i + 7 ≤ Ls) (hL : Ls ≤ 3584) (hR : Rel X Y) (k : ∀ X Y, Rel X Y → lz c bs Ls xss Q 1573 (lvL c bs i) [] X Y) : lz c bs Ls xss Q 270 (lvL c bs i) [] X Y := by
  obtain ⟨v, X1, Y1, X2, Y2, h1, h2, h3⟩ := st_tear (c := c) hR (xss (i + 1))
  refine ly_aload_n dL_law_270 2 rfl ?_
  refine ly_aload_n dL_law_271 3 rfl ?_
  refine ly_iload_n dL_law_272 0 rfl ?_
  refine ly_iconst (v := nI 1) dL_law_273 (by decide) ?_
  refine ly_add dL_law_274 ?_
  refine ly_sld dL_law_275 (by omega) (by omega) ?_
  refine lz_callV (As := [_]) (i := 0) dL_law_276 vlL_23 clX7_tear rfl rfl (by omega) (sh_r0 _ _) rfl (Nat.le_of_ble_eq_true rfl) (Nat.le_of_ble_eq_true rfl) h1 ?_
  refine ly_aload_n dL_law_279 1 rfl ?_
  refine ly_aload_n dL_law_280 3 rfl ?_
  refine ly_iload_n dL_law_281 0 rfl ?_
  refine ly_iconst (v := nI 1) dL_law_282 (by decide) ?_
  refine ly_add dL_law_283 ?_
  refine ly_sld dL_law_284 (by omega) (by omega) ?_
  refine lz_callV (As := [_]) (i := 105) dL_law_285 vlL_26 clX8_tear rfl rfl (by omega) (sh_r105 _ _) rfl (Nat.le_of_ble_eq_true rfl) (Nat.le_of_ble_eq_true rfl) h2 ?_
  exact ly_icmp_eq 1573 dL_law_288 (by decide) (fun _ => k X2 Y2 h3) (fun h9 => absurd rfl h9)
set_option maxHeartbeats 1000000 in
set_option maxRecDepth 100000 in
theorem law_c3 {c : cx} {bs Ls : Nat} {xss : Nat → Int32} {Q : Option Value → va_W → Prop} {X : nX} {Y : nY} {i : Nat} (hi : i + 7 ≤ Ls) (hL : Ls ≤ 3584) (hR : Rel X Y) (k : ∀ X Y, Rel X Y → lz c bs Ls xss Q 1573 (lvL c bs i) [] X Y) : lz c bs Ls xss Q 293 (lvL c bs i) [] X Y := by
  obtain ⟨v, X1, Y1, X2, Y2, h1, h2, h3⟩ := st_put (c := c) hR (xss (i + 1)) (xss (i + 2)) (xss (i + 3)) (((xss (i + 4)).toInt64 <<< ((nI 32).toInt64 &&& 63)) ||| ((xss (i + 5)).toInt64 &&& 4294967295))
  refine ly_aload_n dL_law_293 2 rfl ?_
  refine ly_aload_n dL_law_294 3 rfl ?_
  refine ly_iload_n dL_law_295 0 rfl ?_
  refine ly_iconst (v := nI 1) dL_law_296 (by decide) ?_
  refine ly_add dL_law_297 ?_
  refine ly_sld dL_law_298 (by omega) (by omega) ?_
  refine ly_aload_n dL_law_299 3 rfl ?_
  refine ly_iload_n dL_law_300 0 rfl ?_
  refine ly_iconst (v := nI 2) dL_law_301 (by decide) ?_
  refine ly_add dL_law_302 ?_
  refine ly_sld dL_law_303 (by omega) (by omega) ?_
  refine ly_aload_n dL_law_304 3 rfl ?_
  refine ly_iload_n dL_law_305 0 rfl ?_
  refine ly_iconst (v := nI 3) dL_law_306 (by decide) ?_
  refine ly_add dL_law_307 ?_
  refine ly_sld dL_law_308 (by omega) (by omega) ?_
  refine ly_aload_n dL_law_309 3 rfl ?_
  refine ly_iload_n dL_law_310 0 rfl ?_
  refine ly_iconst (v := nI 4) dL_law_311 (by decide) ?_
  refine ly_add dL_law_312 ?_
  refine ly_sld dL_law_313 (by omega) (by omega) ?_
  refine ly_i2l dL_law_314 ?_
  refine ly_bipush (v := nI 32) dL_law_315 (by decide) ?_
  refine ly_lshl dL_law_317 ?_
  refine ly_aload_n dL_law_318 3 rfl ?_
  refine ly_iload_n dL_law_319 0 rfl ?_
  refine ly_iconst (v := nI 5) dL_law_320 (by decide) ?_
  refine ly_add dL_law_321 ?_
  refine ly_sld dL_law_322 (by omega) (by omega) ?_
  refine ly_i2l dL_law_323 ?_
  refine ly_ldc2 dL_law_324 kcL_27 ?_
  refine ly_land dL_law_327 ?_
  refine ly_lor dL_law_328 ?_
  refine lz_callV (As := [_, _, _, _]) (i := 0) dL_law_329 vlL_29 clX7_put rfl rfl (by omega) (sh_r0 _ _) rfl (Nat.le_of_ble_eq_true rfl) (Nat.le_of_ble_eq_true rfl) h1 ?_
  refine ly_aload_n dL_law_332 1 rfl ?_
  refine ly_aload_n dL_law_333 3 rfl ?_
  refine ly_iload_n dL_law_334 0 rfl ?_
  refine ly_iconst (v := nI 1) dL_law_335 (by decide) ?_
  refine ly_add dL_law_336 ?_
  refine ly_sld dL_law_337 (by omega) (by omega) ?_
  refine ly_aload_n dL_law_338 3 rfl ?_
  refine ly_iload_n dL_law_339 0 rfl ?_
  refine ly_iconst (v := nI 2) dL_law_340 (by decide) ?_
  refine ly_add dL_law_341 ?_
  refine ly_sld dL_law_342 (by omega) (by omega) ?_
  refine ly_aload_n dL_law_343 3 rfl ?_
  refine ly_iload_n dL_law_344 0 rfl ?_
  refine ly_iconst (v := nI 3) dL_law_345 (by decide) ?_
  refine ly_add dL_law_346 ?_
  refine ly_sld dL_law_347 (by omega) (by omega) ?_
  refine ly_aload_n dL_law_348 3 rfl ?_
  refine ly_iload_n dL_law_349 0 rfl ?_
  refine ly_iconst (v := nI 4) dL_law_350 (by decide) ?_
  refine ly_add dL_law_351 ?_
  refine ly_sld dL_law_352 (by omega) (by omega) ?_
  refine ly_i2l dL_law_353 ?_
  refine ly_bipush (v := nI 32) dL_law_354 (by decide) ?_
  refine ly_lshl dL_law_356 ?_
  refine ly_aload_n dL_law_357 3 rfl ?_
  refine ly_iload_n dL_law_358 0 rfl ?_
  refine ly_iconst (v := nI 5) dL_law_359 (by decide) ?_
  refine ly_add dL_law_360 ?_
  refine ly_sld dL_law_361 (by omega) (by omega) ?_
  refine ly_i2l dL_law_362 ?_
  refine ly_ldc2 dL_law_363 kcL_27 ?_
  refine ly_land dL_law_366 ?_
  refine ly_lor dL_law_367 ?_
  refine lz_callV (As := [_, _, _, _]) (i := 105) dL_law_368 vlL_33 clX8_put rfl rfl (by omega) (sh_r105 _ _) rfl (Nat.le_of_ble_eq_true rfl) (Nat.le_of_ble_eq_true rfl) h2 ?_
  exact ly_lcmp dL_law_371 (ly_if_eq 1573 dL_law_372 (by decide) (fun _ => k X2 Y2 h3) (fun h9 => absurd ((lg_cmp_eq0 _ _).mpr rfl) h9))
set_option maxHeartbeats 1000000 in
set_option maxRecDepth 100000 in
theorem law_c4 {c : cx} {bs Ls : Nat} {xss : Nat → Int32} {Q : Option Value → va_W → Prop} {X : nX} {Y : nY} {i : Nat} (hi : i + 7 ≤ Ls) (hL : Ls ≤ 3584) (hR : Rel X Y) (k : ∀ X Y, Rel X Y → lz c bs Ls xss Q 1573 (lvL c bs i) [] X Y) : lz c bs Ls xss Q 377 (lvL c bs i) [] X Y := by
  obtain ⟨v, X1, Y1, X2, Y2, h1, h2, h3⟩ := st_at (c := c) hR (xss (i + 1)) (xss (i + 2))
  refine ly_aload_n dL_law_377 2 rfl ?_
  refine ly_aload_n dL_law_378 3 rfl ?_
  refine ly_iload_n dL_law_379 0 rfl ?_
  refine ly_iconst (v := nI 1) dL_law_380 (by decide) ?_
  refine ly_add dL_law_381 ?_
  refine ly_sld dL_law_382 (by omega) (by omega) ?_
  refine ly_aload_n dL_law_383 3 rfl ?_
  refine ly_iload_n dL_law_384 0 rfl ?_
  refine ly_iconst (v := nI 2) dL_law_385 (by decide) ?_
  refine ly_add dL_law_386 ?_
  refine ly_sld dL_law_387 (by omega) (by omega) ?_
  refine lz_callV (As := [_, _]) (i := 0) dL_law_388 vlL_34 clX7_at rfl rfl (by omega) (sh_r0 _ _) rfl (Nat.le_of_ble_eq_true rfl) (Nat.le_of_ble_eq_true rfl) h1 ?_
  refine ly_aload_n dL_law_391 1 rfl ?_
  refine ly_aload_n dL_law_392 3 rfl ?_
  refine ly_iload_n dL_law_393 0 rfl ?_
  refine ly_iconst (v := nI 1) dL_law_394 (by decide) ?_
  refine ly_add dL_law_395 ?_
  refine ly_sld dL_law_396 (by omega) (by omega) ?_
  refine ly_aload_n dL_law_397 3 rfl ?_
  refine ly_iload_n dL_law_398 0 rfl ?_
  refine ly_iconst (v := nI 2) dL_law_399 (by decide) ?_
  refine ly_add dL_law_400 ?_
  refine ly_sld dL_law_401 (by omega) (by omega) ?_
  refine lz_callV (As := [_, _]) (i := 105) dL_law_402 vlL_38 clX8_at rfl rfl (by omega) (sh_r105 _ _) rfl (Nat.le_of_ble_eq_true rfl) (Nat.le_of_ble_eq_true rfl) h2 ?_
  exact ly_lcmp dL_law_405 (ly_if_eq 1573 dL_law_406 (by decide) (fun _ => k X2 Y2 h3) (fun h9 => absurd ((lg_cmp_eq0 _ _).mpr rfl) h9))
set_option maxHeartbeats 1000000 in
set_option maxRecDepth 100000 in
theorem law_c5 {c : cx} {bs Ls : Nat} {xss : Nat → Int32} {Q : Option Value → va_W → Prop} {X : nX} {Y : nY} {i : Nat} (hi : i + 7 ≤ Ls) (hL : Ls ≤ 3584) (hR : Rel X Y) (k : ∀ X Y, Rel X Y → lz c bs Ls xss Q 1573 (lvL c bs i) [] X Y) : lz c bs Ls xss Q 411 (lvL c bs i) [] X Y := by
  obtain ⟨v, X1, Y1, X2, Y2, h1, h2, h3⟩ := st_worth (c := c) hR (xss (i + 1))
  refine ly_aload_n dL_law_411 2 rfl ?_
  refine ly_aload_n dL_law_412 3 rfl ?_
  refine ly_iload_n dL_law_413 0 rfl ?_
  refine ly_iconst (v := nI 1) dL_law_414 (by decide) ?_
  refine ly_add dL_law_415 ?_
  refine ly_sld dL_law_416 (by omega) (by omega) ?_
  refine lz_callV (As := [_]) (i := 0) dL_law_417 vlL_39 clX7_worth rfl rfl (by omega) (sh_r0 _ _) rfl (Nat.le_of_ble_eq_true rfl) (Nat.le_of_ble_eq_true rfl) h1 ?_
  refine ly_aload_n dL_law_420 1 rfl ?_
  refine ly_aload_n dL_law_421 3 rfl ?_
  refine ly_iload_n dL_law_422 0 rfl ?_
  refine ly_iconst (v := nI 1) dL_law_423 (by decide) ?_
  refine ly_add dL_law_424 ?_
  refine ly_sld dL_law_425 (by omega) (by omega) ?_
  refine lz_callV (As := [_]) (i := 105) dL_law_426 vlL_42 clX8_worth rfl rfl (by omega) (sh_r105 _ _) rfl (Nat.le_of_ble_eq_true rfl) (Nat.le_of_ble_eq_true rfl) h2 ?_
  exact ly_icmp_eq 1573 dL_law_429 (by decide) (fun _ => k X2 Y2 h3) (fun h9 => absurd rfl h9)
set_option maxHeartbeats 1000000 in
set_option maxRecDepth 100000 in
theorem law_c6 {c : cx} {bs Ls : Nat} {xss : Nat → Int32} {Q : Option Value → va_W → Prop} {X : nX} {Y : nY} {i : Nat} (hi : i + 7 ≤ Ls) (hL : Ls ≤ 3584) (hR : Rel X Y) (k : ∀ X Y, Rel X Y → lz c bs Ls xss Q 1573 (lvL c bs i) [] X Y) : lz c bs Ls xss Q 434 (lvL c bs i) [] X Y := by
  obtain ⟨v, X1, Y1, X2, Y2, h1, h2, h3⟩ := st_sum (c := c) hR 
  refine ly_aload_n dL_law_434 2 rfl ?_
  refine lz_callV (As := []) (i := 0) dL_law_435 vlL_43 clX7_sum rfl rfl (by omega) (sh_r0 _ _) rfl (Nat.le_of_ble_eq_true rfl) (Nat.le_of_ble_eq_true rfl) h1 ?_
  refine ly_aload_n dL_law_438 1 rfl ?_
  refine lz_callV (As := []) (i := 105) dL_law_439 vlL_47 clX8_sum rfl rfl (by omega) (sh_r105 _ _) rfl (Nat.le_of_ble_eq_true rfl) (Nat.le_of_ble_eq_true rfl) h2 ?_
  exact ly_icmp_eq 1573 dL_law_442 (by decide) (fun _ => k X2 Y2 h3) (fun h9 => absurd rfl h9)
set_option maxHeartbeats 1000000 in
set_option maxRecDepth 100000 in
theorem law_c7 {c : cx} {bs Ls : Nat} {xss : Nat → Int32} {Q : Option Value → va_W → Prop} {X : nX} {Y : nY} {i : Nat} (hi : i + 7 ≤ Ls) (hL : Ls ≤ 3584) (hR : Rel X Y) (k : ∀ X Y, Rel X Y → lz c bs Ls xss Q 1573 (lvL c bs i) [] X Y) : lz c bs Ls xss Q 447 (lvL c bs i) [] X Y := by
  obtain ⟨v, X1, Y1, X2, Y2, h1, h2, h3⟩ := st_part (c := c) hR (xss (i + 1)) (xss (i + 2))
  refine ly_aload_n dL_law_447 2 rfl ?_
  refine ly_aload_n dL_law_448 3 rfl ?_
  refine ly_iload_n dL_law_449 0 rfl ?_
  refine ly_iconst (v := nI 1) dL_law_450 (by decide) ?_
  refine ly_add dL_law_451 ?_
  refine ly_sld dL_law_452 (by omega) (by omega) ?_
  refine ly_aload_n dL_law_453 3 rfl ?_
  refine ly_iload_n dL_law_454 0 rfl ?_
  refine ly_iconst (v := nI 2) dL_law_455 (by decide) ?_
  refine ly_add dL_law_456 ?_
  refine ly_sld dL_law_457 (by omega) (by omega) ?_
  refine lz_callV (As := [_, _]) (i := 0) dL_law_458 vlL_48 clX7_part rfl rfl (by omega) (sh_r0 _ _) rfl (Nat.le_of_ble_eq_true rfl) (Nat.le_of_ble_eq_true rfl) h1 ?_
  refine ly_aload_n dL_law_461 1 rfl ?_
  refine ly_aload_n dL_law_462 3 rfl ?_
  refine ly_iload_n dL_law_463 0 rfl ?_
  refine ly_iconst (v := nI 1) dL_law_464 (by decide) ?_
  refine ly_add dL_law_465 ?_
  refine ly_sld dL_law_466 (by omega) (by omega) ?_
  refine ly_aload_n dL_law_467 3 rfl ?_
  refine ly_iload_n dL_law_468 0 rfl ?_
  refine ly_iconst (v := nI 2) dL_law_469 (by decide) ?_
  refine ly_add dL_law_470 ?_
  refine ly_sld dL_law_471 (by omega) (by omega) ?_
  refine lz_callV (As := [_, _]) (i := 105) dL_law_472 vlL_52 clX8_part rfl rfl (by omega) (sh_r105 _ _) rfl (Nat.le_of_ble_eq_true rfl) (Nat.le_of_ble_eq_true rfl) h2 ?_
  exact ly_icmp_eq 1573 dL_law_475 (by decide) (fun _ => k X2 Y2 h3) (fun h9 => absurd rfl h9)
set_option maxHeartbeats 1000000 in
set_option maxRecDepth 100000 in
theorem law_c8 {c : cx} {bs Ls : Nat} {xss : Nat → Int32} {Q : Option Value → va_W → Prop} {X : nX} {Y : nY} {i : Nat} (hi : i + 7 ≤ Ls) (hL : Ls ≤ 3584) (hR : Rel X Y) (k : ∀ X Y, Rel X Y → lz c bs Ls xss Q 1573 (lvL c bs i) [] X Y) : lz c bs Ls xss Q 480 (lvL c bs i) [] X Y := by
  obtain ⟨v, X1, Y1, X2, Y2, h1, h2, h3⟩ := st_beyond (c := c) hR (xss (i + 1)) (xss (i + 2))
  refine ly_aload_n dL_law_480 2 rfl ?_
  refine ly_aload_n dL_law_481 3 rfl ?_
  refine ly_iload_n dL_law_482 0 rfl ?_
  refine ly_iconst (v := nI 1) dL_law_483 (by decide) ?_
  refine ly_add dL_law_484 ?_
  refine ly_sld dL_law_485 (by omega) (by omega) ?_
  refine ly_aload_n dL_law_486 3 rfl ?_
  refine ly_iload_n dL_law_487 0 rfl ?_
  refine ly_iconst (v := nI 2) dL_law_488 (by decide) ?_
  refine ly_add dL_law_489 ?_
  refine ly_sld dL_law_490 (by omega) (by omega) ?_
  refine lz_callV (As := [_, _]) (i := 0) dL_law_491 vlL_53 clX7_beyond rfl rfl (by omega) (sh_r0 _ _) rfl (Nat.le_of_ble_eq_true rfl) (Nat.le_of_ble_eq_true rfl) h1 ?_
  refine ly_aload_n dL_law_494 1 rfl ?_
  refine ly_aload_n dL_law_495 3 rfl ?_
  refine ly_iload_n dL_law_496 0 rfl ?_
  refine ly_iconst (v := nI 1) dL_law_497 (by decide) ?_
  refine ly_add dL_law_498 ?_
  refine ly_sld dL_law_499 (by omega) (by omega) ?_
  refine ly_aload_n dL_law_500 3 rfl ?_
  refine ly_iload_n dL_law_501 0 rfl ?_
  refine ly_iconst (v := nI 2) dL_law_502 (by decide) ?_
  refine ly_add dL_law_503 ?_
  refine ly_sld dL_law_504 (by omega) (by omega) ?_
  refine lz_callV (As := [_, _]) (i := 105) dL_law_505 vlL_56 clX8_beyond rfl rfl (by omega) (sh_r105 _ _) rfl (Nat.le_of_ble_eq_true rfl) (Nat.le_of_ble_eq_true rfl) h2 ?_
  exact ly_icmp_eq 1573 dL_law_508 (by decide) (fun _ => k X2 Y2 h3) (fun h9 => absurd rfl h9)
set_option maxHeartbeats 1000000 in
set_option maxRecDepth 100000 in
theorem law_c9 {c : cx} {bs Ls : Nat} {xss : Nat → Int32} {Q : Option Value → va_W → Prop} {X : nX} {Y : nY} {i : Nat} (hi : i + 7 ≤ Ls) (hL : Ls ≤ 3584) (hR : Rel X Y) (k : ∀ X Y, Rel X Y → lz c bs Ls xss Q 1573 (lvL c bs i) [] X Y) : lz c bs Ls xss Q 513 (lvL c bs i) [] X Y := by
  obtain ⟨v, X1, Y1, X2, Y2, h1, h2, h3⟩ := st_kind (c := c) hR (xss (i + 1))
  refine ly_aload_n dL_law_513 2 rfl ?_
  refine ly_aload_n dL_law_514 3 rfl ?_
  refine ly_iload_n dL_law_515 0 rfl ?_
  refine ly_iconst (v := nI 1) dL_law_516 (by decide) ?_
  refine ly_add dL_law_517 ?_
  refine ly_sld dL_law_518 (by omega) (by omega) ?_
  refine lz_callV (As := [_]) (i := 0) dL_law_519 vlL_57 clX7_kind rfl rfl (by omega) (sh_r0 _ _) rfl (Nat.le_of_ble_eq_true rfl) (Nat.le_of_ble_eq_true rfl) h1 ?_
  refine ly_aload_n dL_law_522 1 rfl ?_
  refine ly_aload_n dL_law_523 3 rfl ?_
  refine ly_iload_n dL_law_524 0 rfl ?_
  refine ly_iconst (v := nI 1) dL_law_525 (by decide) ?_
  refine ly_add dL_law_526 ?_
  refine ly_sld dL_law_527 (by omega) (by omega) ?_
  refine lz_callV (As := [_]) (i := 105) dL_law_528 vlL_60 clX8_kind rfl rfl (by omega) (sh_r105 _ _) rfl (Nat.le_of_ble_eq_true rfl) (Nat.le_of_ble_eq_true rfl) h2 ?_
  exact ly_icmp_eq 1573 dL_law_531 (by decide) (fun _ => k X2 Y2 h3) (fun h9 => absurd rfl h9)
set_option maxHeartbeats 1000000 in
set_option maxRecDepth 100000 in
theorem law_c10 {c : cx} {bs Ls : Nat} {xss : Nat → Int32} {Q : Option Value → va_W → Prop} {X : nX} {Y : nY} {i : Nat} (hi : i + 7 ≤ Ls) (hL : Ls ≤ 3584) (hR : Rel X Y) (k : ∀ X Y, Rel X Y → lz c bs Ls xss Q 1573 (lvL c bs i) [] X Y) : lz c bs Ls xss Q 536 (lvL c bs i) [] X Y := by
  obtain ⟨v, X1, Y1, X2, Y2, h1, h2, h3⟩ := st_count (c := c) hR (xss (i + 1)) (xss (i + 2))
  refine ly_aload_n dL_law_536 2 rfl ?_
  refine ly_aload_n dL_law_537 3 rfl ?_
  refine ly_iload_n dL_law_538 0 rfl ?_
  refine ly_iconst (v := nI 1) dL_law_539 (by decide) ?_
  refine ly_add dL_law_540 ?_
  refine ly_sld dL_law_541 (by omega) (by omega) ?_
  refine ly_aload_n dL_law_542 3 rfl ?_
  refine ly_iload_n dL_law_543 0 rfl ?_
  refine ly_iconst (v := nI 2) dL_law_544 (by decide) ?_
  refine ly_add dL_law_545 ?_
  refine ly_sld dL_law_546 (by omega) (by omega) ?_
  refine lz_callV (As := [_, _]) (i := 0) dL_law_547 vlL_61 clX7_count rfl rfl (by omega) (sh_r0 _ _) rfl (Nat.le_of_ble_eq_true rfl) (Nat.le_of_ble_eq_true rfl) h1 ?_
  refine ly_aload_n dL_law_550 1 rfl ?_
  refine ly_aload_n dL_law_551 3 rfl ?_
  refine ly_iload_n dL_law_552 0 rfl ?_
  refine ly_iconst (v := nI 1) dL_law_553 (by decide) ?_
  refine ly_add dL_law_554 ?_
  refine ly_sld dL_law_555 (by omega) (by omega) ?_
  refine ly_aload_n dL_law_556 3 rfl ?_
  refine ly_iload_n dL_law_557 0 rfl ?_
  refine ly_iconst (v := nI 2) dL_law_558 (by decide) ?_
  refine ly_add dL_law_559 ?_
  refine ly_sld dL_law_560 (by omega) (by omega) ?_
  refine lz_callV (As := [_, _]) (i := 105) dL_law_561 vlL_64 clX8_count rfl rfl (by omega) (sh_r105 _ _) rfl (Nat.le_of_ble_eq_true rfl) (Nat.le_of_ble_eq_true rfl) h2 ?_
  exact ly_icmp_eq 1573 dL_law_564 (by decide) (fun _ => k X2 Y2 h3) (fun h9 => absurd rfl h9)
set_option maxHeartbeats 1000000 in
set_option maxRecDepth 100000 in
theorem law_c11 {c : cx} {bs Ls : Nat} {xss : Nat → Int32} {Q : Option Value → va_W → Prop} {X : nX} {Y : nY} {i : Nat} (hi : i + 7 ≤ Ls) (hL : Ls ≤ 3584) (hR : Rel X Y) (k : ∀ X Y, Rel X Y → lz c bs Ls xss Q 1573 (lvL c bs i) [] X Y) : lz c bs Ls xss Q 569 (lvL c bs i) [] X Y := by
  obtain ⟨v, X1, Y1, X2, Y2, h1, h2, h3⟩ := st_tell (c := c) hR (xss (i + 1)) (xss (i + 2)) (xss (i + 3))
  refine ly_aload_n dL_law_569 2 rfl ?_
  refine ly_aload_n dL_law_570 3 rfl ?_
  refine ly_iload_n dL_law_571 0 rfl ?_
  refine ly_iconst (v := nI 1) dL_law_572 (by decide) ?_
  refine ly_add dL_law_573 ?_
  refine ly_sld dL_law_574 (by omega) (by omega) ?_
  refine ly_aload_n dL_law_575 3 rfl ?_
  refine ly_iload_n dL_law_576 0 rfl ?_
  refine ly_iconst (v := nI 2) dL_law_577 (by decide) ?_
  refine ly_add dL_law_578 ?_
  refine ly_sld dL_law_579 (by omega) (by omega) ?_
  refine ly_aload_n dL_law_580 3 rfl ?_
  refine ly_iload_n dL_law_581 0 rfl ?_
  refine ly_iconst (v := nI 3) dL_law_582 (by decide) ?_
  refine ly_add dL_law_583 ?_
  refine ly_sld dL_law_584 (by omega) (by omega) ?_
  refine lz_callV (As := [_, _, _]) (i := 0) dL_law_585 vlL_65 clX7_tell rfl rfl (by omega) (sh_r0 _ _) rfl (Nat.le_of_ble_eq_true rfl) (Nat.le_of_ble_eq_true rfl) h1 ?_
  refine ly_aload_n dL_law_588 1 rfl ?_
  refine ly_aload_n dL_law_589 3 rfl ?_
  refine ly_iload_n dL_law_590 0 rfl ?_
  refine ly_iconst (v := nI 1) dL_law_591 (by decide) ?_
  refine ly_add dL_law_592 ?_
  refine ly_sld dL_law_593 (by omega) (by omega) ?_
  refine ly_aload_n dL_law_594 3 rfl ?_
  refine ly_iload_n dL_law_595 0 rfl ?_
  refine ly_iconst (v := nI 2) dL_law_596 (by decide) ?_
  refine ly_add dL_law_597 ?_
  refine ly_sld dL_law_598 (by omega) (by omega) ?_
  refine ly_aload_n dL_law_599 3 rfl ?_
  refine ly_iload_n dL_law_600 0 rfl ?_
  refine ly_iconst (v := nI 3) dL_law_601 (by decide) ?_
  refine ly_add dL_law_602 ?_
  refine ly_sld dL_law_603 (by omega) (by omega) ?_
  refine lz_callV (As := [_, _, _]) (i := 105) dL_law_604 vlL_68 clX8_tell rfl rfl (by omega) (sh_r105 _ _) rfl (Nat.le_of_ble_eq_true rfl) (Nat.le_of_ble_eq_true rfl) h2 ?_
  exact ly_icmp_eq 1573 dL_law_607 (by decide) (fun _ => k X2 Y2 h3) (fun h9 => absurd rfl h9)
set_option maxHeartbeats 1000000 in
set_option maxRecDepth 100000 in
theorem law_c12 {c : cx} {bs Ls : Nat} {xss : Nat → Int32} {Q : Option Value → va_W → Prop} {X : nX} {Y : nY} {i : Nat} (hi : i + 7 ≤ Ls) (hL : Ls ≤ 3584) (hR : Rel X Y) (k : ∀ X Y, Rel X Y → lz c bs Ls xss Q 1573 (lvL c bs i) [] X Y) : lz c bs Ls xss Q 612 (lvL c bs i) [] X Y := by
  obtain ⟨v, X1, Y1, X2, Y2, h1, h2, h3⟩ := st_read (c := c) hR (xss (i + 1)) (xss (i + 2))
  refine ly_aload_n dL_law_612 2 rfl ?_
  refine ly_aload_n dL_law_613 3 rfl ?_
  refine ly_iload_n dL_law_614 0 rfl ?_
  refine ly_iconst (v := nI 1) dL_law_615 (by decide) ?_
  refine ly_add dL_law_616 ?_
  refine ly_sld dL_law_617 (by omega) (by omega) ?_
  refine ly_aload_n dL_law_618 3 rfl ?_
  refine ly_iload_n dL_law_619 0 rfl ?_
  refine ly_iconst (v := nI 2) dL_law_620 (by decide) ?_
  refine ly_add dL_law_621 ?_
  refine ly_sld dL_law_622 (by omega) (by omega) ?_
  refine lz_callV (As := [_, _]) (i := 0) dL_law_623 vlL_69 clX7_read rfl rfl (by omega) (sh_r0 _ _) rfl (Nat.le_of_ble_eq_true rfl) (Nat.le_of_ble_eq_true rfl) h1 ?_
  refine ly_aload_n dL_law_626 1 rfl ?_
  refine ly_aload_n dL_law_627 3 rfl ?_
  refine ly_iload_n dL_law_628 0 rfl ?_
  refine ly_iconst (v := nI 1) dL_law_629 (by decide) ?_
  refine ly_add dL_law_630 ?_
  refine ly_sld dL_law_631 (by omega) (by omega) ?_
  refine ly_aload_n dL_law_632 3 rfl ?_
  refine ly_iload_n dL_law_633 0 rfl ?_
  refine ly_iconst (v := nI 2) dL_law_634 (by decide) ?_
  refine ly_add dL_law_635 ?_
  refine ly_sld dL_law_636 (by omega) (by omega) ?_
  refine lz_callV (As := [_, _]) (i := 105) dL_law_637 vlL_72 clX8_read rfl rfl (by omega) (sh_r105 _ _) rfl (Nat.le_of_ble_eq_true rfl) (Nat.le_of_ble_eq_true rfl) h2 ?_
  exact ly_icmp_eq 1573 dL_law_640 (by decide) (fun _ => k X2 Y2 h3) (fun h9 => absurd rfl h9)
set_option maxHeartbeats 1000000 in
set_option maxRecDepth 100000 in
theorem law_c13 {c : cx} {bs Ls : Nat} {xss : Nat → Int32} {Q : Option Value → va_W → Prop} {X : nX} {Y : nY} {i : Nat} (hi : i + 7 ≤ Ls) (hL : Ls ≤ 3584) (hR : Rel X Y) (k : ∀ X Y, Rel X Y → lz c bs Ls xss Q 1573 (lvL c bs i) [] X Y) : lz c bs Ls xss Q 645 (lvL c bs i) [] X Y := by
  obtain ⟨v, X1, Y1, X2, Y2, h1, h2, h3⟩ := st_line (c := c) hR (xss (i + 1)) (xss (i + 2)) (xss (i + 3)) (xss (i + 4))
  refine ly_aload_n dL_law_645 2 rfl ?_
  refine ly_aload_n dL_law_646 3 rfl ?_
  refine ly_iload_n dL_law_647 0 rfl ?_
  refine ly_iconst (v := nI 1) dL_law_648 (by decide) ?_
  refine ly_add dL_law_649 ?_
  refine ly_sld dL_law_650 (by omega) (by omega) ?_
  refine ly_aload_n dL_law_651 3 rfl ?_
  refine ly_iload_n dL_law_652 0 rfl ?_
  refine ly_iconst (v := nI 2) dL_law_653 (by decide) ?_
  refine ly_add dL_law_654 ?_
  refine ly_sld dL_law_655 (by omega) (by omega) ?_
  refine ly_aload_n dL_law_656 3 rfl ?_
  refine ly_iload_n dL_law_657 0 rfl ?_
  refine ly_iconst (v := nI 3) dL_law_658 (by decide) ?_
  refine ly_add dL_law_659 ?_
  refine ly_sld dL_law_660 (by omega) (by omega) ?_
  refine ly_aload_n dL_law_661 3 rfl ?_
  refine ly_iload_n dL_law_662 0 rfl ?_
  refine ly_iconst (v := nI 4) dL_law_663 (by decide) ?_
  refine ly_add dL_law_664 ?_
  refine ly_sld dL_law_665 (by omega) (by omega) ?_
  refine lz_callV (As := [_, _, _, _]) (i := 0) dL_law_666 vlL_73 clX7_line rfl rfl (by omega) (sh_r0 _ _) rfl (Nat.le_of_ble_eq_true rfl) (Nat.le_of_ble_eq_true rfl) h1 ?_
  refine ly_aload_n dL_law_669 1 rfl ?_
  refine ly_aload_n dL_law_670 3 rfl ?_
  refine ly_iload_n dL_law_671 0 rfl ?_
  refine ly_iconst (v := nI 1) dL_law_672 (by decide) ?_
  refine ly_add dL_law_673 ?_
  refine ly_sld dL_law_674 (by omega) (by omega) ?_
  refine ly_aload_n dL_law_675 3 rfl ?_
  refine ly_iload_n dL_law_676 0 rfl ?_
  refine ly_iconst (v := nI 2) dL_law_677 (by decide) ?_
  refine ly_add dL_law_678 ?_
  refine ly_sld dL_law_679 (by omega) (by omega) ?_
  refine ly_aload_n dL_law_680 3 rfl ?_
  refine ly_iload_n dL_law_681 0 rfl ?_
  refine ly_iconst (v := nI 3) dL_law_682 (by decide) ?_
  refine ly_add dL_law_683 ?_
  refine ly_sld dL_law_684 (by omega) (by omega) ?_
  refine ly_aload_n dL_law_685 3 rfl ?_
  refine ly_iload_n dL_law_686 0 rfl ?_
  refine ly_iconst (v := nI 4) dL_law_687 (by decide) ?_
  refine ly_add dL_law_688 ?_
  refine ly_sld dL_law_689 (by omega) (by omega) ?_
  refine lz_callV (As := [_, _, _, _]) (i := 105) dL_law_690 vlL_77 clX8_line rfl rfl (by omega) (sh_r105 _ _) rfl (Nat.le_of_ble_eq_true rfl) (Nat.le_of_ble_eq_true rfl) h2 ?_
  exact ly_icmp_eq 1573 dL_law_693 (by decide) (fun _ => k X2 Y2 h3) (fun h9 => absurd rfl h9)
set_option maxHeartbeats 1000000 in
set_option maxRecDepth 100000 in
theorem law_c14 {c : cx} {bs Ls : Nat} {xss : Nat → Int32} {Q : Option Value → va_W → Prop} {X : nX} {Y : nY} {i : Nat} (hi : i + 7 ≤ Ls) (hL : Ls ≤ 3584) (hR : Rel X Y) (k : ∀ X Y, Rel X Y → lz c bs Ls xss Q 1573 (lvL c bs i) [] X Y) : lz c bs Ls xss Q 698 (lvL c bs i) [] X Y := by
  obtain ⟨v, X1, Y1, X2, Y2, h1, h2, h3⟩ := st_spot (c := c) hR (xss (i + 1)) (xss (i + 2)) (xss (i + 3))
  refine ly_aload_n dL_law_698 2 rfl ?_
  refine ly_aload_n dL_law_699 3 rfl ?_
  refine ly_iload_n dL_law_700 0 rfl ?_
  refine ly_iconst (v := nI 1) dL_law_701 (by decide) ?_
  refine ly_add dL_law_702 ?_
  refine ly_sld dL_law_703 (by omega) (by omega) ?_
  refine ly_aload_n dL_law_704 3 rfl ?_
  refine ly_iload_n dL_law_705 0 rfl ?_
  refine ly_iconst (v := nI 2) dL_law_706 (by decide) ?_
  refine ly_add dL_law_707 ?_
  refine ly_sld dL_law_708 (by omega) (by omega) ?_
  refine ly_aload_n dL_law_709 3 rfl ?_
  refine ly_iload_n dL_law_710 0 rfl ?_
  refine ly_iconst (v := nI 3) dL_law_711 (by decide) ?_
  refine ly_add dL_law_712 ?_
  refine ly_sld dL_law_713 (by omega) (by omega) ?_
  refine lz_callV (As := [_, _, _]) (i := 0) dL_law_714 vlL_78 clX7_spot rfl rfl (by omega) (sh_r0 _ _) rfl (Nat.le_of_ble_eq_true rfl) (Nat.le_of_ble_eq_true rfl) h1 ?_
  refine ly_aload_n dL_law_717 1 rfl ?_
  refine ly_aload_n dL_law_718 3 rfl ?_
  refine ly_iload_n dL_law_719 0 rfl ?_
  refine ly_iconst (v := nI 1) dL_law_720 (by decide) ?_
  refine ly_add dL_law_721 ?_
  refine ly_sld dL_law_722 (by omega) (by omega) ?_
  refine ly_aload_n dL_law_723 3 rfl ?_
  refine ly_iload_n dL_law_724 0 rfl ?_
  refine ly_iconst (v := nI 2) dL_law_725 (by decide) ?_
  refine ly_add dL_law_726 ?_
  refine ly_sld dL_law_727 (by omega) (by omega) ?_
  refine ly_aload_n dL_law_728 3 rfl ?_
  refine ly_iload_n dL_law_729 0 rfl ?_
  refine ly_iconst (v := nI 3) dL_law_730 (by decide) ?_
  refine ly_add dL_law_731 ?_
  refine ly_sld dL_law_732 (by omega) (by omega) ?_
  refine lz_callV (As := [_, _, _]) (i := 105) dL_law_733 vlL_81 clX8_spot rfl rfl (by omega) (sh_r105 _ _) rfl (Nat.le_of_ble_eq_true rfl) (Nat.le_of_ble_eq_true rfl) h2 ?_
  exact ly_icmp_eq 1573 dL_law_736 (by decide) (fun _ => k X2 Y2 h3) (fun h9 => absurd rfl h9)
set_option maxHeartbeats 1000000 in
set_option maxRecDepth 100000 in
theorem law_c15 {c : cx} {bs Ls : Nat} {xss : Nat → Int32} {Q : Option Value → va_W → Prop} {X : nX} {Y : nY} {i : Nat} (hi : i + 7 ≤ Ls) (hL : Ls ≤ 3584) (hR : Rel X Y) (k : ∀ X Y, Rel X Y → lz c bs Ls xss Q 1573 (lvL c bs i) [] X Y) : lz c bs Ls xss Q 741 (lvL c bs i) [] X Y := by
  obtain ⟨v, X1, Y1, X2, Y2, h1, h2, h3⟩ := st_row (c := c) hR (xss (i + 1)) (xss (i + 2)) (xss (i + 3)) (xss (i + 4)) (xss (i + 5)) (xss (i + 6))
  refine ly_aload_n dL_law_741 2 rfl ?_
  refine ly_aload_n dL_law_742 3 rfl ?_
  refine ly_iload_n dL_law_743 0 rfl ?_
  refine ly_iconst (v := nI 1) dL_law_744 (by decide) ?_
  refine ly_add dL_law_745 ?_
  refine ly_sld dL_law_746 (by omega) (by omega) ?_
  refine ly_aload_n dL_law_747 3 rfl ?_
  refine ly_iload_n dL_law_748 0 rfl ?_
  refine ly_iconst (v := nI 2) dL_law_749 (by decide) ?_
  refine ly_add dL_law_750 ?_
  refine ly_sld dL_law_751 (by omega) (by omega) ?_
  refine ly_aload_n dL_law_752 3 rfl ?_
  refine ly_iload_n dL_law_753 0 rfl ?_
  refine ly_iconst (v := nI 3) dL_law_754 (by decide) ?_
  refine ly_add dL_law_755 ?_
  refine ly_sld dL_law_756 (by omega) (by omega) ?_
  refine ly_aload_n dL_law_757 3 rfl ?_
  refine ly_iload_n dL_law_758 0 rfl ?_
  refine ly_iconst (v := nI 4) dL_law_759 (by decide) ?_
  refine ly_add dL_law_760 ?_
  refine ly_sld dL_law_761 (by omega) (by omega) ?_
  refine ly_aload_n dL_law_762 3 rfl ?_
  refine ly_iload_n dL_law_763 0 rfl ?_
  refine ly_iconst (v := nI 5) dL_law_764 (by decide) ?_
  refine ly_add dL_law_765 ?_
  refine ly_sld dL_law_766 (by omega) (by omega) ?_
  refine ly_aload_n dL_law_767 3 rfl ?_
  refine ly_iload_n dL_law_768 0 rfl ?_
  refine ly_bipush (v := nI 6) dL_law_769 (by decide) ?_
  refine ly_add dL_law_771 ?_
  refine ly_sld dL_law_772 (by omega) (by omega) ?_
  refine lz_callV (As := [_, _, _, _, _, _]) (i := 0) dL_law_773 vlL_82 clX7_row rfl rfl (by omega) (sh_r0 _ _) rfl (Nat.le_of_ble_eq_true rfl) (Nat.le_of_ble_eq_true rfl) h1 ?_
  refine ly_aload_n dL_law_776 1 rfl ?_
  refine ly_aload_n dL_law_777 3 rfl ?_
  refine ly_iload_n dL_law_778 0 rfl ?_
  refine ly_iconst (v := nI 1) dL_law_779 (by decide) ?_
  refine ly_add dL_law_780 ?_
  refine ly_sld dL_law_781 (by omega) (by omega) ?_
  refine ly_aload_n dL_law_782 3 rfl ?_
  refine ly_iload_n dL_law_783 0 rfl ?_
  refine ly_iconst (v := nI 2) dL_law_784 (by decide) ?_
  refine ly_add dL_law_785 ?_
  refine ly_sld dL_law_786 (by omega) (by omega) ?_
  refine ly_aload_n dL_law_787 3 rfl ?_
  refine ly_iload_n dL_law_788 0 rfl ?_
  refine ly_iconst (v := nI 3) dL_law_789 (by decide) ?_
  refine ly_add dL_law_790 ?_
  refine ly_sld dL_law_791 (by omega) (by omega) ?_
  refine ly_aload_n dL_law_792 3 rfl ?_
  refine ly_iload_n dL_law_793 0 rfl ?_
  refine ly_iconst (v := nI 4) dL_law_794 (by decide) ?_
  refine ly_add dL_law_795 ?_
  refine ly_sld dL_law_796 (by omega) (by omega) ?_
  refine ly_aload_n dL_law_797 3 rfl ?_
  refine ly_iload_n dL_law_798 0 rfl ?_
  refine ly_iconst (v := nI 5) dL_law_799 (by decide) ?_
  refine ly_add dL_law_800 ?_
  refine ly_sld dL_law_801 (by omega) (by omega) ?_
  refine ly_aload_n dL_law_802 3 rfl ?_
  refine ly_iload_n dL_law_803 0 rfl ?_
  refine ly_bipush (v := nI 6) dL_law_804 (by decide) ?_
  refine ly_add dL_law_806 ?_
  refine ly_sld dL_law_807 (by omega) (by omega) ?_
  refine lz_callV (As := [_, _, _, _, _, _]) (i := 105) dL_law_808 vlL_86 clX8_row rfl rfl (by omega) (sh_r105 _ _) rfl (Nat.le_of_ble_eq_true rfl) (Nat.le_of_ble_eq_true rfl) h2 ?_
  exact ly_icmp_eq 1573 dL_law_811 (by decide) (fun _ => k X2 Y2 h3) (fun h9 => absurd rfl h9)
set_option maxHeartbeats 1000000 in
set_option maxRecDepth 100000 in
theorem law_c16 {c : cx} {bs Ls : Nat} {xss : Nat → Int32} {Q : Option Value → va_W → Prop} {X : nX} {Y : nY} {i : Nat} (hi : i + 7 ≤ Ls) (hL : Ls ≤ 3584) (hR : Rel X Y) (k : ∀ X Y, Rel X Y → lz c bs Ls xss Q 1573 (lvL c bs i) [] X Y) : lz c bs Ls xss Q 816 (lvL c bs i) [] X Y := by
  obtain ⟨v, X1, Y1, X2, Y2, h1, h2, h3⟩ := st_rise (c := c) hR (xss (i + 1)) (xss (i + 2))
  refine ly_aload_n dL_law_816 2 rfl ?_
  refine ly_aload_n dL_law_817 3 rfl ?_
  refine ly_iload_n dL_law_818 0 rfl ?_
  refine ly_iconst (v := nI 1) dL_law_819 (by decide) ?_
  refine ly_add dL_law_820 ?_
  refine ly_sld dL_law_821 (by omega) (by omega) ?_
  refine ly_aload_n dL_law_822 3 rfl ?_
  refine ly_iload_n dL_law_823 0 rfl ?_
  refine ly_iconst (v := nI 2) dL_law_824 (by decide) ?_
  refine ly_add dL_law_825 ?_
  refine ly_sld dL_law_826 (by omega) (by omega) ?_
  refine lz_callV (As := [_, _]) (i := 0) dL_law_827 vlL_87 clX7_rise rfl rfl (by omega) (sh_r0 _ _) rfl (Nat.le_of_ble_eq_true rfl) (Nat.le_of_ble_eq_true rfl) h1 ?_
  refine ly_aload_n dL_law_830 1 rfl ?_
  refine ly_aload_n dL_law_831 3 rfl ?_
  refine ly_iload_n dL_law_832 0 rfl ?_
  refine ly_iconst (v := nI 1) dL_law_833 (by decide) ?_
  refine ly_add dL_law_834 ?_
  refine ly_sld dL_law_835 (by omega) (by omega) ?_
  refine ly_aload_n dL_law_836 3 rfl ?_
  refine ly_iload_n dL_law_837 0 rfl ?_
  refine ly_iconst (v := nI 2) dL_law_838 (by decide) ?_
  refine ly_add dL_law_839 ?_
  refine ly_sld dL_law_840 (by omega) (by omega) ?_
  refine lz_callV (As := [_, _]) (i := 105) dL_law_841 vlL_90 clX8_rise rfl rfl (by omega) (sh_r105 _ _) rfl (Nat.le_of_ble_eq_true rfl) (Nat.le_of_ble_eq_true rfl) h2 ?_
  exact ly_icmp_eq 1573 dL_law_844 (by decide) (fun _ => k X2 Y2 h3) (fun h9 => absurd rfl h9)
set_option maxHeartbeats 1000000 in
set_option maxRecDepth 100000 in
theorem law_c17 {c : cx} {bs Ls : Nat} {xss : Nat → Int32} {Q : Option Value → va_W → Prop} {X : nX} {Y : nY} {i : Nat} (hi : i + 7 ≤ Ls) (hL : Ls ≤ 3584) (hR : Rel X Y) (k : ∀ X Y, Rel X Y → lz c bs Ls xss Q 1573 (lvL c bs i) [] X Y) : lz c bs Ls xss Q 849 (lvL c bs i) [] X Y := by
  obtain ⟨v, X1, Y1, X2, Y2, h1, h2, h3⟩ := st_add (c := c) hR (xss (i + 1)) (xss (i + 2)) (xss (i + 3))
  refine ly_aload_n dL_law_849 2 rfl ?_
  refine ly_aload_n dL_law_850 3 rfl ?_
  refine ly_iload_n dL_law_851 0 rfl ?_
  refine ly_iconst (v := nI 1) dL_law_852 (by decide) ?_
  refine ly_add dL_law_853 ?_
  refine ly_sld dL_law_854 (by omega) (by omega) ?_
  refine ly_aload_n dL_law_855 3 rfl ?_
  refine ly_iload_n dL_law_856 0 rfl ?_
  refine ly_iconst (v := nI 2) dL_law_857 (by decide) ?_
  refine ly_add dL_law_858 ?_
  refine ly_sld dL_law_859 (by omega) (by omega) ?_
  refine ly_aload_n dL_law_860 3 rfl ?_
  refine ly_iload_n dL_law_861 0 rfl ?_
  refine ly_iconst (v := nI 3) dL_law_862 (by decide) ?_
  refine ly_add dL_law_863 ?_
  refine ly_sld dL_law_864 (by omega) (by omega) ?_
  refine lz_callV (As := [_, _, _]) (i := 0) dL_law_865 vlL_91 clX7_add rfl rfl (by omega) (sh_r0 _ _) rfl (Nat.le_of_ble_eq_true rfl) (Nat.le_of_ble_eq_true rfl) h1 ?_
  refine ly_aload_n dL_law_868 1 rfl ?_
  refine ly_aload_n dL_law_869 3 rfl ?_
  refine ly_iload_n dL_law_870 0 rfl ?_
  refine ly_iconst (v := nI 1) dL_law_871 (by decide) ?_
  refine ly_add dL_law_872 ?_
  refine ly_sld dL_law_873 (by omega) (by omega) ?_
  refine ly_aload_n dL_law_874 3 rfl ?_
  refine ly_iload_n dL_law_875 0 rfl ?_
  refine ly_iconst (v := nI 2) dL_law_876 (by decide) ?_
  refine ly_add dL_law_877 ?_
  refine ly_sld dL_law_878 (by omega) (by omega) ?_
  refine ly_aload_n dL_law_879 3 rfl ?_
  refine ly_iload_n dL_law_880 0 rfl ?_
  refine ly_iconst (v := nI 3) dL_law_881 (by decide) ?_
  refine ly_add dL_law_882 ?_
  refine ly_sld dL_law_883 (by omega) (by omega) ?_
  refine lz_callV (As := [_, _, _]) (i := 105) dL_law_884 vlL_94 clX8_add rfl rfl (by omega) (sh_r105 _ _) rfl (Nat.le_of_ble_eq_true rfl) (Nat.le_of_ble_eq_true rfl) h2 ?_
  exact ly_icmp_eq 1573 dL_law_887 (by decide) (fun _ => k X2 Y2 h3) (fun h9 => absurd rfl h9)
set_option maxHeartbeats 1000000 in
set_option maxRecDepth 100000 in
theorem law_c18 {c : cx} {bs Ls : Nat} {xss : Nat → Int32} {Q : Option Value → va_W → Prop} {X : nX} {Y : nY} {i : Nat} (hi : i + 7 ≤ Ls) (hL : Ls ≤ 3584) (hR : Rel X Y) (k : ∀ X Y, Rel X Y → lz c bs Ls xss Q 1573 (lvL c bs i) [] X Y) : lz c bs Ls xss Q 892 (lvL c bs i) [] X Y := by
  obtain ⟨v, X1, Y1, X2, Y2, h1, h2, h3⟩ := st_price (c := c) hR (xss (i + 1)) (xss (i + 2)) (xss (i + 3))
  refine ly_aload_n dL_law_892 2 rfl ?_
  refine ly_aload_n dL_law_893 3 rfl ?_
  refine ly_iload_n dL_law_894 0 rfl ?_
  refine ly_iconst (v := nI 1) dL_law_895 (by decide) ?_
  refine ly_add dL_law_896 ?_
  refine ly_sld dL_law_897 (by omega) (by omega) ?_
  refine ly_aload_n dL_law_898 3 rfl ?_
  refine ly_iload_n dL_law_899 0 rfl ?_
  refine ly_iconst (v := nI 2) dL_law_900 (by decide) ?_
  refine ly_add dL_law_901 ?_
  refine ly_sld dL_law_902 (by omega) (by omega) ?_
  refine ly_aload_n dL_law_903 3 rfl ?_
  refine ly_iload_n dL_law_904 0 rfl ?_
  refine ly_iconst (v := nI 3) dL_law_905 (by decide) ?_
  refine ly_add dL_law_906 ?_
  refine ly_sld dL_law_907 (by omega) (by omega) ?_
  refine lz_callV (As := [_, _, _]) (i := 0) dL_law_908 vlL_95 clX7_price rfl rfl (by omega) (sh_r0 _ _) rfl (Nat.le_of_ble_eq_true rfl) (Nat.le_of_ble_eq_true rfl) h1 ?_
  refine ly_aload_n dL_law_911 1 rfl ?_
  refine ly_aload_n dL_law_912 3 rfl ?_
  refine ly_iload_n dL_law_913 0 rfl ?_
  refine ly_iconst (v := nI 1) dL_law_914 (by decide) ?_
  refine ly_add dL_law_915 ?_
  refine ly_sld dL_law_916 (by omega) (by omega) ?_
  refine ly_aload_n dL_law_917 3 rfl ?_
  refine ly_iload_n dL_law_918 0 rfl ?_
  refine ly_iconst (v := nI 2) dL_law_919 (by decide) ?_
  refine ly_add dL_law_920 ?_
  refine ly_sld dL_law_921 (by omega) (by omega) ?_
  refine ly_aload_n dL_law_922 3 rfl ?_
  refine ly_iload_n dL_law_923 0 rfl ?_
  refine ly_iconst (v := nI 3) dL_law_924 (by decide) ?_
  refine ly_add dL_law_925 ?_
  refine ly_sld dL_law_926 (by omega) (by omega) ?_
  refine lz_callV (As := [_, _, _]) (i := 105) dL_law_927 vlL_98 clX8_price rfl rfl (by omega) (sh_r105 _ _) rfl (Nat.le_of_ble_eq_true rfl) (Nat.le_of_ble_eq_true rfl) h2 ?_
  exact ly_icmp_eq 1573 dL_law_930 (by decide) (fun _ => k X2 Y2 h3) (fun h9 => absurd rfl h9)
set_option maxHeartbeats 1000000 in
set_option maxRecDepth 100000 in
theorem law_c19 {c : cx} {bs Ls : Nat} {xss : Nat → Int32} {Q : Option Value → va_W → Prop} {X : nX} {Y : nY} {i : Nat} (hi : i + 7 ≤ Ls) (hL : Ls ≤ 3584) (hR : Rel X Y) (k : ∀ X Y, Rel X Y → lz c bs Ls xss Q 1573 (lvL c bs i) [] X Y) : lz c bs Ls xss Q 935 (lvL c bs i) [] X Y := by
  obtain ⟨v, X1, Y1, X2, Y2, h1, h2, h3⟩ := st_code (c := c) hR 
  refine ly_aload_n dL_law_935 2 rfl ?_
  refine lz_callV (As := []) (i := 0) dL_law_936 vlL_99 clX7_code rfl rfl (by omega) (sh_r0 _ _) rfl (Nat.le_of_ble_eq_true rfl) (Nat.le_of_ble_eq_true rfl) h1 ?_
  refine ly_aload_n dL_law_939 1 rfl ?_
  refine lz_callV (As := []) (i := 105) dL_law_940 vlL_102 clX8_code rfl rfl (by omega) (sh_r105 _ _) rfl (Nat.le_of_ble_eq_true rfl) (Nat.le_of_ble_eq_true rfl) h2 ?_
  exact ly_icmp_eq 1573 dL_law_943 (by decide) (fun _ => k X2 Y2 h3) (fun h9 => absurd rfl h9)
set_option maxHeartbeats 1000000 in
set_option maxRecDepth 100000 in
theorem law_c20 {c : cx} {bs Ls : Nat} {xss : Nat → Int32} {Q : Option Value → va_W → Prop} {X : nX} {Y : nY} {i : Nat} (hi : i + 7 ≤ Ls) (hL : Ls ≤ 3584) (hR : Rel X Y) (k : ∀ X Y, Rel X Y → lz c bs Ls xss Q 1573 (lvL c bs i) [] X Y) : lz c bs Ls xss Q 948 (lvL c bs i) [] X Y := by
  obtain ⟨v, X1, Y1, X2, Y2, h1, h2, h3⟩ := st_value (c := c) hR (xss (i + 1)) (xss (i + 2))
  refine ly_aload_n dL_law_948 2 rfl ?_
  refine ly_aload_n dL_law_949 3 rfl ?_
  refine ly_iload_n dL_law_950 0 rfl ?_
  refine ly_iconst (v := nI 1) dL_law_951 (by decide) ?_
  refine ly_add dL_law_952 ?_
  refine ly_sld dL_law_953 (by omega) (by omega) ?_
  refine ly_aload_n dL_law_954 3 rfl ?_
  refine ly_iload_n dL_law_955 0 rfl ?_
  refine ly_iconst (v := nI 2) dL_law_956 (by decide) ?_
  refine ly_add dL_law_957 ?_
  refine ly_sld dL_law_958 (by omega) (by omega) ?_
  refine lz_callV (As := [_, _]) (i := 0) dL_law_959 vlL_103 clX7_value rfl rfl (by omega) (sh_r0 _ _) rfl (Nat.le_of_ble_eq_true rfl) (Nat.le_of_ble_eq_true rfl) h1 ?_
  refine ly_aload_n dL_law_962 1 rfl ?_
  refine ly_aload_n dL_law_963 3 rfl ?_
  refine ly_iload_n dL_law_964 0 rfl ?_
  refine ly_iconst (v := nI 1) dL_law_965 (by decide) ?_
  refine ly_add dL_law_966 ?_
  refine ly_sld dL_law_967 (by omega) (by omega) ?_
  refine ly_aload_n dL_law_968 3 rfl ?_
  refine ly_iload_n dL_law_969 0 rfl ?_
  refine ly_iconst (v := nI 2) dL_law_970 (by decide) ?_
  refine ly_add dL_law_971 ?_
  refine ly_sld dL_law_972 (by omega) (by omega) ?_
  refine lz_callV (As := [_, _]) (i := 105) dL_law_973 vlL_106 clX8_value rfl rfl (by omega) (sh_r105 _ _) rfl (Nat.le_of_ble_eq_true rfl) (Nat.le_of_ble_eq_true rfl) h2 ?_
  exact ly_lcmp dL_law_976 (ly_if_eq 1573 dL_law_977 (by decide) (fun _ => k X2 Y2 h3) (fun h9 => absurd ((lg_cmp_eq0 _ _).mpr rfl) h9))
set_option maxHeartbeats 1000000 in
set_option maxRecDepth 100000 in
theorem law_c21 {c : cx} {bs Ls : Nat} {xss : Nat → Int32} {Q : Option Value → va_W → Prop} {X : nX} {Y : nY} {i : Nat} (hi : i + 7 ≤ Ls) (hL : Ls ≤ 3584) (hR : Rel X Y) (k : ∀ X Y, Rel X Y → lz c bs Ls xss Q 1573 (lvL c bs i) [] X Y) : lz c bs Ls xss Q 982 (lvL c bs i) [] X Y := by
  obtain ⟨v, X1, Y1, X2, Y2, h1, h2, h3⟩ := st_adds (c := c) hR (xss (i + 1)) (xss (i + 2)) (xss (i + 3))
  refine ly_aload_n dL_law_982 2 rfl ?_
  refine ly_aload_n dL_law_983 3 rfl ?_
  refine ly_iload_n dL_law_984 0 rfl ?_
  refine ly_iconst (v := nI 1) dL_law_985 (by decide) ?_
  refine ly_add dL_law_986 ?_
  refine ly_sld dL_law_987 (by omega) (by omega) ?_
  refine ly_aload_n dL_law_988 3 rfl ?_
  refine ly_iload_n dL_law_989 0 rfl ?_
  refine ly_iconst (v := nI 2) dL_law_990 (by decide) ?_
  refine ly_add dL_law_991 ?_
  refine ly_sld dL_law_992 (by omega) (by omega) ?_
  refine ly_aload_n dL_law_993 3 rfl ?_
  refine ly_iload_n dL_law_994 0 rfl ?_
  refine ly_iconst (v := nI 3) dL_law_995 (by decide) ?_
  refine ly_add dL_law_996 ?_
  refine ly_sld dL_law_997 (by omega) (by omega) ?_
  refine lz_callV (As := [_, _, _]) (i := 0) dL_law_998 vlL_107 clX7_adds rfl rfl (by omega) (sh_r0 _ _) rfl (Nat.le_of_ble_eq_true rfl) (Nat.le_of_ble_eq_true rfl) h1 ?_
  refine ly_aload_n dL_law_1001 1 rfl ?_
  refine ly_aload_n dL_law_1002 3 rfl ?_
  refine ly_iload_n dL_law_1003 0 rfl ?_
  refine ly_iconst (v := nI 1) dL_law_1004 (by decide) ?_
  refine ly_add dL_law_1005 ?_
  refine ly_sld dL_law_1006 (by omega) (by omega) ?_
  refine ly_aload_n dL_law_1007 3 rfl ?_
  refine ly_iload_n dL_law_1008 0 rfl ?_
  refine ly_iconst (v := nI 2) dL_law_1009 (by decide) ?_
  refine ly_add dL_law_1010 ?_
  refine ly_sld dL_law_1011 (by omega) (by omega) ?_
  refine ly_aload_n dL_law_1012 3 rfl ?_
  refine ly_iload_n dL_law_1013 0 rfl ?_
  refine ly_iconst (v := nI 3) dL_law_1014 (by decide) ?_
  refine ly_add dL_law_1015 ?_
  refine ly_sld dL_law_1016 (by omega) (by omega) ?_
  refine lz_callV (As := [_, _, _]) (i := 105) dL_law_1017 vlL_111 clX8_adds rfl rfl (by omega) (sh_r105 _ _) rfl (Nat.le_of_ble_eq_true rfl) (Nat.le_of_ble_eq_true rfl) h2 ?_
  exact ly_lcmp dL_law_1020 (ly_if_eq 1573 dL_law_1021 (by decide) (fun _ => k X2 Y2 h3) (fun h9 => absurd ((lg_cmp_eq0 _ _).mpr rfl) h9))
set_option maxHeartbeats 1000000 in
set_option maxRecDepth 100000 in
theorem law_c22 {c : cx} {bs Ls : Nat} {xss : Nat → Int32} {Q : Option Value → va_W → Prop} {X : nX} {Y : nY} {i : Nat} (hi : i + 7 ≤ Ls) (hL : Ls ≤ 3584) (hR : Rel X Y) (k : ∀ X Y, Rel X Y → lz c bs Ls xss Q 1573 (lvL c bs i) [] X Y) : lz c bs Ls xss Q 1026 (lvL c bs i) [] X Y := by
  obtain ⟨v, X1, Y1, X2, Y2, h1, h2, h3⟩ := st_falls (c := c) hR (xss (i + 1))
  refine ly_aload_n dL_law_1026 2 rfl ?_
  refine ly_aload_n dL_law_1027 3 rfl ?_
  refine ly_iload_n dL_law_1028 0 rfl ?_
  refine ly_iconst (v := nI 1) dL_law_1029 (by decide) ?_
  refine ly_add dL_law_1030 ?_
  refine ly_sld dL_law_1031 (by omega) (by omega) ?_
  refine lz_callV (As := [_]) (i := 0) dL_law_1032 vlL_112 clX7_falls rfl rfl (by omega) (sh_r0 _ _) rfl (Nat.le_of_ble_eq_true rfl) (Nat.le_of_ble_eq_true rfl) h1 ?_
  refine ly_aload_n dL_law_1035 1 rfl ?_
  refine ly_aload_n dL_law_1036 3 rfl ?_
  refine ly_iload_n dL_law_1037 0 rfl ?_
  refine ly_iconst (v := nI 1) dL_law_1038 (by decide) ?_
  refine ly_add dL_law_1039 ?_
  refine ly_sld dL_law_1040 (by omega) (by omega) ?_
  refine lz_callV (As := [_]) (i := 105) dL_law_1041 vlL_115 clX8_falls rfl rfl (by omega) (sh_r105 _ _) rfl (Nat.le_of_ble_eq_true rfl) (Nat.le_of_ble_eq_true rfl) h2 ?_
  exact ly_icmp_eq 1573 dL_law_1044 (by decide) (fun _ => k X2 Y2 h3) (fun h9 => absurd rfl h9)
set_option maxHeartbeats 1000000 in
set_option maxRecDepth 100000 in
theorem law_c23 {c : cx} {bs Ls : Nat} {xss : Nat → Int32} {Q : Option Value → va_W → Prop} {X : nX} {Y : nY} {i : Nat} (hi : i + 7 ≤ Ls) (hL : Ls ≤ 3584) (hR : Rel X Y) (k : ∀ X Y, Rel X Y → lz c bs Ls xss Q 1573 (lvL c bs i) [] X Y) : lz c bs Ls xss Q 1049 (lvL c bs i) [] X Y := by
  obtain ⟨v, X1, Y1, X2, Y2, h1, h2, h3⟩ := st_why (c := c) hR (xss (i + 1)) (xss (i + 2))
  refine ly_aload_n dL_law_1049 2 rfl ?_
  refine ly_aload_n dL_law_1050 3 rfl ?_
  refine ly_iload_n dL_law_1051 0 rfl ?_
  refine ly_iconst (v := nI 1) dL_law_1052 (by decide) ?_
  refine ly_add dL_law_1053 ?_
  refine ly_sld dL_law_1054 (by omega) (by omega) ?_
  refine ly_aload_n dL_law_1055 3 rfl ?_
  refine ly_iload_n dL_law_1056 0 rfl ?_
  refine ly_iconst (v := nI 2) dL_law_1057 (by decide) ?_
  refine ly_add dL_law_1058 ?_
  refine ly_sld dL_law_1059 (by omega) (by omega) ?_
  refine lz_callV (As := [_, _]) (i := 0) dL_law_1060 vlL_116 clX7_why rfl rfl (by omega) (sh_r0 _ _) rfl (Nat.le_of_ble_eq_true rfl) (Nat.le_of_ble_eq_true rfl) h1 ?_
  refine ly_aload_n dL_law_1063 1 rfl ?_
  refine ly_aload_n dL_law_1064 3 rfl ?_
  refine ly_iload_n dL_law_1065 0 rfl ?_
  refine ly_iconst (v := nI 1) dL_law_1066 (by decide) ?_
  refine ly_add dL_law_1067 ?_
  refine ly_sld dL_law_1068 (by omega) (by omega) ?_
  refine ly_aload_n dL_law_1069 3 rfl ?_
  refine ly_iload_n dL_law_1070 0 rfl ?_
  refine ly_iconst (v := nI 2) dL_law_1071 (by decide) ?_
  refine ly_add dL_law_1072 ?_
  refine ly_sld dL_law_1073 (by omega) (by omega) ?_
  refine lz_callV (As := [_, _]) (i := 105) dL_law_1074 vlL_119 clX8_why rfl rfl (by omega) (sh_r105 _ _) rfl (Nat.le_of_ble_eq_true rfl) (Nat.le_of_ble_eq_true rfl) h2 ?_
  exact ly_icmp_eq 1573 dL_law_1077 (by decide) (fun _ => k X2 Y2 h3) (fun h9 => absurd rfl h9)
set_option maxHeartbeats 1000000 in
set_option maxRecDepth 100000 in
theorem law_c24 {c : cx} {bs Ls : Nat} {xss : Nat → Int32} {Q : Option Value → va_W → Prop} {X : nX} {Y : nY} {i : Nat} (hi : i + 7 ≤ Ls) (hL : Ls ≤ 3584) (hR : Rel X Y) (k : ∀ X Y, Rel X Y → lz c bs Ls xss Q 1573 (lvL c bs i) [] X Y) : lz c bs Ls xss Q 1082 (lvL c bs i) [] X Y := by
  obtain ⟨v, X1, Y1, X2, Y2, h1, h2, h3⟩ := st_least (c := c) hR (xss (i + 1))
  refine ly_aload_n dL_law_1082 2 rfl ?_
  refine ly_aload_n dL_law_1083 3 rfl ?_
  refine ly_iload_n dL_law_1084 0 rfl ?_
  refine ly_iconst (v := nI 1) dL_law_1085 (by decide) ?_
  refine ly_add dL_law_1086 ?_
  refine ly_sld dL_law_1087 (by omega) (by omega) ?_
  refine lz_callV (As := [_]) (i := 0) dL_law_1088 vlL_120 clX7_least rfl rfl (by omega) (sh_r0 _ _) rfl (Nat.le_of_ble_eq_true rfl) (Nat.le_of_ble_eq_true rfl) h1 ?_
  refine ly_aload_n dL_law_1091 1 rfl ?_
  refine ly_aload_n dL_law_1092 3 rfl ?_
  refine ly_iload_n dL_law_1093 0 rfl ?_
  refine ly_iconst (v := nI 1) dL_law_1094 (by decide) ?_
  refine ly_add dL_law_1095 ?_
  refine ly_sld dL_law_1096 (by omega) (by omega) ?_
  refine lz_callV (As := [_]) (i := 105) dL_law_1097 vlL_124 clX8_least rfl rfl (by omega) (sh_r105 _ _) rfl (Nat.le_of_ble_eq_true rfl) (Nat.le_of_ble_eq_true rfl) h2 ?_
  exact ly_lcmp dL_law_1100 (ly_if_eq 1573 dL_law_1101 (by decide) (fun _ => k X2 Y2 h3) (fun h9 => absurd ((lg_cmp_eq0 _ _).mpr rfl) h9))
set_option maxHeartbeats 1000000 in
set_option maxRecDepth 100000 in
theorem law_c25 {c : cx} {bs Ls : Nat} {xss : Nat → Int32} {Q : Option Value → va_W → Prop} {X : nX} {Y : nY} {i : Nat} (hi : i + 7 ≤ Ls) (hL : Ls ≤ 3584) (hR : Rel X Y) (k : ∀ X Y, Rel X Y → lz c bs Ls xss Q 1573 (lvL c bs i) [] X Y) : lz c bs Ls xss Q 1106 (lvL c bs i) [] X Y := by
  obtain ⟨v, X1, Y1, X2, Y2, h1, h2, h3⟩ := st_all (c := c) hR (xss (i + 1)) (xss (i + 2))
  refine ly_aload_n dL_law_1106 2 rfl ?_
  refine ly_aload_n dL_law_1107 3 rfl ?_
  refine ly_iload_n dL_law_1108 0 rfl ?_
  refine ly_iconst (v := nI 1) dL_law_1109 (by decide) ?_
  refine ly_add dL_law_1110 ?_
  refine ly_sld dL_law_1111 (by omega) (by omega) ?_
  refine ly_aload_n dL_law_1112 3 rfl ?_
  refine ly_iload_n dL_law_1113 0 rfl ?_
  refine ly_iconst (v := nI 2) dL_law_1114 (by decide) ?_
  refine ly_add dL_law_1115 ?_
  refine ly_sld dL_law_1116 (by omega) (by omega) ?_
  refine lz_callV (As := [_, _]) (i := 0) dL_law_1117 vlL_125 clX7_all rfl rfl (by omega) (sh_r0 _ _) rfl (Nat.le_of_ble_eq_true rfl) (Nat.le_of_ble_eq_true rfl) h1 ?_
  refine ly_aload_n dL_law_1120 1 rfl ?_
  refine ly_aload_n dL_law_1121 3 rfl ?_
  refine ly_iload_n dL_law_1122 0 rfl ?_
  refine ly_iconst (v := nI 1) dL_law_1123 (by decide) ?_
  refine ly_add dL_law_1124 ?_
  refine ly_sld dL_law_1125 (by omega) (by omega) ?_
  refine ly_aload_n dL_law_1126 3 rfl ?_
  refine ly_iload_n dL_law_1127 0 rfl ?_
  refine ly_iconst (v := nI 2) dL_law_1128 (by decide) ?_
  refine ly_add dL_law_1129 ?_
  refine ly_sld dL_law_1130 (by omega) (by omega) ?_
  refine lz_callV (As := [_, _]) (i := 105) dL_law_1131 vlL_128 clX8_all rfl rfl (by omega) (sh_r105 _ _) rfl (Nat.le_of_ble_eq_true rfl) (Nat.le_of_ble_eq_true rfl) h2 ?_
  exact ly_icmp_eq 1573 dL_law_1134 (by decide) (fun _ => k X2 Y2 h3) (fun h9 => absurd rfl h9)
set_option maxHeartbeats 1000000 in
set_option maxRecDepth 100000 in
theorem law_c26 {c : cx} {bs Ls : Nat} {xss : Nat → Int32} {Q : Option Value → va_W → Prop} {X : nX} {Y : nY} {i : Nat} (hi : i + 7 ≤ Ls) (hL : Ls ≤ 3584) (hR : Rel X Y) (k : ∀ X Y, Rel X Y → lz c bs Ls xss Q 1573 (lvL c bs i) [] X Y) : lz c bs Ls xss Q 1139 (lvL c bs i) [] X Y := by
  obtain ⟨v, X1, Y1, X2, Y2, h1, h2, h3⟩ := st_one (c := c) hR (xss (i + 1)) (xss (i + 2))
  refine ly_aload_n dL_law_1139 2 rfl ?_
  refine ly_aload_n dL_law_1140 3 rfl ?_
  refine ly_iload_n dL_law_1141 0 rfl ?_
  refine ly_iconst (v := nI 1) dL_law_1142 (by decide) ?_
  refine ly_add dL_law_1143 ?_
  refine ly_sld dL_law_1144 (by omega) (by omega) ?_
  refine ly_aload_n dL_law_1145 3 rfl ?_
  refine ly_iload_n dL_law_1146 0 rfl ?_
  refine ly_iconst (v := nI 2) dL_law_1147 (by decide) ?_
  refine ly_add dL_law_1148 ?_
  refine ly_sld dL_law_1149 (by omega) (by omega) ?_
  refine lz_callV (As := [_, _]) (i := 0) dL_law_1150 vlL_129 clX7_one rfl rfl (by omega) (sh_r0 _ _) rfl (Nat.le_of_ble_eq_true rfl) (Nat.le_of_ble_eq_true rfl) h1 ?_
  refine ly_aload_n dL_law_1153 1 rfl ?_
  refine ly_aload_n dL_law_1154 3 rfl ?_
  refine ly_iload_n dL_law_1155 0 rfl ?_
  refine ly_iconst (v := nI 1) dL_law_1156 (by decide) ?_
  refine ly_add dL_law_1157 ?_
  refine ly_sld dL_law_1158 (by omega) (by omega) ?_
  refine ly_aload_n dL_law_1159 3 rfl ?_
  refine ly_iload_n dL_law_1160 0 rfl ?_
  refine ly_iconst (v := nI 2) dL_law_1161 (by decide) ?_
  refine ly_add dL_law_1162 ?_
  refine ly_sld dL_law_1163 (by omega) (by omega) ?_
  refine lz_callV (As := [_, _]) (i := 105) dL_law_1164 vlL_132 clX8_one rfl rfl (by omega) (sh_r105 _ _) rfl (Nat.le_of_ble_eq_true rfl) (Nat.le_of_ble_eq_true rfl) h2 ?_
  exact ly_icmp_eq 1573 dL_law_1167 (by decide) (fun _ => k X2 Y2 h3) (fun h9 => absurd rfl h9)
set_option maxHeartbeats 1000000 in
set_option maxRecDepth 100000 in
theorem law_c27 {c : cx} {bs Ls : Nat} {xss : Nat → Int32} {Q : Option Value → va_W → Prop} {X : nX} {Y : nY} {i : Nat} (hi : i + 7 ≤ Ls) (hL : Ls ≤ 3584) (hR : Rel X Y) (k : ∀ X Y, Rel X Y → lz c bs Ls xss Q 1573 (lvL c bs i) [] X Y) : lz c bs Ls xss Q 1172 (lvL c bs i) [] X Y := by
  obtain ⟨v, X1, Y1, X2, Y2, h1, h2, h3⟩ := st_level (c := c) hR (xss (i + 1)) (xss (i + 2))
  refine ly_aload_n dL_law_1172 2 rfl ?_
  refine ly_aload_n dL_law_1173 3 rfl ?_
  refine ly_iload_n dL_law_1174 0 rfl ?_
  refine ly_iconst (v := nI 1) dL_law_1175 (by decide) ?_
  refine ly_add dL_law_1176 ?_
  refine ly_sld dL_law_1177 (by omega) (by omega) ?_
  refine ly_aload_n dL_law_1178 3 rfl ?_
  refine ly_iload_n dL_law_1179 0 rfl ?_
  refine ly_iconst (v := nI 2) dL_law_1180 (by decide) ?_
  refine ly_add dL_law_1181 ?_
  refine ly_sld dL_law_1182 (by omega) (by omega) ?_
  refine lz_callV (As := [_, _]) (i := 0) dL_law_1183 vlL_133 clX7_level rfl rfl (by omega) (sh_r0 _ _) rfl (Nat.le_of_ble_eq_true rfl) (Nat.le_of_ble_eq_true rfl) h1 ?_
  refine ly_aload_n dL_law_1186 1 rfl ?_
  refine ly_aload_n dL_law_1187 3 rfl ?_
  refine ly_iload_n dL_law_1188 0 rfl ?_
  refine ly_iconst (v := nI 1) dL_law_1189 (by decide) ?_
  refine ly_add dL_law_1190 ?_
  refine ly_sld dL_law_1191 (by omega) (by omega) ?_
  refine ly_aload_n dL_law_1192 3 rfl ?_
  refine ly_iload_n dL_law_1193 0 rfl ?_
  refine ly_iconst (v := nI 2) dL_law_1194 (by decide) ?_
  refine ly_add dL_law_1195 ?_
  refine ly_sld dL_law_1196 (by omega) (by omega) ?_
  refine lz_callV (As := [_, _]) (i := 105) dL_law_1197 vlL_136 clX8_level rfl rfl (by omega) (sh_r105 _ _) rfl (Nat.le_of_ble_eq_true rfl) (Nat.le_of_ble_eq_true rfl) h2 ?_
  exact ly_lcmp dL_law_1200 (ly_if_eq 1573 dL_law_1201 (by decide) (fun _ => k X2 Y2 h3) (fun h9 => absurd ((lg_cmp_eq0 _ _).mpr rfl) h9))
set_option maxHeartbeats 1000000 in
set_option maxRecDepth 100000 in
theorem law_c28 {c : cx} {bs Ls : Nat} {xss : Nat → Int32} {Q : Option Value → va_W → Prop} {X : nX} {Y : nY} {i : Nat} (hi : i + 7 ≤ Ls) (hL : Ls ≤ 3584) (hR : Rel X Y) (k : ∀ X Y, Rel X Y → lz c bs Ls xss Q 1573 (lvL c bs i) [] X Y) : lz c bs Ls xss Q 1206 (lvL c bs i) [] X Y := by
  obtain ⟨v, X1, Y1, X2, Y2, h1, h2, h3⟩ := st_bends (c := c) hR (xss (i + 1))
  refine ly_aload_n dL_law_1206 2 rfl ?_
  refine ly_aload_n dL_law_1207 3 rfl ?_
  refine ly_iload_n dL_law_1208 0 rfl ?_
  refine ly_iconst (v := nI 1) dL_law_1209 (by decide) ?_
  refine ly_add dL_law_1210 ?_
  refine ly_sld dL_law_1211 (by omega) (by omega) ?_
  refine lz_callV (As := [_]) (i := 0) dL_law_1212 vlL_137 clX7_bends rfl rfl (by omega) (sh_r0 _ _) rfl (Nat.le_of_ble_eq_true rfl) (Nat.le_of_ble_eq_true rfl) h1 ?_
  refine ly_aload_n dL_law_1215 1 rfl ?_
  refine ly_aload_n dL_law_1216 3 rfl ?_
  refine ly_iload_n dL_law_1217 0 rfl ?_
  refine ly_iconst (v := nI 1) dL_law_1218 (by decide) ?_
  refine ly_add dL_law_1219 ?_
  refine ly_sld dL_law_1220 (by omega) (by omega) ?_
  refine lz_callV (As := [_]) (i := 105) dL_law_1221 vlL_140 clX8_bends rfl rfl (by omega) (sh_r105 _ _) rfl (Nat.le_of_ble_eq_true rfl) (Nat.le_of_ble_eq_true rfl) h2 ?_
  exact ly_icmp_eq 1573 dL_law_1224 (by decide) (fun _ => k X2 Y2 h3) (fun h9 => absurd rfl h9)
set_option maxHeartbeats 1000000 in
set_option maxRecDepth 100000 in
theorem law_c29 {c : cx} {bs Ls : Nat} {xss : Nat → Int32} {Q : Option Value → va_W → Prop} {X : nX} {Y : nY} {i : Nat} (hi : i + 7 ≤ Ls) (hL : Ls ≤ 3584) (hR : Rel X Y) (k : ∀ X Y, Rel X Y → lz c bs Ls xss Q 1573 (lvL c bs i) [] X Y) : lz c bs Ls xss Q 1229 (lvL c bs i) [] X Y := by
  obtain ⟨v, X1, Y1, X2, Y2, h1, h2, h3⟩ := st_bend (c := c) hR (xss (i + 1)) (xss (i + 2)) (xss (i + 3))
  refine ly_aload_n dL_law_1229 2 rfl ?_
  refine ly_aload_n dL_law_1230 3 rfl ?_
  refine ly_iload_n dL_law_1231 0 rfl ?_
  refine ly_iconst (v := nI 1) dL_law_1232 (by decide) ?_
  refine ly_add dL_law_1233 ?_
  refine ly_sld dL_law_1234 (by omega) (by omega) ?_
  refine ly_aload_n dL_law_1235 3 rfl ?_
  refine ly_iload_n dL_law_1236 0 rfl ?_
  refine ly_iconst (v := nI 2) dL_law_1237 (by decide) ?_
  refine ly_add dL_law_1238 ?_
  refine ly_sld dL_law_1239 (by omega) (by omega) ?_
  refine ly_aload_n dL_law_1240 3 rfl ?_
  refine ly_iload_n dL_law_1241 0 rfl ?_
  refine ly_iconst (v := nI 3) dL_law_1242 (by decide) ?_
  refine ly_add dL_law_1243 ?_
  refine ly_sld dL_law_1244 (by omega) (by omega) ?_
  refine lz_callV (As := [_, _, _]) (i := 0) dL_law_1245 vlL_141 clX7_bend rfl rfl (by omega) (sh_r0 _ _) rfl (Nat.le_of_ble_eq_true rfl) (Nat.le_of_ble_eq_true rfl) h1 ?_
  refine ly_aload_n dL_law_1248 1 rfl ?_
  refine ly_aload_n dL_law_1249 3 rfl ?_
  refine ly_iload_n dL_law_1250 0 rfl ?_
  refine ly_iconst (v := nI 1) dL_law_1251 (by decide) ?_
  refine ly_add dL_law_1252 ?_
  refine ly_sld dL_law_1253 (by omega) (by omega) ?_
  refine ly_aload_n dL_law_1254 3 rfl ?_
  refine ly_iload_n dL_law_1255 0 rfl ?_
  refine ly_iconst (v := nI 2) dL_law_1256 (by decide) ?_
  refine ly_add dL_law_1257 ?_
  refine ly_sld dL_law_1258 (by omega) (by omega) ?_
  refine ly_aload_n dL_law_1259 3 rfl ?_
  refine ly_iload_n dL_law_1260 0 rfl ?_
  refine ly_iconst (v := nI 3) dL_law_1261 (by decide) ?_
  refine ly_add dL_law_1262 ?_
  refine ly_sld dL_law_1263 (by omega) (by omega) ?_
  refine lz_callV (As := [_, _, _]) (i := 105) dL_law_1264 vlL_144 clX8_bend rfl rfl (by omega) (sh_r105 _ _) rfl (Nat.le_of_ble_eq_true rfl) (Nat.le_of_ble_eq_true rfl) h2 ?_
  exact ly_lcmp dL_law_1267 (ly_if_eq 1573 dL_law_1268 (by decide) (fun _ => k X2 Y2 h3) (fun h9 => absurd ((lg_cmp_eq0 _ _).mpr rfl) h9))
set_option maxHeartbeats 1000000 in
set_option maxRecDepth 100000 in
theorem law_c30 {c : cx} {bs Ls : Nat} {xss : Nat → Int32} {Q : Option Value → va_W → Prop} {X : nX} {Y : nY} {i : Nat} (hi : i + 7 ≤ Ls) (hL : Ls ≤ 3584) (hR : Rel X Y) (k : ∀ X Y, Rel X Y → lz c bs Ls xss Q 1573 (lvL c bs i) [] X Y) : lz c bs Ls xss Q 1273 (lvL c bs i) [] X Y := by
  obtain ⟨v, X1, Y1, X2, Y2, h1, h2, h3⟩ := st_order (c := c) hR (xss (i + 1)) (xss (i + 2))
  refine ly_aload_n dL_law_1273 2 rfl ?_
  refine ly_aload_n dL_law_1274 3 rfl ?_
  refine ly_iload_n dL_law_1275 0 rfl ?_
  refine ly_iconst (v := nI 1) dL_law_1276 (by decide) ?_
  refine ly_add dL_law_1277 ?_
  refine ly_sld dL_law_1278 (by omega) (by omega) ?_
  refine ly_aload_n dL_law_1279 3 rfl ?_
  refine ly_iload_n dL_law_1280 0 rfl ?_
  refine ly_iconst (v := nI 2) dL_law_1281 (by decide) ?_
  refine ly_add dL_law_1282 ?_
  refine ly_sld dL_law_1283 (by omega) (by omega) ?_
  refine lz_callV (As := [_, _]) (i := 0) dL_law_1284 vlL_145 clX7_order rfl rfl (by omega) (sh_r0 _ _) rfl (Nat.le_of_ble_eq_true rfl) (Nat.le_of_ble_eq_true rfl) h1 ?_
  refine ly_aload_n dL_law_1287 1 rfl ?_
  refine ly_aload_n dL_law_1288 3 rfl ?_
  refine ly_iload_n dL_law_1289 0 rfl ?_
  refine ly_iconst (v := nI 1) dL_law_1290 (by decide) ?_
  refine ly_add dL_law_1291 ?_
  refine ly_sld dL_law_1292 (by omega) (by omega) ?_
  refine ly_aload_n dL_law_1293 3 rfl ?_
  refine ly_iload_n dL_law_1294 0 rfl ?_
  refine ly_iconst (v := nI 2) dL_law_1295 (by decide) ?_
  refine ly_add dL_law_1296 ?_
  refine ly_sld dL_law_1297 (by omega) (by omega) ?_
  refine lz_callV (As := [_, _]) (i := 105) dL_law_1298 vlL_148 clX8_order rfl rfl (by omega) (sh_r105 _ _) rfl (Nat.le_of_ble_eq_true rfl) (Nat.le_of_ble_eq_true rfl) h2 ?_
  exact ly_icmp_eq 1573 dL_law_1301 (by decide) (fun _ => k X2 Y2 h3) (fun h9 => absurd rfl h9)
set_option maxHeartbeats 1000000 in
set_option maxRecDepth 100000 in
theorem law_c31 {c : cx} {bs Ls : Nat} {xss : Nat → Int32} {Q : Option Value → va_W → Prop} {X : nX} {Y : nY} {i : Nat} (hi : i + 7 ≤ Ls) (hL : Ls ≤ 3584) (hR : Rel X Y) (k : ∀ X Y, Rel X Y → lz c bs Ls xss Q 1573 (lvL c bs i) [] X Y) : lz c bs Ls xss Q 1306 (lvL c bs i) [] X Y := by
  obtain ⟨v, X1, Y1, X2, Y2, h1, h2, h3⟩ := st_corner (c := c) hR (xss (i + 1))
  refine ly_aload_n dL_law_1306 2 rfl ?_
  refine ly_aload_n dL_law_1307 3 rfl ?_
  refine ly_iload_n dL_law_1308 0 rfl ?_
  refine ly_iconst (v := nI 1) dL_law_1309 (by decide) ?_
  refine ly_add dL_law_1310 ?_
  refine ly_sld dL_law_1311 (by omega) (by omega) ?_
  refine lz_callV (As := [_]) (i := 0) dL_law_1312 vlL_149 clX7_corner rfl rfl (by omega) (sh_r0 _ _) rfl (Nat.le_of_ble_eq_true rfl) (Nat.le_of_ble_eq_true rfl) h1 ?_
  refine ly_aload_n dL_law_1315 1 rfl ?_
  refine ly_aload_n dL_law_1316 3 rfl ?_
  refine ly_iload_n dL_law_1317 0 rfl ?_
  refine ly_iconst (v := nI 1) dL_law_1318 (by decide) ?_
  refine ly_add dL_law_1319 ?_
  refine ly_sld dL_law_1320 (by omega) (by omega) ?_
  refine lz_callV (As := [_]) (i := 105) dL_law_1321 vlL_152 clX8_corner rfl rfl (by omega) (sh_r105 _ _) rfl (Nat.le_of_ble_eq_true rfl) (Nat.le_of_ble_eq_true rfl) h2 ?_
  exact ly_icmp_eq 1573 dL_law_1324 (by decide) (fun _ => k X2 Y2 h3) (fun h9 => absurd rfl h9)
set_option maxHeartbeats 1000000 in
set_option maxRecDepth 100000 in
theorem law_c32 {c : cx} {bs Ls : Nat} {xss : Nat → Int32} {Q : Option Value → va_W → Prop} {X : nX} {Y : nY} {i : Nat} (hi : i + 7 ≤ Ls) (hL : Ls ≤ 3584) (hR : Rel X Y) (k : ∀ X Y, Rel X Y → lz c bs Ls xss Q 1573 (lvL c bs i) [] X Y) : lz c bs Ls xss Q 1329 (lvL c bs i) [] X Y := by
  obtain ⟨v, X1, Y1, X2, Y2, h1, h2, h3⟩ := st_mix (c := c) hR (xss (i + 1)) (xss (i + 2)) (xss (i + 3))
  refine ly_aload_n dL_law_1329 2 rfl ?_
  refine ly_aload_n dL_law_1330 3 rfl ?_
  refine ly_iload_n dL_law_1331 0 rfl ?_
  refine ly_iconst (v := nI 1) dL_law_1332 (by decide) ?_
  refine ly_add dL_law_1333 ?_
  refine ly_sld dL_law_1334 (by omega) (by omega) ?_
  refine ly_aload_n dL_law_1335 3 rfl ?_
  refine ly_iload_n dL_law_1336 0 rfl ?_
  refine ly_iconst (v := nI 2) dL_law_1337 (by decide) ?_
  refine ly_add dL_law_1338 ?_
  refine ly_sld dL_law_1339 (by omega) (by omega) ?_
  refine ly_aload_n dL_law_1340 3 rfl ?_
  refine ly_iload_n dL_law_1341 0 rfl ?_
  refine ly_iconst (v := nI 3) dL_law_1342 (by decide) ?_
  refine ly_add dL_law_1343 ?_
  refine ly_sld dL_law_1344 (by omega) (by omega) ?_
  refine lz_callV (As := [_, _, _]) (i := 0) dL_law_1345 vlL_153 clX7_mix rfl rfl (by omega) (sh_r0 _ _) rfl (Nat.le_of_ble_eq_true rfl) (Nat.le_of_ble_eq_true rfl) h1 ?_
  refine ly_aload_n dL_law_1348 1 rfl ?_
  refine ly_aload_n dL_law_1349 3 rfl ?_
  refine ly_iload_n dL_law_1350 0 rfl ?_
  refine ly_iconst (v := nI 1) dL_law_1351 (by decide) ?_
  refine ly_add dL_law_1352 ?_
  refine ly_sld dL_law_1353 (by omega) (by omega) ?_
  refine ly_aload_n dL_law_1354 3 rfl ?_
  refine ly_iload_n dL_law_1355 0 rfl ?_
  refine ly_iconst (v := nI 2) dL_law_1356 (by decide) ?_
  refine ly_add dL_law_1357 ?_
  refine ly_sld dL_law_1358 (by omega) (by omega) ?_
  refine ly_aload_n dL_law_1359 3 rfl ?_
  refine ly_iload_n dL_law_1360 0 rfl ?_
  refine ly_iconst (v := nI 3) dL_law_1361 (by decide) ?_
  refine ly_add dL_law_1362 ?_
  refine ly_sld dL_law_1363 (by omega) (by omega) ?_
  refine lz_callV (As := [_, _, _]) (i := 105) dL_law_1364 vlL_156 clX8_mix rfl rfl (by omega) (sh_r105 _ _) rfl (Nat.le_of_ble_eq_true rfl) (Nat.le_of_ble_eq_true rfl) h2 ?_
  exact ly_icmp_eq 1573 dL_law_1367 (by decide) (fun _ => k X2 Y2 h3) (fun h9 => absurd rfl h9)
set_option maxHeartbeats 1000000 in
set_option maxRecDepth 100000 in
theorem law_c33 {c : cx} {bs Ls : Nat} {xss : Nat → Int32} {Q : Option Value → va_W → Prop} {X : nX} {Y : nY} {i : Nat} (hi : i + 7 ≤ Ls) (hL : Ls ≤ 3584) (hR : Rel X Y) (k : ∀ X Y, Rel X Y → lz c bs Ls xss Q 1573 (lvL c bs i) [] X Y) : lz c bs Ls xss Q 1372 (lvL c bs i) [] X Y := by
  obtain ⟨v, X1, Y1, X2, Y2, h1, h2, h3⟩ := st_share (c := c) hR (xss (i + 1)) (((xss (i + 2)).toInt64 <<< ((nI 32).toInt64 &&& 63)) ||| ((xss (i + 3)).toInt64 &&& 4294967295))
  refine ly_aload_n dL_law_1372 2 rfl ?_
  refine ly_aload_n dL_law_1373 3 rfl ?_
  refine ly_iload_n dL_law_1374 0 rfl ?_
  refine ly_iconst (v := nI 1) dL_law_1375 (by decide) ?_
  refine ly_add dL_law_1376 ?_
  refine ly_sld dL_law_1377 (by omega) (by omega) ?_
  refine ly_aload_n dL_law_1378 3 rfl ?_
  refine ly_iload_n dL_law_1379 0 rfl ?_
  refine ly_iconst (v := nI 2) dL_law_1380 (by decide) ?_
  refine ly_add dL_law_1381 ?_
  refine ly_sld dL_law_1382 (by omega) (by omega) ?_
  refine ly_i2l dL_law_1383 ?_
  refine ly_bipush (v := nI 32) dL_law_1384 (by decide) ?_
  refine ly_lshl dL_law_1386 ?_
  refine ly_aload_n dL_law_1387 3 rfl ?_
  refine ly_iload_n dL_law_1388 0 rfl ?_
  refine ly_iconst (v := nI 3) dL_law_1389 (by decide) ?_
  refine ly_add dL_law_1390 ?_
  refine ly_sld dL_law_1391 (by omega) (by omega) ?_
  refine ly_i2l dL_law_1392 ?_
  refine ly_ldc2 dL_law_1393 kcL_27 ?_
  refine ly_land dL_law_1396 ?_
  refine ly_lor dL_law_1397 ?_
  refine lz_callV (As := [_, _]) (i := 0) dL_law_1398 vlL_157 clX7_share rfl rfl (by omega) (sh_r0 _ _) rfl (Nat.le_of_ble_eq_true rfl) (Nat.le_of_ble_eq_true rfl) h1 ?_
  refine ly_aload_n dL_law_1401 1 rfl ?_
  refine ly_aload_n dL_law_1402 3 rfl ?_
  refine ly_iload_n dL_law_1403 0 rfl ?_
  refine ly_iconst (v := nI 1) dL_law_1404 (by decide) ?_
  refine ly_add dL_law_1405 ?_
  refine ly_sld dL_law_1406 (by omega) (by omega) ?_
  refine ly_aload_n dL_law_1407 3 rfl ?_
  refine ly_iload_n dL_law_1408 0 rfl ?_
  refine ly_iconst (v := nI 2) dL_law_1409 (by decide) ?_
  refine ly_add dL_law_1410 ?_
  refine ly_sld dL_law_1411 (by omega) (by omega) ?_
  refine ly_i2l dL_law_1412 ?_
  refine ly_bipush (v := nI 32) dL_law_1413 (by decide) ?_
  refine ly_lshl dL_law_1415 ?_
  refine ly_aload_n dL_law_1416 3 rfl ?_
  refine ly_iload_n dL_law_1417 0 rfl ?_
  refine ly_iconst (v := nI 3) dL_law_1418 (by decide) ?_
  refine ly_add dL_law_1419 ?_
  refine ly_sld dL_law_1420 (by omega) (by omega) ?_
  refine ly_i2l dL_law_1421 ?_
  refine ly_ldc2 dL_law_1422 kcL_27 ?_
  refine ly_land dL_law_1425 ?_
  refine ly_lor dL_law_1426 ?_
  refine lz_callV (As := [_, _]) (i := 105) dL_law_1427 vlL_161 clX8_share rfl rfl (by omega) (sh_r105 _ _) rfl (Nat.le_of_ble_eq_true rfl) (Nat.le_of_ble_eq_true rfl) h2 ?_
  exact ly_lcmp dL_law_1430 (ly_if_eq 1573 dL_law_1431 (by decide) (fun _ => k X2 Y2 h3) (fun h9 => absurd ((lg_cmp_eq0 _ _).mpr rfl) h9))
set_option maxHeartbeats 1000000 in
set_option maxRecDepth 100000 in
theorem law_c34 {c : cx} {bs Ls : Nat} {xss : Nat → Int32} {Q : Option Value → va_W → Prop} {X : nX} {Y : nY} {i : Nat} (hi : i + 7 ≤ Ls) (hL : Ls ≤ 3584) (hR : Rel X Y) (k : ∀ X Y, Rel X Y → lz c bs Ls xss Q 1573 (lvL c bs i) [] X Y) : lz c bs Ls xss Q 1436 (lvL c bs i) [] X Y := by
  obtain ⟨v, X1, Y1, X2, Y2, h1, h2, h3⟩ := st_shareOf (c := c) hR (xss (i + 1))
  refine ly_aload_n dL_law_1436 2 rfl ?_
  refine ly_aload_n dL_law_1437 3 rfl ?_
  refine ly_iload_n dL_law_1438 0 rfl ?_
  refine ly_iconst (v := nI 1) dL_law_1439 (by decide) ?_
  refine ly_add dL_law_1440 ?_
  refine ly_sld dL_law_1441 (by omega) (by omega) ?_
  refine lz_callV (As := [_]) (i := 0) dL_law_1442 vlL_162 clX7_shareOf rfl rfl (by omega) (sh_r0 _ _) rfl (Nat.le_of_ble_eq_true rfl) (Nat.le_of_ble_eq_true rfl) h1 ?_
  refine ly_aload_n dL_law_1445 1 rfl ?_
  refine ly_aload_n dL_law_1446 3 rfl ?_
  refine ly_iload_n dL_law_1447 0 rfl ?_
  refine ly_iconst (v := nI 1) dL_law_1448 (by decide) ?_
  refine ly_add dL_law_1449 ?_
  refine ly_sld dL_law_1450 (by omega) (by omega) ?_
  refine lz_callV (As := [_]) (i := 105) dL_law_1451 vlL_165 clX8_shareOf rfl rfl (by omega) (sh_r105 _ _) rfl (Nat.le_of_ble_eq_true rfl) (Nat.le_of_ble_eq_true rfl) h2 ?_
  exact ly_lcmp dL_law_1454 (ly_if_eq 1573 dL_law_1455 (by decide) (fun _ => k X2 Y2 h3) (fun h9 => absurd ((lg_cmp_eq0 _ _).mpr rfl) h9))
set_option maxHeartbeats 1000000 in
set_option maxRecDepth 100000 in
theorem law_c35 {c : cx} {bs Ls : Nat} {xss : Nat → Int32} {Q : Option Value → va_W → Prop} {X : nX} {Y : nY} {i : Nat} (hi : i + 7 ≤ Ls) (hL : Ls ≤ 3584) (hR : Rel X Y) (k : ∀ X Y, Rel X Y → lz c bs Ls xss Q 1573 (lvL c bs i) [] X Y) : lz c bs Ls xss Q 1460 (lvL c bs i) [] X Y := by
  obtain ⟨v, X1, Y1, X2, Y2, h1, h2, h3⟩ := st_in (c := c) hR (xss (i + 1))
  refine ly_aload_n dL_law_1460 2 rfl ?_
  refine ly_aload_n dL_law_1461 3 rfl ?_
  refine ly_iload_n dL_law_1462 0 rfl ?_
  refine ly_iconst (v := nI 1) dL_law_1463 (by decide) ?_
  refine ly_add dL_law_1464 ?_
  refine ly_sld dL_law_1465 (by omega) (by omega) ?_
  refine lz_callV (As := [_]) (i := 0) dL_law_1466 vlL_166 clX7_in rfl rfl (by omega) (sh_r0 _ _) rfl (Nat.le_of_ble_eq_true rfl) (Nat.le_of_ble_eq_true rfl) h1 ?_
  refine ly_aload_n dL_law_1469 1 rfl ?_
  refine ly_aload_n dL_law_1470 3 rfl ?_
  refine ly_iload_n dL_law_1471 0 rfl ?_
  refine ly_iconst (v := nI 1) dL_law_1472 (by decide) ?_
  refine ly_add dL_law_1473 ?_
  refine ly_sld dL_law_1474 (by omega) (by omega) ?_
  refine lz_callV (As := [_]) (i := 105) dL_law_1475 vlL_169 clX8_in rfl rfl (by omega) (sh_r105 _ _) rfl (Nat.le_of_ble_eq_true rfl) (Nat.le_of_ble_eq_true rfl) h2 ?_
  exact ly_icmp_eq 1573 dL_law_1478 (by decide) (fun _ => k X2 Y2 h3) (fun h9 => absurd rfl h9)
set_option maxHeartbeats 1000000 in
set_option maxRecDepth 100000 in
theorem law_c36 {c : cx} {bs Ls : Nat} {xss : Nat → Int32} {Q : Option Value → va_W → Prop} {X : nX} {Y : nY} {i : Nat} (hi : i + 7 ≤ Ls) (hL : Ls ≤ 3584) (hR : Rel X Y) (k : ∀ X Y, Rel X Y → lz c bs Ls xss Q 1573 (lvL c bs i) [] X Y) : lz c bs Ls xss Q 1483 (lvL c bs i) [] X Y := by
  obtain ⟨v, X1, Y1, X2, Y2, h1, h2, h3⟩ := st_proves (c := c) hR (xss (i + 1))
  refine ly_aload_n dL_law_1483 2 rfl ?_
  refine ly_aload_n dL_law_1484 3 rfl ?_
  refine ly_iload_n dL_law_1485 0 rfl ?_
  refine ly_iconst (v := nI 1) dL_law_1486 (by decide) ?_
  refine ly_add dL_law_1487 ?_
  refine ly_sld dL_law_1488 (by omega) (by omega) ?_
  refine lz_callV (As := [_]) (i := 0) dL_law_1489 vlL_170 clX7_proves rfl rfl (by omega) (sh_r0 _ _) rfl (Nat.le_of_ble_eq_true rfl) (Nat.le_of_ble_eq_true rfl) h1 ?_
  refine ly_aload_n dL_law_1492 1 rfl ?_
  refine ly_aload_n dL_law_1493 3 rfl ?_
  refine ly_iload_n dL_law_1494 0 rfl ?_
  refine ly_iconst (v := nI 1) dL_law_1495 (by decide) ?_
  refine ly_add dL_law_1496 ?_
  refine ly_sld dL_law_1497 (by omega) (by omega) ?_
  refine lz_callV (As := [_]) (i := 105) dL_law_1498 vlL_173 clX8_proves rfl rfl (by omega) (sh_r105 _ _) rfl (Nat.le_of_ble_eq_true rfl) (Nat.le_of_ble_eq_true rfl) h2 ?_
  exact ly_icmp_eq 1573 dL_law_1501 (by decide) (fun _ => k X2 Y2 h3) (fun h9 => absurd rfl h9)
set_option maxHeartbeats 1000000 in
set_option maxRecDepth 100000 in
theorem law_c37 {c : cx} {bs Ls : Nat} {xss : Nat → Int32} {Q : Option Value → va_W → Prop} {X : nX} {Y : nY} {i : Nat} (hi : i + 7 ≤ Ls) (hL : Ls ≤ 3584) (hR : Rel X Y) (k : ∀ X Y, Rel X Y → lz c bs Ls xss Q 1573 (lvL c bs i) [] X Y) : lz c bs Ls xss Q 1506 (lvL c bs i) [] X Y := by
  obtain ⟨v, X1, Y1, X2, Y2, h1, h2, h3⟩ := st_greed (c := c) hR (xss (i + 1)) (xss (i + 2))
  refine ly_aload_n dL_law_1506 2 rfl ?_
  refine ly_aload_n dL_law_1507 3 rfl ?_
  refine ly_iload_n dL_law_1508 0 rfl ?_
  refine ly_iconst (v := nI 1) dL_law_1509 (by decide) ?_
  refine ly_add dL_law_1510 ?_
  refine ly_sld dL_law_1511 (by omega) (by omega) ?_
  refine ly_aload_n dL_law_1512 3 rfl ?_
  refine ly_iload_n dL_law_1513 0 rfl ?_
  refine ly_iconst (v := nI 2) dL_law_1514 (by decide) ?_
  refine ly_add dL_law_1515 ?_
  refine ly_sld dL_law_1516 (by omega) (by omega) ?_
  refine lz_callV (As := [_, _]) (i := 0) dL_law_1517 vlL_174 clX7_greed rfl rfl (by omega) (sh_r0 _ _) rfl (Nat.le_of_ble_eq_true rfl) (Nat.le_of_ble_eq_true rfl) h1 ?_
  refine ly_aload_n dL_law_1520 1 rfl ?_
  refine ly_aload_n dL_law_1521 3 rfl ?_
  refine ly_iload_n dL_law_1522 0 rfl ?_
  refine ly_iconst (v := nI 1) dL_law_1523 (by decide) ?_
  refine ly_add dL_law_1524 ?_
  refine ly_sld dL_law_1525 (by omega) (by omega) ?_
  refine ly_aload_n dL_law_1526 3 rfl ?_
  refine ly_iload_n dL_law_1527 0 rfl ?_
  refine ly_iconst (v := nI 2) dL_law_1528 (by decide) ?_
  refine ly_add dL_law_1529 ?_
  refine ly_sld dL_law_1530 (by omega) (by omega) ?_
  refine lz_callV (As := [_, _]) (i := 105) dL_law_1531 vlL_177 clX8_greed rfl rfl (by omega) (sh_r105 _ _) rfl (Nat.le_of_ble_eq_true rfl) (Nat.le_of_ble_eq_true rfl) h2 ?_
  exact ly_icmp_eq 1573 dL_law_1534 (by decide) (fun _ => k X2 Y2 h3) (fun h9 => absurd rfl h9)
set_option maxHeartbeats 1000000 in
set_option maxRecDepth 100000 in
theorem law_c38 {c : cx} {bs Ls : Nat} {xss : Nat → Int32} {Q : Option Value → va_W → Prop} {X : nX} {Y : nY} {i : Nat} (hi : i + 7 ≤ Ls) (hL : Ls ≤ 3584) (hR : Rel X Y) (k : ∀ X Y, Rel X Y → lz c bs Ls xss Q 1573 (lvL c bs i) [] X Y) : lz c bs Ls xss Q 1539 (lvL c bs i) [] X Y := by
  obtain ⟨v, X1, Y1, X2, Y2, h1, h2, h3⟩ := st_best (c := c) hR (xss (i + 1)) (xss (i + 2))
  refine ly_aload_n dL_law_1539 2 rfl ?_
  refine ly_aload_n dL_law_1540 3 rfl ?_
  refine ly_iload_n dL_law_1541 0 rfl ?_
  refine ly_iconst (v := nI 1) dL_law_1542 (by decide) ?_
  refine ly_add dL_law_1543 ?_
  refine ly_sld dL_law_1544 (by omega) (by omega) ?_
  refine ly_aload_n dL_law_1545 3 rfl ?_
  refine ly_iload_n dL_law_1546 0 rfl ?_
  refine ly_iconst (v := nI 2) dL_law_1547 (by decide) ?_
  refine ly_add dL_law_1548 ?_
  refine ly_sld dL_law_1549 (by omega) (by omega) ?_
  refine lz_callV (As := [_, _]) (i := 0) dL_law_1550 vlL_178 clX7_best rfl rfl (by omega) (sh_r0 _ _) rfl (Nat.le_of_ble_eq_true rfl) (Nat.le_of_ble_eq_true rfl) h1 ?_
  refine ly_aload_n dL_law_1553 1 rfl ?_
  refine ly_aload_n dL_law_1554 3 rfl ?_
  refine ly_iload_n dL_law_1555 0 rfl ?_
  refine ly_iconst (v := nI 1) dL_law_1556 (by decide) ?_
  refine ly_add dL_law_1557 ?_
  refine ly_sld dL_law_1558 (by omega) (by omega) ?_
  refine ly_aload_n dL_law_1559 3 rfl ?_
  refine ly_iload_n dL_law_1560 0 rfl ?_
  refine ly_iconst (v := nI 2) dL_law_1561 (by decide) ?_
  refine ly_add dL_law_1562 ?_
  refine ly_sld dL_law_1563 (by omega) (by omega) ?_
  refine lz_callV (As := [_, _]) (i := 105) dL_law_1564 vlL_181 clX8_best rfl rfl (by omega) (sh_r105 _ _) rfl (Nat.le_of_ble_eq_true rfl) (Nat.le_of_ble_eq_true rfl) h2 ?_
  exact ly_lcmp dL_law_1567 (ly_if_eq 1573 dL_law_1568 (by decide) (fun _ => k X2 Y2 h3) (fun h9 => absurd ((lg_cmp_eq0 _ _).mpr rfl) h9))
set_option maxHeartbeats 1000000 in
set_option maxRecDepth 100000 in
theorem law_sw {c : cx} {bs Ls : Nat} {xss : Nat → Int32} {Q : Option Value → va_W → Prop} {X : nX} {Y : nY} {i : Nat} (hi : i + 7 ≤ Ls) (hL : Ls ≤ 3584) (hR : Rel X Y) (k : ∀ X Y, Rel X Y → lz c bs Ls xss Q 1573 (lvL c bs i) [] X Y) {k0 : Nat} (hk0 : k0 < 64) : lz c bs Ls xss Q 33 (lvL c bs i) [.int (nI k0)] X Y := by
  by_cases h0 : k0 = 0
  · subst h0
    exact ly_tableIn (off := 171) 204 dL_law_33 (by decide) (by decide) (by decide) (by decide) (law_c0 hi hL hR k)
  by_cases h1 : k0 = 1
  · subst h1
    exact ly_tableIn (off := 194) 227 dL_law_33 (by decide) (by decide) (by decide) (by decide) (law_c1 hi hL hR k)
  by_cases h2 : k0 = 2
  · subst h2
    exact ly_tableIn (off := 237) 270 dL_law_33 (by decide) (by decide) (by decide) (by decide) (law_c2 hi hL hR k)
  by_cases h3 : k0 = 3
  · subst h3
    exact ly_tableIn (off := 260) 293 dL_law_33 (by decide) (by decide) (by decide) (by decide) (law_c3 hi hL hR k)
  by_cases h4 : k0 = 4
  · subst h4
    exact ly_tableIn (off := 344) 377 dL_law_33 (by decide) (by decide) (by decide) (by decide) (law_c4 hi hL hR k)
  by_cases h5 : k0 = 5
  · subst h5
    exact ly_tableIn (off := 378) 411 dL_law_33 (by decide) (by decide) (by decide) (by decide) (law_c5 hi hL hR k)
  by_cases h6 : k0 = 6
  · subst h6
    exact ly_tableIn (off := 401) 434 dL_law_33 (by decide) (by decide) (by decide) (by decide) (law_c6 hi hL hR k)
  by_cases h7 : k0 = 7
  · subst h7
    exact ly_tableIn (off := 414) 447 dL_law_33 (by decide) (by decide) (by decide) (by decide) (law_c7 hi hL hR k)
  by_cases h8 : k0 = 8
  · subst h8
    exact ly_tableIn (off := 447) 480 dL_law_33 (by decide) (by decide) (by decide) (by decide) (law_c8 hi hL hR k)
  by_cases h9 : k0 = 9
  · subst h9
    exact ly_tableIn (off := 480) 513 dL_law_33 (by decide) (by decide) (by decide) (by decide) (law_c9 hi hL hR k)
  by_cases h10 : k0 = 10
  · subst h10
    exact ly_tableIn (off := 503) 536 dL_law_33 (by decide) (by decide) (by decide) (by decide) (law_c10 hi hL hR k)
  by_cases h11 : k0 = 11
  · subst h11
    exact ly_tableIn (off := 536) 569 dL_law_33 (by decide) (by decide) (by decide) (by decide) (law_c11 hi hL hR k)
  by_cases h12 : k0 = 12
  · subst h12
    exact ly_tableIn (off := 579) 612 dL_law_33 (by decide) (by decide) (by decide) (by decide) (law_c12 hi hL hR k)
  by_cases h13 : k0 = 13
  · subst h13
    exact ly_tableIn (off := 612) 645 dL_law_33 (by decide) (by decide) (by decide) (by decide) (law_c13 hi hL hR k)
  by_cases h14 : k0 = 14
  · subst h14
    exact ly_tableIn (off := 665) 698 dL_law_33 (by decide) (by decide) (by decide) (by decide) (law_c14 hi hL hR k)
  by_cases h15 : k0 = 15
  · subst h15
    exact ly_tableIn (off := 708) 741 dL_law_33 (by decide) (by decide) (by decide) (by decide) (law_c15 hi hL hR k)
  by_cases h16 : k0 = 16
  · subst h16
    exact ly_tableIn (off := 783) 816 dL_law_33 (by decide) (by decide) (by decide) (by decide) (law_c16 hi hL hR k)
  by_cases h17 : k0 = 17
  · subst h17
    exact ly_tableIn (off := 816) 849 dL_law_33 (by decide) (by decide) (by decide) (by decide) (law_c17 hi hL hR k)
  by_cases h18 : k0 = 18
  · subst h18
    exact ly_tableIn (off := 859) 892 dL_law_33 (by decide) (by decide) (by decide) (by decide) (law_c18 hi hL hR k)
  by_cases h19 : k0 = 19
  · subst h19
    exact ly_tableIn (off := 902) 935 dL_law_33 (by decide) (by decide) (by decide) (by decide) (law_c19 hi hL hR k)
  by_cases h20 : k0 = 20
  · subst h20
    exact ly_tableIn (off := 915) 948 dL_law_33 (by decide) (by decide) (by decide) (by decide) (law_c20 hi hL hR k)
  by_cases h21 : k0 = 21
  · subst h21
    exact ly_tableIn (off := 949) 982 dL_law_33 (by decide) (by decide) (by decide) (by decide) (law_c21 hi hL hR k)
  by_cases h22 : k0 = 22
  · subst h22
    exact ly_tableIn (off := 993) 1026 dL_law_33 (by decide) (by decide) (by decide) (by decide) (law_c22 hi hL hR k)
  by_cases h23 : k0 = 23
  · subst h23
    exact ly_tableIn (off := 1016) 1049 dL_law_33 (by decide) (by decide) (by decide) (by decide) (law_c23 hi hL hR k)
  by_cases h24 : k0 = 24
  · subst h24
    exact ly_tableIn (off := 1049) 1082 dL_law_33 (by decide) (by decide) (by decide) (by decide) (law_c24 hi hL hR k)
  by_cases h25 : k0 = 25
  · subst h25
    exact ly_tableIn (off := 1073) 1106 dL_law_33 (by decide) (by decide) (by decide) (by decide) (law_c25 hi hL hR k)
  by_cases h26 : k0 = 26
  · subst h26
    exact ly_tableIn (off := 1106) 1139 dL_law_33 (by decide) (by decide) (by decide) (by decide) (law_c26 hi hL hR k)
  by_cases h27 : k0 = 27
  · subst h27
    exact ly_tableIn (off := 1139) 1172 dL_law_33 (by decide) (by decide) (by decide) (by decide) (law_c27 hi hL hR k)
  by_cases h28 : k0 = 28
  · subst h28
    exact ly_tableIn (off := 1173) 1206 dL_law_33 (by decide) (by decide) (by decide) (by decide) (law_c28 hi hL hR k)
  by_cases h29 : k0 = 29
  · subst h29
    exact ly_tableIn (off := 1196) 1229 dL_law_33 (by decide) (by decide) (by decide) (by decide) (law_c29 hi hL hR k)
  by_cases h30 : k0 = 30
  · subst h30
    exact ly_tableIn (off := 1240) 1273 dL_law_33 (by decide) (by decide) (by decide) (by decide) (law_c30 hi hL hR k)
  by_cases h31 : k0 = 31
  · subst h31
    exact ly_tableIn (off := 1273) 1306 dL_law_33 (by decide) (by decide) (by decide) (by decide) (law_c31 hi hL hR k)
  by_cases h32 : k0 = 32
  · subst h32
    exact ly_tableIn (off := 1296) 1329 dL_law_33 (by decide) (by decide) (by decide) (by decide) (law_c32 hi hL hR k)
  by_cases h33 : k0 = 33
  · subst h33
    exact ly_tableIn (off := 1339) 1372 dL_law_33 (by decide) (by decide) (by decide) (by decide) (law_c33 hi hL hR k)
  by_cases h34 : k0 = 34
  · subst h34
    exact ly_tableIn (off := 1403) 1436 dL_law_33 (by decide) (by decide) (by decide) (by decide) (law_c34 hi hL hR k)
  by_cases h35 : k0 = 35
  · subst h35
    exact ly_tableIn (off := 1427) 1460 dL_law_33 (by decide) (by decide) (by decide) (by decide) (law_c35 hi hL hR k)
  by_cases h36 : k0 = 36
  · subst h36
    exact ly_tableIn (off := 1450) 1483 dL_law_33 (by decide) (by decide) (by decide) (by decide) (law_c36 hi hL hR k)
  by_cases h37 : k0 = 37
  · subst h37
    exact ly_tableIn (off := 1473) 1506 dL_law_33 (by decide) (by decide) (by decide) (by decide) (law_c37 hi hL hR k)
  by_cases h38 : k0 = 38
  · subst h38
    exact ly_tableIn (off := 1506) 1539 dL_law_33 (by decide) (by decide) (by decide) (by decide) (law_c38 hi hL hR k)
  exact ly_tableOut 1573 dL_law_33 (Or.inr (by rw [nI_toInt (by omega)]; omega)) (by decide) (k X Y hR)
theorem and63 (v : Int32) : ∃ k, k < 64 ∧ v &&& nI 63 = nI k := by
  have e : v = nI v.toBitVec.toNat := by
    apply Int32.toBitVec_inj.mp
    simp [nI]
  rw [e, xn_and]
  exact ⟨_, Nat.lt_of_le_of_lt Nat.and_le_right (by decide), rfl⟩
set_option maxHeartbeats 1000000 in
set_option maxRecDepth 100000 in
theorem law_loop {c : cx} {bs Ls : Nat} {xss : Nat → Int32} {Q : Option Value → va_W → Prop} (hL : Ls ≤ 3584) (hQ : ∀ ws, Q (some (.int 1)) ws) : ∀ (nn i : Nat) (X : nX) (Y : nY), Ls ≤ i + nn → i ≤ 4000 → Rel X Y → lz c bs Ls xss Q 18 (lvL c bs i) [] X Y := by
  intro nn
  induction nn with
  | zero =>
    intro i X Y h1 h2 hR
    refine ly_iload_n dL_law_18 0 rfl ?_
    refine ly_aload_n dL_law_19 3 rfl ?_
    refine ly_slen dL_law_20 ?_
    refine ly_bipush (v := nI 7) dL_law_21 (by decide) ?_
    refine ly_isub dL_law_23 ?_
    refine ly_icmp_gt 1579 dL_law_24 (by decide) (fun _ => ?_) (fun c24 => absurd (by rw [Int32.lt_iff_toInt_lt, pk_sub_toInt (by omega) (by decide), nI_toInt (by omega)]; omega) c24)
    refine ly_iconst (v := 1) dL_law_1579 (by decide) ?_
    exact ly_iret dL_law_1580 rfl rfl (hQ _)
  | succ nn ih =>
    intro i X Y h1 h2 hR
    refine ly_iload_n dL_law_18 0 rfl ?_
    refine ly_aload_n dL_law_19 3 rfl ?_
    refine ly_slen dL_law_20 ?_
    refine ly_bipush (v := nI 7) dL_law_21 (by decide) ?_
    refine ly_isub dL_law_23 ?_
    refine ly_icmp_gt 1579 dL_law_24 (by decide) (fun _ => ?_) (fun c24 => ?_)
    · refine ly_iconst (v := 1) dL_law_1579 (by decide) ?_
      exact ly_iret dL_law_1580 rfl rfl (hQ _)
    · have hi : i + 7 ≤ Ls := by
        rw [Int32.lt_iff_toInt_lt, pk_sub_toInt (by omega) (by decide), nI_toInt (by omega)] at c24
        omega
      refine ly_aload_n dL_law_27 3 rfl ?_
      refine ly_iload_n dL_law_28 0 rfl ?_
      refine ly_sld dL_law_29 (by omega) (by omega) ?_
      refine ly_bipush (v := nI 63) dL_law_30 (by decide) ?_
      refine ly_iand dL_law_32 ?_
      obtain ⟨k0, hk0, e0⟩ := and63 (xss i)
      rw [e0]
      refine law_sw hi hL hR (fun X Y hR => ?_) hk0
      refine ly_iinc (v := nI (i + 7)) (lv' := lvL c bs (i + 7)) dL_law_1573 0 rfl (nI_add i 7) (by decide) rfl ?_
      refine ly_goto 18 dL_law_1576 (by decide) ?_
      exact ih (i + 7) X Y (by omega) (by omega) hR
