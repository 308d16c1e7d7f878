/-! the law: every case of its switch, its loop -/
section BW1
variable {G : g_G} {b L : Nat} {xs : Nat → Int32} {u v i : Nat} {C : f_C} {M : f_M} {ob : List va_E}
abbrev b_lv (G : g_G) (b i : Nat) : List (Nat × Value) := [(3, .int (nI i)), (2, .ref (g_ad G 38)), (1, .ref (g_ad G 0)), (0, .ref b)]
theorem b_c0 (hJ : v_J G C M ob) (hi : i + 6 ≤ L) (hL : L ≤ 3072) (kk : ∀ (C2 : f_C) (M2 : f_M) (ob2 : List va_E), v_J G C2 M2 ob2 → b_A G b L xs u v 1974 (b_lv G b i) [] (g_hp G C2 (g_hm G M2 ++ ob2))) : b_A G b L xs (u + 2) (v + 6) 252 (b_lv G b i) [] (g_hp G C (g_hm G M ++ ob)) := by
  obtain ⟨r, C2, M2, ob2, d1, d2, hd1, hd2, hJ2, hA, hB⟩ := v_cube (y := xs (i + 1)) hJ
  refine b_widen (u2 := 1 + (u + 1)) (v2 := 3 + (v + 3)) (by omega) (by omega) ?_
  refine b_aload_n 2 dL_law_252 rfl rfl ?_
  refine b_arg (k := 1) 3 0 dL_law_253 dL_law_254 dL_law_255 (by decide) dL_law_256 dL_law_257 rfl rfl (by omega) hL ?_
  refine b_callV (u1 := 1) (u2 := u + 1) (v1 := 3) (v2 := v + 3) (as := [.int (xs (i + 1))]) (rest := []) (st2 := [.int r]) hA ⟨_, _, _, _, rfl, rfl⟩ oX11_cube q_348 q_349 q_350 rfl hd1 (by decide) rfl (Nat.le_of_ble_eq_true rfl) 261 rfl dL_law_258 rfl ?_
  refine b_aload_n 1 dL_law_261 rfl rfl ?_
  refine b_arg (k := 1) 3 0 dL_law_262 dL_law_263 dL_law_264 (by decide) dL_law_265 dL_law_266 rfl rfl (by omega) hL ?_
  refine b_widen (u2 := 1 + u) (v2 := 3 + v) (by omega) (by omega) ?_
  refine b_callV (u1 := 1) (u2 := u) (v1 := 3) (v2 := v) (as := [.int (xs (i + 1))]) (rest := [.int r]) (st2 := [.int r, .int r]) hB ⟨_, _, _, _, rfl, rfl⟩ oX12_cube q_1237 q_1238 q_1239 rfl hd2 (by decide) rfl (Nat.le_of_ble_eq_true rfl) 270 rfl dL_law_267 rfl ?_
  exact b_icmp_eq 1974 dL_law_270 (by decide) (fun _ => kk C2 M2 ob2 hJ2) (fun c9 => absurd rfl c9)
theorem b_c1 (hJ : v_J G C M ob) (hi : i + 6 ≤ L) (hL : L ≤ 3072) (kk : ∀ (C2 : f_C) (M2 : f_M) (ob2 : List va_E), v_J G C2 M2 ob2 → b_A G b L xs u v 1974 (b_lv G b i) [] (g_hp G C2 (g_hm G M2 ++ ob2))) : b_A G b L xs (u + 2) (v + 6) 275 (b_lv G b i) [] (g_hp G C (g_hm G M ++ ob)) := by
  obtain ⟨r, C2, M2, ob2, d1, d2, hd1, hd2, hJ2, hA, hB⟩ := v_come (x := (xs (i + 1)).toInt64 <<< ((32 : Int32).toInt64 &&& 63) ||| ((xs (i + 2)).toInt64 &&& 4294967295)) hJ
  refine b_widen (u2 := 1 + (u + 1)) (v2 := 3 + (v + 3)) (by omega) (by omega) ?_
  refine b_aload_n 2 dL_law_275 rfl rfl ?_
  refine b_arg (k := 1) 3 0 dL_law_276 dL_law_277 dL_law_278 (by decide) dL_law_279 dL_law_280 rfl rfl (by omega) hL ?_
  refine b_i2l dL_law_281 ?_
  refine b_bipush (x := 32) dL_law_282 (by decide) ?_
  refine b_lshl dL_law_284 ?_
  refine b_arg (k := 2) 3 0 dL_law_285 dL_law_286 dL_law_287 (by decide) dL_law_288 dL_law_289 rfl rfl (by omega) hL ?_
  refine b_i2l dL_law_290 ?_
  refine b_ldc2 q_1660 dL_law_291 ?_
  refine b_land dL_law_294 ?_
  refine b_lor dL_law_295 ?_
  refine b_callV (u1 := 1) (u2 := u + 1) (v1 := 3) (v2 := v + 3) (as := [.long ((xs (i + 1)).toInt64 <<< ((32 : Int32).toInt64 &&& 63) ||| ((xs (i + 2)).toInt64 &&& 4294967295))]) (rest := []) (st2 := [.int r]) hA ⟨_, _, _, _, rfl, rfl⟩ oX11_come q_368 q_369 q_370 rfl hd1 (by decide) rfl (Nat.le_of_ble_eq_true rfl) 299 rfl dL_law_296 rfl ?_
  refine b_aload_n 1 dL_law_299 rfl rfl ?_
  refine b_arg (k := 1) 3 0 dL_law_300 dL_law_301 dL_law_302 (by decide) dL_law_303 dL_law_304 rfl rfl (by omega) hL ?_
  refine b_i2l dL_law_305 ?_
  refine b_bipush (x := 32) dL_law_306 (by decide) ?_
  refine b_lshl dL_law_308 ?_
  refine b_arg (k := 2) 3 0 dL_law_309 dL_law_310 dL_law_311 (by decide) dL_law_312 dL_law_313 rfl rfl (by omega) hL ?_
  refine b_i2l dL_law_314 ?_
  refine b_ldc2 q_1660 dL_law_315 ?_
  refine b_land dL_law_318 ?_
  refine b_lor dL_law_319 ?_
  refine b_widen (u2 := 1 + u) (v2 := 3 + v) (by omega) (by omega) ?_
  refine b_callV (u1 := 1) (u2 := u) (v1 := 3) (v2 := v) (as := [.long ((xs (i + 1)).toInt64 <<< ((32 : Int32).toInt64 &&& 63) ||| ((xs (i + 2)).toInt64 &&& 4294967295))]) (rest := [.int r]) (st2 := [.int r, .int r]) hB ⟨_, _, _, _, rfl, rfl⟩ oX12_come q_1249 q_1250 q_1251 rfl hd2 (by decide) rfl (Nat.le_of_ble_eq_true rfl) 323 rfl dL_law_320 rfl ?_
  exact b_icmp_eq 1974 dL_law_323 (by decide) (fun _ => kk C2 M2 ob2 hJ2) (fun c9 => absurd rfl c9)
theorem b_c2 (hJ : v_J G C M ob) (hi : i + 6 ≤ L) (hL : L ≤ 3072) (kk : ∀ (C2 : f_C) (M2 : f_M) (ob2 : List va_E), v_J G C2 M2 ob2 → b_A G b L xs u v 1974 (b_lv G b i) [] (g_hp G C2 (g_hm G M2 ++ ob2))) : b_A G b L xs (u + 2) (v + 6) 328 (b_lv G b i) [] (g_hp G C (g_hm G M ++ ob)) := by
  obtain ⟨r, C2, M2, ob2, d1, d2, hd1, hd2, hJ2, hA, hB⟩ := v_drop  hJ
  refine b_widen (u2 := 1 + (u + 1)) (v2 := 3 + (v + 3)) (by omega) (by omega) ?_
  refine b_aload_n 2 dL_law_328 rfl rfl ?_
  refine b_callV (u1 := 1) (u2 := u + 1) (v1 := 3) (v2 := v + 3) (as := []) (rest := []) (st2 := [.int r]) hA ⟨_, _, _, _, rfl, rfl⟩ oX11_drop q_430 q_431 q_432 rfl hd1 (by decide) rfl (Nat.le_of_ble_eq_true rfl) 332 rfl dL_law_329 rfl ?_
  refine b_aload_n 1 dL_law_332 rfl rfl ?_
  refine b_widen (u2 := 1 + u) (v2 := 3 + v) (by omega) (by omega) ?_
  refine b_callV (u1 := 1) (u2 := u) (v1 := 3) (v2 := v) (as := []) (rest := [.int r]) (st2 := [.int r, .int r]) hB ⟨_, _, _, _, rfl, rfl⟩ oX12_drop q_1265 q_1266 q_1267 rfl hd2 (by decide) rfl (Nat.le_of_ble_eq_true rfl) 336 rfl dL_law_333 rfl ?_
  exact b_icmp_eq 1974 dL_law_336 (by decide) (fun _ => kk C2 M2 ob2 hJ2) (fun c9 => absurd rfl c9)
theorem b_c3 (hJ : v_J G C M ob) (hi : i + 6 ≤ L) (hL : L ≤ 3072) (kk : ∀ (C2 : f_C) (M2 : f_M) (ob2 : List va_E), v_J G C2 M2 ob2 → b_A G b L xs u v 1974 (b_lv G b i) [] (g_hp G C2 (g_hm G M2 ++ ob2))) : b_A G b L xs (u + 2) (v + 6) 341 (b_lv G b i) [] (g_hp G C (g_hm G M ++ ob)) := by
  obtain ⟨r, C2, M2, ob2, d1, d2, hd1, hd2, hJ2, hA, hB⟩ := v_set (y := xs (i + 1)) (y2 := xs (i + 2)) (y3 := xs (i + 3)) hJ
  refine b_widen (u2 := 1 + (u + 1)) (v2 := 3 + (v + 3)) (by omega) (by omega) ?_
  refine b_aload_n 2 dL_law_341 rfl rfl ?_
  refine b_arg (k := 1) 3 0 dL_law_342 dL_law_343 dL_law_344 (by decide) dL_law_345 dL_law_346 rfl rfl (by omega) hL ?_
  refine b_arg (k := 2) 3 0 dL_law_347 dL_law_348 dL_law_349 (by decide) dL_law_350 dL_law_351 rfl rfl (by omega) hL ?_
  refine b_arg (k := 3) 3 0 dL_law_352 dL_law_353 dL_law_354 (by decide) dL_law_355 dL_law_356 rfl rfl (by omega) hL ?_
  refine b_callV (u1 := 1) (u2 := u + 1) (v1 := 3) (v2 := v + 3) (as := [.int (xs (i + 1)), .int (xs (i + 2)), .int (xs (i + 3))]) (rest := []) (st2 := [.int r]) hA ⟨_, _, _, _, rfl, rfl⟩ oX11_set q_442 q_443 q_444 rfl hd1 (by decide) rfl (Nat.le_of_ble_eq_true rfl) 360 rfl dL_law_357 rfl ?_
  refine b_aload_n 1 dL_law_360 rfl rfl ?_
  refine b_arg (k := 1) 3 0 dL_law_361 dL_law_362 dL_law_363 (by decide) dL_law_364 dL_law_365 rfl rfl (by omega) hL ?_
  refine b_arg (k := 2) 3 0 dL_law_366 dL_law_367 dL_law_368 (by decide) dL_law_369 dL_law_370 rfl rfl (by omega) hL ?_
  refine b_arg (k := 3) 3 0 dL_law_371 dL_law_372 dL_law_373 (by decide) dL_law_374 dL_law_375 rfl rfl (by omega) hL ?_
  refine b_widen (u2 := 1 + u) (v2 := 3 + v) (by omega) (by omega) ?_
  refine b_callV (u1 := 1) (u2 := u) (v1 := 3) (v2 := v) (as := [.int (xs (i + 1)), .int (xs (i + 2)), .int (xs (i + 3))]) (rest := [.int r]) (st2 := [.int r, .int r]) hB ⟨_, _, _, _, rfl, rfl⟩ oX12_set q_1269 q_1270 q_1271 rfl hd2 (by decide) rfl (Nat.le_of_ble_eq_true rfl) 379 rfl dL_law_376 rfl ?_
  exact b_icmp_eq 1974 dL_law_379 (by decide) (fun _ => kk C2 M2 ob2 hJ2) (fun c9 => absurd rfl c9)
theorem b_c4 (hJ : v_J G C M ob) (hi : i + 6 ≤ L) (hL : L ≤ 3072) (kk : ∀ (C2 : f_C) (M2 : f_M) (ob2 : List va_E), v_J G C2 M2 ob2 → b_A G b L xs u v 1974 (b_lv G b i) [] (g_hp G C2 (g_hm G M2 ++ ob2))) : b_A G b L xs (u + 2) (v + 6) 384 (b_lv G b i) [] (g_hp G C (g_hm G M ++ ob)) := by
  obtain ⟨r, C2, M2, ob2, d1, d2, hd1, hd2, hJ2, hA, hB⟩ := v_sets (y := xs (i + 1)) (y2 := xs (i + 2)) hJ
  refine b_widen (u2 := 1 + (u + 1)) (v2 := 3 + (v + 3)) (by omega) (by omega) ?_
  refine b_aload_n 2 dL_law_384 rfl rfl ?_
  refine b_arg (k := 1) 3 0 dL_law_385 dL_law_386 dL_law_387 (by decide) dL_law_388 dL_law_389 rfl rfl (by omega) hL ?_
  refine b_arg (k := 2) 3 0 dL_law_390 dL_law_391 dL_law_392 (by decide) dL_law_393 dL_law_394 rfl rfl (by omega) hL ?_
  refine b_callV (u1 := 1) (u2 := u + 1) (v1 := 3) (v2 := v + 3) (as := [.int (xs (i + 1)), .int (xs (i + 2))]) (rest := []) (st2 := [.long r]) hA ⟨_, _, _, _, rfl, rfl⟩ oX11_sets q_462 q_463 q_464 rfl hd1 (by decide) rfl (Nat.le_of_ble_eq_true rfl) 398 rfl dL_law_395 rfl ?_
  refine b_aload_n 1 dL_law_398 rfl rfl ?_
  refine b_arg (k := 1) 3 0 dL_law_399 dL_law_400 dL_law_401 (by decide) dL_law_402 dL_law_403 rfl rfl (by omega) hL ?_
  refine b_arg (k := 2) 3 0 dL_law_404 dL_law_405 dL_law_406 (by decide) dL_law_407 dL_law_408 rfl rfl (by omega) hL ?_
  refine b_widen (u2 := 1 + u) (v2 := 3 + v) (by omega) (by omega) ?_
  refine b_callV (u1 := 1) (u2 := u) (v1 := 3) (v2 := v) (as := [.int (xs (i + 1)), .int (xs (i + 2))]) (rest := [.long r]) (st2 := [.long r, .long r]) hB ⟨_, _, _, _, rfl, rfl⟩ oX12_sets q_1291 q_1292 q_1293 rfl hd2 (by decide) rfl (Nat.le_of_ble_eq_true rfl) 412 rfl dL_law_409 rfl ?_
  refine b_lcmp dL_law_412 ?_
  exact b_if_eq 1974 dL_law_413 (by decide) (fun _ => kk C2 M2 ob2 hJ2) (fun c9 => absurd (g_cmp_eq.mpr rfl) c9)
theorem b_c5 (hJ : v_J G C M ob) (hi : i + 6 ≤ L) (hL : L ≤ 3072) (kk : ∀ (C2 : f_C) (M2 : f_M) (ob2 : List va_E), v_J G C2 M2 ob2 → b_A G b L xs u v 1974 (b_lv G b i) [] (g_hp G C2 (g_hm G M2 ++ ob2))) : b_A G b L xs (u + 2) (v + 6) 418 (b_lv G b i) [] (g_hp G C (g_hm G M ++ ob)) := by
  obtain ⟨r, C2, M2, ob2, d1, d2, hd1, hd2, hJ2, hA, hB⟩ := v_of (y := xs (i + 1)) (y2 := xs (i + 2)) hJ
  refine b_widen (u2 := 1 + (u + 1)) (v2 := 3 + (v + 3)) (by omega) (by omega) ?_
  refine b_aload_n 2 dL_law_418 rfl rfl ?_
  refine b_arg (k := 1) 3 0 dL_law_419 dL_law_420 dL_law_421 (by decide) dL_law_422 dL_law_423 rfl rfl (by omega) hL ?_
  refine b_arg (k := 2) 3 0 dL_law_424 dL_law_425 dL_law_426 (by decide) dL_law_427 dL_law_428 rfl rfl (by omega) hL ?_
  refine b_callV (u1 := 1) (u2 := u + 1) (v1 := 3) (v2 := v + 3) (as := [.int (xs (i + 1)), .int (xs (i + 2))]) (rest := []) (st2 := [.int r]) hA ⟨_, _, _, _, rfl, rfl⟩ oX11_of q_517 q_518 q_519 rfl hd1 (by decide) rfl (Nat.le_of_ble_eq_true rfl) 432 rfl dL_law_429 rfl ?_
  refine b_aload_n 1 dL_law_432 rfl rfl ?_
  refine b_arg (k := 1) 3 0 dL_law_433 dL_law_434 dL_law_435 (by decide) dL_law_436 dL_law_437 rfl rfl (by omega) hL ?_
  refine b_arg (k := 2) 3 0 dL_law_438 dL_law_439 dL_law_440 (by decide) dL_law_441 dL_law_442 rfl rfl (by omega) hL ?_
  refine b_widen (u2 := 1 + u) (v2 := 3 + v) (by omega) (by omega) ?_
  refine b_callV (u1 := 1) (u2 := u) (v1 := 3) (v2 := v) (as := [.int (xs (i + 1)), .int (xs (i + 2))]) (rest := [.int r]) (st2 := [.int r, .int r]) hB ⟨_, _, _, _, rfl, rfl⟩ oX12_of q_1326 q_1327 q_1328 rfl hd2 (by decide) rfl (Nat.le_of_ble_eq_true rfl) 446 rfl dL_law_443 rfl ?_
  exact b_icmp_eq 1974 dL_law_446 (by decide) (fun _ => kk C2 M2 ob2 hJ2) (fun c9 => absurd rfl c9)
theorem b_c6 (hJ : v_J G C M ob) (hi : i + 6 ≤ L) (hL : L ≤ 3072) (kk : ∀ (C2 : f_C) (M2 : f_M) (ob2 : List va_E), v_J G C2 M2 ob2 → b_A G b L xs u v 1974 (b_lv G b i) [] (g_hp G C2 (g_hm G M2 ++ ob2))) : b_A G b L xs (u + 2) (v + 6) 451 (b_lv G b i) [] (g_hp G C (g_hm G M ++ ob)) := by
  obtain ⟨r, C2, M2, ob2, d1, d2, hd1, hd2, hJ2, hA, hB⟩ := v_is (y := xs (i + 1)) (y2 := xs (i + 2)) hJ
  refine b_widen (u2 := 1 + (u + 1)) (v2 := 3 + (v + 3)) (by omega) (by omega) ?_
  refine b_aload_n 2 dL_law_451 rfl rfl ?_
  refine b_arg (k := 1) 3 0 dL_law_452 dL_law_453 dL_law_454 (by decide) dL_law_455 dL_law_456 rfl rfl (by omega) hL ?_
  refine b_arg (k := 2) 3 0 dL_law_457 dL_law_458 dL_law_459 (by decide) dL_law_460 dL_law_461 rfl rfl (by omega) hL ?_
  refine b_callV (u1 := 1) (u2 := u + 1) (v1 := 3) (v2 := v + 3) (as := [.int (xs (i + 1)), .int (xs (i + 2))]) (rest := []) (st2 := [.int r]) hA ⟨_, _, _, _, rfl, rfl⟩ oX11_is q_532 q_533 q_534 rfl hd1 (by decide) rfl (Nat.le_of_ble_eq_true rfl) 465 rfl dL_law_462 rfl ?_
  refine b_aload_n 1 dL_law_465 rfl rfl ?_
  refine b_arg (k := 1) 3 0 dL_law_466 dL_law_467 dL_law_468 (by decide) dL_law_469 dL_law_470 rfl rfl (by omega) hL ?_
  refine b_arg (k := 2) 3 0 dL_law_471 dL_law_472 dL_law_473 (by decide) dL_law_474 dL_law_475 rfl rfl (by omega) hL ?_
  refine b_widen (u2 := 1 + u) (v2 := 3 + v) (by omega) (by omega) ?_
  refine b_callV (u1 := 1) (u2 := u) (v1 := 3) (v2 := v) (as := [.int (xs (i + 1)), .int (xs (i + 2))]) (rest := [.int r]) (st2 := [.int r, .int r]) hB ⟨_, _, _, _, rfl, rfl⟩ oX12_is q_1358 q_1359 q_1360 rfl hd2 (by decide) rfl (Nat.le_of_ble_eq_true rfl) 479 rfl dL_law_476 rfl ?_
  exact b_icmp_eq 1974 dL_law_479 (by decide) (fun _ => kk C2 M2 ob2 hJ2) (fun c9 => absurd rfl c9)
theorem b_c7 (hJ : v_J G C M ob) (hi : i + 6 ≤ L) (hL : L ≤ 3072) (kk : ∀ (C2 : f_C) (M2 : f_M) (ob2 : List va_E), v_J G C2 M2 ob2 → b_A G b L xs u v 1974 (b_lv G b i) [] (g_hp G C2 (g_hm G M2 ++ ob2))) : b_A G b L xs (u + 2) (v + 6) 484 (b_lv G b i) [] (g_hp G C (g_hm G M ++ ob)) := by
  obtain ⟨r, C2, M2, ob2, d1, d2, hd1, hd2, hJ2, hA, hB⟩ := v_profile (y := xs (i + 1)) (y2 := xs (i + 2)) hJ
  refine b_widen (u2 := 1 + (u + 1)) (v2 := 3 + (v + 3)) (by omega) (by omega) ?_
  refine b_aload_n 2 dL_law_484 rfl rfl ?_
  refine b_arg (k := 1) 3 0 dL_law_485 dL_law_486 dL_law_487 (by decide) dL_law_488 dL_law_489 rfl rfl (by omega) hL ?_
  refine b_arg (k := 2) 3 0 dL_law_490 dL_law_491 dL_law_492 (by decide) dL_law_493 dL_law_494 rfl rfl (by omega) hL ?_
  refine b_callV (u1 := 1) (u2 := u + 1) (v1 := 3) (v2 := v + 3) (as := [.int (xs (i + 1)), .int (xs (i + 2))]) (rest := []) (st2 := [.int r]) hA ⟨_, _, _, _, rfl, rfl⟩ oX11_profile q_556 q_557 q_558 rfl hd1 (by decide) rfl (Nat.le_of_ble_eq_true rfl) 498 rfl dL_law_495 rfl ?_
  refine b_aload_n 1 dL_law_498 rfl rfl ?_
  refine b_arg (k := 1) 3 0 dL_law_499 dL_law_500 dL_law_501 (by decide) dL_law_502 dL_law_503 rfl rfl (by omega) hL ?_
  refine b_arg (k := 2) 3 0 dL_law_504 dL_law_505 dL_law_506 (by decide) dL_law_507 dL_law_508 rfl rfl (by omega) hL ?_
  refine b_widen (u2 := 1 + u) (v2 := 3 + v) (by omega) (by omega) ?_
  refine b_callV (u1 := 1) (u2 := u) (v1 := 3) (v2 := v) (as := [.int (xs (i + 1)), .int (xs (i + 2))]) (rest := [.int r]) (st2 := [.int r, .int r]) hB ⟨_, _, _, _, rfl, rfl⟩ oX12_profile q_1363 q_1364 q_1365 rfl hd2 (by decide) rfl (Nat.le_of_ble_eq_true rfl) 512 rfl dL_law_509 rfl ?_
  exact b_icmp_eq 1974 dL_law_512 (by decide) (fun _ => kk C2 M2 ob2 hJ2) (fun c9 => absurd rfl c9)
theorem b_c8 (hJ : v_J G C M ob) (hi : i + 6 ≤ L) (hL : L ≤ 3072) (kk : ∀ (C2 : f_C) (M2 : f_M) (ob2 : List va_E), v_J G C2 M2 ob2 → b_A G b L xs u v 1974 (b_lv G b i) [] (g_hp G C2 (g_hm G M2 ++ ob2))) : b_A G b L xs (u + 2) (v + 6) 517 (b_lv G b i) [] (g_hp G C (g_hm G M ++ ob)) := by
  obtain ⟨r, C2, M2, ob2, d1, d2, hd1, hd2, hJ2, hA, hB⟩ := v_pressed (y := xs (i + 1)) (y2 := xs (i + 2)) (y3 := xs (i + 3)) hJ
  refine b_widen (u2 := 1 + (u + 1)) (v2 := 3 + (v + 3)) (by omega) (by omega) ?_
  refine b_aload_n 2 dL_law_517 rfl rfl ?_
  refine b_arg (k := 1) 3 0 dL_law_518 dL_law_519 dL_law_520 (by decide) dL_law_521 dL_law_522 rfl rfl (by omega) hL ?_
  refine b_arg (k := 2) 3 0 dL_law_523 dL_law_524 dL_law_525 (by decide) dL_law_526 dL_law_527 rfl rfl (by omega) hL ?_
  refine b_arg (k := 3) 3 0 dL_law_528 dL_law_529 dL_law_530 (by decide) dL_law_531 dL_law_532 rfl rfl (by omega) hL ?_
  refine b_callV (u1 := 1) (u2 := u + 1) (v1 := 3) (v2 := v + 3) (as := [.int (xs (i + 1)), .int (xs (i + 2)), .int (xs (i + 3))]) (rest := []) (st2 := [.long r]) hA ⟨_, _, _, _, rfl, rfl⟩ oX11_pressed q_564 q_565 q_566 rfl hd1 (by decide) rfl (Nat.le_of_ble_eq_true rfl) 536 rfl dL_law_533 rfl ?_
  refine b_aload_n 1 dL_law_536 rfl rfl ?_
  refine b_arg (k := 1) 3 0 dL_law_537 dL_law_538 dL_law_539 (by decide) dL_law_540 dL_law_541 rfl rfl (by omega) hL ?_
  refine b_arg (k := 2) 3 0 dL_law_542 dL_law_543 dL_law_544 (by decide) dL_law_545 dL_law_546 rfl rfl (by omega) hL ?_
  refine b_arg (k := 3) 3 0 dL_law_547 dL_law_548 dL_law_549 (by decide) dL_law_550 dL_law_551 rfl rfl (by omega) hL ?_
  refine b_widen (u2 := 1 + u) (v2 := 3 + v) (by omega) (by omega) ?_
  refine b_callV (u1 := 1) (u2 := u) (v1 := 3) (v2 := v) (as := [.int (xs (i + 1)), .int (xs (i + 2)), .int (xs (i + 3))]) (rest := [.long r]) (st2 := [.long r, .long r]) hB ⟨_, _, _, _, rfl, rfl⟩ oX12_pressed q_1334 q_1335 q_1336 rfl hd2 (by decide) rfl (Nat.le_of_ble_eq_true rfl) 555 rfl dL_law_552 rfl ?_
  refine b_lcmp dL_law_555 ?_
  exact b_if_eq 1974 dL_law_556 (by decide) (fun _ => kk C2 M2 ob2 hJ2) (fun c9 => absurd (g_cmp_eq.mpr rfl) c9)
theorem b_c9 (hJ : v_J G C M ob) (hi : i + 6 ≤ L) (hL : L ≤ 3072) (kk : ∀ (C2 : f_C) (M2 : f_M) (ob2 : List va_E), v_J G C2 M2 ob2 → b_A G b L xs u v 1974 (b_lv G b i) [] (g_hp G C2 (g_hm G M2 ++ ob2))) : b_A G b L xs (u + 2) (v + 6) 561 (b_lv G b i) [] (g_hp G C (g_hm G M ++ ob)) := by
  obtain ⟨r, C2, M2, ob2, d1, d2, hd1, hd2, hJ2, hA, hB⟩ := v_press (y := xs (i + 1)) hJ
  refine b_widen (u2 := 1 + (u + 1)) (v2 := 3 + (v + 3)) (by omega) (by omega) ?_
  refine b_aload_n 2 dL_law_561 rfl rfl ?_
  refine b_arg (k := 1) 3 0 dL_law_562 dL_law_563 dL_law_564 (by decide) dL_law_565 dL_law_566 rfl rfl (by omega) hL ?_
  refine b_callV (u1 := 1) (u2 := u + 1) (v1 := 3) (v2 := v + 3) (as := [.int (xs (i + 1))]) (rest := []) (st2 := [.int r]) hA ⟨_, _, _, _, rfl, rfl⟩ oX11_press q_569 q_570 q_571 rfl hd1 (by decide) rfl (Nat.le_of_ble_eq_true rfl) 570 rfl dL_law_567 rfl ?_
  refine b_aload_n 1 dL_law_570 rfl rfl ?_
  refine b_arg (k := 1) 3 0 dL_law_571 dL_law_572 dL_law_573 (by decide) dL_law_574 dL_law_575 rfl rfl (by omega) hL ?_
  refine b_widen (u2 := 1 + u) (v2 := 3 + v) (by omega) (by omega) ?_
  refine b_callV (u1 := 1) (u2 := u) (v1 := 3) (v2 := v) (as := [.int (xs (i + 1))]) (rest := [.int r]) (st2 := [.int r, .int r]) hB ⟨_, _, _, _, rfl, rfl⟩ oX12_press q_1342 q_1343 q_1344 rfl hd2 (by decide) rfl (Nat.le_of_ble_eq_true rfl) 579 rfl dL_law_576 rfl ?_
  exact b_icmp_eq 1974 dL_law_579 (by decide) (fun _ => kk C2 M2 ob2 hJ2) (fun c9 => absurd rfl c9)
theorem b_c10 (hJ : v_J G C M ob) (hi : i + 6 ≤ L) (hL : L ≤ 3072) (kk : ∀ (C2 : f_C) (M2 : f_M) (ob2 : List va_E), v_J G C2 M2 ob2 → b_A G b L xs u v 1974 (b_lv G b i) [] (g_hp G C2 (g_hm G M2 ++ ob2))) : b_A G b L xs (u + 2) (v + 6) 584 (b_lv G b i) [] (g_hp G C (g_hm G M ++ ob)) := by
  obtain ⟨r, C2, M2, ob2, d1, d2, hd1, hd2, hJ2, hA, hB⟩ := v_rounds (y := xs (i + 1)) hJ
  refine b_widen (u2 := 1 + (u + 1)) (v2 := 3 + (v + 3)) (by omega) (by omega) ?_
  refine b_aload_n 2 dL_law_584 rfl rfl ?_
  refine b_arg (k := 1) 3 0 dL_law_585 dL_law_586 dL_law_587 (by decide) dL_law_588 dL_law_589 rfl rfl (by omega) hL ?_
  refine b_callV (u1 := 1) (u2 := u + 1) (v1 := 3) (v2 := v + 3) (as := [.int (xs (i + 1))]) (rest := []) (st2 := [.int r]) hA ⟨_, _, _, _, rfl, rfl⟩ oX11_rounds q_578 q_579 q_580 rfl hd1 (by decide) rfl (Nat.le_of_ble_eq_true rfl) 593 rfl dL_law_590 rfl ?_
  refine b_aload_n 1 dL_law_593 rfl rfl ?_
  refine b_arg (k := 1) 3 0 dL_law_594 dL_law_595 dL_law_596 (by decide) dL_law_597 dL_law_598 rfl rfl (by omega) hL ?_
  refine b_widen (u2 := 1 + u) (v2 := 3 + v) (by omega) (by omega) ?_
  refine b_callV (u1 := 1) (u2 := u) (v1 := 3) (v2 := v) (as := [.int (xs (i + 1))]) (rest := [.int r]) (st2 := [.int r, .int r]) hB ⟨_, _, _, _, rfl, rfl⟩ oX12_rounds q_1354 q_1355 q_1356 rfl hd2 (by decide) rfl (Nat.le_of_ble_eq_true rfl) 602 rfl dL_law_599 rfl ?_
  exact b_icmp_eq 1974 dL_law_602 (by decide) (fun _ => kk C2 M2 ob2 hJ2) (fun c9 => absurd rfl c9)
theorem b_c11 (hJ : v_J G C M ob) (hi : i + 6 ≤ L) (hL : L ≤ 3072) (kk : ∀ (C2 : f_C) (M2 : f_M) (ob2 : List va_E), v_J G C2 M2 ob2 → b_A G b L xs u v 1974 (b_lv G b i) [] (g_hp G C2 (g_hm G M2 ++ ob2))) : b_A G b L xs (u + 2) (v + 6) 607 (b_lv G b i) [] (g_hp G C (g_hm G M ++ ob)) := by
  obtain ⟨r, C2, M2, ob2, d1, d2, hd1, hd2, hJ2, hA, hB⟩ := v_ordered (y := xs (i + 1)) (y2 := xs (i + 2)) hJ
  refine b_widen (u2 := 1 + (u + 1)) (v2 := 3 + (v + 3)) (by omega) (by omega) ?_
  refine b_aload_n 2 dL_law_607 rfl rfl ?_
  refine b_arg (k := 1) 3 0 dL_law_608 dL_law_609 dL_law_610 (by decide) dL_law_611 dL_law_612 rfl rfl (by omega) hL ?_
  refine b_arg (k := 2) 3 0 dL_law_613 dL_law_614 dL_law_615 (by decide) dL_law_616 dL_law_617 rfl rfl (by omega) hL ?_
  refine b_callV (u1 := 1) (u2 := u + 1) (v1 := 3) (v2 := v + 3) (as := [.int (xs (i + 1)), .int (xs (i + 2))]) (rest := []) (st2 := [.int r]) hA ⟨_, _, _, _, rfl, rfl⟩ oX11_ordered q_586 q_587 q_588 rfl hd1 (by decide) rfl (Nat.le_of_ble_eq_true rfl) 621 rfl dL_law_618 rfl ?_
  refine b_aload_n 1 dL_law_621 rfl rfl ?_
  refine b_arg (k := 1) 3 0 dL_law_622 dL_law_623 dL_law_624 (by decide) dL_law_625 dL_law_626 rfl rfl (by omega) hL ?_
  refine b_arg (k := 2) 3 0 dL_law_627 dL_law_628 dL_law_629 (by decide) dL_law_630 dL_law_631 rfl rfl (by omega) hL ?_
  refine b_widen (u2 := 1 + u) (v2 := 3 + v) (by omega) (by omega) ?_
  refine b_callV (u1 := 1) (u2 := u) (v1 := 3) (v2 := v) (as := [.int (xs (i + 1)), .int (xs (i + 2))]) (rest := [.int r]) (st2 := [.int r, .int r]) hB ⟨_, _, _, _, rfl, rfl⟩ oX12_ordered q_1371 q_1372 q_1373 rfl hd2 (by decide) rfl (Nat.le_of_ble_eq_true rfl) 635 rfl dL_law_632 rfl ?_
  exact b_icmp_eq 1974 dL_law_635 (by decide) (fun _ => kk C2 M2 ob2 hJ2) (fun c9 => absurd rfl c9)
theorem b_c12 (hJ : v_J G C M ob) (hi : i + 6 ≤ L) (hL : L ≤ 3072) (kk : ∀ (C2 : f_C) (M2 : f_M) (ob2 : List va_E), v_J G C2 M2 ob2 → b_A G b L xs u v 1974 (b_lv G b i) [] (g_hp G C2 (g_hm G M2 ++ ob2))) : b_A G b L xs (u + 2) (v + 6) 640 (b_lv G b i) [] (g_hp G C (g_hm G M ++ ob)) := by
  obtain ⟨r, C2, M2, ob2, d1, d2, hd1, hd2, hJ2, hA, hB⟩ := v_first (y := xs (i + 1)) (y2 := xs (i + 2)) hJ
  refine b_widen (u2 := 1 + (u + 1)) (v2 := 3 + (v + 3)) (by omega) (by omega) ?_
  refine b_aload_n 2 dL_law_640 rfl rfl ?_
  refine b_arg (k := 1) 3 0 dL_law_641 dL_law_642 dL_law_643 (by decide) dL_law_644 dL_law_645 rfl rfl (by omega) hL ?_
  refine b_arg (k := 2) 3 0 dL_law_646 dL_law_647 dL_law_648 (by decide) dL_law_649 dL_law_650 rfl rfl (by omega) hL ?_
  refine b_callV (u1 := 1) (u2 := u + 1) (v1 := 3) (v2 := v + 3) (as := [.int (xs (i + 1)), .int (xs (i + 2))]) (rest := []) (st2 := [.int r]) hA ⟨_, _, _, _, rfl, rfl⟩ oX11_first q_619 q_620 q_621 rfl hd1 (by decide) rfl (Nat.le_of_ble_eq_true rfl) 654 rfl dL_law_651 rfl ?_
  refine b_aload_n 1 dL_law_654 rfl rfl ?_
  refine b_arg (k := 1) 3 0 dL_law_655 dL_law_656 dL_law_657 (by decide) dL_law_658 dL_law_659 rfl rfl (by omega) hL ?_
  refine b_arg (k := 2) 3 0 dL_law_660 dL_law_661 dL_law_662 (by decide) dL_law_663 dL_law_664 rfl rfl (by omega) hL ?_
  refine b_widen (u2 := 1 + u) (v2 := 3 + v) (by omega) (by omega) ?_
  refine b_callV (u1 := 1) (u2 := u) (v1 := 3) (v2 := v) (as := [.int (xs (i + 1)), .int (xs (i + 2))]) (rest := [.int r]) (st2 := [.int r, .int r]) hB ⟨_, _, _, _, rfl, rfl⟩ oX12_first q_1388 q_1389 q_1390 rfl hd2 (by decide) rfl (Nat.le_of_ble_eq_true rfl) 668 rfl dL_law_665 rfl ?_
  exact b_icmp_eq 1974 dL_law_668 (by decide) (fun _ => kk C2 M2 ob2 hJ2) (fun c9 => absurd rfl c9)
theorem b_c13 (hJ : v_J G C M ob) (hi : i + 6 ≤ L) (hL : L ≤ 3072) (kk : ∀ (C2 : f_C) (M2 : f_M) (ob2 : List va_E), v_J G C2 M2 ob2 → b_A G b L xs u v 1974 (b_lv G b i) [] (g_hp G C2 (g_hm G M2 ++ ob2))) : b_A G b L xs (u + 2) (v + 6) 673 (b_lv G b i) [] (g_hp G C (g_hm G M ++ ob)) := by
  obtain ⟨r, C2, M2, ob2, d1, d2, hd1, hd2, hJ2, hA, hB⟩ := v_least_ (y := xs (i + 1)) (y2 := xs (i + 2)) (y3 := xs (i + 3)) hJ
  refine b_widen (u2 := 1 + (u + 1)) (v2 := 3 + (v + 3)) (by omega) (by omega) ?_
  refine b_aload_n 2 dL_law_673 rfl rfl ?_
  refine b_arg (k := 1) 3 0 dL_law_674 dL_law_675 dL_law_676 (by decide) dL_law_677 dL_law_678 rfl rfl (by omega) hL ?_
  refine b_arg (k := 2) 3 0 dL_law_679 dL_law_680 dL_law_681 (by decide) dL_law_682 dL_law_683 rfl rfl (by omega) hL ?_
  refine b_arg (k := 3) 3 0 dL_law_684 dL_law_685 dL_law_686 (by decide) dL_law_687 dL_law_688 rfl rfl (by omega) hL ?_
  refine b_callV (u1 := 1) (u2 := u + 1) (v1 := 3) (v2 := v + 3) (as := [.int (xs (i + 1)), .int (xs (i + 2)), .int (xs (i + 3))]) (rest := []) (st2 := [.int r]) hA ⟨_, _, _, _, rfl, rfl⟩ oX11_least q_630 q_631 q_632 rfl hd1 (by decide) rfl (Nat.le_of_ble_eq_true rfl) 692 rfl dL_law_689 rfl ?_
  refine b_aload_n 1 dL_law_692 rfl rfl ?_
  refine b_arg (k := 1) 3 0 dL_law_693 dL_law_694 dL_law_695 (by decide) dL_law_696 dL_law_697 rfl rfl (by omega) hL ?_
  refine b_arg (k := 2) 3 0 dL_law_698 dL_law_699 dL_law_700 (by decide) dL_law_701 dL_law_702 rfl rfl (by omega) hL ?_
  refine b_arg (k := 3) 3 0 dL_law_703 dL_law_704 dL_law_705 (by decide) dL_law_706 dL_law_707 rfl rfl (by omega) hL ?_
  refine b_widen (u2 := 1 + u) (v2 := 3 + v) (by omega) (by omega) ?_
  refine b_callV (u1 := 1) (u2 := u) (v1 := 3) (v2 := v) (as := [.int (xs (i + 1)), .int (xs (i + 2)), .int (xs (i + 3))]) (rest := [.int r]) (st2 := [.int r, .int r]) hB ⟨_, _, _, _, rfl, rfl⟩ oX12_least q_1396 q_1397 q_1398 rfl hd2 (by decide) rfl (Nat.le_of_ble_eq_true rfl) 711 rfl dL_law_708 rfl ?_
  exact b_icmp_eq 1974 dL_law_711 (by decide) (fun _ => kk C2 M2 ob2 hJ2) (fun c9 => absurd rfl c9)
theorem b_c14 (hJ : v_J G C M ob) (hi : i + 6 ≤ L) (hL : L ≤ 3072) (kk : ∀ (C2 : f_C) (M2 : f_M) (ob2 : List va_E), v_J G C2 M2 ob2 → b_A G b L xs u v 1974 (b_lv G b i) [] (g_hp G C2 (g_hm G M2 ++ ob2))) : b_A G b L xs (u + 2) (v + 6) 716 (b_lv G b i) [] (g_hp G C (g_hm G M ++ ob)) := by
  obtain ⟨r, C2, M2, ob2, d1, d2, hd1, hd2, hJ2, hA, hB⟩ := v_leastSets (y := xs (i + 1)) (y2 := xs (i + 2)) (y3 := xs (i + 3)) hJ
  refine b_widen (u2 := 1 + (u + 1)) (v2 := 3 + (v + 3)) (by omega) (by omega) ?_
  refine b_aload_n 2 dL_law_716 rfl rfl ?_
  refine b_arg (k := 1) 3 0 dL_law_717 dL_law_718 dL_law_719 (by decide) dL_law_720 dL_law_721 rfl rfl (by omega) hL ?_
  refine b_arg (k := 2) 3 0 dL_law_722 dL_law_723 dL_law_724 (by decide) dL_law_725 dL_law_726 rfl rfl (by omega) hL ?_
  refine b_arg (k := 3) 3 0 dL_law_727 dL_law_728 dL_law_729 (by decide) dL_law_730 dL_law_731 rfl rfl (by omega) hL ?_
  refine b_callV (u1 := 1) (u2 := u + 1) (v1 := 3) (v2 := v + 3) (as := [.int (xs (i + 1)), .int (xs (i + 2)), .int (xs (i + 3))]) (rest := []) (st2 := [.long r]) hA ⟨_, _, _, _, rfl, rfl⟩ oX11_leastSets q_690 q_691 q_692 rfl hd1 (by decide) rfl (Nat.le_of_ble_eq_true rfl) 735 rfl dL_law_732 rfl ?_
  refine b_aload_n 1 dL_law_735 rfl rfl ?_
  refine b_arg (k := 1) 3 0 dL_law_736 dL_law_737 dL_law_738 (by decide) dL_law_739 dL_law_740 rfl rfl (by omega) hL ?_
  refine b_arg (k := 2) 3 0 dL_law_741 dL_law_742 dL_law_743 (by decide) dL_law_744 dL_law_745 rfl rfl (by omega) hL ?_
  refine b_arg (k := 3) 3 0 dL_law_746 dL_law_747 dL_law_748 (by decide) dL_law_749 dL_law_750 rfl rfl (by omega) hL ?_
  refine b_widen (u2 := 1 + u) (v2 := 3 + v) (by omega) (by omega) ?_
  refine b_callV (u1 := 1) (u2 := u) (v1 := 3) (v2 := v) (as := [.int (xs (i + 1)), .int (xs (i + 2)), .int (xs (i + 3))]) (rest := [.long r]) (st2 := [.long r, .long r]) hB ⟨_, _, _, _, rfl, rfl⟩ oX12_leastSets q_1413 q_1414 q_1415 rfl hd2 (by decide) rfl (Nat.le_of_ble_eq_true rfl) 754 rfl dL_law_751 rfl ?_
  refine b_lcmp dL_law_754 ?_
  exact b_if_eq 1974 dL_law_755 (by decide) (fun _ => kk C2 M2 ob2 hJ2) (fun c9 => absurd (g_cmp_eq.mpr rfl) c9)
theorem b_c15 (hJ : v_J G C M ob) (hi : i + 6 ≤ L) (hL : L ≤ 3072) (kk : ∀ (C2 : f_C) (M2 : f_M) (ob2 : List va_E), v_J G C2 M2 ob2 → b_A G b L xs u v 1974 (b_lv G b i) [] (g_hp G C2 (g_hm G M2 ++ ob2))) : b_A G b L xs (u + 2) (v + 6) 760 (b_lv G b i) [] (g_hp G C (g_hm G M ++ ob)) := by
  obtain ⟨r, C2, M2, ob2, d1, d2, hd1, hd2, hJ2, hA, hB⟩ := v_meets (y := xs (i + 1)) (y2 := xs (i + 2)) (y3 := xs (i + 3)) hJ
  refine b_widen (u2 := 1 + (u + 1)) (v2 := 3 + (v + 3)) (by omega) (by omega) ?_
  refine b_aload_n 2 dL_law_760 rfl rfl ?_
  refine b_arg (k := 1) 3 0 dL_law_761 dL_law_762 dL_law_763 (by decide) dL_law_764 dL_law_765 rfl rfl (by omega) hL ?_
  refine b_arg (k := 2) 3 0 dL_law_766 dL_law_767 dL_law_768 (by decide) dL_law_769 dL_law_770 rfl rfl (by omega) hL ?_
  refine b_arg (k := 3) 3 0 dL_law_771 dL_law_772 dL_law_773 (by decide) dL_law_774 dL_law_775 rfl rfl (by omega) hL ?_
  refine b_callV (u1 := 1) (u2 := u + 1) (v1 := 3) (v2 := v + 3) (as := [.int (xs (i + 1)), .int (xs (i + 2)), .int (xs (i + 3))]) (rest := []) (st2 := [.int r]) hA ⟨_, _, _, _, rfl, rfl⟩ oX11_meets q_694 q_695 q_696 rfl hd1 (by decide) rfl (Nat.le_of_ble_eq_true rfl) 779 rfl dL_law_776 rfl ?_
  refine b_aload_n 1 dL_law_779 rfl rfl ?_
  refine b_arg (k := 1) 3 0 dL_law_780 dL_law_781 dL_law_782 (by decide) dL_law_783 dL_law_784 rfl rfl (by omega) hL ?_
  refine b_arg (k := 2) 3 0 dL_law_785 dL_law_786 dL_law_787 (by decide) dL_law_788 dL_law_789 rfl rfl (by omega) hL ?_
  refine b_arg (k := 3) 3 0 dL_law_790 dL_law_791 dL_law_792 (by decide) dL_law_793 dL_law_794 rfl rfl (by omega) hL ?_
  refine b_widen (u2 := 1 + u) (v2 := 3 + v) (by omega) (by omega) ?_
  refine b_callV (u1 := 1) (u2 := u) (v1 := 3) (v2 := v) (as := [.int (xs (i + 1)), .int (xs (i + 2)), .int (xs (i + 3))]) (rest := [.int r]) (st2 := [.int r, .int r]) hB ⟨_, _, _, _, rfl, rfl⟩ oX12_meets q_1417 q_1418 q_1419 rfl hd2 (by decide) rfl (Nat.le_of_ble_eq_true rfl) 798 rfl dL_law_795 rfl ?_
  exact b_icmp_eq 1974 dL_law_798 (by decide) (fun _ => kk C2 M2 ob2 hJ2) (fun c9 => absurd rfl c9)
theorem b_c16 (hJ : v_J G C M ob) (hi : i + 6 ≤ L) (hL : L ≤ 3072) (kk : ∀ (C2 : f_C) (M2 : f_M) (ob2 : List va_E), v_J G C2 M2 ob2 → b_A G b L xs u v 1974 (b_lv G b i) [] (g_hp G C2 (g_hm G M2 ++ ob2))) : b_A G b L xs (u + 2) (v + 6) 803 (b_lv G b i) [] (g_hp G C (g_hm G M ++ ob)) := by
  obtain ⟨r, C2, M2, ob2, d1, d2, hd1, hd2, hJ2, hA, hB⟩ := v_cascade (y := xs (i + 1)) (y2 := xs (i + 2)) (y3 := xs (i + 3)) hJ
  refine b_widen (u2 := 1 + (u + 1)) (v2 := 3 + (v + 3)) (by omega) (by omega) ?_
  refine b_aload_n 2 dL_law_803 rfl rfl ?_
  refine b_arg (k := 1) 3 0 dL_law_804 dL_law_805 dL_law_806 (by decide) dL_law_807 dL_law_808 rfl rfl (by omega) hL ?_
  refine b_arg (k := 2) 3 0 dL_law_809 dL_law_810 dL_law_811 (by decide) dL_law_812 dL_law_813 rfl rfl (by omega) hL ?_
  refine b_arg (k := 3) 3 0 dL_law_814 dL_law_815 dL_law_816 (by decide) dL_law_817 dL_law_818 rfl rfl (by omega) hL ?_
  refine b_callV (u1 := 1) (u2 := u + 1) (v1 := 3) (v2 := v + 3) (as := [.int (xs (i + 1)), .int (xs (i + 2)), .int (xs (i + 3))]) (rest := []) (st2 := [.int r]) hA ⟨_, _, _, _, rfl, rfl⟩ oX11_cascade q_705 q_706 q_707 rfl hd1 (by decide) rfl (Nat.le_of_ble_eq_true rfl) 822 rfl dL_law_819 rfl ?_
  refine b_aload_n 1 dL_law_822 rfl rfl ?_
  refine b_arg (k := 1) 3 0 dL_law_823 dL_law_824 dL_law_825 (by decide) dL_law_826 dL_law_827 rfl rfl (by omega) hL ?_
  refine b_arg (k := 2) 3 0 dL_law_828 dL_law_829 dL_law_830 (by decide) dL_law_831 dL_law_832 rfl rfl (by omega) hL ?_
  refine b_arg (k := 3) 3 0 dL_law_833 dL_law_834 dL_law_835 (by decide) dL_law_836 dL_law_837 rfl rfl (by omega) hL ?_
  refine b_widen (u2 := 1 + u) (v2 := 3 + v) (by omega) (by omega) ?_
  refine b_callV (u1 := 1) (u2 := u) (v1 := 3) (v2 := v) (as := [.int (xs (i + 1)), .int (xs (i + 2)), .int (xs (i + 3))]) (rest := [.int r]) (st2 := [.int r, .int r]) hB ⟨_, _, _, _, rfl, rfl⟩ oX12_cascade q_1421 q_1422 q_1423 rfl hd2 (by decide) rfl (Nat.le_of_ble_eq_true rfl) 841 rfl dL_law_838 rfl ?_
  exact b_icmp_eq 1974 dL_law_841 (by decide) (fun _ => kk C2 M2 ob2 hJ2) (fun c9 => absurd rfl c9)
theorem b_c17 (hJ : v_J G C M ob) (hi : i + 6 ≤ L) (hL : L ≤ 3072) (kk : ∀ (C2 : f_C) (M2 : f_M) (ob2 : List va_E), v_J G C2 M2 ob2 → b_A G b L xs u v 1974 (b_lv G b i) [] (g_hp G C2 (g_hm G M2 ++ ob2))) : b_A G b L xs (u + 2) (v + 6) 846 (b_lv G b i) [] (g_hp G C (g_hm G M ++ ob)) := by
  obtain ⟨r, C2, M2, ob2, d1, d2, hd1, hd2, hJ2, hA, hB⟩ := v_bound (y := xs (i + 1)) (y2 := xs (i + 2)) hJ
  refine b_widen (u2 := 1 + (u + 1)) (v2 := 3 + (v + 3)) (by omega) (by omega) ?_
  refine b_aload_n 2 dL_law_846 rfl rfl ?_
  refine b_arg (k := 1) 3 0 dL_law_847 dL_law_848 dL_law_849 (by decide) dL_law_850 dL_law_851 rfl rfl (by omega) hL ?_
  refine b_arg (k := 2) 3 0 dL_law_852 dL_law_853 dL_law_854 (by decide) dL_law_855 dL_law_856 rfl rfl (by omega) hL ?_
  refine b_callV (u1 := 1) (u2 := u + 1) (v1 := 3) (v2 := v + 3) (as := [.int (xs (i + 1)), .int (xs (i + 2))]) (rest := []) (st2 := [.int r]) hA ⟨_, _, _, _, rfl, rfl⟩ oX11_bound q_737 q_738 q_739 rfl hd1 (by decide) rfl (Nat.le_of_ble_eq_true rfl) 860 rfl dL_law_857 rfl ?_
  refine b_aload_n 1 dL_law_860 rfl rfl ?_
  refine b_arg (k := 1) 3 0 dL_law_861 dL_law_862 dL_law_863 (by decide) dL_law_864 dL_law_865 rfl rfl (by omega) hL ?_
  refine b_arg (k := 2) 3 0 dL_law_866 dL_law_867 dL_law_868 (by decide) dL_law_869 dL_law_870 rfl rfl (by omega) hL ?_
  refine b_widen (u2 := 1 + u) (v2 := 3 + v) (by omega) (by omega) ?_
  refine b_callV (u1 := 1) (u2 := u) (v1 := 3) (v2 := v) (as := [.int (xs (i + 1)), .int (xs (i + 2))]) (rest := [.int r]) (st2 := [.int r, .int r]) hB ⟨_, _, _, _, rfl, rfl⟩ oX12_bound q_1434 q_1435 q_1436 rfl hd2 (by decide) rfl (Nat.le_of_ble_eq_true rfl) 874 rfl dL_law_871 rfl ?_
  exact b_icmp_eq 1974 dL_law_874 (by decide) (fun _ => kk C2 M2 ob2 hJ2) (fun c9 => absurd rfl c9)
theorem b_c18 (hJ : v_J G C M ob) (hi : i + 6 ≤ L) (hL : L ≤ 3072) (kk : ∀ (C2 : f_C) (M2 : f_M) (ob2 : List va_E), v_J G C2 M2 ob2 → b_A G b L xs u v 1974 (b_lv G b i) [] (g_hp G C2 (g_hm G M2 ++ ob2))) : b_A G b L xs (u + 2) (v + 6) 879 (b_lv G b i) [] (g_hp G C (g_hm G M ++ ob)) := by
  obtain ⟨r, C2, M2, ob2, d1, d2, hd1, hd2, hJ2, hA, hB⟩ := v_scaled (y := xs (i + 1)) (y2 := xs (i + 2)) (y3 := xs (i + 3)) hJ
  refine b_widen (u2 := 1 + (u + 1)) (v2 := 3 + (v + 3)) (by omega) (by omega) ?_
  refine b_aload_n 2 dL_law_879 rfl rfl ?_
  refine b_arg (k := 1) 3 0 dL_law_880 dL_law_881 dL_law_882 (by decide) dL_law_883 dL_law_884 rfl rfl (by omega) hL ?_
  refine b_arg (k := 2) 3 0 dL_law_885 dL_law_886 dL_law_887 (by decide) dL_law_888 dL_law_889 rfl rfl (by omega) hL ?_
  refine b_arg (k := 3) 3 0 dL_law_890 dL_law_891 dL_law_892 (by decide) dL_law_893 dL_law_894 rfl rfl (by omega) hL ?_
  refine b_callV (u1 := 1) (u2 := u + 1) (v1 := 3) (v2 := v + 3) (as := [.int (xs (i + 1)), .int (xs (i + 2)), .int (xs (i + 3))]) (rest := []) (st2 := [.int r]) hA ⟨_, _, _, _, rfl, rfl⟩ oX11_scaled q_745 q_746 q_747 rfl hd1 (by decide) rfl (Nat.le_of_ble_eq_true rfl) 898 rfl dL_law_895 rfl ?_
  refine b_aload_n 1 dL_law_898 rfl rfl ?_
  refine b_arg (k := 1) 3 0 dL_law_899 dL_law_900 dL_law_901 (by decide) dL_law_902 dL_law_903 rfl rfl (by omega) hL ?_
  refine b_arg (k := 2) 3 0 dL_law_904 dL_law_905 dL_law_906 (by decide) dL_law_907 dL_law_908 rfl rfl (by omega) hL ?_
  refine b_arg (k := 3) 3 0 dL_law_909 dL_law_910 dL_law_911 (by decide) dL_law_912 dL_law_913 rfl rfl (by omega) hL ?_
  refine b_widen (u2 := 1 + u) (v2 := 3 + v) (by omega) (by omega) ?_
  refine b_callV (u1 := 1) (u2 := u) (v1 := 3) (v2 := v) (as := [.int (xs (i + 1)), .int (xs (i + 2)), .int (xs (i + 3))]) (rest := [.int r]) (st2 := [.int r, .int r]) hB ⟨_, _, _, _, rfl, rfl⟩ oX12_scaled q_1438 q_1439 q_1440 rfl hd2 (by decide) rfl (Nat.le_of_ble_eq_true rfl) 917 rfl dL_law_914 rfl ?_
  exact b_icmp_eq 1974 dL_law_917 (by decide) (fun _ => kk C2 M2 ob2 hJ2) (fun c9 => absurd rfl c9)
theorem b_c19 (hJ : v_J G C M ob) (hi : i + 6 ≤ L) (hL : L ≤ 3072) (kk : ∀ (C2 : f_C) (M2 : f_M) (ob2 : List va_E), v_J G C2 M2 ob2 → b_A G b L xs u v 1974 (b_lv G b i) [] (g_hp G C2 (g_hm G M2 ++ ob2))) : b_A G b L xs (u + 2) (v + 6) 922 (b_lv G b i) [] (g_hp G C (g_hm G M ++ ob)) := by
  obtain ⟨r, C2, M2, ob2, d1, d2, hd1, hd2, hJ2, hA, hB⟩ := v_grid (y := xs (i + 1)) (y2 := xs (i + 2)) hJ
  refine b_widen (u2 := 1 + (u + 1)) (v2 := 3 + (v + 3)) (by omega) (by omega) ?_
  refine b_aload_n 2 dL_law_922 rfl rfl ?_
  refine b_arg (k := 1) 3 0 dL_law_923 dL_law_924 dL_law_925 (by decide) dL_law_926 dL_law_927 rfl rfl (by omega) hL ?_
  refine b_arg (k := 2) 3 0 dL_law_928 dL_law_929 dL_law_930 (by decide) dL_law_931 dL_law_932 rfl rfl (by omega) hL ?_
  refine b_callV (u1 := 1) (u2 := u + 1) (v1 := 3) (v2 := v + 3) (as := [.int (xs (i + 1)), .int (xs (i + 2))]) (rest := []) (st2 := [.int r]) hA ⟨_, _, _, _, rfl, rfl⟩ oX11_grid q_750 q_751 q_752 rfl hd1 (by decide) rfl (Nat.le_of_ble_eq_true rfl) 936 rfl dL_law_933 rfl ?_
  refine b_aload_n 1 dL_law_936 rfl rfl ?_
  refine b_arg (k := 1) 3 0 dL_law_937 dL_law_938 dL_law_939 (by decide) dL_law_940 dL_law_941 rfl rfl (by omega) hL ?_
  refine b_arg (k := 2) 3 0 dL_law_942 dL_law_943 dL_law_944 (by decide) dL_law_945 dL_law_946 rfl rfl (by omega) hL ?_
  refine b_widen (u2 := 1 + u) (v2 := 3 + v) (by omega) (by omega) ?_
  refine b_callV (u1 := 1) (u2 := u) (v1 := 3) (v2 := v) (as := [.int (xs (i + 1)), .int (xs (i + 2))]) (rest := [.int r]) (st2 := [.int r, .int r]) hB ⟨_, _, _, _, rfl, rfl⟩ oX12_grid q_1442 q_1443 q_1444 rfl hd2 (by decide) rfl (Nat.le_of_ble_eq_true rfl) 950 rfl dL_law_947 rfl ?_
  exact b_icmp_eq 1974 dL_law_950 (by decide) (fun _ => kk C2 M2 ob2 hJ2) (fun c9 => absurd rfl c9)
theorem b_c20 (hJ : v_J G C M ob) (hi : i + 6 ≤ L) (hL : L ≤ 3072) (kk : ∀ (C2 : f_C) (M2 : f_M) (ob2 : List va_E), v_J G C2 M2 ob2 → b_A G b L xs u v 1974 (b_lv G b i) [] (g_hp G C2 (g_hm G M2 ++ ob2))) : b_A G b L xs (u + 2) (v + 6) 955 (b_lv G b i) [] (g_hp G C (g_hm G M ++ ob)) := by
  obtain ⟨r, C2, M2, ob2, d1, d2, hd1, hd2, hJ2, hA, hB⟩ := v_cells (x := (xs (i + 1)).toInt64 <<< ((32 : Int32).toInt64 &&& 63) ||| ((xs (i + 2)).toInt64 &&& 4294967295)) (y := xs (i + 3)) hJ
  refine b_widen (u2 := 1 + (u + 1)) (v2 := 3 + (v + 3)) (by omega) (by omega) ?_
  refine b_aload_n 2 dL_law_955 rfl rfl ?_
  refine b_arg (k := 1) 3 0 dL_law_956 dL_law_957 dL_law_958 (by decide) dL_law_959 dL_law_960 rfl rfl (by omega) hL ?_
  refine b_i2l dL_law_961 ?_
  refine b_bipush (x := 32) dL_law_962 (by decide) ?_
  refine b_lshl dL_law_964 ?_
  refine b_arg (k := 2) 3 0 dL_law_965 dL_law_966 dL_law_967 (by decide) dL_law_968 dL_law_969 rfl rfl (by omega) hL ?_
  refine b_i2l dL_law_970 ?_
  refine b_ldc2 q_1660 dL_law_971 ?_
  refine b_land dL_law_974 ?_
  refine b_lor dL_law_975 ?_
  refine b_arg (k := 3) 3 0 dL_law_976 dL_law_977 dL_law_978 (by decide) dL_law_979 dL_law_980 rfl rfl (by omega) hL ?_
  refine b_callV (u1 := 1) (u2 := u + 1) (v1 := 3) (v2 := v + 3) (as := [.long ((xs (i + 1)).toInt64 <<< ((32 : Int32).toInt64 &&& 63) ||| ((xs (i + 2)).toInt64 &&& 4294967295)), .int (xs (i + 3))]) (rest := []) (st2 := [.int r]) hA ⟨_, _, _, _, rfl, rfl⟩ oX11_cells q_766 q_767 q_768 rfl hd1 (by decide) rfl (Nat.le_of_ble_eq_true rfl) 984 rfl dL_law_981 rfl ?_
  refine b_aload_n 1 dL_law_984 rfl rfl ?_
  refine b_arg (k := 1) 3 0 dL_law_985 dL_law_986 dL_law_987 (by decide) dL_law_988 dL_law_989 rfl rfl (by omega) hL ?_
  refine b_i2l dL_law_990 ?_
  refine b_bipush (x := 32) dL_law_991 (by decide) ?_
  refine b_lshl dL_law_993 ?_
  refine b_arg (k := 2) 3 0 dL_law_994 dL_law_995 dL_law_996 (by decide) dL_law_997 dL_law_998 rfl rfl (by omega) hL ?_
  refine b_i2l dL_law_999 ?_
  refine b_ldc2 q_1660 dL_law_1000 ?_
  refine b_land dL_law_1003 ?_
  refine b_lor dL_law_1004 ?_
  refine b_arg (k := 3) 3 0 dL_law_1005 dL_law_1006 dL_law_1007 (by decide) dL_law_1008 dL_law_1009 rfl rfl (by omega) hL ?_
  refine b_widen (u2 := 1 + u) (v2 := 3 + v) (by omega) (by omega) ?_
  refine b_callV (u1 := 1) (u2 := u) (v1 := 3) (v2 := v) (as := [.long ((xs (i + 1)).toInt64 <<< ((32 : Int32).toInt64 &&& 63) ||| ((xs (i + 2)).toInt64 &&& 4294967295)), .int (xs (i + 3))]) (rest := [.int r]) (st2 := [.int r, .int r]) hB ⟨_, _, _, _, rfl, rfl⟩ oX12_cells q_1447 q_1448 q_1449 rfl hd2 (by decide) rfl (Nat.le_of_ble_eq_true rfl) 1013 rfl dL_law_1010 rfl ?_
  exact b_icmp_eq 1974 dL_law_1013 (by decide) (fun _ => kk C2 M2 ob2 hJ2) (fun c9 => absurd rfl c9)
theorem b_c21 (hJ : v_J G C M ob) (hi : i + 6 ≤ L) (hL : L ≤ 3072) (kk : ∀ (C2 : f_C) (M2 : f_M) (ob2 : List va_E), v_J G C2 M2 ob2 → b_A G b L xs u v 1974 (b_lv G b i) [] (g_hp G C2 (g_hm G M2 ++ ob2))) : b_A G b L xs (u + 2) (v + 6) 1018 (b_lv G b i) [] (g_hp G C (g_hm G M ++ ob)) := by
  obtain ⟨r, C2, M2, ob2, d1, d2, hd1, hd2, hJ2, hA, hB⟩ := v_border (x := (xs (i + 1)).toInt64 <<< ((32 : Int32).toInt64 &&& 63) ||| ((xs (i + 2)).toInt64 &&& 4294967295)) hJ
  refine b_widen (u2 := 1 + (u + 1)) (v2 := 3 + (v + 3)) (by omega) (by omega) ?_
  refine b_aload_n 2 dL_law_1018 rfl rfl ?_
  refine b_arg (k := 1) 3 0 dL_law_1019 dL_law_1020 dL_law_1021 (by decide) dL_law_1022 dL_law_1023 rfl rfl (by omega) hL ?_
  refine b_i2l dL_law_1024 ?_
  refine b_bipush (x := 32) dL_law_1025 (by decide) ?_
  refine b_lshl dL_law_1027 ?_
  refine b_arg (k := 2) 3 0 dL_law_1028 dL_law_1029 dL_law_1030 (by decide) dL_law_1031 dL_law_1032 rfl rfl (by omega) hL ?_
  refine b_i2l dL_law_1033 ?_
  refine b_ldc2 q_1660 dL_law_1034 ?_
  refine b_land dL_law_1037 ?_
  refine b_lor dL_law_1038 ?_
  refine b_callV (u1 := 1) (u2 := u + 1) (v1 := 3) (v2 := v + 3) (as := [.long ((xs (i + 1)).toInt64 <<< ((32 : Int32).toInt64 &&& 63) ||| ((xs (i + 2)).toInt64 &&& 4294967295))]) (rest := []) (st2 := [.long r]) hA ⟨_, _, _, _, rfl, rfl⟩ oX11_border q_774 q_775 q_776 rfl hd1 (by decide) rfl (Nat.le_of_ble_eq_true rfl) 1042 rfl dL_law_1039 rfl ?_
  refine b_aload_n 1 dL_law_1042 rfl rfl ?_
  refine b_arg (k := 1) 3 0 dL_law_1043 dL_law_1044 dL_law_1045 (by decide) dL_law_1046 dL_law_1047 rfl rfl (by omega) hL ?_
  refine b_i2l dL_law_1048 ?_
  refine b_bipush (x := 32) dL_law_1049 (by decide) ?_
  refine b_lshl dL_law_1051 ?_
  refine b_arg (k := 2) 3 0 dL_law_1052 dL_law_1053 dL_law_1054 (by decide) dL_law_1055 dL_law_1056 rfl rfl (by omega) hL ?_
  refine b_i2l dL_law_1057 ?_
  refine b_ldc2 q_1660 dL_law_1058 ?_
  refine b_land dL_law_1061 ?_
  refine b_lor dL_law_1062 ?_
  refine b_widen (u2 := 1 + u) (v2 := 3 + v) (by omega) (by omega) ?_
  refine b_callV (u1 := 1) (u2 := u) (v1 := 3) (v2 := v) (as := [.long ((xs (i + 1)).toInt64 <<< ((32 : Int32).toInt64 &&& 63) ||| ((xs (i + 2)).toInt64 &&& 4294967295))]) (rest := [.long r]) (st2 := [.long r, .long r]) hB ⟨_, _, _, _, rfl, rfl⟩ oX12_border q_1471 q_1472 q_1473 rfl hd2 (by decide) rfl (Nat.le_of_ble_eq_true rfl) 1066 rfl dL_law_1063 rfl ?_
  refine b_lcmp dL_law_1066 ?_
  exact b_if_eq 1974 dL_law_1067 (by decide) (fun _ => kk C2 M2 ob2 hJ2) (fun c9 => absurd (g_cmp_eq.mpr rfl) c9)
theorem b_c22 (hJ : v_J G C M ob) (hi : i + 6 ≤ L) (hL : L ≤ 3072) (kk : ∀ (C2 : f_C) (M2 : f_M) (ob2 : List va_E), v_J G C2 M2 ob2 → b_A G b L xs u v 1974 (b_lv G b i) [] (g_hp G C2 (g_hm G M2 ++ ob2))) : b_A G b L xs (u + 2) (v + 6) 1072 (b_lv G b i) [] (g_hp G C (g_hm G M ++ ob)) := by
  obtain ⟨r, C2, M2, ob2, d1, d2, hd1, hd2, hJ2, hA, hB⟩ := v_firstCells (y := xs (i + 1)) (y2 := xs (i + 2)) hJ
  refine b_widen (u2 := 1 + (u + 1)) (v2 := 3 + (v + 3)) (by omega) (by omega) ?_
  refine b_aload_n 2 dL_law_1072 rfl rfl ?_
  refine b_arg (k := 1) 3 0 dL_law_1073 dL_law_1074 dL_law_1075 (by decide) dL_law_1076 dL_law_1077 rfl rfl (by omega) hL ?_
  refine b_arg (k := 2) 3 0 dL_law_1078 dL_law_1079 dL_law_1080 (by decide) dL_law_1081 dL_law_1082 rfl rfl (by omega) hL ?_
  refine b_callV (u1 := 1) (u2 := u + 1) (v1 := 3) (v2 := v + 3) (as := [.int (xs (i + 1)), .int (xs (i + 2))]) (rest := []) (st2 := [.long r]) hA ⟨_, _, _, _, rfl, rfl⟩ oX11_firstCells q_779 q_780 q_781 rfl hd1 (by decide) rfl (Nat.le_of_ble_eq_true rfl) 1086 rfl dL_law_1083 rfl ?_
  refine b_aload_n 1 dL_law_1086 rfl rfl ?_
  refine b_arg (k := 1) 3 0 dL_law_1087 dL_law_1088 dL_law_1089 (by decide) dL_law_1090 dL_law_1091 rfl rfl (by omega) hL ?_
  refine b_arg (k := 2) 3 0 dL_law_1092 dL_law_1093 dL_law_1094 (by decide) dL_law_1095 dL_law_1096 rfl rfl (by omega) hL ?_
  refine b_widen (u2 := 1 + u) (v2 := 3 + v) (by omega) (by omega) ?_
  refine b_callV (u1 := 1) (u2 := u) (v1 := 3) (v2 := v) (as := [.int (xs (i + 1)), .int (xs (i + 2))]) (rest := [.long r]) (st2 := [.long r, .long r]) hB ⟨_, _, _, _, rfl, rfl⟩ oX12_firstCells q_1475 q_1476 q_1477 rfl hd2 (by decide) rfl (Nat.le_of_ble_eq_true rfl) 1100 rfl dL_law_1097 rfl ?_
  refine b_lcmp dL_law_1100 ?_
  exact b_if_eq 1974 dL_law_1101 (by decide) (fun _ => kk C2 M2 ob2 hJ2) (fun c9 => absurd (g_cmp_eq.mpr rfl) c9)
theorem b_c23 (hJ : v_J G C M ob) (hi : i + 6 ≤ L) (hL : L ≤ 3072) (kk : ∀ (C2 : f_C) (M2 : f_M) (ob2 : List va_E), v_J G C2 M2 ob2 → b_A G b L xs u v 1974 (b_lv G b i) [] (g_hp G C2 (g_hm G M2 ++ ob2))) : b_A G b L xs (u + 2) (v + 6) 1106 (b_lv G b i) [] (g_hp G C (g_hm G M ++ ob)) := by
  obtain ⟨r, C2, M2, ob2, d1, d2, hd1, hd2, hJ2, hA, hB⟩ := v_leastCells (y := xs (i + 1)) (y2 := xs (i + 2)) hJ
  refine b_widen (u2 := 1 + (u + 1)) (v2 := 3 + (v + 3)) (by omega) (by omega) ?_
  refine b_aload_n 2 dL_law_1106 rfl rfl ?_
  refine b_arg (k := 1) 3 0 dL_law_1107 dL_law_1108 dL_law_1109 (by decide) dL_law_1110 dL_law_1111 rfl rfl (by omega) hL ?_
  refine b_arg (k := 2) 3 0 dL_law_1112 dL_law_1113 dL_law_1114 (by decide) dL_law_1115 dL_law_1116 rfl rfl (by omega) hL ?_
  refine b_callV (u1 := 1) (u2 := u + 1) (v1 := 3) (v2 := v + 3) (as := [.int (xs (i + 1)), .int (xs (i + 2))]) (rest := []) (st2 := [.int r]) hA ⟨_, _, _, _, rfl, rfl⟩ oX11_leastCells q_787 q_788 q_789 rfl hd1 (by decide) rfl (Nat.le_of_ble_eq_true rfl) 1120 rfl dL_law_1117 rfl ?_
  refine b_aload_n 1 dL_law_1120 rfl rfl ?_
  refine b_arg (k := 1) 3 0 dL_law_1121 dL_law_1122 dL_law_1123 (by decide) dL_law_1124 dL_law_1125 rfl rfl (by omega) hL ?_
  refine b_arg (k := 2) 3 0 dL_law_1126 dL_law_1127 dL_law_1128 (by decide) dL_law_1129 dL_law_1130 rfl rfl (by omega) hL ?_
  refine b_widen (u2 := 1 + u) (v2 := 3 + v) (by omega) (by omega) ?_
  refine b_callV (u1 := 1) (u2 := u) (v1 := 3) (v2 := v) (as := [.int (xs (i + 1)), .int (xs (i + 2))]) (rest := [.int r]) (st2 := [.int r, .int r]) hB ⟨_, _, _, _, rfl, rfl⟩ oX12_leastCells q_1488 q_1489 q_1490 rfl hd2 (by decide) rfl (Nat.le_of_ble_eq_true rfl) 1134 rfl dL_law_1131 rfl ?_
  exact b_icmp_eq 1974 dL_law_1134 (by decide) (fun _ => kk C2 M2 ob2 hJ2) (fun c9 => absurd rfl c9)
theorem b_c24 (hJ : v_J G C M ob) (hi : i + 6 ≤ L) (hL : L ≤ 3072) (kk : ∀ (C2 : f_C) (M2 : f_M) (ob2 : List va_E), v_J G C2 M2 ob2 → b_A G b L xs u v 1974 (b_lv G b i) [] (g_hp G C2 (g_hm G M2 ++ ob2))) : b_A G b L xs (u + 2) (v + 6) 1139 (b_lv G b i) [] (g_hp G C (g_hm G M ++ ob)) := by
  obtain ⟨r, C2, M2, ob2, d1, d2, hd1, hd2, hJ2, hA, hB⟩ := v_meetsCells (y := xs (i + 1)) (y2 := xs (i + 2)) (y3 := xs (i + 3)) hJ
  refine b_widen (u2 := 1 + (u + 1)) (v2 := 3 + (v + 3)) (by omega) (by omega) ?_
  refine b_aload_n 2 dL_law_1139 rfl rfl ?_
  refine b_arg (k := 1) 3 0 dL_law_1140 dL_law_1141 dL_law_1142 (by decide) dL_law_1143 dL_law_1144 rfl rfl (by omega) hL ?_
  refine b_arg (k := 2) 3 0 dL_law_1145 dL_law_1146 dL_law_1147 (by decide) dL_law_1148 dL_law_1149 rfl rfl (by omega) hL ?_
  refine b_arg (k := 3) 3 0 dL_law_1150 dL_law_1151 dL_law_1152 (by decide) dL_law_1153 dL_law_1154 rfl rfl (by omega) hL ?_
  refine b_callV (u1 := 1) (u2 := u + 1) (v1 := 3) (v2 := v + 3) (as := [.int (xs (i + 1)), .int (xs (i + 2)), .int (xs (i + 3))]) (rest := []) (st2 := [.int r]) hA ⟨_, _, _, _, rfl, rfl⟩ oX11_meetsCells q_795 q_796 q_797 rfl hd1 (by decide) rfl (Nat.le_of_ble_eq_true rfl) 1158 rfl dL_law_1155 rfl ?_
  refine b_aload_n 1 dL_law_1158 rfl rfl ?_
  refine b_arg (k := 1) 3 0 dL_law_1159 dL_law_1160 dL_law_1161 (by decide) dL_law_1162 dL_law_1163 rfl rfl (by omega) hL ?_
  refine b_arg (k := 2) 3 0 dL_law_1164 dL_law_1165 dL_law_1166 (by decide) dL_law_1167 dL_law_1168 rfl rfl (by omega) hL ?_
  refine b_arg (k := 3) 3 0 dL_law_1169 dL_law_1170 dL_law_1171 (by decide) dL_law_1172 dL_law_1173 rfl rfl (by omega) hL ?_
  refine b_widen (u2 := 1 + u) (v2 := 3 + v) (by omega) (by omega) ?_
  refine b_callV (u1 := 1) (u2 := u) (v1 := 3) (v2 := v) (as := [.int (xs (i + 1)), .int (xs (i + 2)), .int (xs (i + 3))]) (rest := [.int r]) (st2 := [.int r, .int r]) hB ⟨_, _, _, _, rfl, rfl⟩ oX12_meetsCells q_1492 q_1493 q_1494 rfl hd2 (by decide) rfl (Nat.le_of_ble_eq_true rfl) 1177 rfl dL_law_1174 rfl ?_
  exact b_icmp_eq 1974 dL_law_1177 (by decide) (fun _ => kk C2 M2 ob2 hJ2) (fun c9 => absurd rfl c9)
theorem b_c25 (hJ : v_J G C M ob) (hi : i + 6 ≤ L) (hL : L ≤ 3072) (kk : ∀ (C2 : f_C) (M2 : f_M) (ob2 : List va_E), v_J G C2 M2 ob2 → b_A G b L xs u v 1974 (b_lv G b i) [] (g_hp G C2 (g_hm G M2 ++ ob2))) : b_A G b L xs (u + 2) (v + 6) 1182 (b_lv G b i) [] (g_hp G C (g_hm G M ++ ob)) := by
  obtain ⟨r, C2, M2, ob2, d1, d2, hd1, hd2, hJ2, hA, hB⟩ := v_bits (y := xs (i + 1)) (y2 := xs (i + 2)) hJ
  refine b_widen (u2 := 1 + (u + 1)) (v2 := 3 + (v + 3)) (by omega) (by omega) ?_
  refine b_aload_n 2 dL_law_1182 rfl rfl ?_
  refine b_arg (k := 1) 3 0 dL_law_1183 dL_law_1184 dL_law_1185 (by decide) dL_law_1186 dL_law_1187 rfl rfl (by omega) hL ?_
  refine b_arg (k := 2) 3 0 dL_law_1188 dL_law_1189 dL_law_1190 (by decide) dL_law_1191 dL_law_1192 rfl rfl (by omega) hL ?_
  refine b_callV (u1 := 1) (u2 := u + 1) (v1 := 3) (v2 := v + 3) (as := [.int (xs (i + 1)), .int (xs (i + 2))]) (rest := []) (st2 := [.long r]) hA ⟨_, _, _, _, rfl, rfl⟩ oX11_bits q_799 q_800 q_801 rfl hd1 (by decide) rfl (Nat.le_of_ble_eq_true rfl) 1196 rfl dL_law_1193 rfl ?_
  refine b_aload_n 1 dL_law_1196 rfl rfl ?_
  refine b_arg (k := 1) 3 0 dL_law_1197 dL_law_1198 dL_law_1199 (by decide) dL_law_1200 dL_law_1201 rfl rfl (by omega) hL ?_
  refine b_arg (k := 2) 3 0 dL_law_1202 dL_law_1203 dL_law_1204 (by decide) dL_law_1205 dL_law_1206 rfl rfl (by omega) hL ?_
  refine b_widen (u2 := 1 + u) (v2 := 3 + v) (by omega) (by omega) ?_
  refine b_callV (u1 := 1) (u2 := u) (v1 := 3) (v2 := v) (as := [.int (xs (i + 1)), .int (xs (i + 2))]) (rest := [.long r]) (st2 := [.long r, .long r]) hB ⟨_, _, _, _, rfl, rfl⟩ oX12_bits_ q_1497 q_1498 q_1499 rfl hd2 (by decide) rfl (Nat.le_of_ble_eq_true rfl) 1210 rfl dL_law_1207 rfl ?_
  refine b_lcmp dL_law_1210 ?_
  exact b_if_eq 1974 dL_law_1211 (by decide) (fun _ => kk C2 M2 ob2 hJ2) (fun c9 => absurd (g_cmp_eq.mpr rfl) c9)
theorem b_c26 (hJ : v_J G C M ob) (hi : i + 6 ≤ L) (hL : L ≤ 3072) (kk : ∀ (C2 : f_C) (M2 : f_M) (ob2 : List va_E), v_J G C2 M2 ob2 → b_A G b L xs u v 1974 (b_lv G b i) [] (g_hp G C2 (g_hm G M2 ++ ob2))) : b_A G b L xs (u + 2) (v + 6) 1216 (b_lv G b i) [] (g_hp G C (g_hm G M ++ ob)) := by
  obtain ⟨r, C2, M2, ob2, d1, d2, hd1, hd2, hJ2, hA, hB⟩ := v_weight (y := xs (i + 1)) hJ
  refine b_widen (u2 := 1 + (u + 1)) (v2 := 3 + (v + 3)) (by omega) (by omega) ?_
  refine b_aload_n 2 dL_law_1216 rfl rfl ?_
  refine b_arg (k := 1) 3 0 dL_law_1217 dL_law_1218 dL_law_1219 (by decide) dL_law_1220 dL_law_1221 rfl rfl (by omega) hL ?_
  refine b_callV (u1 := 1) (u2 := u + 1) (v1 := 3) (v2 := v + 3) (as := [.int (xs (i + 1))]) (rest := []) (st2 := [.long r]) hA ⟨_, _, _, _, rfl, rfl⟩ oX11_weight q_813 q_814 q_815 rfl hd1 (by decide) rfl (Nat.le_of_ble_eq_true rfl) 1225 rfl dL_law_1222 rfl ?_
  refine b_aload_n 1 dL_law_1225 rfl rfl ?_
  refine b_arg (k := 1) 3 0 dL_law_1226 dL_law_1227 dL_law_1228 (by decide) dL_law_1229 dL_law_1230 rfl rfl (by omega) hL ?_
  refine b_widen (u2 := 1 + u) (v2 := 3 + v) (by omega) (by omega) ?_
  refine b_callV (u1 := 1) (u2 := u) (v1 := 3) (v2 := v) (as := [.int (xs (i + 1))]) (rest := [.long r]) (st2 := [.long r, .long r]) hB ⟨_, _, _, _, rfl, rfl⟩ oX12_weight q_1512 q_1513 q_1514 rfl hd2 (by decide) rfl (Nat.le_of_ble_eq_true rfl) 1234 rfl dL_law_1231 rfl ?_
  refine b_lcmp dL_law_1234 ?_
  exact b_if_eq 1974 dL_law_1235 (by decide) (fun _ => kk C2 M2 ob2 hJ2) (fun c9 => absurd (g_cmp_eq.mpr rfl) c9)
theorem b_c27 (hJ : v_J G C M ob) (hi : i + 6 ≤ L) (hL : L ≤ 3072) (kk : ∀ (C2 : f_C) (M2 : f_M) (ob2 : List va_E), v_J G C2 M2 ob2 → b_A G b L xs u v 1974 (b_lv G b i) [] (g_hp G C2 (g_hm G M2 ++ ob2))) : b_A G b L xs (u + 2) (v + 6) 1240 (b_lv G b i) [] (g_hp G C (g_hm G M ++ ob)) := by
  obtain ⟨r, C2, M2, ob2, d1, d2, hd1, hd2, hJ2, hA, hB⟩ := v_judge (y := xs (i + 1)) (y2 := xs (i + 2)) hJ
  refine b_widen (u2 := 1 + (u + 1)) (v2 := 3 + (v + 3)) (by omega) (by omega) ?_
  refine b_aload_n 2 dL_law_1240 rfl rfl ?_
  refine b_arg (k := 1) 3 0 dL_law_1241 dL_law_1242 dL_law_1243 (by decide) dL_law_1244 dL_law_1245 rfl rfl (by omega) hL ?_
  refine b_arg (k := 2) 3 0 dL_law_1246 dL_law_1247 dL_law_1248 (by decide) dL_law_1249 dL_law_1250 rfl rfl (by omega) hL ?_
  refine b_callV (u1 := 1) (u2 := u + 1) (v1 := 3) (v2 := v + 3) (as := [.int (xs (i + 1)), .int (xs (i + 2))]) (rest := []) (st2 := [.int r]) hA ⟨_, _, _, _, rfl, rfl⟩ oX11_judge q_829 q_830 q_831 rfl hd1 (by decide) rfl (Nat.le_of_ble_eq_true rfl) 1254 rfl dL_law_1251 rfl ?_
  refine b_aload_n 1 dL_law_1254 rfl rfl ?_
  refine b_arg (k := 1) 3 0 dL_law_1255 dL_law_1256 dL_law_1257 (by decide) dL_law_1258 dL_law_1259 rfl rfl (by omega) hL ?_
  refine b_arg (k := 2) 3 0 dL_law_1260 dL_law_1261 dL_law_1262 (by decide) dL_law_1263 dL_law_1264 rfl rfl (by omega) hL ?_
  refine b_widen (u2 := 1 + u) (v2 := 3 + v) (by omega) (by omega) ?_
  refine b_callV (u1 := 1) (u2 := u) (v1 := 3) (v2 := v) (as := [.int (xs (i + 1)), .int (xs (i + 2))]) (rest := [.int r]) (st2 := [.int r, .int r]) hB ⟨_, _, _, _, rfl, rfl⟩ oX12_judge q_1526 q_1527 q_1528 rfl hd2 (by decide) rfl (Nat.le_of_ble_eq_true rfl) 1268 rfl dL_law_1265 rfl ?_
  exact b_icmp_eq 1974 dL_law_1268 (by decide) (fun _ => kk C2 M2 ob2 hJ2) (fun c9 => absurd rfl c9)
theorem b_c28 (hJ : v_J G C M ob) (hi : i + 6 ≤ L) (hL : L ≤ 3072) (kk : ∀ (C2 : f_C) (M2 : f_M) (ob2 : List va_E), v_J G C2 M2 ob2 → b_A G b L xs u v 1974 (b_lv G b i) [] (g_hp G C2 (g_hm G M2 ++ ob2))) : b_A G b L xs (u + 2) (v + 6) 1273 (b_lv G b i) [] (g_hp G C (g_hm G M ++ ob)) := by
  obtain ⟨r, C2, M2, ob2, d1, d2, hd1, hd2, hJ2, hA, hB⟩ := v_lots (y := xs (i + 1)) (y2 := xs (i + 2)) (y3 := xs (i + 3)) (y4 := xs (i + 4)) hJ
  refine b_widen (u2 := 1 + (u + 1)) (v2 := 3 + (v + 3)) (by omega) (by omega) ?_
  refine b_aload_n 2 dL_law_1273 rfl rfl ?_
  refine b_arg (k := 1) 3 0 dL_law_1274 dL_law_1275 dL_law_1276 (by decide) dL_law_1277 dL_law_1278 rfl rfl (by omega) hL ?_
  refine b_arg (k := 2) 3 0 dL_law_1279 dL_law_1280 dL_law_1281 (by decide) dL_law_1282 dL_law_1283 rfl rfl (by omega) hL ?_
  refine b_arg (k := 3) 3 0 dL_law_1284 dL_law_1285 dL_law_1286 (by decide) dL_law_1287 dL_law_1288 rfl rfl (by omega) hL ?_
  refine b_arg (k := 4) 3 0 dL_law_1289 dL_law_1290 dL_law_1291 (by decide) dL_law_1292 dL_law_1293 rfl rfl (by omega) hL ?_
  refine b_callV (u1 := 1) (u2 := u + 1) (v1 := 3) (v2 := v + 3) (as := [.int (xs (i + 1)), .int (xs (i + 2)), .int (xs (i + 3)), .int (xs (i + 4))]) (rest := []) (st2 := [.int r]) hA ⟨_, _, _, _, rfl, rfl⟩ oX11_lots q_849 q_850 q_851 rfl hd1 (by decide) rfl (Nat.le_of_ble_eq_true rfl) 1297 rfl dL_law_1294 rfl ?_
  refine b_aload_n 1 dL_law_1297 rfl rfl ?_
  refine b_arg (k := 1) 3 0 dL_law_1298 dL_law_1299 dL_law_1300 (by decide) dL_law_1301 dL_law_1302 rfl rfl (by omega) hL ?_
  refine b_arg (k := 2) 3 0 dL_law_1303 dL_law_1304 dL_law_1305 (by decide) dL_law_1306 dL_law_1307 rfl rfl (by omega) hL ?_
  refine b_arg (k := 3) 3 0 dL_law_1308 dL_law_1309 dL_law_1310 (by decide) dL_law_1311 dL_law_1312 rfl rfl (by omega) hL ?_
  refine b_arg (k := 4) 3 0 dL_law_1313 dL_law_1314 dL_law_1315 (by decide) dL_law_1316 dL_law_1317 rfl rfl (by omega) hL ?_
  refine b_widen (u2 := 1 + u) (v2 := 3 + v) (by omega) (by omega) ?_
  refine b_callV (u1 := 1) (u2 := u) (v1 := 3) (v2 := v) (as := [.int (xs (i + 1)), .int (xs (i + 2)), .int (xs (i + 3)), .int (xs (i + 4))]) (rest := [.int r]) (st2 := [.int r, .int r]) hB ⟨_, _, _, _, rfl, rfl⟩ oX12_lots q_1533 q_1534 q_1535 rfl hd2 (by decide) rfl (Nat.le_of_ble_eq_true rfl) 1321 rfl dL_law_1318 rfl ?_
  exact b_icmp_eq 1974 dL_law_1321 (by decide) (fun _ => kk C2 M2 ob2 hJ2) (fun c9 => absurd rfl c9)
theorem b_c29 (hJ : v_J G C M ob) (hi : i + 6 ≤ L) (hL : L ≤ 3072) (kk : ∀ (C2 : f_C) (M2 : f_M) (ob2 : List va_E), v_J G C2 M2 ob2 → b_A G b L xs u v 1974 (b_lv G b i) [] (g_hp G C2 (g_hm G M2 ++ ob2))) : b_A G b L xs (u + 2) (v + 6) 1326 (b_lv G b i) [] (g_hp G C (g_hm G M ++ ob)) := by
  obtain ⟨r, C2, M2, ob2, d1, d2, hd1, hd2, hJ2, hA, hB⟩ := v_feed (y := xs (i + 1)) hJ
  refine b_widen (u2 := 1 + (u + 1)) (v2 := 3 + (v + 3)) (by omega) (by omega) ?_
  refine b_aload_n 2 dL_law_1326 rfl rfl ?_
  refine b_arg (k := 1) 3 0 dL_law_1327 dL_law_1328 dL_law_1329 (by decide) dL_law_1330 dL_law_1331 rfl rfl (by omega) hL ?_
  refine b_callV (u1 := 1) (u2 := u + 1) (v1 := 3) (v2 := v + 3) (as := [.int (xs (i + 1))]) (rest := []) (st2 := [.int r]) hA ⟨_, _, _, _, rfl, rfl⟩ oX11_feed q_856 q_857 q_858 rfl hd1 (by decide) rfl (Nat.le_of_ble_eq_true rfl) 1335 rfl dL_law_1332 rfl ?_
  refine b_aload_n 1 dL_law_1335 rfl rfl ?_
  refine b_arg (k := 1) 3 0 dL_law_1336 dL_law_1337 dL_law_1338 (by decide) dL_law_1339 dL_law_1340 rfl rfl (by omega) hL ?_
  refine b_widen (u2 := 1 + u) (v2 := 3 + v) (by omega) (by omega) ?_
  refine b_callV (u1 := 1) (u2 := u) (v1 := 3) (v2 := v) (as := [.int (xs (i + 1))]) (rest := [.int r]) (st2 := [.int r, .int r]) hB ⟨_, _, _, _, rfl, rfl⟩ oX12_feed q_1542 q_1543 q_1544 rfl hd2 (by decide) rfl (Nat.le_of_ble_eq_true rfl) 1344 rfl dL_law_1341 rfl ?_
  exact b_icmp_eq 1974 dL_law_1344 (by decide) (fun _ => kk C2 M2 ob2 hJ2) (fun c9 => absurd rfl c9)
theorem b_c30 (hJ : v_J G C M ob) (hi : i + 6 ≤ L) (hL : L ≤ 3072) (kk : ∀ (C2 : f_C) (M2 : f_M) (ob2 : List va_E), v_J G C2 M2 ob2 → b_A G b L xs u v 1974 (b_lv G b i) [] (g_hp G C2 (g_hm G M2 ++ ob2))) : b_A G b L xs (u + 2) (v + 6) 1349 (b_lv G b i) [] (g_hp G C (g_hm G M ++ ob)) := by
  obtain ⟨r, C2, M2, ob2, d1, d2, hd1, hd2, hJ2, hA, hB⟩ := v_wipe  hJ
  refine b_widen (u2 := 1 + (u + 1)) (v2 := 3 + (v + 3)) (by omega) (by omega) ?_
  refine b_aload_n 2 dL_law_1349 rfl rfl ?_
  refine b_callV (u1 := 1) (u2 := u + 1) (v1 := 3) (v2 := v + 3) (as := []) (rest := []) (st2 := [.int r]) hA ⟨_, _, _, _, rfl, rfl⟩ oX11_wipe q_868 q_869 q_870 rfl hd1 (by decide) rfl (Nat.le_of_ble_eq_true rfl) 1353 rfl dL_law_1350 rfl ?_
  refine b_aload_n 1 dL_law_1353 rfl rfl ?_
  refine b_widen (u2 := 1 + u) (v2 := 3 + v) (by omega) (by omega) ?_
  refine b_callV (u1 := 1) (u2 := u) (v1 := 3) (v2 := v) (as := []) (rest := [.int r]) (st2 := [.int r, .int r]) hB ⟨_, _, _, _, rfl, rfl⟩ oX12_wipe q_1548 q_1549 q_1550 rfl hd2 (by decide) rfl (Nat.le_of_ble_eq_true rfl) 1357 rfl dL_law_1354 rfl ?_
  exact b_icmp_eq 1974 dL_law_1357 (by decide) (fun _ => kk C2 M2 ob2 hJ2) (fun c9 => absurd rfl c9)
theorem b_c31 (hJ : v_J G C M ob) (hi : i + 6 ≤ L) (hL : L ≤ 3072) (kk : ∀ (C2 : f_C) (M2 : f_M) (ob2 : List va_E), v_J G C2 M2 ob2 → b_A G b L xs u v 1974 (b_lv G b i) [] (g_hp G C2 (g_hm G M2 ++ ob2))) : b_A G b L xs (u + 2) (v + 6) 1362 (b_lv G b i) [] (g_hp G C (g_hm G M ++ ob)) := by
  obtain ⟨r, C2, M2, ob2, d1, d2, hd1, hd2, hJ2, hA, hB⟩ := v_read  hJ
  refine b_widen (u2 := 1 + (u + 1)) (v2 := 3 + (v + 3)) (by omega) (by omega) ?_
  refine b_aload_n 2 dL_law_1362 rfl rfl ?_
  refine b_callV (u1 := 1) (u2 := u + 1) (v1 := 3) (v2 := v + 3) (as := []) (rest := []) (st2 := [.int r]) hA ⟨_, _, _, _, rfl, rfl⟩ oX11_read q_876 q_877 q_878 rfl hd1 (by decide) rfl (Nat.le_of_ble_eq_true rfl) 1366 rfl dL_law_1363 rfl ?_
  refine b_aload_n 1 dL_law_1366 rfl rfl ?_
  refine b_widen (u2 := 1 + u) (v2 := 3 + v) (by omega) (by omega) ?_
  refine b_callV (u1 := 1) (u2 := u) (v1 := 3) (v2 := v) (as := []) (rest := [.int r]) (st2 := [.int r, .int r]) hB ⟨_, _, _, _, rfl, rfl⟩ oX12_read q_1552 q_1553 q_1554 rfl hd2 (by decide) rfl (Nat.le_of_ble_eq_true rfl) 1370 rfl dL_law_1367 rfl ?_
  exact b_icmp_eq 1974 dL_law_1370 (by decide) (fun _ => kk C2 M2 ob2 hJ2) (fun c9 => absurd rfl c9)
theorem b_c32 (hJ : v_J G C M ob) (hi : i + 6 ≤ L) (hL : L ≤ 3072) (kk : ∀ (C2 : f_C) (M2 : f_M) (ob2 : List va_E), v_J G C2 M2 ob2 → b_A G b L xs u v 1974 (b_lv G b i) [] (g_hp G C2 (g_hm G M2 ++ ob2))) : b_A G b L xs (u + 2) (v + 6) 1375 (b_lv G b i) [] (g_hp G C (g_hm G M ++ ob)) := by
  obtain ⟨r, C2, M2, ob2, d1, d2, hd1, hd2, hJ2, hA, hB⟩ := v_write (y := xs (i + 1)) hJ
  refine b_widen (u2 := 1 + (u + 1)) (v2 := 3 + (v + 3)) (by omega) (by omega) ?_
  refine b_aload_n 2 dL_law_1375 rfl rfl ?_
  refine b_arg (k := 1) 3 0 dL_law_1376 dL_law_1377 dL_law_1378 (by decide) dL_law_1379 dL_law_1380 rfl rfl (by omega) hL ?_
  refine b_callV (u1 := 1) (u2 := u + 1) (v1 := 3) (v2 := v + 3) (as := [.int (xs (i + 1))]) (rest := []) (st2 := [.int r]) hA ⟨_, _, _, _, rfl, rfl⟩ oX11_write q_892 q_893 q_894 rfl hd1 (by decide) rfl (Nat.le_of_ble_eq_true rfl) 1384 rfl dL_law_1381 rfl ?_
  refine b_aload_n 1 dL_law_1384 rfl rfl ?_
  refine b_arg (k := 1) 3 0 dL_law_1385 dL_law_1386 dL_law_1387 (by decide) dL_law_1388 dL_law_1389 rfl rfl (by omega) hL ?_
  refine b_widen (u2 := 1 + u) (v2 := 3 + v) (by omega) (by omega) ?_
  refine b_callV (u1 := 1) (u2 := u) (v1 := 3) (v2 := v) (as := [.int (xs (i + 1))]) (rest := [.int r]) (st2 := [.int r, .int r]) hB ⟨_, _, _, _, rfl, rfl⟩ oX12_write q_1564 q_1565 q_1566 rfl hd2 (by decide) rfl (Nat.le_of_ble_eq_true rfl) 1393 rfl dL_law_1390 rfl ?_
  exact b_icmp_eq 1974 dL_law_1393 (by decide) (fun _ => kk C2 M2 ob2 hJ2) (fun c9 => absurd rfl c9)
theorem b_c33 (hJ : v_J G C M ob) (hi : i + 6 ≤ L) (hL : L ≤ 3072) (kk : ∀ (C2 : f_C) (M2 : f_M) (ob2 : List va_E), v_J G C2 M2 ob2 → b_A G b L xs u v 1974 (b_lv G b i) [] (g_hp G C2 (g_hm G M2 ++ ob2))) : b_A G b L xs (u + 2) (v + 6) 1398 (b_lv G b i) [] (g_hp G C (g_hm G M ++ ob)) := by
  obtain ⟨r, C2, M2, ob2, d1, d2, hd1, hd2, hJ2, hA, hB⟩ := v_paper (y := xs (i + 1)) hJ
  refine b_widen (u2 := 1 + (u + 1)) (v2 := 3 + (v + 3)) (by omega) (by omega) ?_
  refine b_aload_n 2 dL_law_1398 rfl rfl ?_
  refine b_arg (k := 1) 3 0 dL_law_1399 dL_law_1400 dL_law_1401 (by decide) dL_law_1402 dL_law_1403 rfl rfl (by omega) hL ?_
  refine b_callV (u1 := 1) (u2 := u + 1) (v1 := 3) (v2 := v + 3) (as := [.int (xs (i + 1))]) (rest := []) (st2 := [.int r]) hA ⟨_, _, _, _, rfl, rfl⟩ oX11_paper q_900 q_901 q_902 rfl hd1 (by decide) rfl (Nat.le_of_ble_eq_true rfl) 1407 rfl dL_law_1404 rfl ?_
  refine b_aload_n 1 dL_law_1407 rfl rfl ?_
  refine b_arg (k := 1) 3 0 dL_law_1408 dL_law_1409 dL_law_1410 (by decide) dL_law_1411 dL_law_1412 rfl rfl (by omega) hL ?_
  refine b_widen (u2 := 1 + u) (v2 := 3 + v) (by omega) (by omega) ?_
  refine b_callV (u1 := 1) (u2 := u) (v1 := 3) (v2 := v) (as := [.int (xs (i + 1))]) (rest := [.int r]) (st2 := [.int r, .int r]) hB ⟨_, _, _, _, rfl, rfl⟩ oX12_paper q_1572 q_1573 q_1574 rfl hd2 (by decide) rfl (Nat.le_of_ble_eq_true rfl) 1416 rfl dL_law_1413 rfl ?_
  exact b_icmp_eq 1974 dL_law_1416 (by decide) (fun _ => kk C2 M2 ob2 hJ2) (fun c9 => absurd rfl c9)
theorem b_c34 (hJ : v_J G C M ob) (hi : i + 6 ≤ L) (hL : L ≤ 3072) (kk : ∀ (C2 : f_C) (M2 : f_M) (ob2 : List va_E), v_J G C2 M2 ob2 → b_A G b L xs u v 1974 (b_lv G b i) [] (g_hp G C2 (g_hm G M2 ++ ob2))) : b_A G b L xs (u + 2) (v + 6) 1421 (b_lv G b i) [] (g_hp G C (g_hm G M ++ ob)) := by
  obtain ⟨r, C2, M2, ob2, d1, d2, hd1, hd2, hJ2, hA, hB⟩ := v_shelf (y := xs (i + 1)) (y2 := xs (i + 2)) (y3 := xs (i + 3)) hJ
  refine b_widen (u2 := 1 + (u + 1)) (v2 := 3 + (v + 3)) (by omega) (by omega) ?_
  refine b_aload_n 2 dL_law_1421 rfl rfl ?_
  refine b_arg (k := 1) 3 0 dL_law_1422 dL_law_1423 dL_law_1424 (by decide) dL_law_1425 dL_law_1426 rfl rfl (by omega) hL ?_
  refine b_arg (k := 2) 3 0 dL_law_1427 dL_law_1428 dL_law_1429 (by decide) dL_law_1430 dL_law_1431 rfl rfl (by omega) hL ?_
  refine b_arg (k := 3) 3 0 dL_law_1432 dL_law_1433 dL_law_1434 (by decide) dL_law_1435 dL_law_1436 rfl rfl (by omega) hL ?_
  refine b_callV (u1 := 1) (u2 := u + 1) (v1 := 3) (v2 := v + 3) (as := [.int (xs (i + 1)), .int (xs (i + 2)), .int (xs (i + 3))]) (rest := []) (st2 := [.int r]) hA ⟨_, _, _, _, rfl, rfl⟩ oX11_shelf q_904 q_905 q_906 rfl hd1 (by decide) rfl (Nat.le_of_ble_eq_true rfl) 1440 rfl dL_law_1437 rfl ?_
  refine b_aload_n 1 dL_law_1440 rfl rfl ?_
  refine b_arg (k := 1) 3 0 dL_law_1441 dL_law_1442 dL_law_1443 (by decide) dL_law_1444 dL_law_1445 rfl rfl (by omega) hL ?_
  refine b_arg (k := 2) 3 0 dL_law_1446 dL_law_1447 dL_law_1448 (by decide) dL_law_1449 dL_law_1450 rfl rfl (by omega) hL ?_
  refine b_arg (k := 3) 3 0 dL_law_1451 dL_law_1452 dL_law_1453 (by decide) dL_law_1454 dL_law_1455 rfl rfl (by omega) hL ?_
  refine b_widen (u2 := 1 + u) (v2 := 3 + v) (by omega) (by omega) ?_
  refine b_callV (u1 := 1) (u2 := u) (v1 := 3) (v2 := v) (as := [.int (xs (i + 1)), .int (xs (i + 2)), .int (xs (i + 3))]) (rest := [.int r]) (st2 := [.int r, .int r]) hB ⟨_, _, _, _, rfl, rfl⟩ oX12_shelf q_1576 q_1577 q_1578 rfl hd2 (by decide) rfl (Nat.le_of_ble_eq_true rfl) 1459 rfl dL_law_1456 rfl ?_
  exact b_icmp_eq 1974 dL_law_1459 (by decide) (fun _ => kk C2 M2 ob2 hJ2) (fun c9 => absurd rfl c9)
theorem b_c35 (hJ : v_J G C M ob) (hi : i + 6 ≤ L) (hL : L ≤ 3072) (kk : ∀ (C2 : f_C) (M2 : f_M) (ob2 : List va_E), v_J G C2 M2 ob2 → b_A G b L xs u v 1974 (b_lv G b i) [] (g_hp G C2 (g_hm G M2 ++ ob2))) : b_A G b L xs (u + 2) (v + 6) 1464 (b_lv G b i) [] (g_hp G C (g_hm G M ++ ob)) := by
  obtain ⟨r, C2, M2, ob2, d1, d2, hd1, hd2, hJ2, hA, hB⟩ := v_keep (y := xs (i + 1)) (y2 := xs (i + 2)) (y3 := xs (i + 3)) hJ
  refine b_widen (u2 := 1 + (u + 1)) (v2 := 3 + (v + 3)) (by omega) (by omega) ?_
  refine b_aload_n 2 dL_law_1464 rfl rfl ?_
  refine b_arg (k := 1) 3 0 dL_law_1465 dL_law_1466 dL_law_1467 (by decide) dL_law_1468 dL_law_1469 rfl rfl (by omega) hL ?_
  refine b_arg (k := 2) 3 0 dL_law_1470 dL_law_1471 dL_law_1472 (by decide) dL_law_1473 dL_law_1474 rfl rfl (by omega) hL ?_
  refine b_arg (k := 3) 3 0 dL_law_1475 dL_law_1476 dL_law_1477 (by decide) dL_law_1478 dL_law_1479 rfl rfl (by omega) hL ?_
  refine b_callV (u1 := 1) (u2 := u + 1) (v1 := 3) (v2 := v + 3) (as := [.int (xs (i + 1)), .int (xs (i + 2)), .int (xs (i + 3))]) (rest := []) (st2 := [.int r]) hA ⟨_, _, _, _, rfl, rfl⟩ oX11_keep q_920 q_921 q_922 rfl hd1 (by decide) rfl (Nat.le_of_ble_eq_true rfl) 1483 rfl dL_law_1480 rfl ?_
  refine b_aload_n 1 dL_law_1483 rfl rfl ?_
  refine b_arg (k := 1) 3 0 dL_law_1484 dL_law_1485 dL_law_1486 (by decide) dL_law_1487 dL_law_1488 rfl rfl (by omega) hL ?_
  refine b_arg (k := 2) 3 0 dL_law_1489 dL_law_1490 dL_law_1491 (by decide) dL_law_1492 dL_law_1493 rfl rfl (by omega) hL ?_
  refine b_arg (k := 3) 3 0 dL_law_1494 dL_law_1495 dL_law_1496 (by decide) dL_law_1497 dL_law_1498 rfl rfl (by omega) hL ?_
  refine b_widen (u2 := 1 + u) (v2 := 3 + v) (by omega) (by omega) ?_
  refine b_callV (u1 := 1) (u2 := u) (v1 := 3) (v2 := v) (as := [.int (xs (i + 1)), .int (xs (i + 2)), .int (xs (i + 3))]) (rest := [.int r]) (st2 := [.int r, .int r]) hB ⟨_, _, _, _, rfl, rfl⟩ oX12_keep q_1583 q_1584 q_1585 rfl hd2 (by decide) rfl (Nat.le_of_ble_eq_true rfl) 1502 rfl dL_law_1499 rfl ?_
  exact b_icmp_eq 1974 dL_law_1502 (by decide) (fun _ => kk C2 M2 ob2 hJ2) (fun c9 => absurd rfl c9)
theorem b_c36 (hJ : v_J G C M ob) (hi : i + 6 ≤ L) (hL : L ≤ 3072) (kk : ∀ (C2 : f_C) (M2 : f_M) (ob2 : List va_E), v_J G C2 M2 ob2 → b_A G b L xs u v 1974 (b_lv G b i) [] (g_hp G C2 (g_hm G M2 ++ ob2))) : b_A G b L xs (u + 2) (v + 6) 1507 (b_lv G b i) [] (g_hp G C (g_hm G M ++ ob)) := by
  obtain ⟨r, C2, M2, ob2, d1, d2, hd1, hd2, hJ2, hA, hB⟩ := v_kept (y := xs (i + 1)) (y2 := xs (i + 2)) hJ
  refine b_widen (u2 := 1 + (u + 1)) (v2 := 3 + (v + 3)) (by omega) (by omega) ?_
  refine b_aload_n 2 dL_law_1507 rfl rfl ?_
  refine b_arg (k := 1) 3 0 dL_law_1508 dL_law_1509 dL_law_1510 (by decide) dL_law_1511 dL_law_1512 rfl rfl (by omega) hL ?_
  refine b_arg (k := 2) 3 0 dL_law_1513 dL_law_1514 dL_law_1515 (by decide) dL_law_1516 dL_law_1517 rfl rfl (by omega) hL ?_
  refine b_callV (u1 := 1) (u2 := u + 1) (v1 := 3) (v2 := v + 3) (as := [.int (xs (i + 1)), .int (xs (i + 2))]) (rest := []) (st2 := [.long r]) hA ⟨_, _, _, _, rfl, rfl⟩ oX11_kept q_947 q_948 q_949 rfl hd1 (by decide) rfl (Nat.le_of_ble_eq_true rfl) 1521 rfl dL_law_1518 rfl ?_
  refine b_aload_n 1 dL_law_1521 rfl rfl ?_
  refine b_arg (k := 1) 3 0 dL_law_1522 dL_law_1523 dL_law_1524 (by decide) dL_law_1525 dL_law_1526 rfl rfl (by omega) hL ?_
  refine b_arg (k := 2) 3 0 dL_law_1527 dL_law_1528 dL_law_1529 (by decide) dL_law_1530 dL_law_1531 rfl rfl (by omega) hL ?_
  refine b_widen (u2 := 1 + u) (v2 := 3 + v) (by omega) (by omega) ?_
  refine b_callV (u1 := 1) (u2 := u) (v1 := 3) (v2 := v) (as := [.int (xs (i + 1)), .int (xs (i + 2))]) (rest := [.long r]) (st2 := [.long r, .long r]) hB ⟨_, _, _, _, rfl, rfl⟩ oX12_kept q_1590 q_1591 q_1592 rfl hd2 (by decide) rfl (Nat.le_of_ble_eq_true rfl) 1535 rfl dL_law_1532 rfl ?_
  refine b_lcmp dL_law_1535 ?_
  exact b_if_eq 1974 dL_law_1536 (by decide) (fun _ => kk C2 M2 ob2 hJ2) (fun c9 => absurd (g_cmp_eq.mpr rfl) c9)
theorem b_c37 (hJ : v_J G C M ob) (hi : i + 6 ≤ L) (hL : L ≤ 3072) (kk : ∀ (C2 : f_C) (M2 : f_M) (ob2 : List va_E), v_J G C2 M2 ob2 → b_A G b L xs u v 1974 (b_lv G b i) [] (g_hp G C2 (g_hm G M2 ++ ob2))) : b_A G b L xs (u + 2) (v + 6) 1541 (b_lv G b i) [] (g_hp G C (g_hm G M ++ ob)) := by
  obtain ⟨r, C2, M2, ob2, d1, d2, hd1, hd2, hJ2, hA, hB⟩ := v_like (y := xs (i + 1)) (y2 := xs (i + 2)) hJ
  refine b_widen (u2 := 1 + (u + 1)) (v2 := 3 + (v + 3)) (by omega) (by omega) ?_
  refine b_aload_n 2 dL_law_1541 rfl rfl ?_
  refine b_arg (k := 1) 3 0 dL_law_1542 dL_law_1543 dL_law_1544 (by decide) dL_law_1545 dL_law_1546 rfl rfl (by omega) hL ?_
  refine b_arg (k := 2) 3 0 dL_law_1547 dL_law_1548 dL_law_1549 (by decide) dL_law_1550 dL_law_1551 rfl rfl (by omega) hL ?_
  refine b_callV (u1 := 1) (u2 := u + 1) (v1 := 3) (v2 := v + 3) (as := [.int (xs (i + 1)), .int (xs (i + 2))]) (rest := []) (st2 := [.int r]) hA ⟨_, _, _, _, rfl, rfl⟩ oX11_like q_955 q_956 q_957 rfl hd1 (by decide) rfl (Nat.le_of_ble_eq_true rfl) 1555 rfl dL_law_1552 rfl ?_
  refine b_aload_n 1 dL_law_1555 rfl rfl ?_
  refine b_arg (k := 1) 3 0 dL_law_1556 dL_law_1557 dL_law_1558 (by decide) dL_law_1559 dL_law_1560 rfl rfl (by omega) hL ?_
  refine b_arg (k := 2) 3 0 dL_law_1561 dL_law_1562 dL_law_1563 (by decide) dL_law_1564 dL_law_1565 rfl rfl (by omega) hL ?_
  refine b_widen (u2 := 1 + u) (v2 := 3 + v) (by omega) (by omega) ?_
  refine b_callV (u1 := 1) (u2 := u) (v1 := 3) (v2 := v) (as := [.int (xs (i + 1)), .int (xs (i + 2))]) (rest := [.int r]) (st2 := [.int r, .int r]) hB ⟨_, _, _, _, rfl, rfl⟩ oX12_like q_1594 q_1595 q_1596 rfl hd2 (by decide) rfl (Nat.le_of_ble_eq_true rfl) 1569 rfl dL_law_1566 rfl ?_
  exact b_icmp_eq 1974 dL_law_1569 (by decide) (fun _ => kk C2 M2 ob2 hJ2) (fun c9 => absurd rfl c9)
theorem b_c38 (hJ : v_J G C M ob) (hi : i + 6 ≤ L) (hL : L ≤ 3072) (kk : ∀ (C2 : f_C) (M2 : f_M) (ob2 : List va_E), v_J G C2 M2 ob2 → b_A G b L xs u v 1974 (b_lv G b i) [] (g_hp G C2 (g_hm G M2 ++ ob2))) : b_A G b L xs (u + 2) (v + 6) 1574 (b_lv G b i) [] (g_hp G C (g_hm G M ++ ob)) := by
  obtain ⟨r, C2, M2, ob2, d1, d2, hd1, hd2, hJ2, hA, hB⟩ := v_shift (y := xs (i + 1)) (y2 := xs (i + 2)) (y3 := xs (i + 3)) (y4 := xs (i + 4)) (y5 := xs (i + 5)) hJ
  refine b_widen (u2 := 1 + (u + 1)) (v2 := 3 + (v + 3)) (by omega) (by omega) ?_
  refine b_aload_n 2 dL_law_1574 rfl rfl ?_
  refine b_arg (k := 1) 3 0 dL_law_1575 dL_law_1576 dL_law_1577 (by decide) dL_law_1578 dL_law_1579 rfl rfl (by omega) hL ?_
  refine b_arg (k := 2) 3 0 dL_law_1580 dL_law_1581 dL_law_1582 (by decide) dL_law_1583 dL_law_1584 rfl rfl (by omega) hL ?_
  refine b_arg (k := 3) 3 0 dL_law_1585 dL_law_1586 dL_law_1587 (by decide) dL_law_1588 dL_law_1589 rfl rfl (by omega) hL ?_
  refine b_arg (k := 4) 3 0 dL_law_1590 dL_law_1591 dL_law_1592 (by decide) dL_law_1593 dL_law_1594 rfl rfl (by omega) hL ?_
  refine b_arg (k := 5) 3 0 dL_law_1595 dL_law_1596 dL_law_1597 (by decide) dL_law_1598 dL_law_1599 rfl rfl (by omega) hL ?_
  refine b_callV (u1 := 1) (u2 := u + 1) (v1 := 3) (v2 := v + 3) (as := [.int (xs (i + 1)), .int (xs (i + 2)), .int (xs (i + 3)), .int (xs (i + 4)), .int (xs (i + 5))]) (rest := []) (st2 := [.int r]) hA ⟨_, _, _, _, rfl, rfl⟩ oX11_shift q_969 q_970 q_971 rfl hd1 (by decide) rfl (Nat.le_of_ble_eq_true rfl) 1603 rfl dL_law_1600 rfl ?_
  refine b_aload_n 1 dL_law_1603 rfl rfl ?_
  refine b_arg (k := 1) 3 0 dL_law_1604 dL_law_1605 dL_law_1606 (by decide) dL_law_1607 dL_law_1608 rfl rfl (by omega) hL ?_
  refine b_arg (k := 2) 3 0 dL_law_1609 dL_law_1610 dL_law_1611 (by decide) dL_law_1612 dL_law_1613 rfl rfl (by omega) hL ?_
  refine b_arg (k := 3) 3 0 dL_law_1614 dL_law_1615 dL_law_1616 (by decide) dL_law_1617 dL_law_1618 rfl rfl (by omega) hL ?_
  refine b_arg (k := 4) 3 0 dL_law_1619 dL_law_1620 dL_law_1621 (by decide) dL_law_1622 dL_law_1623 rfl rfl (by omega) hL ?_
  refine b_arg (k := 5) 3 0 dL_law_1624 dL_law_1625 dL_law_1626 (by decide) dL_law_1627 dL_law_1628 rfl rfl (by omega) hL ?_
  refine b_widen (u2 := 1 + u) (v2 := 3 + v) (by omega) (by omega) ?_
  refine b_callV (u1 := 1) (u2 := u) (v1 := 3) (v2 := v) (as := [.int (xs (i + 1)), .int (xs (i + 2)), .int (xs (i + 3)), .int (xs (i + 4)), .int (xs (i + 5))]) (rest := [.int r]) (st2 := [.int r, .int r]) hB ⟨_, _, _, _, rfl, rfl⟩ oX12_shift q_1606 q_1607 q_1608 rfl hd2 (by decide) rfl (Nat.le_of_ble_eq_true rfl) 1632 rfl dL_law_1629 rfl ?_
  exact b_icmp_eq 1974 dL_law_1632 (by decide) (fun _ => kk C2 M2 ob2 hJ2) (fun c9 => absurd rfl c9)
theorem b_c39 (hJ : v_J G C M ob) (hi : i + 6 ≤ L) (hL : L ≤ 3072) (kk : ∀ (C2 : f_C) (M2 : f_M) (ob2 : List va_E), v_J G C2 M2 ob2 → b_A G b L xs u v 1974 (b_lv G b i) [] (g_hp G C2 (g_hm G M2 ++ ob2))) : b_A G b L xs (u + 2) (v + 6) 1637 (b_lv G b i) [] (g_hp G C (g_hm G M ++ ob)) := by
  obtain ⟨r, C2, M2, ob2, d1, d2, hd1, hd2, hJ2, hA, hB⟩ := v_list (y := xs (i + 1)) (y2 := xs (i + 2)) (y3 := xs (i + 3)) hJ
  refine b_widen (u2 := 1 + (u + 1)) (v2 := 3 + (v + 3)) (by omega) (by omega) ?_
  refine b_aload_n 2 dL_law_1637 rfl rfl ?_
  refine b_arg (k := 1) 3 0 dL_law_1638 dL_law_1639 dL_law_1640 (by decide) dL_law_1641 dL_law_1642 rfl rfl (by omega) hL ?_
  refine b_arg (k := 2) 3 0 dL_law_1643 dL_law_1644 dL_law_1645 (by decide) dL_law_1646 dL_law_1647 rfl rfl (by omega) hL ?_
  refine b_arg (k := 3) 3 0 dL_law_1648 dL_law_1649 dL_law_1650 (by decide) dL_law_1651 dL_law_1652 rfl rfl (by omega) hL ?_
  refine b_callV (u1 := 1) (u2 := u + 1) (v1 := 3) (v2 := v + 3) (as := [.int (xs (i + 1)), .int (xs (i + 2)), .int (xs (i + 3))]) (rest := []) (st2 := [.int r]) hA ⟨_, _, _, _, rfl, rfl⟩ oX11_list q_978 q_979 q_980 rfl hd1 (by decide) rfl (Nat.le_of_ble_eq_true rfl) 1656 rfl dL_law_1653 rfl ?_
  refine b_aload_n 1 dL_law_1656 rfl rfl ?_
  refine b_arg (k := 1) 3 0 dL_law_1657 dL_law_1658 dL_law_1659 (by decide) dL_law_1660 dL_law_1661 rfl rfl (by omega) hL ?_
  refine b_arg (k := 2) 3 0 dL_law_1662 dL_law_1663 dL_law_1664 (by decide) dL_law_1665 dL_law_1666 rfl rfl (by omega) hL ?_
  refine b_arg (k := 3) 3 0 dL_law_1667 dL_law_1668 dL_law_1669 (by decide) dL_law_1670 dL_law_1671 rfl rfl (by omega) hL ?_
  refine b_widen (u2 := 1 + u) (v2 := 3 + v) (by omega) (by omega) ?_
  refine b_callV (u1 := 1) (u2 := u) (v1 := 3) (v2 := v) (as := [.int (xs (i + 1)), .int (xs (i + 2)), .int (xs (i + 3))]) (rest := [.int r]) (st2 := [.int r, .int r]) hB ⟨_, _, _, _, rfl, rfl⟩ oX12_list q_1610 q_1611 q_1612 rfl hd2 (by decide) rfl (Nat.le_of_ble_eq_true rfl) 1675 rfl dL_law_1672 rfl ?_
  exact b_icmp_eq 1974 dL_law_1675 (by decide) (fun _ => kk C2 M2 ob2 hJ2) (fun c9 => absurd rfl c9)
theorem b_c40 (hJ : v_J G C M ob) (hi : i + 6 ≤ L) (hL : L ≤ 3072) (kk : ∀ (C2 : f_C) (M2 : f_M) (ob2 : List va_E), v_J G C2 M2 ob2 → b_A G b L xs u v 1974 (b_lv G b i) [] (g_hp G C2 (g_hm G M2 ++ ob2))) : b_A G b L xs (u + 2) (v + 6) 1680 (b_lv G b i) [] (g_hp G C (g_hm G M ++ ob)) := by
  obtain ⟨r, C2, M2, ob2, d1, d2, hd1, hd2, hJ2, hA, hB⟩ := v_put (y := xs (i + 1)) (y2 := xs (i + 2)) (x := (xs (i + 3)).toInt64 <<< ((32 : Int32).toInt64 &&& 63) ||| ((xs (i + 4)).toInt64 &&& 4294967295)) hJ
  refine b_widen (u2 := 1 + (u + 1)) (v2 := 3 + (v + 3)) (by omega) (by omega) ?_
  refine b_aload_n 2 dL_law_1680 rfl rfl ?_
  refine b_arg (k := 1) 3 0 dL_law_1681 dL_law_1682 dL_law_1683 (by decide) dL_law_1684 dL_law_1685 rfl rfl (by omega) hL ?_
  refine b_arg (k := 2) 3 0 dL_law_1686 dL_law_1687 dL_law_1688 (by decide) dL_law_1689 dL_law_1690 rfl rfl (by omega) hL ?_
  refine b_arg (k := 3) 3 0 dL_law_1691 dL_law_1692 dL_law_1693 (by decide) dL_law_1694 dL_law_1695 rfl rfl (by omega) hL ?_
  refine b_i2l dL_law_1696 ?_
  refine b_bipush (x := 32) dL_law_1697 (by decide) ?_
  refine b_lshl dL_law_1699 ?_
  refine b_arg (k := 4) 3 0 dL_law_1700 dL_law_1701 dL_law_1702 (by decide) dL_law_1703 dL_law_1704 rfl rfl (by omega) hL ?_
  refine b_i2l dL_law_1705 ?_
  refine b_ldc2 q_1660 dL_law_1706 ?_
  refine b_land dL_law_1709 ?_
  refine b_lor dL_law_1710 ?_
  refine b_callV (u1 := 1) (u2 := u + 1) (v1 := 3) (v2 := v + 3) (as := [.int (xs (i + 1)), .int (xs (i + 2)), .long ((xs (i + 3)).toInt64 <<< ((32 : Int32).toInt64 &&& 63) ||| ((xs (i + 4)).toInt64 &&& 4294967295))]) (rest := []) (st2 := [.int r]) hA ⟨_, _, _, _, rfl, rfl⟩ oX11_put q_990 q_991 q_992 rfl hd1 (by decide) rfl (Nat.le_of_ble_eq_true rfl) 1714 rfl dL_law_1711 rfl ?_
  refine b_aload_n 1 dL_law_1714 rfl rfl ?_
  refine b_arg (k := 1) 3 0 dL_law_1715 dL_law_1716 dL_law_1717 (by decide) dL_law_1718 dL_law_1719 rfl rfl (by omega) hL ?_
  refine b_arg (k := 2) 3 0 dL_law_1720 dL_law_1721 dL_law_1722 (by decide) dL_law_1723 dL_law_1724 rfl rfl (by omega) hL ?_
  refine b_arg (k := 3) 3 0 dL_law_1725 dL_law_1726 dL_law_1727 (by decide) dL_law_1728 dL_law_1729 rfl rfl (by omega) hL ?_
  refine b_i2l dL_law_1730 ?_
  refine b_bipush (x := 32) dL_law_1731 (by decide) ?_
  refine b_lshl dL_law_1733 ?_
  refine b_arg (k := 4) 3 0 dL_law_1734 dL_law_1735 dL_law_1736 (by decide) dL_law_1737 dL_law_1738 rfl rfl (by omega) hL ?_
  refine b_i2l dL_law_1739 ?_
  refine b_ldc2 q_1660 dL_law_1740 ?_
  refine b_land dL_law_1743 ?_
  refine b_lor dL_law_1744 ?_
  refine b_widen (u2 := 1 + u) (v2 := 3 + v) (by omega) (by omega) ?_
  refine b_callV (u1 := 1) (u2 := u) (v1 := 3) (v2 := v) (as := [.int (xs (i + 1)), .int (xs (i + 2)), .long ((xs (i + 3)).toInt64 <<< ((32 : Int32).toInt64 &&& 63) ||| ((xs (i + 4)).toInt64 &&& 4294967295))]) (rest := [.int r]) (st2 := [.int r, .int r]) hB ⟨_, _, _, _, rfl, rfl⟩ oX12_put q_1614 q_1615 q_1616 rfl hd2 (by decide) rfl (Nat.le_of_ble_eq_true rfl) 1748 rfl dL_law_1745 rfl ?_
  exact b_icmp_eq 1974 dL_law_1748 (by decide) (fun _ => kk C2 M2 ob2 hJ2) (fun c9 => absurd rfl c9)
theorem b_c41 (hJ : v_J G C M ob) (hi : i + 6 ≤ L) (hL : L ≤ 3072) (kk : ∀ (C2 : f_C) (M2 : f_M) (ob2 : List va_E), v_J G C2 M2 ob2 → b_A G b L xs u v 1974 (b_lv G b i) [] (g_hp G C2 (g_hm G M2 ++ ob2))) : b_A G b L xs (u + 2) (v + 6) 1753 (b_lv G b i) [] (g_hp G C (g_hm G M ++ ob)) := by
  obtain ⟨r, C2, M2, ob2, d1, d2, hd1, hd2, hJ2, hA, hB⟩ := v_get (y := xs (i + 1)) (y2 := xs (i + 2)) hJ
  refine b_widen (u2 := 1 + (u + 1)) (v2 := 3 + (v + 3)) (by omega) (by omega) ?_
  refine b_aload_n 2 dL_law_1753 rfl rfl ?_
  refine b_arg (k := 1) 3 0 dL_law_1754 dL_law_1755 dL_law_1756 (by decide) dL_law_1757 dL_law_1758 rfl rfl (by omega) hL ?_
  refine b_arg (k := 2) 3 0 dL_law_1759 dL_law_1760 dL_law_1761 (by decide) dL_law_1762 dL_law_1763 rfl rfl (by omega) hL ?_
  refine b_callV (u1 := 1) (u2 := u + 1) (v1 := 3) (v2 := v + 3) (as := [.int (xs (i + 1)), .int (xs (i + 2))]) (rest := []) (st2 := [.long r]) hA ⟨_, _, _, _, rfl, rfl⟩ oX11_get q_998 q_999 q_1000 rfl hd1 (by decide) rfl (Nat.le_of_ble_eq_true rfl) 1767 rfl dL_law_1764 rfl ?_
  refine b_aload_n 1 dL_law_1767 rfl rfl ?_
  refine b_arg (k := 1) 3 0 dL_law_1768 dL_law_1769 dL_law_1770 (by decide) dL_law_1771 dL_law_1772 rfl rfl (by omega) hL ?_
  refine b_arg (k := 2) 3 0 dL_law_1773 dL_law_1774 dL_law_1775 (by decide) dL_law_1776 dL_law_1777 rfl rfl (by omega) hL ?_
  refine b_widen (u2 := 1 + u) (v2 := 3 + v) (by omega) (by omega) ?_
  refine b_callV (u1 := 1) (u2 := u) (v1 := 3) (v2 := v) (as := [.int (xs (i + 1)), .int (xs (i + 2))]) (rest := [.long r]) (st2 := [.long r, .long r]) hB ⟨_, _, _, _, rfl, rfl⟩ oX12_get q_1618 q_1619 q_1620 rfl hd2 (by decide) rfl (Nat.le_of_ble_eq_true rfl) 1781 rfl dL_law_1778 rfl ?_
  refine b_lcmp dL_law_1781 ?_
  exact b_if_eq 1974 dL_law_1782 (by decide) (fun _ => kk C2 M2 ob2 hJ2) (fun c9 => absurd (g_cmp_eq.mpr rfl) c9)
theorem b_c42 (hJ : v_J G C M ob) (hi : i + 6 ≤ L) (hL : L ≤ 3072) (kk : ∀ (C2 : f_C) (M2 : f_M) (ob2 : List va_E), v_J G C2 M2 ob2 → b_A G b L xs u v 1974 (b_lv G b i) [] (g_hp G C2 (g_hm G M2 ++ ob2))) : b_A G b L xs (u + 2) (v + 6) 1787 (b_lv G b i) [] (g_hp G C (g_hm G M ++ ob)) := by
  obtain ⟨r, C2, M2, ob2, d1, d2, hd1, hd2, hJ2, hA, hB⟩ := v_act (y := xs (i + 1)) (y2 := xs (i + 2)) (y3 := xs (i + 3)) hJ
  refine b_widen (u2 := 1 + (u + 1)) (v2 := 3 + (v + 3)) (by omega) (by omega) ?_
  refine b_aload_n 2 dL_law_1787 rfl rfl ?_
  refine b_arg (k := 1) 3 0 dL_law_1788 dL_law_1789 dL_law_1790 (by decide) dL_law_1791 dL_law_1792 rfl rfl (by omega) hL ?_
  refine b_arg (k := 2) 3 0 dL_law_1793 dL_law_1794 dL_law_1795 (by decide) dL_law_1796 dL_law_1797 rfl rfl (by omega) hL ?_
  refine b_arg (k := 3) 3 0 dL_law_1798 dL_law_1799 dL_law_1800 (by decide) dL_law_1801 dL_law_1802 rfl rfl (by omega) hL ?_
  refine b_callV (u1 := 1) (u2 := u + 1) (v1 := 3) (v2 := v + 3) (as := [.int (xs (i + 1)), .int (xs (i + 2)), .int (xs (i + 3))]) (rest := []) (st2 := [.int r]) hA ⟨_, _, _, _, rfl, rfl⟩ oX11_act q_1002 q_1003 q_1004 rfl hd1 (by decide) rfl (Nat.le_of_ble_eq_true rfl) 1806 rfl dL_law_1803 rfl ?_
  refine b_aload_n 1 dL_law_1806 rfl rfl ?_
  refine b_arg (k := 1) 3 0 dL_law_1807 dL_law_1808 dL_law_1809 (by decide) dL_law_1810 dL_law_1811 rfl rfl (by omega) hL ?_
  refine b_arg (k := 2) 3 0 dL_law_1812 dL_law_1813 dL_law_1814 (by decide) dL_law_1815 dL_law_1816 rfl rfl (by omega) hL ?_
  refine b_arg (k := 3) 3 0 dL_law_1817 dL_law_1818 dL_law_1819 (by decide) dL_law_1820 dL_law_1821 rfl rfl (by omega) hL ?_
  refine b_widen (u2 := 1 + u) (v2 := 3 + v) (by omega) (by omega) ?_
  refine b_callV (u1 := 1) (u2 := u) (v1 := 3) (v2 := v) (as := [.int (xs (i + 1)), .int (xs (i + 2)), .int (xs (i + 3))]) (rest := [.int r]) (st2 := [.int r, .int r]) hB ⟨_, _, _, _, rfl, rfl⟩ oX12_act q_1622 q_1623 q_1624 rfl hd2 (by decide) rfl (Nat.le_of_ble_eq_true rfl) 1825 rfl dL_law_1822 rfl ?_
  exact b_icmp_eq 1974 dL_law_1825 (by decide) (fun _ => kk C2 M2 ob2 hJ2) (fun c9 => absurd rfl c9)
theorem b_c43 (hJ : v_J G C M ob) (hi : i + 6 ≤ L) (hL : L ≤ 3072) (kk : ∀ (C2 : f_C) (M2 : f_M) (ob2 : List va_E), v_J G C2 M2 ob2 → b_A G b L xs u v 1974 (b_lv G b i) [] (g_hp G C2 (g_hm G M2 ++ ob2))) : b_A G b L xs (u + 2) (v + 6) 1830 (b_lv G b i) [] (g_hp G C (g_hm G M ++ ob)) := by
  obtain ⟨r, C2, M2, ob2, d1, d2, hd1, hd2, hJ2, hA, hB⟩ := v_trace (y := xs (i + 1)) hJ
  refine b_widen (u2 := 1 + (u + 1)) (v2 := 3 + (v + 3)) (by omega) (by omega) ?_
  refine b_aload_n 2 dL_law_1830 rfl rfl ?_
  refine b_arg (k := 1) 3 0 dL_law_1831 dL_law_1832 dL_law_1833 (by decide) dL_law_1834 dL_law_1835 rfl rfl (by omega) hL ?_
  refine b_callV (u1 := 1) (u2 := u + 1) (v1 := 3) (v2 := v + 3) (as := [.int (xs (i + 1))]) (rest := []) (st2 := [.int r]) hA ⟨_, _, _, _, rfl, rfl⟩ oX11_trace q_1026 q_1027 q_1028 rfl hd1 (by decide) rfl (Nat.le_of_ble_eq_true rfl) 1839 rfl dL_law_1836 rfl ?_
  refine b_aload_n 1 dL_law_1839 rfl rfl ?_
  refine b_arg (k := 1) 3 0 dL_law_1840 dL_law_1841 dL_law_1842 (by decide) dL_law_1843 dL_law_1844 rfl rfl (by omega) hL ?_
  refine b_widen (u2 := 1 + u) (v2 := 3 + v) (by omega) (by omega) ?_
  refine b_callV (u1 := 1) (u2 := u) (v1 := 3) (v2 := v) (as := [.int (xs (i + 1))]) (rest := [.int r]) (st2 := [.int r, .int r]) hB ⟨_, _, _, _, rfl, rfl⟩ oX12_trace q_1636 q_1637 q_1638 rfl hd2 (by decide) rfl (Nat.le_of_ble_eq_true rfl) 1848 rfl dL_law_1845 rfl ?_
  exact b_icmp_eq 1974 dL_law_1848 (by decide) (fun _ => kk C2 M2 ob2 hJ2) (fun c9 => absurd rfl c9)
theorem b_c44 (hJ : v_J G C M ob) (hi : i + 6 ≤ L) (hL : L ≤ 3072) (kk : ∀ (C2 : f_C) (M2 : f_M) (ob2 : List va_E), v_J G C2 M2 ob2 → b_A G b L xs u v 1974 (b_lv G b i) [] (g_hp G C2 (g_hm G M2 ++ ob2))) : b_A G b L xs (u + 2) (v + 6) 1853 (b_lv G b i) [] (g_hp G C (g_hm G M ++ ob)) := by
  obtain ⟨r, C2, M2, ob2, d1, d2, hd1, hd2, hJ2, hA, hB⟩ := v_taken (y := xs (i + 1)) (y2 := xs (i + 2)) hJ
  refine b_widen (u2 := 1 + (u + 1)) (v2 := 3 + (v + 3)) (by omega) (by omega) ?_
  refine b_aload_n 2 dL_law_1853 rfl rfl ?_
  refine b_arg (k := 1) 3 0 dL_law_1854 dL_law_1855 dL_law_1856 (by decide) dL_law_1857 dL_law_1858 rfl rfl (by omega) hL ?_
  refine b_arg (k := 2) 3 0 dL_law_1859 dL_law_1860 dL_law_1861 (by decide) dL_law_1862 dL_law_1863 rfl rfl (by omega) hL ?_
  refine b_callV (u1 := 1) (u2 := u + 1) (v1 := 3) (v2 := v + 3) (as := [.int (xs (i + 1)), .int (xs (i + 2))]) (rest := []) (st2 := [.int r]) hA ⟨_, _, _, _, rfl, rfl⟩ oX11_taken q_1034 q_1035 q_1036 rfl hd1 (by decide) rfl (Nat.le_of_ble_eq_true rfl) 1867 rfl dL_law_1864 rfl ?_
  refine b_aload_n 1 dL_law_1867 rfl rfl ?_
  refine b_arg (k := 1) 3 0 dL_law_1868 dL_law_1869 dL_law_1870 (by decide) dL_law_1871 dL_law_1872 rfl rfl (by omega) hL ?_
  refine b_arg (k := 2) 3 0 dL_law_1873 dL_law_1874 dL_law_1875 (by decide) dL_law_1876 dL_law_1877 rfl rfl (by omega) hL ?_
  refine b_widen (u2 := 1 + u) (v2 := 3 + v) (by omega) (by omega) ?_
  refine b_callV (u1 := 1) (u2 := u) (v1 := 3) (v2 := v) (as := [.int (xs (i + 1)), .int (xs (i + 2))]) (rest := [.int r]) (st2 := [.int r, .int r]) hB ⟨_, _, _, _, rfl, rfl⟩ oX12_taken q_1640 q_1641 q_1642 rfl hd2 (by decide) rfl (Nat.le_of_ble_eq_true rfl) 1881 rfl dL_law_1878 rfl ?_
  exact b_icmp_eq 1974 dL_law_1881 (by decide) (fun _ => kk C2 M2 ob2 hJ2) (fun c9 => absurd rfl c9)
theorem b_c45 (hJ : v_J G C M ob) (hi : i + 6 ≤ L) (hL : L ≤ 3072) (kk : ∀ (C2 : f_C) (M2 : f_M) (ob2 : List va_E), v_J G C2 M2 ob2 → b_A G b L xs u v 1974 (b_lv G b i) [] (g_hp G C2 (g_hm G M2 ++ ob2))) : b_A G b L xs (u + 2) (v + 6) 1886 (b_lv G b i) [] (g_hp G C (g_hm G M ++ ob)) := by
  obtain ⟨r, C2, M2, ob2, d1, d2, hd1, hd2, hJ2, hA, hB⟩ := v_undo  hJ
  refine b_widen (u2 := 1 + (u + 1)) (v2 := 3 + (v + 3)) (by omega) (by omega) ?_
  refine b_aload_n 2 dL_law_1886 rfl rfl ?_
  refine b_callV (u1 := 1) (u2 := u + 1) (v1 := 3) (v2 := v + 3) (as := []) (rest := []) (st2 := [.int r]) hA ⟨_, _, _, _, rfl, rfl⟩ oX11_undo q_1039 q_1040 q_1041 rfl hd1 (by decide) rfl (Nat.le_of_ble_eq_true rfl) 1890 rfl dL_law_1887 rfl ?_
  refine b_aload_n 1 dL_law_1890 rfl rfl ?_
  refine b_widen (u2 := 1 + u) (v2 := 3 + v) (by omega) (by omega) ?_
  refine b_callV (u1 := 1) (u2 := u) (v1 := 3) (v2 := v) (as := []) (rest := [.int r]) (st2 := [.int r, .int r]) hB ⟨_, _, _, _, rfl, rfl⟩ oX12_undo q_1283 q_1284 q_1285 rfl hd2 (by decide) rfl (Nat.le_of_ble_eq_true rfl) 1894 rfl dL_law_1891 rfl ?_
  exact b_icmp_eq 1974 dL_law_1894 (by decide) (fun _ => kk C2 M2 ob2 hJ2) (fun c9 => absurd rfl c9)
theorem b_c46 (hJ : v_J G C M ob) (hi : i + 6 ≤ L) (hL : L ≤ 3072) (kk : ∀ (C2 : f_C) (M2 : f_M) (ob2 : List va_E), v_J G C2 M2 ob2 → b_A G b L xs u v 1974 (b_lv G b i) [] (g_hp G C2 (g_hm G M2 ++ ob2))) : b_A G b L xs (u + 2) (v + 6) 1899 (b_lv G b i) [] (g_hp G C (g_hm G M ++ ob)) := by
  obtain ⟨r, C2, M2, ob2, d1, d2, hd1, hd2, hJ2, hA, hB⟩ := v_redo  hJ
  refine b_widen (u2 := 1 + (u + 1)) (v2 := 3 + (v + 3)) (by omega) (by omega) ?_
  refine b_aload_n 2 dL_law_1899 rfl rfl ?_
  refine b_callV (u1 := 1) (u2 := u + 1) (v1 := 3) (v2 := v + 3) (as := []) (rest := []) (st2 := [.int r]) hA ⟨_, _, _, _, rfl, rfl⟩ oX11_redo q_1052 q_1053 q_1054 rfl hd1 (by decide) rfl (Nat.le_of_ble_eq_true rfl) 1903 rfl dL_law_1900 rfl ?_
  refine b_aload_n 1 dL_law_1903 rfl rfl ?_
  refine b_widen (u2 := 1 + u) (v2 := 3 + v) (by omega) (by omega) ?_
  refine b_callV (u1 := 1) (u2 := u) (v1 := 3) (v2 := v) (as := []) (rest := [.int r]) (st2 := [.int r, .int r]) hB ⟨_, _, _, _, rfl, rfl⟩ oX12_redo q_1287 q_1288 q_1289 rfl hd2 (by decide) rfl (Nat.le_of_ble_eq_true rfl) 1907 rfl dL_law_1904 rfl ?_
  exact b_icmp_eq 1974 dL_law_1907 (by decide) (fun _ => kk C2 M2 ob2 hJ2) (fun c9 => absurd rfl c9)
theorem b_c47 (hJ : v_J G C M ob) (hi : i + 6 ≤ L) (hL : L ≤ 3072) (kk : ∀ (C2 : f_C) (M2 : f_M) (ob2 : List va_E), v_J G C2 M2 ob2 → b_A G b L xs u v 1974 (b_lv G b i) [] (g_hp G C2 (g_hm G M2 ++ ob2))) : b_A G b L xs (u + 2) (v + 6) 1912 (b_lv G b i) [] (g_hp G C (g_hm G M ++ ob)) := by
  obtain ⟨r, C2, M2, ob2, d1, d2, hd1, hd2, hJ2, hA, hB⟩ := v_image  hJ
  refine b_widen (u2 := 1 + (u + 1)) (v2 := 3 + (v + 3)) (by omega) (by omega) ?_
  refine b_aload_n 2 dL_law_1912 rfl rfl ?_
  refine b_callV (u1 := 1) (u2 := u + 1) (v1 := 3) (v2 := v + 3) (as := []) (rest := []) (st2 := [.int r]) hA ⟨_, _, _, _, rfl, rfl⟩ oX11_image q_1064 q_1065 q_1066 rfl hd1 (by decide) rfl (Nat.le_of_ble_eq_true rfl) 1916 rfl dL_law_1913 rfl ?_
  refine b_aload_n 1 dL_law_1916 rfl rfl ?_
  refine b_widen (u2 := 1 + u) (v2 := 3 + v) (by omega) (by omega) ?_
  refine b_callV (u1 := 1) (u2 := u) (v1 := 3) (v2 := v) (as := []) (rest := [.int r]) (st2 := [.int r, .int r]) hB ⟨_, _, _, _, rfl, rfl⟩ oX12_image q_1644 q_1645 q_1646 rfl hd2 (by decide) rfl (Nat.le_of_ble_eq_true rfl) 1920 rfl dL_law_1917 rfl ?_
  exact b_icmp_eq 1974 dL_law_1920 (by decide) (fun _ => kk C2 M2 ob2 hJ2) (fun c9 => absurd rfl c9)
theorem b_c48 (hJ : v_J G C M ob) (hi : i + 6 ≤ L) (hL : L ≤ 3072) (kk : ∀ (C2 : f_C) (M2 : f_M) (ob2 : List va_E), v_J G C2 M2 ob2 → b_A G b L xs u v 1974 (b_lv G b i) [] (g_hp G C2 (g_hm G M2 ++ ob2))) : b_A G b L xs (u + 2) (v + 6) 1925 (b_lv G b i) [] (g_hp G C (g_hm G M ++ ob)) := by
  obtain ⟨r, C2, M2, ob2, d1, d2, hd1, hd2, hJ2, hA, hB⟩ := v_alike  hJ
  refine b_widen (u2 := 1 + (u + 1)) (v2 := 3 + (v + 3)) (by omega) (by omega) ?_
  refine b_aload_n 2 dL_law_1925 rfl rfl ?_
  refine b_callV (u1 := 1) (u2 := u + 1) (v1 := 3) (v2 := v + 3) (as := []) (rest := []) (st2 := [.int r]) hA ⟨_, _, _, _, rfl, rfl⟩ oX11_alike q_1072 q_1073 q_1074 rfl hd1 (by decide) rfl (Nat.le_of_ble_eq_true rfl) 1929 rfl dL_law_1926 rfl ?_
  refine b_aload_n 1 dL_law_1929 rfl rfl ?_
  refine b_widen (u2 := 1 + u) (v2 := 3 + v) (by omega) (by omega) ?_
  refine b_callV (u1 := 1) (u2 := u) (v1 := 3) (v2 := v) (as := []) (rest := [.int r]) (st2 := [.int r, .int r]) hB ⟨_, _, _, _, rfl, rfl⟩ oX12_alike q_1648 q_1649 q_1650 rfl hd2 (by decide) rfl (Nat.le_of_ble_eq_true rfl) 1933 rfl dL_law_1930 rfl ?_
  exact b_icmp_eq 1974 dL_law_1933 (by decide) (fun _ => kk C2 M2 ob2 hJ2) (fun c9 => absurd rfl c9)
theorem b_c49 (hJ : v_J G C M ob) (hi : i + 6 ≤ L) (hL : L ≤ 3072) (kk : ∀ (C2 : f_C) (M2 : f_M) (ob2 : List va_E), v_J G C2 M2 ob2 → b_A G b L xs u v 1974 (b_lv G b i) [] (g_hp G C2 (g_hm G M2 ++ ob2))) : b_A G b L xs (u + 2) (v + 6) 1938 (b_lv G b i) [] (g_hp G C (g_hm G M ++ ob)) := by
  obtain ⟨r, C2, M2, ob2, d1, d2, hd1, hd2, hJ2, hA, hB⟩ := v_back  hJ
  refine b_widen (u2 := 1 + (u + 1)) (v2 := 3 + (v + 3)) (by omega) (by omega) ?_
  refine b_aload_n 2 dL_law_1938 rfl rfl ?_
  refine b_callV (u1 := 1) (u2 := u + 1) (v1 := 3) (v2 := v + 3) (as := []) (rest := []) (st2 := [.int r]) hA ⟨_, _, _, _, rfl, rfl⟩ oX11_back q_1085 q_1086 q_1087 rfl hd1 (by decide) rfl (Nat.le_of_ble_eq_true rfl) 1942 rfl dL_law_1939 rfl ?_
  refine b_aload_n 1 dL_law_1942 rfl rfl ?_
  refine b_widen (u2 := 1 + u) (v2 := 3 + v) (by omega) (by omega) ?_
  refine b_callV (u1 := 1) (u2 := u) (v1 := 3) (v2 := v) (as := []) (rest := [.int r]) (st2 := [.int r, .int r]) hB ⟨_, _, _, _, rfl, rfl⟩ oX12_back q_1652 q_1653 q_1654 rfl hd2 (by decide) rfl (Nat.le_of_ble_eq_true rfl) 1946 rfl dL_law_1943 rfl ?_
  exact b_icmp_eq 1974 dL_law_1946 (by decide) (fun _ => kk C2 M2 ob2 hJ2) (fun c9 => absurd rfl c9)
theorem b_c50 (hJ : v_J G C M ob) (hi : i + 6 ≤ L) (hL : L ≤ 3072) (kk : ∀ (C2 : f_C) (M2 : f_M) (ob2 : List va_E), v_J G C2 M2 ob2 → b_A G b L xs u v 1974 (b_lv G b i) [] (g_hp G C2 (g_hm G M2 ++ ob2))) : b_A G b L xs (u + 2) (v + 6) 1951 (b_lv G b i) [] (g_hp G C (g_hm G M ++ ob)) := by
  obtain ⟨r, C2, M2, ob2, d1, d2, hd1, hd2, hJ2, hA, hB⟩ := v_count (y := xs (i + 1)) hJ
  refine b_widen (u2 := 1 + (u + 1)) (v2 := 3 + (v + 3)) (by omega) (by omega) ?_
  refine b_aload_n 2 dL_law_1951 rfl rfl ?_
  refine b_arg (k := 1) 3 0 dL_law_1952 dL_law_1953 dL_law_1954 (by decide) dL_law_1955 dL_law_1956 rfl rfl (by omega) hL ?_
  refine b_callV (u1 := 1) (u2 := u + 1) (v1 := 3) (v2 := v + 3) (as := [.int (xs (i + 1))]) (rest := []) (st2 := [.int r]) hA ⟨_, _, _, _, rfl, rfl⟩ oX11_count q_1089 q_1090 q_1091 rfl hd1 (by decide) rfl (Nat.le_of_ble_eq_true rfl) 1960 rfl dL_law_1957 rfl ?_
  refine b_aload_n 1 dL_law_1960 rfl rfl ?_
  refine b_arg (k := 1) 3 0 dL_law_1961 dL_law_1962 dL_law_1963 (by decide) dL_law_1964 dL_law_1965 rfl rfl (by omega) hL ?_
  refine b_widen (u2 := 1 + u) (v2 := 3 + v) (by omega) (by omega) ?_
  refine b_callV (u1 := 1) (u2 := u) (v1 := 3) (v2 := v) (as := [.int (xs (i + 1))]) (rest := [.int r]) (st2 := [.int r, .int r]) hB ⟨_, _, _, _, rfl, rfl⟩ oX12_count q_1656 q_1657 q_1658 rfl hd2 (by decide) rfl (Nat.le_of_ble_eq_true rfl) 1969 rfl dL_law_1966 rfl ?_
  exact b_icmp_eq 1974 dL_law_1969 (by decide) (fun _ => kk C2 M2 ob2 hJ2) (fun c9 => absurd rfl c9)
theorem b_loop (hL : L ≤ 3072) : ∀ (n i : Nat) (C : f_C) (M : f_M) (ob : List va_E), v_J G C M ob → i ≤ L → L < i + 6 + 6 * n → b_A G b L xs (2 * n) (6 * n) 18 (b_lv G b i) [] (g_hp G C (g_hm G M ++ ob)) := by
  intro n
  induction n with
  | zero =>
    intro i C M ob hJ hi hn
    refine b_iload_n 0 dL_law_18 rfl rfl ?_
    refine b_aload_n 3 dL_law_19 rfl rfl ?_
    refine b_len dL_law_20 ?_
    refine b_bipush (x := 6) dL_law_21 (by decide) ?_
    refine b_isub dL_law_23 ?_
    have hk : (nI L - 6).toInt = (L : Int) - 6 := pk_sub_toInt (b := 6) (by omega) (by omega)
    refine b_icmp_gt 1980 dL_law_24 (by decide) (fun _ => ?_) (fun c9 => absurd (by rw [v_it, hk, nI_toInt (by omega)]; omega) c9)
    refine b_iconst (x := 1) dL_law_1980 (by decide) ?_
    exact b_ret dL_law_1981
  | succ n ih =>
    intro i C M ob hJ hi hn
    refine b_iload_n 0 dL_law_18 rfl rfl ?_
    refine b_aload_n 3 dL_law_19 rfl rfl ?_
    refine b_len dL_law_20 ?_
    refine b_bipush (x := 6) dL_law_21 (by decide) ?_
    refine b_isub dL_law_23 ?_
    have hk : (nI L - 6).toInt = (L : Int) - 6 := pk_sub_toInt (b := 6) (by omega) (by omega)
    refine b_icmp_gt 1980 dL_law_24 (by decide) (fun _ => ?_) (fun c9 => ?_)
    · refine b_iconst (x := 1) dL_law_1980 (by decide) ?_
      exact b_ret dL_law_1981
    · have hi6 : i + 6 ≤ L := by
        rw [v_it, hk, nI_toInt (by omega)] at c9
        omega
      have go : ∀ (C2 : f_C) (M2 : f_M) (ob2 : List va_E), v_J G C2 M2 ob2 → b_A G b L xs (2 * n) (6 * n) 1974 (b_lv G b i) [] (g_hp G C2 (g_hm G M2 ++ ob2)) := fun C2 M2 ob2 hJ2 => by
        refine b_iinc (y := nI (i + 6)) (lv' := [(3, .int (nI (i + 6))), (2, .ref (g_ad G 38)), (1, .ref (g_ad G 0)), (0, .ref b)]) 0 dL_law_1974 rfl (nI_add i 6) (by decide) rfl ?_
        refine b_goto 18 dL_law_1977 (by decide) ?_
        exact ih (i + 6) C2 M2 ob2 hJ2 hi6 (by omega)
      refine b_aload_n 3 dL_law_27 rfl rfl ?_
      refine b_iload_n 0 dL_law_28 rfl rfl ?_
      refine b_ld (j := i) (nI_clamp (by omega)) (vp_in_nI (by omega) (by omega)) dL_law_29 ?_
      refine b_bipush (x := 63) dL_law_30 (by decide) ?_
      refine b_iand dL_law_32 ?_
      obtain ⟨j, hj, ej⟩ := pk_andE (xs i) (m := 63) 6 (by decide)
      rw [ej]
      show b_A G b L xs (2 * n + 2) (6 * n + 6) 33 (b_lv G b i) [.int (nI j)] (g_hp G C (g_hm G M ++ ob))
      match j, hj with
      | 0, _ => exact b_tableIn (off := 219) 252 dL_law_33 (by decide +kernel) (by decide +kernel) (by decide +kernel) (by decide) (b_c0 hJ hi6 hL go)
      | 1, _ => exact b_tableIn (off := 242) 275 dL_law_33 (by decide +kernel) (by decide +kernel) (by decide +kernel) (by decide) (b_c1 hJ hi6 hL go)
      | 2, _ => exact b_tableIn (off := 295) 328 dL_law_33 (by decide +kernel) (by decide +kernel) (by decide +kernel) (by decide) (b_c2 hJ hi6 hL go)
      | 3, _ => exact b_tableIn (off := 308) 341 dL_law_33 (by decide +kernel) (by decide +kernel) (by decide +kernel) (by decide) (b_c3 hJ hi6 hL go)
      | 4, _ => exact b_tableIn (off := 351) 384 dL_law_33 (by decide +kernel) (by decide +kernel) (by decide +kernel) (by decide) (b_c4 hJ hi6 hL go)
      | 5, _ => exact b_tableIn (off := 385) 418 dL_law_33 (by decide +kernel) (by decide +kernel) (by decide +kernel) (by decide) (b_c5 hJ hi6 hL go)
      | 6, _ => exact b_tableIn (off := 418) 451 dL_law_33 (by decide +kernel) (by decide +kernel) (by decide +kernel) (by decide) (b_c6 hJ hi6 hL go)
      | 7, _ => exact b_tableIn (off := 451) 484 dL_law_33 (by decide +kernel) (by decide +kernel) (by decide +kernel) (by decide) (b_c7 hJ hi6 hL go)
      | 8, _ => exact b_tableIn (off := 484) 517 dL_law_33 (by decide +kernel) (by decide +kernel) (by decide +kernel) (by decide) (b_c8 hJ hi6 hL go)
      | 9, _ => exact b_tableIn (off := 528) 561 dL_law_33 (by decide +kernel) (by decide +kernel) (by decide +kernel) (by decide) (b_c9 hJ hi6 hL go)
      | 10, _ => exact b_tableIn (off := 551) 584 dL_law_33 (by decide +kernel) (by decide +kernel) (by decide +kernel) (by decide) (b_c10 hJ hi6 hL go)
      | 11, _ => exact b_tableIn (off := 574) 607 dL_law_33 (by decide +kernel) (by decide +kernel) (by decide +kernel) (by decide) (b_c11 hJ hi6 hL go)
      | 12, _ => exact b_tableIn (off := 607) 640 dL_law_33 (by decide +kernel) (by decide +kernel) (by decide +kernel) (by decide) (b_c12 hJ hi6 hL go)
      | 13, _ => exact b_tableIn (off := 640) 673 dL_law_33 (by decide +kernel) (by decide +kernel) (by decide +kernel) (by decide) (b_c13 hJ hi6 hL go)
      | 14, _ => exact b_tableIn (off := 683) 716 dL_law_33 (by decide +kernel) (by decide +kernel) (by decide +kernel) (by decide) (b_c14 hJ hi6 hL go)
      | 15, _ => exact b_tableIn (off := 727) 760 dL_law_33 (by decide +kernel) (by decide +kernel) (by decide +kernel) (by decide) (b_c15 hJ hi6 hL go)
      | 16, _ => exact b_tableIn (off := 770) 803 dL_law_33 (by decide +kernel) (by decide +kernel) (by decide +kernel) (by decide) (b_c16 hJ hi6 hL go)
      | 17, _ => exact b_tableIn (off := 813) 846 dL_law_33 (by decide +kernel) (by decide +kernel) (by decide +kernel) (by decide) (b_c17 hJ hi6 hL go)
      | 18, _ => exact b_tableIn (off := 846) 879 dL_law_33 (by decide +kernel) (by decide +kernel) (by decide +kernel) (by decide) (b_c18 hJ hi6 hL go)
      | 19, _ => exact b_tableIn (off := 889) 922 dL_law_33 (by decide +kernel) (by decide +kernel) (by decide +kernel) (by decide) (b_c19 hJ hi6 hL go)
      | 20, _ => exact b_tableIn (off := 922) 955 dL_law_33 (by decide +kernel) (by decide +kernel) (by decide +kernel) (by decide) (b_c20 hJ hi6 hL go)
      | 21, _ => exact b_tableIn (off := 985) 1018 dL_law_33 (by decide +kernel) (by decide +kernel) (by decide +kernel) (by decide) (b_c21 hJ hi6 hL go)
      | 22, _ => exact b_tableIn (off := 1039) 1072 dL_law_33 (by decide +kernel) (by decide +kernel) (by decide +kernel) (by decide) (b_c22 hJ hi6 hL go)
      | 23, _ => exact b_tableIn (off := 1073) 1106 dL_law_33 (by decide +kernel) (by decide +kernel) (by decide +kernel) (by decide) (b_c23 hJ hi6 hL go)
      | 24, _ => exact b_tableIn (off := 1106) 1139 dL_law_33 (by decide +kernel) (by decide +kernel) (by decide +kernel) (by decide) (b_c24 hJ hi6 hL go)
      | 25, _ => exact b_tableIn (off := 1149) 1182 dL_law_33 (by decide +kernel) (by decide +kernel) (by decide +kernel) (by decide) (b_c25 hJ hi6 hL go)
      | 26, _ => exact b_tableIn (off := 1183) 1216 dL_law_33 (by decide +kernel) (by decide +kernel) (by decide +kernel) (by decide) (b_c26 hJ hi6 hL go)
      | 27, _ => exact b_tableIn (off := 1207) 1240 dL_law_33 (by decide +kernel) (by decide +kernel) (by decide +kernel) (by decide) (b_c27 hJ hi6 hL go)
      | 28, _ => exact b_tableIn (off := 1240) 1273 dL_law_33 (by decide +kernel) (by decide +kernel) (by decide +kernel) (by decide) (b_c28 hJ hi6 hL go)
      | 29, _ => exact b_tableIn (off := 1293) 1326 dL_law_33 (by decide +kernel) (by decide +kernel) (by decide +kernel) (by decide) (b_c29 hJ hi6 hL go)
      | 30, _ => exact b_tableIn (off := 1316) 1349 dL_law_33 (by decide +kernel) (by decide +kernel) (by decide +kernel) (by decide) (b_c30 hJ hi6 hL go)
      | 31, _ => exact b_tableIn (off := 1329) 1362 dL_law_33 (by decide +kernel) (by decide +kernel) (by decide +kernel) (by decide) (b_c31 hJ hi6 hL go)
      | 32, _ => exact b_tableIn (off := 1342) 1375 dL_law_33 (by decide +kernel) (by decide +kernel) (by decide +kernel) (by decide) (b_c32 hJ hi6 hL go)
      | 33, _ => exact b_tableIn (off := 1365) 1398 dL_law_33 (by decide +kernel) (by decide +kernel) (by decide +kernel) (by decide) (b_c33 hJ hi6 hL go)
      | 34, _ => exact b_tableIn (off := 1388) 1421 dL_law_33 (by decide +kernel) (by decide +kernel) (by decide +kernel) (by decide) (b_c34 hJ hi6 hL go)
      | 35, _ => exact b_tableIn (off := 1431) 1464 dL_law_33 (by decide +kernel) (by decide +kernel) (by decide +kernel) (by decide) (b_c35 hJ hi6 hL go)
      | 36, _ => exact b_tableIn (off := 1474) 1507 dL_law_33 (by decide +kernel) (by decide +kernel) (by decide +kernel) (by decide) (b_c36 hJ hi6 hL go)
      | 37, _ => exact b_tableIn (off := 1508) 1541 dL_law_33 (by decide +kernel) (by decide +kernel) (by decide +kernel) (by decide) (b_c37 hJ hi6 hL go)
      | 38, _ => exact b_tableIn (off := 1541) 1574 dL_law_33 (by decide +kernel) (by decide +kernel) (by decide +kernel) (by decide) (b_c38 hJ hi6 hL go)
      | 39, _ => exact b_tableIn (off := 1604) 1637 dL_law_33 (by decide +kernel) (by decide +kernel) (by decide +kernel) (by decide) (b_c39 hJ hi6 hL go)
      | 40, _ => exact b_tableIn (off := 1647) 1680 dL_law_33 (by decide +kernel) (by decide +kernel) (by decide +kernel) (by decide) (b_c40 hJ hi6 hL go)
      | 41, _ => exact b_tableIn (off := 1720) 1753 dL_law_33 (by decide +kernel) (by decide +kernel) (by decide +kernel) (by decide) (b_c41 hJ hi6 hL go)
      | 42, _ => exact b_tableIn (off := 1754) 1787 dL_law_33 (by decide +kernel) (by decide +kernel) (by decide +kernel) (by decide) (b_c42 hJ hi6 hL go)
      | 43, _ => exact b_tableIn (off := 1797) 1830 dL_law_33 (by decide +kernel) (by decide +kernel) (by decide +kernel) (by decide) (b_c43 hJ hi6 hL go)
      | 44, _ => exact b_tableIn (off := 1820) 1853 dL_law_33 (by decide +kernel) (by decide +kernel) (by decide +kernel) (by decide) (b_c44 hJ hi6 hL go)
      | 45, _ => exact b_tableIn (off := 1853) 1886 dL_law_33 (by decide +kernel) (by decide +kernel) (by decide +kernel) (by decide) (b_c45 hJ hi6 hL go)
      | 46, _ => exact b_tableIn (off := 1866) 1899 dL_law_33 (by decide +kernel) (by decide +kernel) (by decide +kernel) (by decide) (b_c46 hJ hi6 hL go)
      | 47, _ => exact b_tableIn (off := 1879) 1912 dL_law_33 (by decide +kernel) (by decide +kernel) (by decide +kernel) (by decide) (b_c47 hJ hi6 hL go)
      | 48, _ => exact b_tableIn (off := 1892) 1925 dL_law_33 (by decide +kernel) (by decide +kernel) (by decide +kernel) (by decide) (b_c48 hJ hi6 hL go)
      | 49, _ => exact b_tableIn (off := 1905) 1938 dL_law_33 (by decide +kernel) (by decide +kernel) (by decide +kernel) (by decide) (b_c49 hJ hi6 hL go)
      | 50, _ => exact b_tableIn (off := 1918) 1951 dL_law_33 (by decide +kernel) (by decide +kernel) (by decide +kernel) (by decide) (b_c50 hJ hi6 hL go)
      | j + 51, hj => exact b_tableOut 1974 dL_law_33 (Or.inr (by rw [nI_toInt (by omega)]; omega)) (by decide) (b_widen (by omega) (by omega) (go C M ob hJ))
end BW1
