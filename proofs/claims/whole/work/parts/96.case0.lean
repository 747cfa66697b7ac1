/-! LEVEL 3: the cases of the law -/
theorem lc_question {X : lwX} {k : Nat} {A : ruA} (hK : lwK X) (hk : k + 6 ≤ lwL X) (hI : Inv wyW A) (next : ∀ A2, Inv wyW A2 → lwJ X 1745 (iN k) [] A2) : lwJ X 220 (iN k) [] A := by
  obtain ⟨r, A1, A2, h1, h2, h3⟩ := op_question hI (lwx X (k + 1)) (lwx X (k + 2)) (lwx X (k + 3))
  refine lj_obj1 hK dL_220 ?_
  refine lj_arg (j := 1) hK hk (by decide) rfl dL_221 dL_222 dL_223 dL_224 dL_225 ?_
  refine lj_arg (j := 2) hK hk (by decide) rfl dL_226 dL_227 dL_228 dL_229 dL_230 ?_
  refine lj_arg (j := 3) hK hk (by decide) rfl dL_231 dL_232 dL_233 dL_234 dL_235 ?_
  refine lj_call (M2 := mmX10_question) (as := [.int (lwx X (k + 1)), .int (lwx X (k + 2)), .int (lwx X (k + 3))]) (st := []) (k := 0) hK dL_236 rfl cvL_13 rfl (show 200 ≤ 1000 by decide) (Nat.le_of_ble_eq_true rfl) (wX10_question 200 (by decide) (lwx X (k + 1)) (lwx X (k + 2)) (lwx X (k + 3)) A h1) ?_
  intro rr AA hq
  rw [hq.1, hq.2]
  refine lj_obj2 hK dL_239 ?_
  refine lj_arg (j := 1) hK hk (by decide) rfl dL_240 dL_241 dL_242 dL_243 dL_244 ?_
  refine lj_arg (j := 2) hK hk (by decide) rfl dL_245 dL_246 dL_247 dL_248 dL_249 ?_
  refine lj_arg (j := 3) hK hk (by decide) rfl dL_250 dL_251 dL_252 dL_253 dL_254 ?_
  refine lj_call (M2 := mmX11_question) (as := [.int (lwx X (k + 1)), .int (lwx X (k + 2)), .int (lwx X (k + 3))]) (st := [.int r]) (k := 83) hK dL_255 rfl cvL_17 rfl (show 200 ≤ 1000 by decide) (Nat.le_of_ble_eq_true rfl) (wX11_question 200 (by decide) (lwx X (k + 1)) (lwx X (k + 2)) (lwx X (k + 3)) A1 h2) ?_
  intro rr AA hq
  rw [hq.1, hq.2]
  exact lj_cmp hK dL_258 (by decide) (next _ h3)
theorem lc_room {X : lwX} {k : Nat} {A : ruA} (hK : lwK X) (hk : k + 6 ≤ lwL X) (hI : Inv wyW A) (next : ∀ A2, Inv wyW A2 → lwJ X 1745 (iN k) [] A2) : lwJ X 263 (iN k) [] A := by
  obtain ⟨r, A1, A2, h1, h2, h3⟩ := op_room hI 
  refine lj_obj1 hK dL_263 ?_
  refine lj_call (M2 := mmX10_room) (as := []) (st := []) (k := 0) hK dL_264 rfl cvL_18 rfl (show 200 ≤ 1000 by decide) (Nat.le_of_ble_eq_true rfl) (wX10_room 200 (by decide) A h1) ?_
  intro rr AA hq
  rw [hq.1, hq.2]
  refine lj_obj2 hK dL_267 ?_
  refine lj_call (M2 := mmX11_room) (as := []) (st := [.int r]) (k := 83) hK dL_268 rfl cvL_22 rfl (show 200 ≤ 1000 by decide) (Nat.le_of_ble_eq_true rfl) (wX11_room 200 (by decide) A1 h2) ?_
  intro rr AA hq
  rw [hq.1, hq.2]
  exact lj_cmp hK dL_271 (by decide) (next _ h3)
theorem lc_child {X : lwX} {k : Nat} {A : ruA} (hK : lwK X) (hk : k + 6 ≤ lwL X) (hI : Inv wyW A) (next : ∀ A2, Inv wyW A2 → lwJ X 1745 (iN k) [] A2) : lwJ X 276 (iN k) [] A := by
  obtain ⟨r, A1, A2, h1, h2, h3⟩ := op_child hI (lwx X (k + 1)) (lwx X (k + 2))
  refine lj_obj1 hK dL_276 ?_
  refine lj_arg (j := 1) hK hk (by decide) rfl dL_277 dL_278 dL_279 dL_280 dL_281 ?_
  refine lj_arg (j := 2) hK hk (by decide) rfl dL_282 dL_283 dL_284 dL_285 dL_286 ?_
  refine lj_call (M2 := mmX10_child) (as := [.int (lwx X (k + 1)), .int (lwx X (k + 2))]) (st := []) (k := 0) hK dL_287 rfl cvL_23 rfl (show 200 ≤ 1000 by decide) (Nat.le_of_ble_eq_true rfl) (wX10_child 200 (by decide) (lwx X (k + 1)) (lwx X (k + 2)) A h1) ?_
  intro rr AA hq
  rw [hq.1, hq.2]
  refine lj_obj2 hK dL_290 ?_
  refine lj_arg (j := 1) hK hk (by decide) rfl dL_291 dL_292 dL_293 dL_294 dL_295 ?_
  refine lj_arg (j := 2) hK hk (by decide) rfl dL_296 dL_297 dL_298 dL_299 dL_300 ?_
  refine lj_call (M2 := mmX11_child) (as := [.int (lwx X (k + 1)), .int (lwx X (k + 2))]) (st := [.int r]) (k := 83) hK dL_301 rfl cvL_27 rfl (show 200 ≤ 1000 by decide) (Nat.le_of_ble_eq_true rfl) (wX11_child 200 (by decide) (lwx X (k + 1)) (lwx X (k + 2)) A1 h2) ?_
  intro rr AA hq
  rw [hq.1, hq.2]
  exact lj_cmp hK dL_304 (by decide) (next _ h3)
theorem lc_learn {X : lwX} {k : Nat} {A : ruA} (hK : lwK X) (hk : k + 6 ≤ lwL X) (hI : Inv wyW A) (next : ∀ A2, Inv wyW A2 → lwJ X 1745 (iN k) [] A2) : lwJ X 309 (iN k) [] A := by
  obtain ⟨r, A1, A2, h1, h2, h3⟩ := op_learn hI (lwx X (k + 1)) (lwx X (k + 2)) (if lwx X (k + 3) = 0 then 0 else 1)
  refine lj_obj1 hK dL_309 ?_
  refine lj_arg (j := 1) hK hk (by decide) rfl dL_310 dL_311 dL_312 dL_313 dL_314 ?_
  refine lj_arg (j := 2) hK hk (by decide) rfl dL_315 dL_316 dL_317 dL_318 dL_319 ?_
  refine lj_arg (j := 3) hK hk (by decide) rfl dL_320 dL_321 dL_322 dL_323 dL_324 ?_
  refine lj_bool hK dL_325 (by decide) dL_328 dL_329 (by decide) dL_332 ?_
  refine lj_call (M2 := mmX10_learn) (as := [.int (lwx X (k + 1)), .int (lwx X (k + 2)), .int (if lwx X (k + 3) = 0 then 0 else 1)]) (st := []) (k := 0) hK dL_333 rfl cvL_28 rfl (show 200 ≤ 1000 by decide) (Nat.le_of_ble_eq_true rfl) (wX10_learn 200 (by decide) (lwx X (k + 1)) (lwx X (k + 2)) (if lwx X (k + 3) = 0 then 0 else 1) A h1) ?_
  intro rr AA hq
  rw [hq.1, hq.2]
  refine lj_obj2 hK dL_336 ?_
  refine lj_arg (j := 1) hK hk (by decide) rfl dL_337 dL_338 dL_339 dL_340 dL_341 ?_
  refine lj_arg (j := 2) hK hk (by decide) rfl dL_342 dL_343 dL_344 dL_345 dL_346 ?_
  refine lj_arg (j := 3) hK hk (by decide) rfl dL_347 dL_348 dL_349 dL_350 dL_351 ?_
  refine lj_bool hK dL_352 (by decide) dL_355 dL_356 (by decide) dL_359 ?_
  refine lj_call (M2 := mmX11_learn) (as := [.int (lwx X (k + 1)), .int (lwx X (k + 2)), .int (if lwx X (k + 3) = 0 then 0 else 1)]) (st := [.int r]) (k := 83) hK dL_360 rfl cvL_32 rfl (show 200 ≤ 1000 by decide) (Nat.le_of_ble_eq_true rfl) (wX11_learn 200 (by decide) (lwx X (k + 1)) (lwx X (k + 2)) (if lwx X (k + 3) = 0 then 0 else 1) A1 h2) ?_
  intro rr AA hq
  rw [hq.1, hq.2]
  exact lj_cmp hK dL_363 (by decide) (next _ h3)
theorem lc_forget {X : lwX} {k : Nat} {A : ruA} (hK : lwK X) (hk : k + 6 ≤ lwL X) (hI : Inv wyW A) (next : ∀ A2, Inv wyW A2 → lwJ X 1745 (iN k) [] A2) : lwJ X 368 (iN k) [] A := by
  obtain ⟨r, A1, A2, h1, h2, h3⟩ := op_forget hI (lwx X (k + 1)) (lwx X (k + 2))
  refine lj_obj1 hK dL_368 ?_
  refine lj_arg (j := 1) hK hk (by decide) rfl dL_369 dL_370 dL_371 dL_372 dL_373 ?_
  refine lj_arg (j := 2) hK hk (by decide) rfl dL_374 dL_375 dL_376 dL_377 dL_378 ?_
  refine lj_call (M2 := mmX10_forget) (as := [.int (lwx X (k + 1)), .int (lwx X (k + 2))]) (st := []) (k := 0) hK dL_379 rfl cvL_33 rfl (show 200 ≤ 1000 by decide) (Nat.le_of_ble_eq_true rfl) (wX10_forget 200 (by decide) (lwx X (k + 1)) (lwx X (k + 2)) A h1) ?_
  intro rr AA hq
  rw [hq.1, hq.2]
  refine lj_obj2 hK dL_382 ?_
  refine lj_arg (j := 1) hK hk (by decide) rfl dL_383 dL_384 dL_385 dL_386 dL_387 ?_
  refine lj_arg (j := 2) hK hk (by decide) rfl dL_388 dL_389 dL_390 dL_391 dL_392 ?_
  refine lj_call (M2 := mmX11_forget) (as := [.int (lwx X (k + 1)), .int (lwx X (k + 2))]) (st := [.int r]) (k := 83) hK dL_393 rfl cvL_36 rfl (show 200 ≤ 1000 by decide) (Nat.le_of_ble_eq_true rfl) (wX11_forget 200 (by decide) (lwx X (k + 1)) (lwx X (k + 2)) A1 h2) ?_
  intro rr AA hq
  rw [hq.1, hq.2]
  exact lj_cmp hK dL_396 (by decide) (next _ h3)
theorem lc_childIs {X : lwX} {k : Nat} {A : ruA} (hK : lwK X) (hk : k + 6 ≤ lwL X) (hI : Inv wyW A) (next : ∀ A2, Inv wyW A2 → lwJ X 1745 (iN k) [] A2) : lwJ X 401 (iN k) [] A := by
  obtain ⟨r, A1, A2, h1, h2, h3⟩ := op_childIs hI (lwx X (k + 1)) (lwx X (k + 2))
  refine lj_obj1 hK dL_401 ?_
  refine lj_arg (j := 1) hK hk (by decide) rfl dL_402 dL_403 dL_404 dL_405 dL_406 ?_
  refine lj_arg (j := 2) hK hk (by decide) rfl dL_407 dL_408 dL_409 dL_410 dL_411 ?_
  refine lj_call (M2 := mmX10_childIs) (as := [.int (lwx X (k + 1)), .int (lwx X (k + 2))]) (st := []) (k := 0) hK dL_412 rfl cvL_37 rfl (show 200 ≤ 1000 by decide) (Nat.le_of_ble_eq_true rfl) (wX10_childIs 200 (by decide) (lwx X (k + 1)) (lwx X (k + 2)) A h1) ?_
  intro rr AA hq
  rw [hq.1, hq.2]
  refine lj_obj2 hK dL_415 ?_
  refine lj_arg (j := 1) hK hk (by decide) rfl dL_416 dL_417 dL_418 dL_419 dL_420 ?_
  refine lj_arg (j := 2) hK hk (by decide) rfl dL_421 dL_422 dL_423 dL_424 dL_425 ?_
  refine lj_call (M2 := mmX11_childIs) (as := [.int (lwx X (k + 1)), .int (lwx X (k + 2))]) (st := [.int r]) (k := 83) hK dL_426 rfl cvL_40 rfl (show 200 ≤ 1000 by decide) (Nat.le_of_ble_eq_true rfl) (wX11_childIs 200 (by decide) (lwx X (k + 1)) (lwx X (k + 2)) A1 h2) ?_
  intro rr AA hq
  rw [hq.1, hq.2]
  exact lj_cmp hK dL_429 (by decide) (next _ h3)
theorem lc_year {X : lwX} {k : Nat} {A : ruA} (hK : lwK X) (hk : k + 6 ≤ lwL X) (hI : Inv wyW A) (next : ∀ A2, Inv wyW A2 → lwJ X 1745 (iN k) [] A2) : lwJ X 434 (iN k) [] A := by
  obtain ⟨r, A1, A2, h1, h2, h3⟩ := op_year hI 
  refine lj_obj1 hK dL_434 ?_
  refine lj_call (M2 := mmX10_year) (as := []) (st := []) (k := 0) hK dL_435 rfl cvL_41 rfl (show 200 ≤ 1000 by decide) (Nat.le_of_ble_eq_true rfl) (wX10_year 200 (by decide) A h1) ?_
  intro rr AA hq
  rw [hq.1, hq.2]
  refine lj_obj2 hK dL_438 ?_
  refine lj_call (M2 := mmX11_year) (as := []) (st := [.int r]) (k := 83) hK dL_439 rfl cvL_44 rfl (show 200 ≤ 1000 by decide) (Nat.le_of_ble_eq_true rfl) (wX11_year 200 (by decide) A1 h2) ?_
  intro rr AA hq
  rw [hq.1, hq.2]
  exact lj_cmp hK dL_442 (by decide) (next _ h3)
theorem lc_sit {X : lwX} {k : Nat} {A : ruA} (hK : lwK X) (hk : k + 6 ≤ lwL X) (hI : Inv wyW A) (next : ∀ A2, Inv wyW A2 → lwJ X 1745 (iN k) [] A2) : lwJ X 447 (iN k) [] A := by
  obtain ⟨r, A1, A2, h1, h2, h3⟩ := op_sit hI (lwx X (k + 1)) (lwx X (k + 2))
  refine lj_obj1 hK dL_447 ?_
  refine lj_arg (j := 1) hK hk (by decide) rfl dL_448 dL_449 dL_450 dL_451 dL_452 ?_
  refine lj_arg (j := 2) hK hk (by decide) rfl dL_453 dL_454 dL_455 dL_456 dL_457 ?_
  refine lj_call (M2 := mmX10_sit) (as := [.int (lwx X (k + 1)), .int (lwx X (k + 2))]) (st := []) (k := 0) hK dL_458 rfl cvL_45 rfl (show 200 ≤ 1000 by decide) (Nat.le_of_ble_eq_true rfl) (wX10_sit 200 (by decide) (lwx X (k + 1)) (lwx X (k + 2)) A h1) ?_
  intro rr AA hq
  rw [hq.1, hq.2]
  refine lj_obj2 hK dL_461 ?_
  refine lj_arg (j := 1) hK hk (by decide) rfl dL_462 dL_463 dL_464 dL_465 dL_466 ?_
  refine lj_arg (j := 2) hK hk (by decide) rfl dL_467 dL_468 dL_469 dL_470 dL_471 ?_
  refine lj_call (M2 := mmX11_sit) (as := [.int (lwx X (k + 1)), .int (lwx X (k + 2))]) (st := [.int r]) (k := 83) hK dL_472 rfl cvL_48 rfl (show 200 ≤ 1000 by decide) (Nat.le_of_ble_eq_true rfl) (wX11_sit 200 (by decide) (lwx X (k + 1)) (lwx X (k + 2)) A1 h2) ?_
  intro rr AA hq
  rw [hq.1, hq.2]
  exact lj_cmp hK dL_475 (by decide) (next _ h3)
theorem lc_read {X : lwX} {k : Nat} {A : ruA} (hK : lwK X) (hk : k + 6 ≤ lwL X) (hI : Inv wyW A) (next : ∀ A2, Inv wyW A2 → lwJ X 1745 (iN k) [] A2) : lwJ X 480 (iN k) [] A := by
  obtain ⟨r, A1, A2, h1, h2, h3⟩ := op_read hI (lwx X (k + 1)) (lwx X (k + 2))
  refine lj_obj1 hK dL_480 ?_
  refine lj_arg (j := 1) hK hk (by decide) rfl dL_481 dL_482 dL_483 dL_484 dL_485 ?_
  refine lj_arg (j := 2) hK hk (by decide) rfl dL_486 dL_487 dL_488 dL_489 dL_490 ?_
  refine lj_call (M2 := mmX10_read) (as := [.int (lwx X (k + 1)), .int (lwx X (k + 2))]) (st := []) (k := 0) hK dL_491 rfl cvL_49 rfl (show 200 ≤ 1000 by decide) (Nat.le_of_ble_eq_true rfl) (wX10_read 200 (by decide) (lwx X (k + 1)) (lwx X (k + 2)) A h1) ?_
  intro rr AA hq
  rw [hq.1, hq.2]
  refine lj_obj2 hK dL_494 ?_
  refine lj_arg (j := 1) hK hk (by decide) rfl dL_495 dL_496 dL_497 dL_498 dL_499 ?_
  refine lj_arg (j := 2) hK hk (by decide) rfl dL_500 dL_501 dL_502 dL_503 dL_504 ?_
  refine lj_call (M2 := mmX11_read) (as := [.int (lwx X (k + 1)), .int (lwx X (k + 2))]) (st := [.int r]) (k := 83) hK dL_505 rfl cvL_52 rfl (show 200 ≤ 1000 by decide) (Nat.le_of_ble_eq_true rfl) (wX11_read 200 (by decide) (lwx X (k + 1)) (lwx X (k + 2)) A1 h2) ?_
  intro rr AA hq
  rw [hq.1, hq.2]
  exact lj_cmp hK dL_508 (by decide) (next _ h3)
theorem lc_mark {X : lwX} {k : Nat} {A : ruA} (hK : lwK X) (hk : k + 6 ≤ lwL X) (hI : Inv wyW A) (next : ∀ A2, Inv wyW A2 → lwJ X 1745 (iN k) [] A2) : lwJ X 513 (iN k) [] A := by
  obtain ⟨r, A1, A2, h1, h2, h3⟩ := op_mark hI (lwx X (k + 1)) (lwx X (k + 2)) (lwx X (k + 3)) (lwx X (k + 4))
  refine lj_obj1 hK dL_513 ?_
  refine lj_arg (j := 1) hK hk (by decide) rfl dL_514 dL_515 dL_516 dL_517 dL_518 ?_
  refine lj_arg (j := 2) hK hk (by decide) rfl dL_519 dL_520 dL_521 dL_522 dL_523 ?_
  refine lj_arg (j := 3) hK hk (by decide) rfl dL_524 dL_525 dL_526 dL_527 dL_528 ?_
  refine lj_arg (j := 4) hK hk (by decide) rfl dL_529 dL_530 dL_531 dL_532 dL_533 ?_
  refine lj_call (M2 := mmX10_mark) (as := [.int (lwx X (k + 1)), .int (lwx X (k + 2)), .int (lwx X (k + 3)), .int (lwx X (k + 4))]) (st := []) (k := 0) hK dL_534 rfl cvL_53 rfl (show 200 ≤ 1000 by decide) (Nat.le_of_ble_eq_true rfl) (wX10_mark 200 (by decide) (lwx X (k + 1)) (lwx X (k + 2)) (lwx X (k + 3)) (lwx X (k + 4)) A h1) ?_
  intro rr AA hq
  rw [hq.1, hq.2]
  refine lj_obj2 hK dL_537 ?_
  refine lj_arg (j := 1) hK hk (by decide) rfl dL_538 dL_539 dL_540 dL_541 dL_542 ?_
  refine lj_arg (j := 2) hK hk (by decide) rfl dL_543 dL_544 dL_545 dL_546 dL_547 ?_
  refine lj_arg (j := 3) hK hk (by decide) rfl dL_548 dL_549 dL_550 dL_551 dL_552 ?_
  refine lj_arg (j := 4) hK hk (by decide) rfl dL_553 dL_554 dL_555 dL_556 dL_557 ?_
  refine lj_call (M2 := mmX11_mark) (as := [.int (lwx X (k + 1)), .int (lwx X (k + 2)), .int (lwx X (k + 3)), .int (lwx X (k + 4))]) (st := [.int r]) (k := 83) hK dL_558 rfl cvL_57 rfl (show 200 ≤ 1000 by decide) (Nat.le_of_ble_eq_true rfl) (wX11_mark 200 (by decide) (lwx X (k + 1)) (lwx X (k + 2)) (lwx X (k + 3)) (lwx X (k + 4)) A1 h2) ?_
  intro rr AA hq
  rw [hq.1, hq.2]
  exact lj_cmp hK dL_561 (by decide) (next _ h3)
theorem lc_copies {X : lwX} {k : Nat} {A : ruA} (hK : lwK X) (hk : k + 6 ≤ lwL X) (hI : Inv wyW A) (next : ∀ A2, Inv wyW A2 → lwJ X 1745 (iN k) [] A2) : lwJ X 566 (iN k) [] A := by
  obtain ⟨r, A1, A2, h1, h2, h3⟩ := op_copies hI (lwx X (k + 1)) (lwx X (k + 2))
  refine lj_obj1 hK dL_566 ?_
  refine lj_arg (j := 1) hK hk (by decide) rfl dL_567 dL_568 dL_569 dL_570 dL_571 ?_
  refine lj_arg (j := 2) hK hk (by decide) rfl dL_572 dL_573 dL_574 dL_575 dL_576 ?_
  refine lj_call (M2 := mmX10_copies) (as := [.int (lwx X (k + 1)), .int (lwx X (k + 2))]) (st := []) (k := 0) hK dL_577 rfl cvL_58 rfl (show 200 ≤ 1000 by decide) (Nat.le_of_ble_eq_true rfl) (wX10_copies 200 (by decide) (lwx X (k + 1)) (lwx X (k + 2)) A h1) ?_
  intro rr AA hq
  rw [hq.1, hq.2]
  refine lj_obj2 hK dL_580 ?_
  refine lj_arg (j := 1) hK hk (by decide) rfl dL_581 dL_582 dL_583 dL_584 dL_585 ?_
  refine lj_arg (j := 2) hK hk (by decide) rfl dL_586 dL_587 dL_588 dL_589 dL_590 ?_
  refine lj_call (M2 := mmX11_copies) (as := [.int (lwx X (k + 1)), .int (lwx X (k + 2))]) (st := [.int r]) (k := 83) hK dL_591 rfl cvL_61 rfl (show 200 ≤ 1000 by decide) (Nat.le_of_ble_eq_true rfl) (wX11_copies 200 (by decide) (lwx X (k + 1)) (lwx X (k + 2)) A1 h2) ?_
  intro rr AA hq
  rw [hq.1, hq.2]
  exact lj_cmp hK dL_594 (by decide) (next _ h3)
