set_option maxHeartbeats 4000000 in
set_option maxRecDepth 100000 in
theorem q_Mo_in (l : Launch) (x : Int32) (k : Nat)  : xMf l y_Mo_in c_Mo_in 2 .boolean ({ frames := 0, cells := 0, slots := 0, locals := 0 }) [.int x, .int (nI k)] (nI (c_in x k)) := by
  refine xMfz.by r_Mo (by decide +kernel) (Nat.le_of_ble_eq_true rfl) rfl ?_
  intro p e s m args below meth c ls Q E hl hret
  have hl : lv_has ls 2 [(0, .int x), (1, .int (nI k))] := hl
  refine lv_iload_n E.1 E.2.1 d_Mo_in_0 rfl (lv_at hl 0 rfl) ?_
  refine lv_if_lt (tgt := 13) E.1 E.2.1 d_Mo_in_1 (by decide) (fun h1 => ?_) (fun h1 => ?_)
  · refine lv_iconst (v := nI 0) E.1 E.2.1 d_Mo_in_13 (by decide) ?_
    exact hret _ _ _ (by first | exact c_in_y h1 h2 | exact c_in_b h2 | exact c_in_a h1) rfl d_Mo_in_14
  · refine lv_iload_n E.1 E.2.1 d_Mo_in_4 rfl (lv_at hl 0 rfl) ?_
    refine lv_iload_n E.1 E.2.1 d_Mo_in_5 rfl (lv_at hl 1 rfl) ?_
    refine lv_icmp_ge (tgt := 13) E.1 E.2.1 d_Mo_in_6 (by decide) (fun h2 => ?_) (fun h2 => ?_)
    · refine lv_iconst (v := nI 0) E.1 E.2.1 d_Mo_in_13 (by decide) ?_
      exact hret _ _ _ (by first | exact c_in_y h1 h2 | exact c_in_b h2 | exact c_in_a h1) rfl d_Mo_in_14
    · refine lv_iconst (v := nI 1) E.1 E.2.1 d_Mo_in_9 (by decide) ?_
      refine lv_goto (tgt := 14) E.1 E.2.1 d_Mo_in_10 (by decide) ?_
      exact hret _ _ _ (by first | exact c_in_y h1 h2 | exact c_in_b h2 | exact c_in_a h1) rfl d_Mo_in_14
set_option maxHeartbeats 4000000 in
set_option maxRecDepth 100000 in
theorem q_Mo_constant (l : Launch) (t : Nat) (ht : t < 64) : xMf l y_Mo_constant c_Mo_constant 1 .int ({ frames := 0, cells := 0, slots := 0, locals := 0 }) [.int (nI t)] (k_K t) := by
  refine xMf.by r_Mo (by decide +kernel) (Nat.le_of_ble_eq_true rfl) rfl ?_
  intro p e s m args below meth c ls Q E hl hret
  have hl : lv_has ls 1 [(0, .int (nI t))] := hl
  refine lv_iload_n E.1 E.2.1 d_Mo_constant_0 rfl (lv_at hl 0 rfl) ?_
  rcases (show t = 0 ∨ t = 1 ∨ t = 2 ∨ t = 3 ∨ t = 4 ∨ t = 5 ∨ t = 6 ∨ t = 7 ∨ t = 8 ∨ t = 9 ∨ t = 10 ∨ t = 11 ∨ t = 12 ∨ t = 13 ∨ t = 14 ∨ t = 15 ∨ t = 16 ∨ t = 17 ∨ t = 18 ∨ t = 19 ∨ t = 20 ∨ t = 21 ∨ t = 22 ∨ t = 23 ∨ t = 24 ∨ t = 25 ∨ t = 26 ∨ t = 27 ∨ t = 28 ∨ t = 29 ∨ t = 30 ∨ t = 31 ∨ t = 32 ∨ t = 33 ∨ t = 34 ∨ t = 35 ∨ t = 36 ∨ t = 37 ∨ t = 38 ∨ t = 39 ∨ t = 40 ∨ t = 41 ∨ t = 42 ∨ t = 43 ∨ t = 44 ∨ t = 45 ∨ t = 46 ∨ t = 47 ∨ t = 48 ∨ t = 49 ∨ t = 50 ∨ t = 51 ∨ t = 52 ∨ t = 53 ∨ t = 54 ∨ t = 55 ∨ t = 56 ∨ t = 57 ∨ t = 58 ∨ t = 59 ∨ t = 60 ∨ t = 61 ∨ t = 62 ∨ t = 63 by omega) with rfl | rfl | rfl | rfl | rfl | rfl | rfl | rfl | rfl | rfl | rfl | rfl | rfl | rfl | rfl | rfl | rfl | rfl | rfl | rfl | rfl | rfl | rfl | rfl | rfl | rfl | rfl | rfl | rfl | rfl | rfl | rfl | rfl | rfl | rfl | rfl | rfl | rfl | rfl | rfl | rfl | rfl | rfl | rfl | rfl | rfl | rfl | rfl | rfl | rfl | rfl | rfl | rfl | rfl | rfl | rfl | rfl | rfl | rfl | rfl | rfl | rfl | rfl | rfl
  · refine lv_tableIn (tgt := 268) (off := 267) E.1 E.2.1 d_Mo_constant_1 (by decide) (by decide) (by decide) (by decide) ?_
    refine lv_ldc E.1 E.2.1 E.2.2.2.1 (E.2.2.2.2 _ wd_534) d_Mo_constant_268 ?_
    exact hret _ _ _ (rfl) d_Mo_constant_270
  · refine lv_tableIn (tgt := 271) (off := 270) E.1 E.2.1 d_Mo_constant_1 (by decide) (by decide) (by decide) (by decide) ?_
    refine lv_ldc E.1 E.2.1 E.2.2.2.1 (E.2.2.2.2 _ wd_535) d_Mo_constant_271 ?_
    exact hret _ _ _ (rfl) d_Mo_constant_273
  · refine lv_tableIn (tgt := 274) (off := 273) E.1 E.2.1 d_Mo_constant_1 (by decide) (by decide) (by decide) (by decide) ?_
    refine lv_ldc E.1 E.2.1 E.2.2.2.1 (E.2.2.2.2 _ wd_536) d_Mo_constant_274 ?_
    exact hret _ _ _ (rfl) d_Mo_constant_276
  · refine lv_tableIn (tgt := 277) (off := 276) E.1 E.2.1 d_Mo_constant_1 (by decide) (by decide) (by decide) (by decide) ?_
    refine lv_ldc E.1 E.2.1 E.2.2.2.1 (E.2.2.2.2 _ wd_537) d_Mo_constant_277 ?_
    exact hret _ _ _ (rfl) d_Mo_constant_279
  · refine lv_tableIn (tgt := 280) (off := 279) E.1 E.2.1 d_Mo_constant_1 (by decide) (by decide) (by decide) (by decide) ?_
    refine lv_ldc E.1 E.2.1 E.2.2.2.1 (E.2.2.2.2 _ wd_538) d_Mo_constant_280 ?_
    exact hret _ _ _ (rfl) d_Mo_constant_282
  · refine lv_tableIn (tgt := 283) (off := 282) E.1 E.2.1 d_Mo_constant_1 (by decide) (by decide) (by decide) (by decide) ?_
    refine lv_ldc E.1 E.2.1 E.2.2.2.1 (E.2.2.2.2 _ wd_539) d_Mo_constant_283 ?_
    exact hret _ _ _ (rfl) d_Mo_constant_285
  · refine lv_tableIn (tgt := 286) (off := 285) E.1 E.2.1 d_Mo_constant_1 (by decide) (by decide) (by decide) (by decide) ?_
    refine lv_ldc E.1 E.2.1 E.2.2.2.1 (E.2.2.2.2 _ wd_540) d_Mo_constant_286 ?_
    exact hret _ _ _ (rfl) d_Mo_constant_288
  · refine lv_tableIn (tgt := 289) (off := 288) E.1 E.2.1 d_Mo_constant_1 (by decide) (by decide) (by decide) (by decide) ?_
    refine lv_ldc E.1 E.2.1 E.2.2.2.1 (E.2.2.2.2 _ wd_541) d_Mo_constant_289 ?_
    exact hret _ _ _ (rfl) d_Mo_constant_291
  · refine lv_tableIn (tgt := 292) (off := 291) E.1 E.2.1 d_Mo_constant_1 (by decide) (by decide) (by decide) (by decide) ?_
    refine lv_ldc E.1 E.2.1 E.2.2.2.1 (E.2.2.2.2 _ wd_542) d_Mo_constant_292 ?_
    exact hret _ _ _ (rfl) d_Mo_constant_294
  · refine lv_tableIn (tgt := 295) (off := 294) E.1 E.2.1 d_Mo_constant_1 (by decide) (by decide) (by decide) (by decide) ?_
    refine lv_ldc E.1 E.2.1 E.2.2.2.1 (E.2.2.2.2 _ wd_543) d_Mo_constant_295 ?_
    exact hret _ _ _ (rfl) d_Mo_constant_297
  · refine lv_tableIn (tgt := 298) (off := 297) E.1 E.2.1 d_Mo_constant_1 (by decide) (by decide) (by decide) (by decide) ?_
    refine lv_ldc E.1 E.2.1 E.2.2.2.1 (E.2.2.2.2 _ wd_544) d_Mo_constant_298 ?_
    exact hret _ _ _ (rfl) d_Mo_constant_300
  · refine lv_tableIn (tgt := 301) (off := 300) E.1 E.2.1 d_Mo_constant_1 (by decide) (by decide) (by decide) (by decide) ?_
    refine lv_ldc E.1 E.2.1 E.2.2.2.1 (E.2.2.2.2 _ wd_545) d_Mo_constant_301 ?_
    exact hret _ _ _ (rfl) d_Mo_constant_303
  · refine lv_tableIn (tgt := 304) (off := 303) E.1 E.2.1 d_Mo_constant_1 (by decide) (by decide) (by decide) (by decide) ?_
    refine lv_ldc E.1 E.2.1 E.2.2.2.1 (E.2.2.2.2 _ wd_546) d_Mo_constant_304 ?_
    exact hret _ _ _ (rfl) d_Mo_constant_306
  · refine lv_tableIn (tgt := 307) (off := 306) E.1 E.2.1 d_Mo_constant_1 (by decide) (by decide) (by decide) (by decide) ?_
    refine lv_ldc E.1 E.2.1 E.2.2.2.1 (E.2.2.2.2 _ wd_547) d_Mo_constant_307 ?_
    exact hret _ _ _ (rfl) d_Mo_constant_309
  · refine lv_tableIn (tgt := 310) (off := 309) E.1 E.2.1 d_Mo_constant_1 (by decide) (by decide) (by decide) (by decide) ?_
    refine lv_ldc E.1 E.2.1 E.2.2.2.1 (E.2.2.2.2 _ wd_548) d_Mo_constant_310 ?_
    exact hret _ _ _ (rfl) d_Mo_constant_312
  · refine lv_tableIn (tgt := 313) (off := 312) E.1 E.2.1 d_Mo_constant_1 (by decide) (by decide) (by decide) (by decide) ?_
    refine lv_ldc E.1 E.2.1 E.2.2.2.1 (E.2.2.2.2 _ wd_549) d_Mo_constant_313 ?_
    exact hret _ _ _ (rfl) d_Mo_constant_315
  · refine lv_tableIn (tgt := 316) (off := 315) E.1 E.2.1 d_Mo_constant_1 (by decide) (by decide) (by decide) (by decide) ?_
    refine lv_ldc E.1 E.2.1 E.2.2.2.1 (E.2.2.2.2 _ wd_550) d_Mo_constant_316 ?_
    exact hret _ _ _ (rfl) d_Mo_constant_318
  · refine lv_tableIn (tgt := 319) (off := 318) E.1 E.2.1 d_Mo_constant_1 (by decide) (by decide) (by decide) (by decide) ?_
    refine lv_ldc E.1 E.2.1 E.2.2.2.1 (E.2.2.2.2 _ wd_551) d_Mo_constant_319 ?_
    exact hret _ _ _ (rfl) d_Mo_constant_321
  · refine lv_tableIn (tgt := 322) (off := 321) E.1 E.2.1 d_Mo_constant_1 (by decide) (by decide) (by decide) (by decide) ?_
    refine lv_ldc E.1 E.2.1 E.2.2.2.1 (E.2.2.2.2 _ wd_552) d_Mo_constant_322 ?_
    exact hret _ _ _ (rfl) d_Mo_constant_324
  · refine lv_tableIn (tgt := 325) (off := 324) E.1 E.2.1 d_Mo_constant_1 (by decide) (by decide) (by decide) (by decide) ?_
    refine lv_ldc E.1 E.2.1 E.2.2.2.1 (E.2.2.2.2 _ wd_553) d_Mo_constant_325 ?_
    exact hret _ _ _ (rfl) d_Mo_constant_327
  · refine lv_tableIn (tgt := 328) (off := 327) E.1 E.2.1 d_Mo_constant_1 (by decide) (by decide) (by decide) (by decide) ?_
    refine lv_ldc E.1 E.2.1 E.2.2.2.1 (E.2.2.2.2 _ wd_554) d_Mo_constant_328 ?_
    exact hret _ _ _ (rfl) d_Mo_constant_330
  · refine lv_tableIn (tgt := 331) (off := 330) E.1 E.2.1 d_Mo_constant_1 (by decide) (by decide) (by decide) (by decide) ?_
    refine lv_ldc E.1 E.2.1 E.2.2.2.1 (E.2.2.2.2 _ wd_555) d_Mo_constant_331 ?_
    exact hret _ _ _ (rfl) d_Mo_constant_333
  · refine lv_tableIn (tgt := 334) (off := 333) E.1 E.2.1 d_Mo_constant_1 (by decide) (by decide) (by decide) (by decide) ?_
    refine lv_ldc E.1 E.2.1 E.2.2.2.1 (E.2.2.2.2 _ wd_556) d_Mo_constant_334 ?_
    exact hret _ _ _ (rfl) d_Mo_constant_336
  · refine lv_tableIn (tgt := 337) (off := 336) E.1 E.2.1 d_Mo_constant_1 (by decide) (by decide) (by decide) (by decide) ?_
    refine lv_ldc E.1 E.2.1 E.2.2.2.1 (E.2.2.2.2 _ wd_557) d_Mo_constant_337 ?_
    exact hret _ _ _ (rfl) d_Mo_constant_339
  · refine lv_tableIn (tgt := 340) (off := 339) E.1 E.2.1 d_Mo_constant_1 (by decide) (by decide) (by decide) (by decide) ?_
    refine lv_ldc E.1 E.2.1 E.2.2.2.1 (E.2.2.2.2 _ wd_558) d_Mo_constant_340 ?_
    exact hret _ _ _ (rfl) d_Mo_constant_342
  · refine lv_tableIn (tgt := 343) (off := 342) E.1 E.2.1 d_Mo_constant_1 (by decide) (by decide) (by decide) (by decide) ?_
    refine lv_ldc E.1 E.2.1 E.2.2.2.1 (E.2.2.2.2 _ wd_559) d_Mo_constant_343 ?_
    exact hret _ _ _ (rfl) d_Mo_constant_345
  · refine lv_tableIn (tgt := 346) (off := 345) E.1 E.2.1 d_Mo_constant_1 (by decide) (by decide) (by decide) (by decide) ?_
    refine lv_ldc E.1 E.2.1 E.2.2.2.1 (E.2.2.2.2 _ wd_560) d_Mo_constant_346 ?_
    exact hret _ _ _ (rfl) d_Mo_constant_348
  · refine lv_tableIn (tgt := 349) (off := 348) E.1 E.2.1 d_Mo_constant_1 (by decide) (by decide) (by decide) (by decide) ?_
    refine lv_ldc E.1 E.2.1 E.2.2.2.1 (E.2.2.2.2 _ wd_561) d_Mo_constant_349 ?_
    exact hret _ _ _ (rfl) d_Mo_constant_351
  · refine lv_tableIn (tgt := 352) (off := 351) E.1 E.2.1 d_Mo_constant_1 (by decide) (by decide) (by decide) (by decide) ?_
    refine lv_ldc E.1 E.2.1 E.2.2.2.1 (E.2.2.2.2 _ wd_562) d_Mo_constant_352 ?_
    exact hret _ _ _ (rfl) d_Mo_constant_354
  · refine lv_tableIn (tgt := 355) (off := 354) E.1 E.2.1 d_Mo_constant_1 (by decide) (by decide) (by decide) (by decide) ?_
    refine lv_ldc E.1 E.2.1 E.2.2.2.1 (E.2.2.2.2 _ wd_563) d_Mo_constant_355 ?_
    exact hret _ _ _ (rfl) d_Mo_constant_357
  · refine lv_tableIn (tgt := 358) (off := 357) E.1 E.2.1 d_Mo_constant_1 (by decide) (by decide) (by decide) (by decide) ?_
    refine lv_ldc E.1 E.2.1 E.2.2.2.1 (E.2.2.2.2 _ wd_564) d_Mo_constant_358 ?_
    exact hret _ _ _ (rfl) d_Mo_constant_360
  · refine lv_tableIn (tgt := 361) (off := 360) E.1 E.2.1 d_Mo_constant_1 (by decide) (by decide) (by decide) (by decide) ?_
    refine lv_ldc E.1 E.2.1 E.2.2.2.1 (E.2.2.2.2 _ wd_565) d_Mo_constant_361 ?_
    exact hret _ _ _ (rfl) d_Mo_constant_363
  · refine lv_tableIn (tgt := 364) (off := 363) E.1 E.2.1 d_Mo_constant_1 (by decide) (by decide) (by decide) (by decide) ?_
    refine lv_ldc E.1 E.2.1 E.2.2.2.1 (E.2.2.2.2 _ wd_566) d_Mo_constant_364 ?_
    exact hret _ _ _ (rfl) d_Mo_constant_366
  · refine lv_tableIn (tgt := 367) (off := 366) E.1 E.2.1 d_Mo_constant_1 (by decide) (by decide) (by decide) (by decide) ?_
    refine lv_ldc E.1 E.2.1 E.2.2.2.1 (E.2.2.2.2 _ wd_567) d_Mo_constant_367 ?_
    exact hret _ _ _ (rfl) d_Mo_constant_369
  · refine lv_tableIn (tgt := 370) (off := 369) E.1 E.2.1 d_Mo_constant_1 (by decide) (by decide) (by decide) (by decide) ?_
    refine lv_ldc E.1 E.2.1 E.2.2.2.1 (E.2.2.2.2 _ wd_568) d_Mo_constant_370 ?_
    exact hret _ _ _ (rfl) d_Mo_constant_372
  · refine lv_tableIn (tgt := 373) (off := 372) E.1 E.2.1 d_Mo_constant_1 (by decide) (by decide) (by decide) (by decide) ?_
    refine lv_ldc E.1 E.2.1 E.2.2.2.1 (E.2.2.2.2 _ wd_569) d_Mo_constant_373 ?_
    exact hret _ _ _ (rfl) d_Mo_constant_375
  · refine lv_tableIn (tgt := 376) (off := 375) E.1 E.2.1 d_Mo_constant_1 (by decide) (by decide) (by decide) (by decide) ?_
    refine lv_ldc E.1 E.2.1 E.2.2.2.1 (E.2.2.2.2 _ wd_570) d_Mo_constant_376 ?_
    exact hret _ _ _ (rfl) d_Mo_constant_378
  · refine lv_tableIn (tgt := 379) (off := 378) E.1 E.2.1 d_Mo_constant_1 (by decide) (by decide) (by decide) (by decide) ?_
    refine lv_ldc E.1 E.2.1 E.2.2.2.1 (E.2.2.2.2 _ wd_571) d_Mo_constant_379 ?_
    exact hret _ _ _ (rfl) d_Mo_constant_381
  · refine lv_tableIn (tgt := 382) (off := 381) E.1 E.2.1 d_Mo_constant_1 (by decide) (by decide) (by decide) (by decide) ?_
    refine lv_ldc E.1 E.2.1 E.2.2.2.1 (E.2.2.2.2 _ wd_572) d_Mo_constant_382 ?_
    exact hret _ _ _ (rfl) d_Mo_constant_384
  · refine lv_tableIn (tgt := 385) (off := 384) E.1 E.2.1 d_Mo_constant_1 (by decide) (by decide) (by decide) (by decide) ?_
    refine lv_ldc E.1 E.2.1 E.2.2.2.1 (E.2.2.2.2 _ wd_573) d_Mo_constant_385 ?_
    exact hret _ _ _ (rfl) d_Mo_constant_387
  · refine lv_tableIn (tgt := 388) (off := 387) E.1 E.2.1 d_Mo_constant_1 (by decide) (by decide) (by decide) (by decide) ?_
    refine lv_ldc E.1 E.2.1 E.2.2.2.1 (E.2.2.2.2 _ wd_574) d_Mo_constant_388 ?_
    exact hret _ _ _ (rfl) d_Mo_constant_390
  · refine lv_tableIn (tgt := 391) (off := 390) E.1 E.2.1 d_Mo_constant_1 (by decide) (by decide) (by decide) (by decide) ?_
    refine lv_ldc E.1 E.2.1 E.2.2.2.1 (E.2.2.2.2 _ wd_575) d_Mo_constant_391 ?_
    exact hret _ _ _ (rfl) d_Mo_constant_393
  · refine lv_tableIn (tgt := 394) (off := 393) E.1 E.2.1 d_Mo_constant_1 (by decide) (by decide) (by decide) (by decide) ?_
    refine lv_ldc E.1 E.2.1 E.2.2.2.1 (E.2.2.2.2 _ wd_576) d_Mo_constant_394 ?_
    exact hret _ _ _ (rfl) d_Mo_constant_396
  · refine lv_tableIn (tgt := 397) (off := 396) E.1 E.2.1 d_Mo_constant_1 (by decide) (by decide) (by decide) (by decide) ?_
    refine lv_ldc E.1 E.2.1 E.2.2.2.1 (E.2.2.2.2 _ wd_577) d_Mo_constant_397 ?_
    exact hret _ _ _ (rfl) d_Mo_constant_399
  · refine lv_tableIn (tgt := 400) (off := 399) E.1 E.2.1 d_Mo_constant_1 (by decide) (by decide) (by decide) (by decide) ?_
    refine lv_ldc E.1 E.2.1 E.2.2.2.1 (E.2.2.2.2 _ wd_578) d_Mo_constant_400 ?_
    exact hret _ _ _ (rfl) d_Mo_constant_402
  · refine lv_tableIn (tgt := 403) (off := 402) E.1 E.2.1 d_Mo_constant_1 (by decide) (by decide) (by decide) (by decide) ?_
    refine lv_ldc E.1 E.2.1 E.2.2.2.1 (E.2.2.2.2 _ wd_579) d_Mo_constant_403 ?_
    exact hret _ _ _ (rfl) d_Mo_constant_405
  · refine lv_tableIn (tgt := 406) (off := 405) E.1 E.2.1 d_Mo_constant_1 (by decide) (by decide) (by decide) (by decide) ?_
    refine lv_ldc E.1 E.2.1 E.2.2.2.1 (E.2.2.2.2 _ wd_580) d_Mo_constant_406 ?_
    exact hret _ _ _ (rfl) d_Mo_constant_408
  · refine lv_tableIn (tgt := 409) (off := 408) E.1 E.2.1 d_Mo_constant_1 (by decide) (by decide) (by decide) (by decide) ?_
    refine lv_ldc E.1 E.2.1 E.2.2.2.1 (E.2.2.2.2 _ wd_581) d_Mo_constant_409 ?_
    exact hret _ _ _ (rfl) d_Mo_constant_411
  · refine lv_tableIn (tgt := 412) (off := 411) E.1 E.2.1 d_Mo_constant_1 (by decide) (by decide) (by decide) (by decide) ?_
    refine lv_ldc E.1 E.2.1 E.2.2.2.1 (E.2.2.2.2 _ wd_582) d_Mo_constant_412 ?_
    exact hret _ _ _ (rfl) d_Mo_constant_414
  · refine lv_tableIn (tgt := 415) (off := 414) E.1 E.2.1 d_Mo_constant_1 (by decide) (by decide) (by decide) (by decide) ?_
    refine lv_ldc E.1 E.2.1 E.2.2.2.1 (E.2.2.2.2 _ wd_583) d_Mo_constant_415 ?_
    exact hret _ _ _ (rfl) d_Mo_constant_417
  · refine lv_tableIn (tgt := 418) (off := 417) E.1 E.2.1 d_Mo_constant_1 (by decide) (by decide) (by decide) (by decide) ?_
    refine lv_ldc E.1 E.2.1 E.2.2.2.1 (E.2.2.2.2 _ wd_584) d_Mo_constant_418 ?_
    exact hret _ _ _ (rfl) d_Mo_constant_420
  · refine lv_tableIn (tgt := 421) (off := 420) E.1 E.2.1 d_Mo_constant_1 (by decide) (by decide) (by decide) (by decide) ?_
    refine lv_ldc E.1 E.2.1 E.2.2.2.1 (E.2.2.2.2 _ wd_585) d_Mo_constant_421 ?_
    exact hret _ _ _ (rfl) d_Mo_constant_423
  · refine lv_tableIn (tgt := 424) (off := 423) E.1 E.2.1 d_Mo_constant_1 (by decide) (by decide) (by decide) (by decide) ?_
    refine lv_ldc E.1 E.2.1 E.2.2.2.1 (E.2.2.2.2 _ wd_586) d_Mo_constant_424 ?_
    exact hret _ _ _ (rfl) d_Mo_constant_426
  · refine lv_tableIn (tgt := 427) (off := 426) E.1 E.2.1 d_Mo_constant_1 (by decide) (by decide) (by decide) (by decide) ?_
    refine lv_ldc E.1 E.2.1 E.2.2.2.1 (E.2.2.2.2 _ wd_587) d_Mo_constant_427 ?_
    exact hret _ _ _ (rfl) d_Mo_constant_429
  · refine lv_tableIn (tgt := 430) (off := 429) E.1 E.2.1 d_Mo_constant_1 (by decide) (by decide) (by decide) (by decide) ?_
    refine lv_ldc E.1 E.2.1 E.2.2.2.1 (E.2.2.2.2 _ wd_588) d_Mo_constant_430 ?_
    exact hret _ _ _ (rfl) d_Mo_constant_432
  · refine lv_tableIn (tgt := 433) (off := 432) E.1 E.2.1 d_Mo_constant_1 (by decide) (by decide) (by decide) (by decide) ?_
    refine lv_ldc E.1 E.2.1 E.2.2.2.1 (E.2.2.2.2 _ wd_589) d_Mo_constant_433 ?_
    exact hret _ _ _ (rfl) d_Mo_constant_435
  · refine lv_tableIn (tgt := 436) (off := 435) E.1 E.2.1 d_Mo_constant_1 (by decide) (by decide) (by decide) (by decide) ?_
    refine lv_ldc E.1 E.2.1 E.2.2.2.1 (E.2.2.2.2 _ wd_590) d_Mo_constant_436 ?_
    exact hret _ _ _ (rfl) d_Mo_constant_438
  · refine lv_tableIn (tgt := 439) (off := 438) E.1 E.2.1 d_Mo_constant_1 (by decide) (by decide) (by decide) (by decide) ?_
    refine lv_ldc E.1 E.2.1 E.2.2.2.1 (E.2.2.2.2 _ wd_591) d_Mo_constant_439 ?_
    exact hret _ _ _ (rfl) d_Mo_constant_441
  · refine lv_tableIn (tgt := 442) (off := 441) E.1 E.2.1 d_Mo_constant_1 (by decide) (by decide) (by decide) (by decide) ?_
    refine lv_ldc E.1 E.2.1 E.2.2.2.1 (E.2.2.2.2 _ wd_592) d_Mo_constant_442 ?_
    exact hret _ _ _ (rfl) d_Mo_constant_444
  · refine lv_tableIn (tgt := 445) (off := 444) E.1 E.2.1 d_Mo_constant_1 (by decide) (by decide) (by decide) (by decide) ?_
    refine lv_ldc E.1 E.2.1 E.2.2.2.1 (E.2.2.2.2 _ wd_593) d_Mo_constant_445 ?_
    exact hret _ _ _ (rfl) d_Mo_constant_447
  · refine lv_tableIn (tgt := 448) (off := 447) E.1 E.2.1 d_Mo_constant_1 (by decide) (by decide) (by decide) (by decide) ?_
    refine lv_ldc E.1 E.2.1 E.2.2.2.1 (E.2.2.2.2 _ wd_594) d_Mo_constant_448 ?_
    exact hret _ _ _ (rfl) d_Mo_constant_450
  · refine lv_tableIn (tgt := 451) (off := 450) E.1 E.2.1 d_Mo_constant_1 (by decide) (by decide) (by decide) (by decide) ?_
    refine lv_ldc E.1 E.2.1 E.2.2.2.1 (E.2.2.2.2 _ wd_595) d_Mo_constant_451 ?_
    exact hret _ _ _ (rfl) d_Mo_constant_453
  · refine lv_tableIn (tgt := 454) (off := 453) E.1 E.2.1 d_Mo_constant_1 (by decide) (by decide) (by decide) (by decide) ?_
    refine lv_ldc E.1 E.2.1 E.2.2.2.1 (E.2.2.2.2 _ wd_596) d_Mo_constant_454 ?_
    exact hret _ _ _ (rfl) d_Mo_constant_456
  · refine lv_tableOut (tgt := 457) E.1 E.2.1 d_Mo_constant_1 (by decide) (by decide) ?_
    refine lv_ldc E.1 E.2.1 E.2.2.2.1 (E.2.2.2.2 _ wd_597) d_Mo_constant_457 ?_
    exact hret _ _ _ (rfl) d_Mo_constant_459
set_option maxHeartbeats 4000000 in
set_option maxRecDepth 100000 in
theorem q_Mo_start (l : Launch) (t : Nat) (ht : t < 8) : xMf l y_Mo_start c_Mo_start 1 .int ({ frames := 0, cells := 0, slots := 0, locals := 0 }) [.int (nI t)] (k_H t) := by
  refine xMf.by r_Mo (by decide +kernel) (Nat.le_of_ble_eq_true rfl) rfl ?_
  intro p e s m args below meth c ls Q E hl hret
  have hl : lv_has ls 1 [(0, .int (nI t))] := hl
  refine lv_iload_n E.1 E.2.1 d_Mo_start_0 rfl (lv_at hl 0 rfl) ?_
  rcases (show t = 0 ∨ t = 1 ∨ t = 2 ∨ t = 3 ∨ t = 4 ∨ t = 5 ∨ t = 6 ∨ t = 7 by omega) with rfl | rfl | rfl | rfl | rfl | rfl | rfl | rfl
  · refine lv_tableIn (tgt := 44) (off := 43) E.1 E.2.1 d_Mo_start_1 (by decide) (by decide) (by decide) (by decide) ?_
    refine lv_ldc E.1 E.2.1 E.2.2.2.1 (E.2.2.2.2 _ wd_512) d_Mo_start_44 ?_
    exact hret _ _ _ (rfl) d_Mo_start_46
  · refine lv_tableIn (tgt := 47) (off := 46) E.1 E.2.1 d_Mo_start_1 (by decide) (by decide) (by decide) (by decide) ?_
    refine lv_ldc E.1 E.2.1 E.2.2.2.1 (E.2.2.2.2 _ wd_513) d_Mo_start_47 ?_
    exact hret _ _ _ (rfl) d_Mo_start_49
  · refine lv_tableIn (tgt := 50) (off := 49) E.1 E.2.1 d_Mo_start_1 (by decide) (by decide) (by decide) (by decide) ?_
    refine lv_ldc E.1 E.2.1 E.2.2.2.1 (E.2.2.2.2 _ wd_514) d_Mo_start_50 ?_
    exact hret _ _ _ (rfl) d_Mo_start_52
  · refine lv_tableIn (tgt := 53) (off := 52) E.1 E.2.1 d_Mo_start_1 (by decide) (by decide) (by decide) (by decide) ?_
    refine lv_ldc E.1 E.2.1 E.2.2.2.1 (E.2.2.2.2 _ wd_515) d_Mo_start_53 ?_
    exact hret _ _ _ (rfl) d_Mo_start_55
  · refine lv_tableIn (tgt := 56) (off := 55) E.1 E.2.1 d_Mo_start_1 (by decide) (by decide) (by decide) (by decide) ?_
    refine lv_ldc E.1 E.2.1 E.2.2.2.1 (E.2.2.2.2 _ wd_516) d_Mo_start_56 ?_
    exact hret _ _ _ (rfl) d_Mo_start_58
  · refine lv_tableIn (tgt := 59) (off := 58) E.1 E.2.1 d_Mo_start_1 (by decide) (by decide) (by decide) (by decide) ?_
    refine lv_ldc E.1 E.2.1 E.2.2.2.1 (E.2.2.2.2 _ wd_517) d_Mo_start_59 ?_
    exact hret _ _ _ (rfl) d_Mo_start_61
  · refine lv_tableIn (tgt := 62) (off := 61) E.1 E.2.1 d_Mo_start_1 (by decide) (by decide) (by decide) (by decide) ?_
    refine lv_ldc E.1 E.2.1 E.2.2.2.1 (E.2.2.2.2 _ wd_518) d_Mo_start_62 ?_
    exact hret _ _ _ (rfl) d_Mo_start_64
  · refine lv_tableOut (tgt := 65) E.1 E.2.1 d_Mo_start_1 (by decide) (by decide) ?_
    refine lv_ldc E.1 E.2.1 E.2.2.2.1 (E.2.2.2.2 _ wd_519) d_Mo_start_65 ?_
    exact hret _ _ _ (rfl) d_Mo_start_67
set_option maxHeartbeats 4000000 in
set_option maxRecDepth 100000 in
theorem q_Mo_right (l : Launch) (x k : Int32)  : xMf l y_Mo_right c_Mo_right 2 .int ({ frames := 0, cells := 0, slots := 0, locals := 0 }) [.int x, .int k] (h_r x k) := by
  refine xMf.by r_Mo (by decide +kernel) (Nat.le_of_ble_eq_true rfl) rfl ?_
  intro p e s m args below meth c ls Q E hl hret
  have hl : lv_has ls 2 [(0, .int x), (1, .int k)] := hl
  refine lv_iload_n E.1 E.2.1 d_Mo_right_0 rfl (lv_at hl 0 rfl) ?_
  refine lv_iload_n E.1 E.2.1 d_Mo_right_1 rfl (lv_at hl 1 rfl) ?_
  refine lv_iushr (v := b_us x k) E.1 E.2.1 d_Mo_right_2 rfl ?_
  refine lv_iload_n E.1 E.2.1 d_Mo_right_3 rfl (lv_at hl 0 rfl) ?_
  refine lv_bipush (v := nI 32) E.1 E.2.1 d_Mo_right_4 (by decide) ?_
  refine lv_iload_n E.1 E.2.1 d_Mo_right_6 rfl (lv_at hl 1 rfl) ?_
  refine lv_isub E.1 E.2.1 d_Mo_right_7 ?_
  refine lv_ishl E.1 E.2.1 d_Mo_right_8 ?_
  refine lv_ior E.1 E.2.1 d_Mo_right_9 ?_
  exact hret _ _ _ (h_rt x k) d_Mo_right_10
set_option maxHeartbeats 4000000 in
set_option maxRecDepth 100000 in
theorem q_Mo_padded (G : xG) (l : Launch) (h0 cd kq cq rs lq pq oq os bq rq ln wq hq dq nq aq xq yq sq tq rd : Nat) (ck lt tc wr : Int32) (p_ : Nat) (f : Nat → Nat) (hc : ln ≤ 2000) (hp : p_ < h_tot ln) : xMr G l y_Mo_padded c_Mo_padded 4 .int ({ frames := 0, cells := 0, slots := 0, locals := 0 }) [.ref h0, .int (nI p_), .int (nI (h_tot ln))] [] [(h0, .inr (6, [.int (nI cd), .ref kq, .ref cq, .int (nI rs), .int ck, .int lt, .ref lq, .ref pq, .ref oq, .int (nI os), .ref bq, .int tc, .int wr, .ref rq, .int (nI ln), .ref wq, .ref hq, .ref dq, .ref nq, .ref aq, .ref xq, .ref yq, .ref sq, .ref tq, .int (nI rd)])), (rq, x_N G 2000 f)] (nI (h_P f ln p_)) := by
  refine xMr.by r_Mo (by decide +kernel) (Nat.le_of_ble_eq_true rfl) rfl ?_
  intro p e s m args below meth c A ls Q E B hro hl hret
  have hl : lv_has ls 4 [(0, .ref h0), (1, .int (nI p_)), (2, .int (nI (h_tot ln)))] := hl
  have ht : h_tot ln = ((ln + 8) / 64 + 1) * 64 := rfl
  refine lv_iload_n E.1 E.2.1 d_Mo_padded_0 rfl (lv_at hl 1 rfl) ?_
  refine lv_aload_n E.1 E.2.1 d_Mo_padded_1 rfl (lv_at hl 0 rfl) ?_
  refine x_get E B 0 rfl k_Mo 14 (by decide) wd_407 rfl d_Mo_padded_2 ?_
  refine x_ge (tgt := 15) E d_Mo_padded_5 (by decide) (by omega) (by omega) (fun hc1 => ?_) (fun hc1 => ?_)
  · refine lv_iload_n E.1 E.2.1 d_Mo_padded_15 rfl (lv_at hl 1 rfl) ?_
    refine lv_aload_n E.1 E.2.1 d_Mo_padded_16 rfl (lv_at hl 0 rfl) ?_
    refine x_get E B 0 rfl k_Mo 14 (by decide) wd_407 rfl d_Mo_padded_17 ?_
    refine x_ne (tgt := 27) E d_Mo_padded_20 (by decide) (by omega) (by omega) (fun hc2 => ?_) (fun hc2 => ?_)
    · refine lv_iload_n E.1 E.2.1 d_Mo_padded_27 rfl (lv_at hl 2 rfl) ?_
      refine lv_iload_n E.1 E.2.1 d_Mo_padded_28 rfl (lv_at hl 1 rfl) ?_
      refine x_isub E d_Mo_padded_29 (by omega) ?_
      refine lv_istore_n (lv' := [(3, .int (nI ((h_tot ln) - p_))), (0, .ref h0), (1, .int (nI p_)), (2, .int (nI (h_tot ln)))]) E.1 E.2.1 d_Mo_padded_30 rfl hl (by decide) rfl (fun ls hl => ?_)
      refine lv_iload_n E.1 E.2.1 d_Mo_padded_31 rfl (lv_at hl 0 rfl) ?_
      refine lv_iconst (v := nI 4) E.1 E.2.1 d_Mo_padded_32 (by decide) ?_
      refine x_le (tgt := 40) E d_Mo_padded_33 (by decide) (by omega) (by omega) (fun hc3 => ?_) (fun hc3 => ?_)
      · refine lv_bipush (v := nI 8) E.1 E.2.1 d_Mo_padded_40 (by decide) ?_
        refine lv_aload_n E.1 E.2.1 d_Mo_padded_42 rfl (lv_at hl 1 rfl) ?_
        refine x_get E B 0 rfl k_Mo 14 (by decide) wd_407 rfl d_Mo_padded_43 ?_
        refine x_imul E d_Mo_padded_46 ?_
        refine lv_bipush (v := nI 8) E.1 E.2.1 d_Mo_padded_47 (by decide) ?_
        refine lv_iload_n E.1 E.2.1 d_Mo_padded_49 rfl (lv_at hl 0 rfl) ?_
        refine lv_iconst (v := nI 1) E.1 E.2.1 d_Mo_padded_50 (by decide) ?_
        refine x_isub E d_Mo_padded_51 (by omega) ?_
        refine x_imul E d_Mo_padded_52 ?_
        refine lv_ishr E.1 E.2.1 d_Mo_padded_53 ?_
        refine x_top (v' := nI (8 * ln / 2 ^ (8 * (h_tot ln - p_ - 1)))) (b_shr _ (by omega) (by omega)) ?_
        refine lv_sipush (v := nI 255) E.1 E.2.1 d_Mo_padded_54 (by decide) ?_
        refine lv_iand E.1 E.2.1 d_Mo_padded_57 ?_
        refine x_top (v' := nI (8 * ln / 2 ^ (8 * (h_tot ln - p_ - 1)) % 256)) (b_255 (Nat.lt_of_le_of_lt (Nat.div_le_self _ _) (by omega))) ?_
        exact hret _ _ _ (congrArg nI (by rw [h_P4 (by omega), show h_tot ln - 1 - p_ = h_tot ln - p_ - 1 by omega])) d_Mo_padded_58
      · refine lv_iconst (v := nI 0) E.1 E.2.1 d_Mo_padded_36 (by decide) ?_
        refine lv_goto (tgt := 58) E.1 E.2.1 d_Mo_padded_37 (by decide) ?_
        exact hret _ _ _ (congrArg nI (h_P3 (k := 4) (by omega) (by omega) (by omega)).symm) d_Mo_padded_58
    · refine lv_sipush (v := nI 128) E.1 E.2.1 d_Mo_padded_23 (by decide) ?_
      exact hret _ _ _ (by rw [hc2, h_P2]) d_Mo_padded_26
  · refine lv_aload_n E.1 E.2.1 d_Mo_padded_8 rfl (lv_at hl 0 rfl) ?_
    refine x_get E B 0 rfl k_Mo 13 (by decide) wd_406 rfl d_Mo_padded_9 ?_
    refine lv_iload_n E.1 E.2.1 d_Mo_padded_12 rfl (lv_at hl 1 rfl) ?_
    refine x_aldN E B 1 rfl (i := p_) (by omega) (by decide) d_Mo_padded_13 ?_
    exact hret _ _ _ (congrArg nI (h_P1 hc1).symm) d_Mo_padded_14
set_option maxHeartbeats 4000000 in
set_option maxRecDepth 100000 in
theorem q_Mo_round (G : xG) (l : Launch) (h0 cd kq cq rs lq pq oq os bq rq ln wq hq dq nq aq xq yq sq tq rd : Nat) (ck lt tc wr : Int32) (fr : Nat) (f : Nat → Nat) (w0 Hf : Nat → Int32) (hc : ln ≤ 2000) (hp : fr + 64 ≤ h_tot ln) (hf : ∀ j, j < ln → f j < 256) : xMv G l y_Mo_round c_Mo_round 14 ({ frames := 1, cells := 0, slots := 0, locals := 23 }) [.ref h0, .int (nI fr), .int (nI (h_tot ln))] [] [(h0, .inr (6, [.int (nI cd), .ref kq, .ref cq, .int (nI rs), .int ck, .int lt, .ref lq, .ref pq, .ref oq, .int (nI os), .ref bq, .int tc, .int wr, .ref rq, .int (nI ln), .ref wq, .ref hq, .ref dq, .ref nq, .ref aq, .ref xq, .ref yq, .ref sq, .ref tq, .int (nI rd)])), (rq, x_N G 2000 f), (wq, x_I G 64 w0), (hq, x_I G 8 Hf)] Unit (fun _ => True) (fun u => [(h0, .inr (6, [.int (nI cd), .ref kq, .ref cq, .int (nI rs), .int ck, .int lt, .ref lq, .ref pq, .ref oq, .int (nI os), .ref bq, .int tc, .int wr, .ref rq, .int (nI ln), .ref wq, .ref hq, .ref dq, .ref nq, .ref aq, .ref xq, .ref yq, .ref sq, .ref tq, .int (nI rd)])), (rq, x_N G 2000 f), (wq, x_I G 64 (h_w (h_P f ln) fr)), (hq, x_I G 8 (h_cp Hf (h_w (h_P f ln) fr)))]) 0 0 := by
  refine xMv.by r_Mo (by decide +kernel) (Nat.le_of_ble_eq_true rfl) rfl ?_
  intro p e s m args below meth c A ls Q E hin B hro hl hret
  have hl : lv_has ls 14 [(0, .ref h0), (1, .int (nI fr)), (2, .int (nI (h_tot ln)))] := hl
  have ht : h_tot ln = ((ln + 8) / 64 + 1) * 64 := rfl
  refine lv_iconst (v := nI 0) E.1 E.2.1 d_Mo_round_0 (by decide) ?_
  refine lv_istore_n (lv' := [(3, .int (nI 0)), (0, .ref h0), (1, .int (nI fr)), (2, .int (nI (h_tot ln)))]) E.1 E.2.1 d_Mo_round_1 rfl hl (by decide) rfl (fun ls hl => ?_)
  have hL2 : ∀ (kf : Nat) (t : Nat), 64 - t < kf → (t ≤ 64) → ∀ (H : Heap) (locs : List Loc) (ls : Array Slot), xB G A s H locs ([(h0, .inr (6, [.int (nI cd), .ref kq, .ref cq, .int (nI rs), .int ck, .int lt, .ref lq, .ref pq, .ref oq, .int (nI os), .ref bq, .int tc, .int wr, .ref rq, .int (nI ln), .ref wq, .ref hq, .ref dq, .ref nq, .ref aq, .ref xq, .ref yq, .ref sq, .ref tq, .int (nI rd)])), (rq, x_N G 2000 f), (wq, x_I G 64 (mx t (h_w (h_P f ln) fr) w0)), (hq, x_I G 8 Hf)]) → lv_has ls 14 [(3, .int (nI t)), (0, .ref h0), (1, .int (nI fr)), (2, .int (nI (h_tot ln)))] → W p l e ({ frames := 1, cells := 0, slots := 0, locals := 23 }) s m args below meth c H locs 0 0 Q (F0 m 2 ls []) := by
    intro k2
    induction k2 with
    | zero =>
      intro t hk
      exact absurd hk (Nat.not_lt_zero _)
    | succ k2 ih2 =>
      intro t hk2 hi H locs ls B hl
      refine lv_iload_n E.1 E.2.1 d_Mo_round_2 rfl (lv_at hl 0 rfl) ?_
      refine lv_bipush (v := nI 64) E.1 E.2.1 d_Mo_round_3 (by decide) ?_
      refine x_ge (tgt := 171) E d_Mo_round_5 (by decide) (by omega) (by omega) (fun c1 => ?_) (fun c1 => ?_)
      · obtain rfl : t = 64 := by omega
        have B := B.fn 2 rfl (h_w (h_P f ln) fr) (mx_ei)
        have B : xB G A s _ _ ([(h0, .inr (6, [.int (nI cd), .ref kq, .ref cq, .int (nI rs), .int ck, .int lt, .ref lq, .ref pq, .ref oq, .int (nI os), .ref bq, .int tc, .int wr, .ref rq, .int (nI ln), .ref wq, .ref hq, .ref dq, .ref nq, .ref aq, .ref xq, .ref yq, .ref sq, .ref tq, .int (nI rd)])), (rq, x_N G 2000 f), (wq, x_I G 64 (h_w (h_P f ln) fr)), (hq, x_I G 8 Hf)]) := B
        refine lv_aload_n E.1 E.2.1 d_Mo_round_171 rfl (lv_at hl 1 rfl) ?_
        refine x_get E B 0 rfl k_Mo 16 (by decide) wd_409 rfl d_Mo_round_172 ?_
        refine lv_iconst (v := nI 0) E.1 E.2.1 d_Mo_round_175 (by decide) ?_
        refine x_ald E B 3 rfl (i := 0) (by omega) (by decide) d_Mo_round_176 ?_
        refine lv_istore_n (lv' := [(3, .int (Hf 0)), (0, .ref h0), (1, .int (nI fr)), (2, .int (nI (h_tot ln)))]) E.1 E.2.1 d_Mo_round_177 rfl hl (by decide) rfl (fun ls hl => ?_)
        refine lv_aload_n E.1 E.2.1 d_Mo_round_178 rfl (lv_at hl 1 rfl) ?_
        refine x_get E B 0 rfl k_Mo 16 (by decide) wd_409 rfl d_Mo_round_179 ?_
        refine lv_iconst (v := nI 1) E.1 E.2.1 d_Mo_round_182 (by decide) ?_
        refine x_ald E B 3 rfl (i := 1) (by omega) (by decide) d_Mo_round_183 ?_
        refine lv_istore (lv' := [(4, .int (Hf 1)), (3, .int (Hf 0)), (0, .ref h0), (1, .int (nI fr)), (2, .int (nI (h_tot ln)))]) E.1 E.2.1 d_Mo_round_184 hl (by decide) rfl (fun ls hl => ?_)
        refine lv_aload_n E.1 E.2.1 d_Mo_round_186 rfl (lv_at hl 2 rfl) ?_
        refine x_get E B 0 rfl k_Mo 16 (by decide) wd_409 rfl d_Mo_round_187 ?_
        refine lv_iconst (v := nI 2) E.1 E.2.1 d_Mo_round_190 (by decide) ?_
        refine x_ald E B 3 rfl (i := 2) (by omega) (by decide) d_Mo_round_191 ?_
        refine lv_istore (lv' := [(5, .int (Hf 2)), (4, .int (Hf 1)), (3, .int (Hf 0)), (0, .ref h0), (1, .int (nI fr)), (2, .int (nI (h_tot ln)))]) E.1 E.2.1 d_Mo_round_192 hl (by decide) rfl (fun ls hl => ?_)
        refine lv_aload_n E.1 E.2.1 d_Mo_round_194 rfl (lv_at hl 3 rfl) ?_
        refine x_get E B 0 rfl k_Mo 16 (by decide) wd_409 rfl d_Mo_round_195 ?_
        refine lv_iconst (v := nI 3) E.1 E.2.1 d_Mo_round_198 (by decide) ?_
        refine x_ald E B 3 rfl (i := 3) (by omega) (by decide) d_Mo_round_199 ?_
        refine lv_istore (lv' := [(6, .int (Hf 3)), (5, .int (Hf 2)), (4, .int (Hf 1)), (3, .int (Hf 0)), (0, .ref h0), (1, .int (nI fr)), (2, .int (nI (h_tot ln)))]) E.1 E.2.1 d_Mo_round_200 hl (by decide) rfl (fun ls hl => ?_)
        refine lv_aload_n E.1 E.2.1 d_Mo_round_202 rfl (lv_at hl 4 rfl) ?_
        refine x_get E B 0 rfl k_Mo 16 (by decide) wd_409 rfl d_Mo_round_203 ?_
        refine lv_iconst (v := nI 4) E.1 E.2.1 d_Mo_round_206 (by decide) ?_
        refine x_ald E B 3 rfl (i := 4) (by omega) (by decide) d_Mo_round_207 ?_
        refine lv_istore (lv' := [(7, .int (Hf 4)), (6, .int (Hf 3)), (5, .int (Hf 2)), (4, .int (Hf 1)), (3, .int (Hf 0)), (0, .ref h0), (1, .int (nI fr)), (2, .int (nI (h_tot ln)))]) E.1 E.2.1 d_Mo_round_208 hl (by decide) rfl (fun ls hl => ?_)
        refine lv_aload_n E.1 E.2.1 d_Mo_round_210 rfl (lv_at hl 5 rfl) ?_
        refine x_get E B 0 rfl k_Mo 16 (by decide) wd_409 rfl d_Mo_round_211 ?_
        refine lv_iconst (v := nI 5) E.1 E.2.1 d_Mo_round_214 (by decide) ?_
        refine x_ald E B 3 rfl (i := 5) (by omega) (by decide) d_Mo_round_215 ?_
        refine lv_istore (lv' := [(8, .int (Hf 5)), (7, .int (Hf 4)), (6, .int (Hf 3)), (5, .int (Hf 2)), (4, .int (Hf 1)), (3, .int (Hf 0)), (0, .ref h0), (1, .int (nI fr)), (2, .int (nI (h_tot ln)))]) E.1 E.2.1 d_Mo_round_216 hl (by decide) rfl (fun ls hl => ?_)
        refine lv_aload_n E.1 E.2.1 d_Mo_round_218 rfl (lv_at hl 6 rfl) ?_
        refine x_get E B 0 rfl k_Mo 16 (by decide) wd_409 rfl d_Mo_round_219 ?_
        refine lv_bipush (v := nI 6) E.1 E.2.1 d_Mo_round_222 (by decide) ?_
        refine x_ald E B 3 rfl (i := 6) (by omega) (by decide) d_Mo_round_224 ?_
        refine lv_istore (lv' := [(9, .int (Hf 6)), (8, .int (Hf 5)), (7, .int (Hf 4)), (6, .int (Hf 3)), (5, .int (Hf 2)), (4, .int (Hf 1)), (3, .int (Hf 0)), (0, .ref h0), (1, .int (nI fr)), (2, .int (nI (h_tot ln)))]) E.1 E.2.1 d_Mo_round_225 hl (by decide) rfl (fun ls hl => ?_)
        refine lv_aload_n E.1 E.2.1 d_Mo_round_227 rfl (lv_at hl 7 rfl) ?_
        refine x_get E B 0 rfl k_Mo 16 (by decide) wd_409 rfl d_Mo_round_228 ?_
        refine lv_bipush (v := nI 7) E.1 E.2.1 d_Mo_round_231 (by decide) ?_
        refine x_ald E B 3 rfl (i := 7) (by omega) (by decide) d_Mo_round_233 ?_
        refine lv_istore (lv' := [(10, .int (Hf 7)), (9, .int (Hf 6)), (8, .int (Hf 5)), (7, .int (Hf 4)), (6, .int (Hf 3)), (5, .int (Hf 2)), (4, .int (Hf 1)), (3, .int (Hf 0)), (0, .ref h0), (1, .int (nI fr)), (2, .int (nI (h_tot ln)))]) E.1 E.2.1 d_Mo_round_234 hl (by decide) rfl (fun ls hl => ?_)
        refine lv_iconst (v := nI 0) E.1 E.2.1 d_Mo_round_236 (by decide) ?_
        refine lv_istore (lv' := [(11, .int (nI 0)), (10, .int (Hf 7)), (9, .int (Hf 6)), (8, .int (Hf 5)), (7, .int (Hf 4)), (6, .int (Hf 3)), (5, .int (Hf 2)), (4, .int (Hf 1)), (3, .int (Hf 0)), (0, .ref h0), (1, .int (nI fr)), (2, .int (nI (h_tot ln)))]) E.1 E.2.1 d_Mo_round_237 hl (by decide) rfl (fun ls hl => ?_)
        have hL239 : ∀ (kf : Nat) (t : Nat), 64 - t < kf → (t ≤ 64) → ∀ (H : Heap) (locs : List Loc) (ls : Array Slot), xB G A s H locs ([(h0, .inr (6, [.int (nI cd), .ref kq, .ref cq, .int (nI rs), .int ck, .int lt, .ref lq, .ref pq, .ref oq, .int (nI os), .ref bq, .int tc, .int wr, .ref rq, .int (nI ln), .ref wq, .ref hq, .ref dq, .ref nq, .ref aq, .ref xq, .ref yq, .ref sq, .ref tq, .int (nI rd)])), (rq, x_N G 2000 f), (wq, x_I G 64 (h_w (h_P f ln) fr)), (hq, x_I G 8 Hf)]) → lv_has ls 14 [(11, .int (nI t)), (3, .int (h_rd Hf (h_w (h_P f ln) fr) t 0)), (4, .int (h_rd Hf (h_w (h_P f ln) fr) t 1)), (5, .int (h_rd Hf (h_w (h_P f ln) fr) t 2)), (6, .int (h_rd Hf (h_w (h_P f ln) fr) t 3)), (7, .int (h_rd Hf (h_w (h_P f ln) fr) t 4)), (8, .int (h_rd Hf (h_w (h_P f ln) fr) t 5)), (9, .int (h_rd Hf (h_w (h_P f ln) fr) t 6)), (10, .int (h_rd Hf (h_w (h_P f ln) fr) t 7)), (0, .ref h0)] → W p l e ({ frames := 1, cells := 0, slots := 0, locals := 23 }) s m args below meth c H locs 0 0 Q (F0 m 239 ls []) := by
          intro k239
          induction k239 with
          | zero =>
            intro t hk
            exact absurd hk (Nat.not_lt_zero _)
          | succ k239 ih239 =>
            intro t hk239 hi H locs ls B hl
            refine lv_iload E.1 E.2.1 d_Mo_round_239 (lv_at hl 0 rfl) ?_
            refine lv_bipush (v := nI 64) E.1 E.2.1 d_Mo_round_241 (by decide) ?_
            refine x_ge (tgt := 381) E d_Mo_round_243 (by decide) (by omega) (by omega) (fun c2 => ?_) (fun c2 => ?_)
            · obtain rfl : t = 64 := by omega
              refine lv_aload_n E.1 E.2.1 d_Mo_round_381 rfl (lv_at hl 9 rfl) ?_
              refine x_get E B 0 rfl k_Mo 16 (by decide) wd_409 rfl d_Mo_round_382 ?_
              refine lv_iconst (v := nI 0) E.1 E.2.1 d_Mo_round_385 (by decide) ?_
              refine lv_dup2_11 E.1 E.2.1 d_Mo_round_386 rfl rfl ?_
              refine x_ald E B 3 rfl (i := 0) (by omega) (by decide) d_Mo_round_387 ?_
              refine x_top (v' := (Hf 0)) (rfl) ?_
              refine lv_iload_n E.1 E.2.1 d_Mo_round_388 rfl (lv_at hl 1 rfl) ?_
              refine lv_iadd E.1 E.2.1 d_Mo_round_389 ?_
              refine x_ast E B 3 rfl (i := 0) (x := ((Hf 0) + (h_rd Hf (h_w (h_P f ln) fr) 64 0))) (by omega) (by decide) d_Mo_round_390 (fun H locs B => ?_)
              have B : xB G A s _ _ ([(h0, .inr (6, [.int (nI cd), .ref kq, .ref cq, .int (nI rs), .int ck, .int lt, .ref lq, .ref pq, .ref oq, .int (nI os), .ref bq, .int tc, .int wr, .ref rq, .int (nI ln), .ref wq, .ref hq, .ref dq, .ref nq, .ref aq, .ref xq, .ref yq, .ref sq, .ref tq, .int (nI rd)])), (rq, x_N G 2000 f), (wq, x_I G 64 (h_w (h_P f ln) fr)), (hq, x_I G 8 (upd Hf 0 ((Hf 0) + (h_rd Hf (h_w (h_P f ln) fr) 64 0))))]) := B
              refine lv_aload_n E.1 E.2.1 d_Mo_round_391 rfl (lv_at hl 9 rfl) ?_
              refine x_get E B 0 rfl k_Mo 16 (by decide) wd_409 rfl d_Mo_round_392 ?_
              refine lv_iconst (v := nI 1) E.1 E.2.1 d_Mo_round_395 (by decide) ?_
              refine lv_dup2_11 E.1 E.2.1 d_Mo_round_396 rfl rfl ?_
              refine x_ald E B 3 rfl (i := 1) (by omega) (by decide) d_Mo_round_397 ?_
              refine x_top (v' := (Hf 1)) (rfl) ?_
              refine lv_iload E.1 E.2.1 d_Mo_round_398 (lv_at hl 2 rfl) ?_
              refine lv_iadd E.1 E.2.1 d_Mo_round_400 ?_
              refine x_ast E B 3 rfl (i := 1) (x := ((Hf 1) + (h_rd Hf (h_w (h_P f ln) fr) 64 1))) (by omega) (by decide) d_Mo_round_401 (fun H locs B => ?_)
              have B : xB G A s _ _ ([(h0, .inr (6, [.int (nI cd), .ref kq, .ref cq, .int (nI rs), .int ck, .int lt, .ref lq, .ref pq, .ref oq, .int (nI os), .ref bq, .int tc, .int wr, .ref rq, .int (nI ln), .ref wq, .ref hq, .ref dq, .ref nq, .ref aq, .ref xq, .ref yq, .ref sq, .ref tq, .int (nI rd)])), (rq, x_N G 2000 f), (wq, x_I G 64 (h_w (h_P f ln) fr)), (hq, x_I G 8 (upd (upd Hf 0 ((Hf 0) + (h_rd Hf (h_w (h_P f ln) fr) 64 0))) 1 ((Hf 1) + (h_rd Hf (h_w (h_P f ln) fr) 64 1))))]) := B
              refine lv_aload_n E.1 E.2.1 d_Mo_round_402 rfl (lv_at hl 9 rfl) ?_
              refine x_get E B 0 rfl k_Mo 16 (by decide) wd_409 rfl d_Mo_round_403 ?_
              refine lv_iconst (v := nI 2) E.1 E.2.1 d_Mo_round_406 (by decide) ?_
              refine lv_dup2_11 E.1 E.2.1 d_Mo_round_407 rfl rfl ?_
              refine x_ald E B 3 rfl (i := 2) (by omega) (by decide) d_Mo_round_408 ?_
              refine x_top (v' := (Hf 2)) (rfl) ?_
              refine lv_iload E.1 E.2.1 d_Mo_round_409 (lv_at hl 3 rfl) ?_
              refine lv_iadd E.1 E.2.1 d_Mo_round_411 ?_
              refine x_ast E B 3 rfl (i := 2) (x := ((Hf 2) + (h_rd Hf (h_w (h_P f ln) fr) 64 2))) (by omega) (by decide) d_Mo_round_412 (fun H locs B => ?_)
              have B : xB G A s _ _ ([(h0, .inr (6, [.int (nI cd), .ref kq, .ref cq, .int (nI rs), .int ck, .int lt, .ref lq, .ref pq, .ref oq, .int (nI os), .ref bq, .int tc, .int wr, .ref rq, .int (nI ln), .ref wq, .ref hq, .ref dq, .ref nq, .ref aq, .ref xq, .ref yq, .ref sq, .ref tq, .int (nI rd)])), (rq, x_N G 2000 f), (wq, x_I G 64 (h_w (h_P f ln) fr)), (hq, x_I G 8 (upd (upd (upd Hf 0 ((Hf 0) + (h_rd Hf (h_w (h_P f ln) fr) 64 0))) 1 ((Hf 1) + (h_rd Hf (h_w (h_P f ln) fr) 64 1))) 2 ((Hf 2) + (h_rd Hf (h_w (h_P f ln) fr) 64 2))))]) := B
              refine lv_aload_n E.1 E.2.1 d_Mo_round_413 rfl (lv_at hl 9 rfl) ?_
              refine x_get E B 0 rfl k_Mo 16 (by decide) wd_409 rfl d_Mo_round_414 ?_
              refine lv_iconst (v := nI 3) E.1 E.2.1 d_Mo_round_417 (by decide) ?_
              refine lv_dup2_11 E.1 E.2.1 d_Mo_round_418 rfl rfl ?_
              refine x_ald E B 3 rfl (i := 3) (by omega) (by decide) d_Mo_round_419 ?_
              refine x_top (v' := (Hf 3)) (rfl) ?_
              refine lv_iload E.1 E.2.1 d_Mo_round_420 (lv_at hl 4 rfl) ?_
              refine lv_iadd E.1 E.2.1 d_Mo_round_422 ?_
              refine x_ast E B 3 rfl (i := 3) (x := ((Hf 3) + (h_rd Hf (h_w (h_P f ln) fr) 64 3))) (by omega) (by decide) d_Mo_round_423 (fun H locs B => ?_)
              have B : xB G A s _ _ ([(h0, .inr (6, [.int (nI cd), .ref kq, .ref cq, .int (nI rs), .int ck, .int lt, .ref lq, .ref pq, .ref oq, .int (nI os), .ref bq, .int tc, .int wr, .ref rq, .int (nI ln), .ref wq, .ref hq, .ref dq, .ref nq, .ref aq, .ref xq, .ref yq, .ref sq, .ref tq, .int (nI rd)])), (rq, x_N G 2000 f), (wq, x_I G 64 (h_w (h_P f ln) fr)), (hq, x_I G 8 (upd (upd (upd (upd Hf 0 ((Hf 0) + (h_rd Hf (h_w (h_P f ln) fr) 64 0))) 1 ((Hf 1) + (h_rd Hf (h_w (h_P f ln) fr) 64 1))) 2 ((Hf 2) + (h_rd Hf (h_w (h_P f ln) fr) 64 2))) 3 ((Hf 3) + (h_rd Hf (h_w (h_P f ln) fr) 64 3))))]) := B
              refine lv_aload_n E.1 E.2.1 d_Mo_round_424 rfl (lv_at hl 9 rfl) ?_
              refine x_get E B 0 rfl k_Mo 16 (by decide) wd_409 rfl d_Mo_round_425 ?_
              refine lv_iconst (v := nI 4) E.1 E.2.1 d_Mo_round_428 (by decide) ?_
              refine lv_dup2_11 E.1 E.2.1 d_Mo_round_429 rfl rfl ?_
              refine x_ald E B 3 rfl (i := 4) (by omega) (by decide) d_Mo_round_430 ?_
              refine x_top (v' := (Hf 4)) (rfl) ?_
              refine lv_iload E.1 E.2.1 d_Mo_round_431 (lv_at hl 5 rfl) ?_
              refine lv_iadd E.1 E.2.1 d_Mo_round_433 ?_
              refine x_ast E B 3 rfl (i := 4) (x := ((Hf 4) + (h_rd Hf (h_w (h_P f ln) fr) 64 4))) (by omega) (by decide) d_Mo_round_434 (fun H locs B => ?_)
              have B : xB G A s _ _ ([(h0, .inr (6, [.int (nI cd), .ref kq, .ref cq, .int (nI rs), .int ck, .int lt, .ref lq, .ref pq, .ref oq, .int (nI os), .ref bq, .int tc, .int wr, .ref rq, .int (nI ln), .ref wq, .ref hq, .ref dq, .ref nq, .ref aq, .ref xq, .ref yq, .ref sq, .ref tq, .int (nI rd)])), (rq, x_N G 2000 f), (wq, x_I G 64 (h_w (h_P f ln) fr)), (hq, x_I G 8 (upd (upd (upd (upd (upd Hf 0 ((Hf 0) + (h_rd Hf (h_w (h_P f ln) fr) 64 0))) 1 ((Hf 1) + (h_rd Hf (h_w (h_P f ln) fr) 64 1))) 2 ((Hf 2) + (h_rd Hf (h_w (h_P f ln) fr) 64 2))) 3 ((Hf 3) + (h_rd Hf (h_w (h_P f ln) fr) 64 3))) 4 ((Hf 4) + (h_rd Hf (h_w (h_P f ln) fr) 64 4))))]) := B
              refine lv_aload_n E.1 E.2.1 d_Mo_round_435 rfl (lv_at hl 9 rfl) ?_
              refine x_get E B 0 rfl k_Mo 16 (by decide) wd_409 rfl d_Mo_round_436 ?_
              refine lv_iconst (v := nI 5) E.1 E.2.1 d_Mo_round_439 (by decide) ?_
              refine lv_dup2_11 E.1 E.2.1 d_Mo_round_440 rfl rfl ?_
              refine x_ald E B 3 rfl (i := 5) (by omega) (by decide) d_Mo_round_441 ?_
              refine x_top (v' := (Hf 5)) (rfl) ?_
              refine lv_iload E.1 E.2.1 d_Mo_round_442 (lv_at hl 6 rfl) ?_
              refine lv_iadd E.1 E.2.1 d_Mo_round_444 ?_
              refine x_ast E B 3 rfl (i := 5) (x := ((Hf 5) + (h_rd Hf (h_w (h_P f ln) fr) 64 5))) (by omega) (by decide) d_Mo_round_445 (fun H locs B => ?_)
              have B : xB G A s _ _ ([(h0, .inr (6, [.int (nI cd), .ref kq, .ref cq, .int (nI rs), .int ck, .int lt, .ref lq, .ref pq, .ref oq, .int (nI os), .ref bq, .int tc, .int wr, .ref rq, .int (nI ln), .ref wq, .ref hq, .ref dq, .ref nq, .ref aq, .ref xq, .ref yq, .ref sq, .ref tq, .int (nI rd)])), (rq, x_N G 2000 f), (wq, x_I G 64 (h_w (h_P f ln) fr)), (hq, x_I G 8 (upd (upd (upd (upd (upd (upd Hf 0 ((Hf 0) + (h_rd Hf (h_w (h_P f ln) fr) 64 0))) 1 ((Hf 1) + (h_rd Hf (h_w (h_P f ln) fr) 64 1))) 2 ((Hf 2) + (h_rd Hf (h_w (h_P f ln) fr) 64 2))) 3 ((Hf 3) + (h_rd Hf (h_w (h_P f ln) fr) 64 3))) 4 ((Hf 4) + (h_rd Hf (h_w (h_P f ln) fr) 64 4))) 5 ((Hf 5) + (h_rd Hf (h_w (h_P f ln) fr) 64 5))))]) := B
              refine lv_aload_n E.1 E.2.1 d_Mo_round_446 rfl (lv_at hl 9 rfl) ?_
              refine x_get E B 0 rfl k_Mo 16 (by decide) wd_409 rfl d_Mo_round_447 ?_
              refine lv_bipush (v := nI 6) E.1 E.2.1 d_Mo_round_450 (by decide) ?_
              refine lv_dup2_11 E.1 E.2.1 d_Mo_round_452 rfl rfl ?_
              refine x_ald E B 3 rfl (i := 6) (by omega) (by decide) d_Mo_round_453 ?_
              refine x_top (v' := (Hf 6)) (rfl) ?_
              refine lv_iload E.1 E.2.1 d_Mo_round_454 (lv_at hl 7 rfl) ?_
              refine lv_iadd E.1 E.2.1 d_Mo_round_456 ?_
              refine x_ast E B 3 rfl (i := 6) (x := ((Hf 6) + (h_rd Hf (h_w (h_P f ln) fr) 64 6))) (by omega) (by decide) d_Mo_round_457 (fun H locs B => ?_)
              have B : xB G A s _ _ ([(h0, .inr (6, [.int (nI cd), .ref kq, .ref cq, .int (nI rs), .int ck, .int lt, .ref lq, .ref pq, .ref oq, .int (nI os), .ref bq, .int tc, .int wr, .ref rq, .int (nI ln), .ref wq, .ref hq, .ref dq, .ref nq, .ref aq, .ref xq, .ref yq, .ref sq, .ref tq, .int (nI rd)])), (rq, x_N G 2000 f), (wq, x_I G 64 (h_w (h_P f ln) fr)), (hq, x_I G 8 (upd (upd (upd (upd (upd (upd (upd Hf 0 ((Hf 0) + (h_rd Hf (h_w (h_P f ln) fr) 64 0))) 1 ((Hf 1) + (h_rd Hf (h_w (h_P f ln) fr) 64 1))) 2 ((Hf 2) + (h_rd Hf (h_w (h_P f ln) fr) 64 2))) 3 ((Hf 3) + (h_rd Hf (h_w (h_P f ln) fr) 64 3))) 4 ((Hf 4) + (h_rd Hf (h_w (h_P f ln) fr) 64 4))) 5 ((Hf 5) + (h_rd Hf (h_w (h_P f ln) fr) 64 5))) 6 ((Hf 6) + (h_rd Hf (h_w (h_P f ln) fr) 64 6))))]) := B
              refine lv_aload_n E.1 E.2.1 d_Mo_round_458 rfl (lv_at hl 9 rfl) ?_
              refine x_get E B 0 rfl k_Mo 16 (by decide) wd_409 rfl d_Mo_round_459 ?_
              refine lv_bipush (v := nI 7) E.1 E.2.1 d_Mo_round_462 (by decide) ?_
              refine lv_dup2_11 E.1 E.2.1 d_Mo_round_464 rfl rfl ?_
              refine x_ald E B 3 rfl (i := 7) (by omega) (by decide) d_Mo_round_465 ?_
              refine x_top (v' := (Hf 7)) (rfl) ?_
              refine lv_iload E.1 E.2.1 d_Mo_round_466 (lv_at hl 8 rfl) ?_
              refine lv_iadd E.1 E.2.1 d_Mo_round_468 ?_
              refine x_ast E B 3 rfl (i := 7) (x := ((Hf 7) + (h_rd Hf (h_w (h_P f ln) fr) 64 7))) (by omega) (by decide) d_Mo_round_469 (fun H locs B => ?_)
              have B : xB G A s _ _ ([(h0, .inr (6, [.int (nI cd), .ref kq, .ref cq, .int (nI rs), .int ck, .int lt, .ref lq, .ref pq, .ref oq, .int (nI os), .ref bq, .int tc, .int wr, .ref rq, .int (nI ln), .ref wq, .ref hq, .ref dq, .ref nq, .ref aq, .ref xq, .ref yq, .ref sq, .ref tq, .int (nI rd)])), (rq, x_N G 2000 f), (wq, x_I G 64 (h_w (h_P f ln) fr)), (hq, x_I G 8 (upd (upd (upd (upd (upd (upd (upd (upd Hf 0 ((Hf 0) + (h_rd Hf (h_w (h_P f ln) fr) 64 0))) 1 ((Hf 1) + (h_rd Hf (h_w (h_P f ln) fr) 64 1))) 2 ((Hf 2) + (h_rd Hf (h_w (h_P f ln) fr) 64 2))) 3 ((Hf 3) + (h_rd Hf (h_w (h_P f ln) fr) 64 3))) 4 ((Hf 4) + (h_rd Hf (h_w (h_P f ln) fr) 64 4))) 5 ((Hf 5) + (h_rd Hf (h_w (h_P f ln) fr) 64 5))) 6 ((Hf 6) + (h_rd Hf (h_w (h_P f ln) fr) 64 6))) 7 ((Hf 7) + (h_rd Hf (h_w (h_P f ln) fr) 64 7))))]) := B
              have B := B.fn 3 rfl (h_cp Hf (h_w (h_P f ln) fr)) (h_cpE (x := h_rd Hf (h_w (h_P f ln) fr) 64) (fun _ => rfl))
              have B : xB G A s _ _ ([(h0, .inr (6, [.int (nI cd), .ref kq, .ref cq, .int (nI rs), .int ck, .int lt, .ref lq, .ref pq, .ref oq, .int (nI os), .ref bq, .int tc, .int wr, .ref rq, .int (nI ln), .ref wq, .ref hq, .ref dq, .ref nq, .ref aq, .ref xq, .ref yq, .ref sq, .ref tq, .int (nI rd)])), (rq, x_N G 2000 f), (wq, x_I G 64 (h_w (h_P f ln) fr)), (hq, x_I G 8 (h_cp Hf (h_w (h_P f ln) fr)))]) := B
              exact hret () _ _ _ _ B trivial d_Mo_round_470
            · refine lv_iload E.1 E.2.1 d_Mo_round_246 (lv_at hl 8 rfl) ?_
              refine lv_iload E.1 E.2.1 d_Mo_round_248 (lv_at hl 5 rfl) ?_
              refine lv_bipush (v := nI 6) E.1 E.2.1 d_Mo_round_250 (by decide) ?_
              refine x_cf (x_rS (rest := [.int (h_rd Hf (h_w (h_P f ln) fr) t 7)]) E (q_Mo_right l (h_rd Hf (h_w (h_P f ln) fr) t 4) (nI 6) ) x_pf (gg_S wd_528 wd_529 wd_40 wd_530) p_Mo_right rfl rfl ⟨Nat.le_of_ble_eq_true rfl, Nat.le_of_ble_eq_true rfl⟩ rfl hl.1 rfl (Nat.le_of_ble_eq_true rfl) d_Mo_round_252 ⟨Nat.le_of_ble_eq_true rfl, Nat.le_of_ble_eq_true rfl⟩) ?_
              refine lv_iload E.1 E.2.1 d_Mo_round_255 (lv_at hl 5 rfl) ?_
              refine lv_bipush (v := nI 11) E.1 E.2.1 d_Mo_round_257 (by decide) ?_
              refine x_cf (x_rS (rest := [.int (h_r (h_rd Hf (h_w (h_P f ln) fr) t 4) (nI 6)), .int (h_rd Hf (h_w (h_P f ln) fr) t 7)]) E (q_Mo_right l (h_rd Hf (h_w (h_P f ln) fr) t 4) (nI 11) ) x_pf (gg_S wd_528 wd_529 wd_40 wd_530) p_Mo_right rfl rfl ⟨Nat.le_of_ble_eq_true rfl, Nat.le_of_ble_eq_true rfl⟩ rfl hl.1 rfl (Nat.le_of_ble_eq_true rfl) d_Mo_round_259 ⟨Nat.le_of_ble_eq_true rfl, Nat.le_of_ble_eq_true rfl⟩) ?_
              refine lv_ixor E.1 E.2.1 d_Mo_round_262 ?_
              refine lv_iload E.1 E.2.1 d_Mo_round_263 (lv_at hl 5 rfl) ?_
              refine lv_bipush (v := nI 25) E.1 E.2.1 d_Mo_round_265 (by decide) ?_
              refine x_cf (x_rS (rest := [.int ((h_r (h_rd Hf (h_w (h_P f ln) fr) t 4) (nI 6)) ^^^ (h_r (h_rd Hf (h_w (h_P f ln) fr) t 4) (nI 11))), .int (h_rd Hf (h_w (h_P f ln) fr) t 7)]) E (q_Mo_right l (h_rd Hf (h_w (h_P f ln) fr) t 4) (nI 25) ) x_pf (gg_S wd_528 wd_529 wd_40 wd_530) p_Mo_right rfl rfl ⟨Nat.le_of_ble_eq_true rfl, Nat.le_of_ble_eq_true rfl⟩ rfl hl.1 rfl (Nat.le_of_ble_eq_true rfl) d_Mo_round_267 ⟨Nat.le_of_ble_eq_true rfl, Nat.le_of_ble_eq_true rfl⟩) ?_
              refine lv_ixor E.1 E.2.1 d_Mo_round_270 ?_
              refine lv_iadd E.1 E.2.1 d_Mo_round_271 ?_
              refine lv_iload E.1 E.2.1 d_Mo_round_272 (lv_at hl 5 rfl) ?_
              refine lv_iload E.1 E.2.1 d_Mo_round_274 (lv_at hl 6 rfl) ?_
              refine lv_iand E.1 E.2.1 d_Mo_round_276 ?_
              refine lv_iload E.1 E.2.1 d_Mo_round_277 (lv_at hl 5 rfl) ?_
              refine lv_iconst (v := -1) E.1 E.2.1 d_Mo_round_279 (by decide) ?_
              refine lv_ixor E.1 E.2.1 d_Mo_round_280 ?_
              refine lv_iload E.1 E.2.1 d_Mo_round_281 (lv_at hl 7 rfl) ?_
              refine lv_iand E.1 E.2.1 d_Mo_round_283 ?_
              refine lv_ixor E.1 E.2.1 d_Mo_round_284 ?_
              refine lv_iadd E.1 E.2.1 d_Mo_round_285 ?_
              refine lv_iload E.1 E.2.1 d_Mo_round_286 (lv_at hl 0 rfl) ?_
              refine x_cf (x_rS (rest := [.int (((h_rd Hf (h_w (h_P f ln) fr) t 7) + (((h_r (h_rd Hf (h_w (h_P f ln) fr) t 4) (nI 6)) ^^^ (h_r (h_rd Hf (h_w (h_P f ln) fr) t 4) (nI 11))) ^^^ (h_r (h_rd Hf (h_w (h_P f ln) fr) t 4) (nI 25)))) + (((h_rd Hf (h_w (h_P f ln) fr) t 4) &&& (h_rd Hf (h_w (h_P f ln) fr) t 5)) ^^^ (((h_rd Hf (h_w (h_P f ln) fr) t 4) ^^^ (-1)) &&& (h_rd Hf (h_w (h_P f ln) fr) t 6))))]) E (q_Mo_constant l t (by omega)) x_pf (gg_S wd_531 wd_532 wd_40 wd_533) p_Mo_constant rfl rfl ⟨Nat.le_of_ble_eq_true rfl, Nat.le_of_ble_eq_true rfl⟩ rfl hl.1 rfl (Nat.le_of_ble_eq_true rfl) d_Mo_round_288 ⟨Nat.le_of_ble_eq_true rfl, Nat.le_of_ble_eq_true rfl⟩) ?_
              refine lv_iadd E.1 E.2.1 d_Mo_round_291 ?_
              refine lv_aload_n E.1 E.2.1 d_Mo_round_292 rfl (lv_at hl 9 rfl) ?_
              refine x_get E B 0 rfl k_Mo 15 (by decide) wd_408 rfl d_Mo_round_293 ?_
              refine lv_iload E.1 E.2.1 d_Mo_round_296 (lv_at hl 0 rfl) ?_
              refine x_ald E B 2 rfl (i := t) (by omega) (by decide) d_Mo_round_298 ?_
              refine lv_iadd E.1 E.2.1 d_Mo_round_299 ?_
              refine lv_istore (lv' := [(12, .int (((((h_rd Hf (h_w (h_P f ln) fr) t 7) + (((h_r (h_rd Hf (h_w (h_P f ln) fr) t 4) (nI 6)) ^^^ (h_r (h_rd Hf (h_w (h_P f ln) fr) t 4) (nI 11))) ^^^ (h_r (h_rd Hf (h_w (h_P f ln) fr) t 4) (nI 25)))) + (((h_rd Hf (h_w (h_P f ln) fr) t 4) &&& (h_rd Hf (h_w (h_P f ln) fr) t 5)) ^^^ (((h_rd Hf (h_w (h_P f ln) fr) t 4) ^^^ (-1)) &&& (h_rd Hf (h_w (h_P f ln) fr) t 6)))) + (k_K t)) + ((h_w (h_P f ln) fr) t))), (11, .int (nI t)), (3, .int (h_rd Hf (h_w (h_P f ln) fr) t 0)), (4, .int (h_rd Hf (h_w (h_P f ln) fr) t 1)), (5, .int (h_rd Hf (h_w (h_P f ln) fr) t 2)), (6, .int (h_rd Hf (h_w (h_P f ln) fr) t 3)), (7, .int (h_rd Hf (h_w (h_P f ln) fr) t 4)), (8, .int (h_rd Hf (h_w (h_P f ln) fr) t 5)), (9, .int (h_rd Hf (h_w (h_P f ln) fr) t 6)), (10, .int (h_rd Hf (h_w (h_P f ln) fr) t 7)), (0, .ref h0)]) E.1 E.2.1 d_Mo_round_300 hl (by decide) rfl (fun ls hl => ?_)
              refine lv_iload_n E.1 E.2.1 d_Mo_round_302 rfl (lv_at hl 2 rfl) ?_
              refine lv_iconst (v := nI 2) E.1 E.2.1 d_Mo_round_303 (by decide) ?_
              refine x_cf (x_rS (rest := []) E (q_Mo_right l (h_rd Hf (h_w (h_P f ln) fr) t 0) (nI 2) ) x_pf (gg_S wd_528 wd_529 wd_40 wd_530) p_Mo_right rfl rfl ⟨Nat.le_of_ble_eq_true rfl, Nat.le_of_ble_eq_true rfl⟩ rfl hl.1 rfl (Nat.le_of_ble_eq_true rfl) d_Mo_round_304 ⟨Nat.le_of_ble_eq_true rfl, Nat.le_of_ble_eq_true rfl⟩) ?_
              refine lv_iload_n E.1 E.2.1 d_Mo_round_307 rfl (lv_at hl 2 rfl) ?_
              refine lv_bipush (v := nI 13) E.1 E.2.1 d_Mo_round_308 (by decide) ?_
              refine x_cf (x_rS (rest := [.int (h_r (h_rd Hf (h_w (h_P f ln) fr) t 0) (nI 2))]) E (q_Mo_right l (h_rd Hf (h_w (h_P f ln) fr) t 0) (nI 13) ) x_pf (gg_S wd_528 wd_529 wd_40 wd_530) p_Mo_right rfl rfl ⟨Nat.le_of_ble_eq_true rfl, Nat.le_of_ble_eq_true rfl⟩ rfl hl.1 rfl (Nat.le_of_ble_eq_true rfl) d_Mo_round_310 ⟨Nat.le_of_ble_eq_true rfl, Nat.le_of_ble_eq_true rfl⟩) ?_
              refine lv_ixor E.1 E.2.1 d_Mo_round_313 ?_
              refine lv_iload_n E.1 E.2.1 d_Mo_round_314 rfl (lv_at hl 2 rfl) ?_
              refine lv_bipush (v := nI 22) E.1 E.2.1 d_Mo_round_315 (by decide) ?_
              refine x_cf (x_rS (rest := [.int ((h_r (h_rd Hf (h_w (h_P f ln) fr) t 0) (nI 2)) ^^^ (h_r (h_rd Hf (h_w (h_P f ln) fr) t 0) (nI 13)))]) E (q_Mo_right l (h_rd Hf (h_w (h_P f ln) fr) t 0) (nI 22) ) x_pf (gg_S wd_528 wd_529 wd_40 wd_530) p_Mo_right rfl rfl ⟨Nat.le_of_ble_eq_true rfl, Nat.le_of_ble_eq_true rfl⟩ rfl hl.1 rfl (Nat.le_of_ble_eq_true rfl) d_Mo_round_317 ⟨Nat.le_of_ble_eq_true rfl, Nat.le_of_ble_eq_true rfl⟩) ?_
              refine lv_ixor E.1 E.2.1 d_Mo_round_320 ?_
              refine lv_iload_n E.1 E.2.1 d_Mo_round_321 rfl (lv_at hl 2 rfl) ?_
              refine lv_iload E.1 E.2.1 d_Mo_round_322 (lv_at hl 3 rfl) ?_
              refine lv_iand E.1 E.2.1 d_Mo_round_324 ?_
              refine lv_iload_n E.1 E.2.1 d_Mo_round_325 rfl (lv_at hl 2 rfl) ?_
              refine lv_iload E.1 E.2.1 d_Mo_round_326 (lv_at hl 4 rfl) ?_
              refine lv_iand E.1 E.2.1 d_Mo_round_328 ?_
              refine lv_ixor E.1 E.2.1 d_Mo_round_329 ?_
              refine lv_iload E.1 E.2.1 d_Mo_round_330 (lv_at hl 3 rfl) ?_
              refine lv_iload E.1 E.2.1 d_Mo_round_332 (lv_at hl 4 rfl) ?_
              refine lv_iand E.1 E.2.1 d_Mo_round_334 ?_
              refine lv_ixor E.1 E.2.1 d_Mo_round_335 ?_
              refine lv_iadd E.1 E.2.1 d_Mo_round_336 ?_
              refine lv_istore (lv' := [(13, .int ((((h_r (h_rd Hf (h_w (h_P f ln) fr) t 0) (nI 2)) ^^^ (h_r (h_rd Hf (h_w (h_P f ln) fr) t 0) (nI 13))) ^^^ (h_r (h_rd Hf (h_w (h_P f ln) fr) t 0) (nI 22))) + ((((h_rd Hf (h_w (h_P f ln) fr) t 0) &&& (h_rd Hf (h_w (h_P f ln) fr) t 1)) ^^^ ((h_rd Hf (h_w (h_P f ln) fr) t 0) &&& (h_rd Hf (h_w (h_P f ln) fr) t 2))) ^^^ ((h_rd Hf (h_w (h_P f ln) fr) t 1) &&& (h_rd Hf (h_w (h_P f ln) fr) t 2))))), (12, .int (((((h_rd Hf (h_w (h_P f ln) fr) t 7) + (((h_r (h_rd Hf (h_w (h_P f ln) fr) t 4) (nI 6)) ^^^ (h_r (h_rd Hf (h_w (h_P f ln) fr) t 4) (nI 11))) ^^^ (h_r (h_rd Hf (h_w (h_P f ln) fr) t 4) (nI 25)))) + (((h_rd Hf (h_w (h_P f ln) fr) t 4) &&& (h_rd Hf (h_w (h_P f ln) fr) t 5)) ^^^ (((h_rd Hf (h_w (h_P f ln) fr) t 4) ^^^ (-1)) &&& (h_rd Hf (h_w (h_P f ln) fr) t 6)))) + (k_K t)) + ((h_w (h_P f ln) fr) t))), (11, .int (nI t)), (3, .int (h_rd Hf (h_w (h_P f ln) fr) t 0)), (4, .int (h_rd Hf (h_w (h_P f ln) fr) t 1)), (5, .int (h_rd Hf (h_w (h_P f ln) fr) t 2)), (6, .int (h_rd Hf (h_w (h_P f ln) fr) t 3)), (7, .int (h_rd Hf (h_w (h_P f ln) fr) t 4)), (8, .int (h_rd Hf (h_w (h_P f ln) fr) t 5)), (9, .int (h_rd Hf (h_w (h_P f ln) fr) t 6)), (10, .int (h_rd Hf (h_w (h_P f ln) fr) t 7)), (0, .ref h0)]) E.1 E.2.1 d_Mo_round_337 hl (by decide) rfl (fun ls hl => ?_)
              refine lv_iload E.1 E.2.1 d_Mo_round_339 (lv_at hl 9 rfl) ?_
              refine lv_istore (lv' := [(10, .int (h_rd Hf (h_w (h_P f ln) fr) t 6)), (13, .int ((((h_r (h_rd Hf (h_w (h_P f ln) fr) t 0) (nI 2)) ^^^ (h_r (h_rd Hf (h_w (h_P f ln) fr) t 0) (nI 13))) ^^^ (h_r (h_rd Hf (h_w (h_P f ln) fr) t 0) (nI 22))) + ((((h_rd Hf (h_w (h_P f ln) fr) t 0) &&& (h_rd Hf (h_w (h_P f ln) fr) t 1)) ^^^ ((h_rd Hf (h_w (h_P f ln) fr) t 0) &&& (h_rd Hf (h_w (h_P f ln) fr) t 2))) ^^^ ((h_rd Hf (h_w (h_P f ln) fr) t 1) &&& (h_rd Hf (h_w (h_P f ln) fr) t 2))))), (12, .int (((((h_rd Hf (h_w (h_P f ln) fr) t 7) + (((h_r (h_rd Hf (h_w (h_P f ln) fr) t 4) (nI 6)) ^^^ (h_r (h_rd Hf (h_w (h_P f ln) fr) t 4) (nI 11))) ^^^ (h_r (h_rd Hf (h_w (h_P f ln) fr) t 4) (nI 25)))) + (((h_rd Hf (h_w (h_P f ln) fr) t 4) &&& (h_rd Hf (h_w (h_P f ln) fr) t 5)) ^^^ (((h_rd Hf (h_w (h_P f ln) fr) t 4) ^^^ (-1)) &&& (h_rd Hf (h_w (h_P f ln) fr) t 6)))) + (k_K t)) + ((h_w (h_P f ln) fr) t))), (11, .int (nI t)), (3, .int (h_rd Hf (h_w (h_P f ln) fr) t 0)), (4, .int (h_rd Hf (h_w (h_P f ln) fr) t 1)), (5, .int (h_rd Hf (h_w (h_P f ln) fr) t 2)), (6, .int (h_rd Hf (h_w (h_P f ln) fr) t 3)), (7, .int (h_rd Hf (h_w (h_P f ln) fr) t 4)), (8, .int (h_rd Hf (h_w (h_P f ln) fr) t 5)), (9, .int (h_rd Hf (h_w (h_P f ln) fr) t 6)), (0, .ref h0)]) E.1 E.2.1 d_Mo_round_341 hl (by decide) rfl (fun ls hl => ?_)
              refine lv_iload E.1 E.2.1 d_Mo_round_343 (lv_at hl 9 rfl) ?_
              refine lv_istore (lv' := [(9, .int (h_rd Hf (h_w (h_P f ln) fr) t 5)), (10, .int (h_rd Hf (h_w (h_P f ln) fr) t 6)), (13, .int ((((h_r (h_rd Hf (h_w (h_P f ln) fr) t 0) (nI 2)) ^^^ (h_r (h_rd Hf (h_w (h_P f ln) fr) t 0) (nI 13))) ^^^ (h_r (h_rd Hf (h_w (h_P f ln) fr) t 0) (nI 22))) + ((((h_rd Hf (h_w (h_P f ln) fr) t 0) &&& (h_rd Hf (h_w (h_P f ln) fr) t 1)) ^^^ ((h_rd Hf (h_w (h_P f ln) fr) t 0) &&& (h_rd Hf (h_w (h_P f ln) fr) t 2))) ^^^ ((h_rd Hf (h_w (h_P f ln) fr) t 1) &&& (h_rd Hf (h_w (h_P f ln) fr) t 2))))), (12, .int (((((h_rd Hf (h_w (h_P f ln) fr) t 7) + (((h_r (h_rd Hf (h_w (h_P f ln) fr) t 4) (nI 6)) ^^^ (h_r (h_rd Hf (h_w (h_P f ln) fr) t 4) (nI 11))) ^^^ (h_r (h_rd Hf (h_w (h_P f ln) fr) t 4) (nI 25)))) + (((h_rd Hf (h_w (h_P f ln) fr) t 4) &&& (h_rd Hf (h_w (h_P f ln) fr) t 5)) ^^^ (((h_rd Hf (h_w (h_P f ln) fr) t 4) ^^^ (-1)) &&& (h_rd Hf (h_w (h_P f ln) fr) t 6)))) + (k_K t)) + ((h_w (h_P f ln) fr) t))), (11, .int (nI t)), (3, .int (h_rd Hf (h_w (h_P f ln) fr) t 0)), (4, .int (h_rd Hf (h_w (h_P f ln) fr) t 1)), (5, .int (h_rd Hf (h_w (h_P f ln) fr) t 2)), (6, .int (h_rd Hf (h_w (h_P f ln) fr) t 3)), (7, .int (h_rd Hf (h_w (h_P f ln) fr) t 4)), (8, .int (h_rd Hf (h_w (h_P f ln) fr) t 5)), (0, .ref h0)]) E.1 E.2.1 d_Mo_round_345 hl (by decide) rfl (fun ls hl => ?_)
              refine lv_iload E.1 E.2.1 d_Mo_round_347 (lv_at hl 9 rfl) ?_
              refine lv_istore (lv' := [(8, .int (h_rd Hf (h_w (h_P f ln) fr) t 4)), (9, .int (h_rd Hf (h_w (h_P f ln) fr) t 5)), (10, .int (h_rd Hf (h_w (h_P f ln) fr) t 6)), (13, .int ((((h_r (h_rd Hf (h_w (h_P f ln) fr) t 0) (nI 2)) ^^^ (h_r (h_rd Hf (h_w (h_P f ln) fr) t 0) (nI 13))) ^^^ (h_r (h_rd Hf (h_w (h_P f ln) fr) t 0) (nI 22))) + ((((h_rd Hf (h_w (h_P f ln) fr) t 0) &&& (h_rd Hf (h_w (h_P f ln) fr) t 1)) ^^^ ((h_rd Hf (h_w (h_P f ln) fr) t 0) &&& (h_rd Hf (h_w (h_P f ln) fr) t 2))) ^^^ ((h_rd Hf (h_w (h_P f ln) fr) t 1) &&& (h_rd Hf (h_w (h_P f ln) fr) t 2))))), (12, .int (((((h_rd Hf (h_w (h_P f ln) fr) t 7) + (((h_r (h_rd Hf (h_w (h_P f ln) fr) t 4) (nI 6)) ^^^ (h_r (h_rd Hf (h_w (h_P f ln) fr) t 4) (nI 11))) ^^^ (h_r (h_rd Hf (h_w (h_P f ln) fr) t 4) (nI 25)))) + (((h_rd Hf (h_w (h_P f ln) fr) t 4) &&& (h_rd Hf (h_w (h_P f ln) fr) t 5)) ^^^ (((h_rd Hf (h_w (h_P f ln) fr) t 4) ^^^ (-1)) &&& (h_rd Hf (h_w (h_P f ln) fr) t 6)))) + (k_K t)) + ((h_w (h_P f ln) fr) t))), (11, .int (nI t)), (3, .int (h_rd Hf (h_w (h_P f ln) fr) t 0)), (4, .int (h_rd Hf (h_w (h_P f ln) fr) t 1)), (5, .int (h_rd Hf (h_w (h_P f ln) fr) t 2)), (6, .int (h_rd Hf (h_w (h_P f ln) fr) t 3)), (7, .int (h_rd Hf (h_w (h_P f ln) fr) t 4)), (0, .ref h0)]) E.1 E.2.1 d_Mo_round_349 hl (by decide) rfl (fun ls hl => ?_)
              refine lv_iload E.1 E.2.1 d_Mo_round_351 (lv_at hl 9 rfl) ?_
              refine lv_iload E.1 E.2.1 d_Mo_round_353 (lv_at hl 4 rfl) ?_
              refine lv_iadd E.1 E.2.1 d_Mo_round_355 ?_
              refine lv_istore (lv' := [(7, .int ((h_rd Hf (h_w (h_P f ln) fr) t 3) + (((((h_rd Hf (h_w (h_P f ln) fr) t 7) + (((h_r (h_rd Hf (h_w (h_P f ln) fr) t 4) (nI 6)) ^^^ (h_r (h_rd Hf (h_w (h_P f ln) fr) t 4) (nI 11))) ^^^ (h_r (h_rd Hf (h_w (h_P f ln) fr) t 4) (nI 25)))) + (((h_rd Hf (h_w (h_P f ln) fr) t 4) &&& (h_rd Hf (h_w (h_P f ln) fr) t 5)) ^^^ (((h_rd Hf (h_w (h_P f ln) fr) t 4) ^^^ (-1)) &&& (h_rd Hf (h_w (h_P f ln) fr) t 6)))) + (k_K t)) + ((h_w (h_P f ln) fr) t)))), (8, .int (h_rd Hf (h_w (h_P f ln) fr) t 4)), (9, .int (h_rd Hf (h_w (h_P f ln) fr) t 5)), (10, .int (h_rd Hf (h_w (h_P f ln) fr) t 6)), (13, .int ((((h_r (h_rd Hf (h_w (h_P f ln) fr) t 0) (nI 2)) ^^^ (h_r (h_rd Hf (h_w (h_P f ln) fr) t 0) (nI 13))) ^^^ (h_r (h_rd Hf (h_w (h_P f ln) fr) t 0) (nI 22))) + ((((h_rd Hf (h_w (h_P f ln) fr) t 0) &&& (h_rd Hf (h_w (h_P f ln) fr) t 1)) ^^^ ((h_rd Hf (h_w (h_P f ln) fr) t 0) &&& (h_rd Hf (h_w (h_P f ln) fr) t 2))) ^^^ ((h_rd Hf (h_w (h_P f ln) fr) t 1) &&& (h_rd Hf (h_w (h_P f ln) fr) t 2))))), (12, .int (((((h_rd Hf (h_w (h_P f ln) fr) t 7) + (((h_r (h_rd Hf (h_w (h_P f ln) fr) t 4) (nI 6)) ^^^ (h_r (h_rd Hf (h_w (h_P f ln) fr) t 4) (nI 11))) ^^^ (h_r (h_rd Hf (h_w (h_P f ln) fr) t 4) (nI 25)))) + (((h_rd Hf (h_w (h_P f ln) fr) t 4) &&& (h_rd Hf (h_w (h_P f ln) fr) t 5)) ^^^ (((h_rd Hf (h_w (h_P f ln) fr) t 4) ^^^ (-1)) &&& (h_rd Hf (h_w (h_P f ln) fr) t 6)))) + (k_K t)) + ((h_w (h_P f ln) fr) t))), (11, .int (nI t)), (3, .int (h_rd Hf (h_w (h_P f ln) fr) t 0)), (4, .int (h_rd Hf (h_w (h_P f ln) fr) t 1)), (5, .int (h_rd Hf (h_w (h_P f ln) fr) t 2)), (6, .int (h_rd Hf (h_w (h_P f ln) fr) t 3)), (0, .ref h0)]) E.1 E.2.1 d_Mo_round_356 hl (by decide) rfl (fun ls hl => ?_)
              refine lv_iload E.1 E.2.1 d_Mo_round_358 (lv_at hl 9 rfl) ?_
              refine lv_istore (lv' := [(6, .int (h_rd Hf (h_w (h_P f ln) fr) t 2)), (7, .int ((h_rd Hf (h_w (h_P f ln) fr) t 3) + (((((h_rd Hf (h_w (h_P f ln) fr) t 7) + (((h_r (h_rd Hf (h_w (h_P f ln) fr) t 4) (nI 6)) ^^^ (h_r (h_rd Hf (h_w (h_P f ln) fr) t 4) (nI 11))) ^^^ (h_r (h_rd Hf (h_w (h_P f ln) fr) t 4) (nI 25)))) + (((h_rd Hf (h_w (h_P f ln) fr) t 4) &&& (h_rd Hf (h_w (h_P f ln) fr) t 5)) ^^^ (((h_rd Hf (h_w (h_P f ln) fr) t 4) ^^^ (-1)) &&& (h_rd Hf (h_w (h_P f ln) fr) t 6)))) + (k_K t)) + ((h_w (h_P f ln) fr) t)))), (8, .int (h_rd Hf (h_w (h_P f ln) fr) t 4)), (9, .int (h_rd Hf (h_w (h_P f ln) fr) t 5)), (10, .int (h_rd Hf (h_w (h_P f ln) fr) t 6)), (13, .int ((((h_r (h_rd Hf (h_w (h_P f ln) fr) t 0) (nI 2)) ^^^ (h_r (h_rd Hf (h_w (h_P f ln) fr) t 0) (nI 13))) ^^^ (h_r (h_rd Hf (h_w (h_P f ln) fr) t 0) (nI 22))) + ((((h_rd Hf (h_w (h_P f ln) fr) t 0) &&& (h_rd Hf (h_w (h_P f ln) fr) t 1)) ^^^ ((h_rd Hf (h_w (h_P f ln) fr) t 0) &&& (h_rd Hf (h_w (h_P f ln) fr) t 2))) ^^^ ((h_rd Hf (h_w (h_P f ln) fr) t 1) &&& (h_rd Hf (h_w (h_P f ln) fr) t 2))))), (12, .int (((((h_rd Hf (h_w (h_P f ln) fr) t 7) + (((h_r (h_rd Hf (h_w (h_P f ln) fr) t 4) (nI 6)) ^^^ (h_r (h_rd Hf (h_w (h_P f ln) fr) t 4) (nI 11))) ^^^ (h_r (h_rd Hf (h_w (h_P f ln) fr) t 4) (nI 25)))) + (((h_rd Hf (h_w (h_P f ln) fr) t 4) &&& (h_rd Hf (h_w (h_P f ln) fr) t 5)) ^^^ (((h_rd Hf (h_w (h_P f ln) fr) t 4) ^^^ (-1)) &&& (h_rd Hf (h_w (h_P f ln) fr) t 6)))) + (k_K t)) + ((h_w (h_P f ln) fr) t))), (11, .int (nI t)), (3, .int (h_rd Hf (h_w (h_P f ln) fr) t 0)), (4, .int (h_rd Hf (h_w (h_P f ln) fr) t 1)), (5, .int (h_rd Hf (h_w (h_P f ln) fr) t 2)), (0, .ref h0)]) E.1 E.2.1 d_Mo_round_360 hl (by decide) rfl (fun ls hl => ?_)
              refine lv_iload E.1 E.2.1 d_Mo_round_362 (lv_at hl 9 rfl) ?_
              refine lv_istore (lv' := [(5, .int (h_rd Hf (h_w (h_P f ln) fr) t 1)), (6, .int (h_rd Hf (h_w (h_P f ln) fr) t 2)), (7, .int ((h_rd Hf (h_w (h_P f ln) fr) t 3) + (((((h_rd Hf (h_w (h_P f ln) fr) t 7) + (((h_r (h_rd Hf (h_w (h_P f ln) fr) t 4) (nI 6)) ^^^ (h_r (h_rd Hf (h_w (h_P f ln) fr) t 4) (nI 11))) ^^^ (h_r (h_rd Hf (h_w (h_P f ln) fr) t 4) (nI 25)))) + (((h_rd Hf (h_w (h_P f ln) fr) t 4) &&& (h_rd Hf (h_w (h_P f ln) fr) t 5)) ^^^ (((h_rd Hf (h_w (h_P f ln) fr) t 4) ^^^ (-1)) &&& (h_rd Hf (h_w (h_P f ln) fr) t 6)))) + (k_K t)) + ((h_w (h_P f ln) fr) t)))), (8, .int (h_rd Hf (h_w (h_P f ln) fr) t 4)), (9, .int (h_rd Hf (h_w (h_P f ln) fr) t 5)), (10, .int (h_rd Hf (h_w (h_P f ln) fr) t 6)), (13, .int ((((h_r (h_rd Hf (h_w (h_P f ln) fr) t 0) (nI 2)) ^^^ (h_r (h_rd Hf (h_w (h_P f ln) fr) t 0) (nI 13))) ^^^ (h_r (h_rd Hf (h_w (h_P f ln) fr) t 0) (nI 22))) + ((((h_rd Hf (h_w (h_P f ln) fr) t 0) &&& (h_rd Hf (h_w (h_P f ln) fr) t 1)) ^^^ ((h_rd Hf (h_w (h_P f ln) fr) t 0) &&& (h_rd Hf (h_w (h_P f ln) fr) t 2))) ^^^ ((h_rd Hf (h_w (h_P f ln) fr) t 1) &&& (h_rd Hf (h_w (h_P f ln) fr) t 2))))), (12, .int (((((h_rd Hf (h_w (h_P f ln) fr) t 7) + (((h_r (h_rd Hf (h_w (h_P f ln) fr) t 4) (nI 6)) ^^^ (h_r (h_rd Hf (h_w (h_P f ln) fr) t 4) (nI 11))) ^^^ (h_r (h_rd Hf (h_w (h_P f ln) fr) t 4) (nI 25)))) + (((h_rd Hf (h_w (h_P f ln) fr) t 4) &&& (h_rd Hf (h_w (h_P f ln) fr) t 5)) ^^^ (((h_rd Hf (h_w (h_P f ln) fr) t 4) ^^^ (-1)) &&& (h_rd Hf (h_w (h_P f ln) fr) t 6)))) + (k_K t)) + ((h_w (h_P f ln) fr) t))), (11, .int (nI t)), (3, .int (h_rd Hf (h_w (h_P f ln) fr) t 0)), (4, .int (h_rd Hf (h_w (h_P f ln) fr) t 1)), (0, .ref h0)]) E.1 E.2.1 d_Mo_round_364 hl (by decide) rfl (fun ls hl => ?_)
              refine lv_iload_n E.1 E.2.1 d_Mo_round_366 rfl (lv_at hl 9 rfl) ?_
              refine lv_istore (lv' := [(4, .int (h_rd Hf (h_w (h_P f ln) fr) t 0)), (5, .int (h_rd Hf (h_w (h_P f ln) fr) t 1)), (6, .int (h_rd Hf (h_w (h_P f ln) fr) t 2)), (7, .int ((h_rd Hf (h_w (h_P f ln) fr) t 3) + (((((h_rd Hf (h_w (h_P f ln) fr) t 7) + (((h_r (h_rd Hf (h_w (h_P f ln) fr) t 4) (nI 6)) ^^^ (h_r (h_rd Hf (h_w (h_P f ln) fr) t 4) (nI 11))) ^^^ (h_r (h_rd Hf (h_w (h_P f ln) fr) t 4) (nI 25)))) + (((h_rd Hf (h_w (h_P f ln) fr) t 4) &&& (h_rd Hf (h_w (h_P f ln) fr) t 5)) ^^^ (((h_rd Hf (h_w (h_P f ln) fr) t 4) ^^^ (-1)) &&& (h_rd Hf (h_w (h_P f ln) fr) t 6)))) + (k_K t)) + ((h_w (h_P f ln) fr) t)))), (8, .int (h_rd Hf (h_w (h_P f ln) fr) t 4)), (9, .int (h_rd Hf (h_w (h_P f ln) fr) t 5)), (10, .int (h_rd Hf (h_w (h_P f ln) fr) t 6)), (13, .int ((((h_r (h_rd Hf (h_w (h_P f ln) fr) t 0) (nI 2)) ^^^ (h_r (h_rd Hf (h_w (h_P f ln) fr) t 0) (nI 13))) ^^^ (h_r (h_rd Hf (h_w (h_P f ln) fr) t 0) (nI 22))) + ((((h_rd Hf (h_w (h_P f ln) fr) t 0) &&& (h_rd Hf (h_w (h_P f ln) fr) t 1)) ^^^ ((h_rd Hf (h_w (h_P f ln) fr) t 0) &&& (h_rd Hf (h_w (h_P f ln) fr) t 2))) ^^^ ((h_rd Hf (h_w (h_P f ln) fr) t 1) &&& (h_rd Hf (h_w (h_P f ln) fr) t 2))))), (12, .int (((((h_rd Hf (h_w (h_P f ln) fr) t 7) + (((h_r (h_rd Hf (h_w (h_P f ln) fr) t 4) (nI 6)) ^^^ (h_r (h_rd Hf (h_w (h_P f ln) fr) t 4) (nI 11))) ^^^ (h_r (h_rd Hf (h_w (h_P f ln) fr) t 4) (nI 25)))) + (((h_rd Hf (h_w (h_P f ln) fr) t 4) &&& (h_rd Hf (h_w (h_P f ln) fr) t 5)) ^^^ (((h_rd Hf (h_w (h_P f ln) fr) t 4) ^^^ (-1)) &&& (h_rd Hf (h_w (h_P f ln) fr) t 6)))) + (k_K t)) + ((h_w (h_P f ln) fr) t))), (11, .int (nI t)), (3, .int (h_rd Hf (h_w (h_P f ln) fr) t 0)), (0, .ref h0)]) E.1 E.2.1 d_Mo_round_367 hl (by decide) rfl (fun ls hl => ?_)
              refine lv_iload E.1 E.2.1 d_Mo_round_369 (lv_at hl 8 rfl) ?_
              refine lv_iload E.1 E.2.1 d_Mo_round_371 (lv_at hl 7 rfl) ?_
              refine lv_iadd E.1 E.2.1 d_Mo_round_373 ?_
              refine lv_istore_n (lv' := [(3, .int ((((((h_rd Hf (h_w (h_P f ln) fr) t 7) + (((h_r (h_rd Hf (h_w (h_P f ln) fr) t 4) (nI 6)) ^^^ (h_r (h_rd Hf (h_w (h_P f ln) fr) t 4) (nI 11))) ^^^ (h_r (h_rd Hf (h_w (h_P f ln) fr) t 4) (nI 25)))) + (((h_rd Hf (h_w (h_P f ln) fr) t 4) &&& (h_rd Hf (h_w (h_P f ln) fr) t 5)) ^^^ (((h_rd Hf (h_w (h_P f ln) fr) t 4) ^^^ (-1)) &&& (h_rd Hf (h_w (h_P f ln) fr) t 6)))) + (k_K t)) + ((h_w (h_P f ln) fr) t)) + ((((h_r (h_rd Hf (h_w (h_P f ln) fr) t 0) (nI 2)) ^^^ (h_r (h_rd Hf (h_w (h_P f ln) fr) t 0) (nI 13))) ^^^ (h_r (h_rd Hf (h_w (h_P f ln) fr) t 0) (nI 22))) + ((((h_rd Hf (h_w (h_P f ln) fr) t 0) &&& (h_rd Hf (h_w (h_P f ln) fr) t 1)) ^^^ ((h_rd Hf (h_w (h_P f ln) fr) t 0) &&& (h_rd Hf (h_w (h_P f ln) fr) t 2))) ^^^ ((h_rd Hf (h_w (h_P f ln) fr) t 1) &&& (h_rd Hf (h_w (h_P f ln) fr) t 2)))))), (4, .int (h_rd Hf (h_w (h_P f ln) fr) t 0)), (5, .int (h_rd Hf (h_w (h_P f ln) fr) t 1)), (6, .int (h_rd Hf (h_w (h_P f ln) fr) t 2)), (7, .int ((h_rd Hf (h_w (h_P f ln) fr) t 3) + (((((h_rd Hf (h_w (h_P f ln) fr) t 7) + (((h_r (h_rd Hf (h_w (h_P f ln) fr) t 4) (nI 6)) ^^^ (h_r (h_rd Hf (h_w (h_P f ln) fr) t 4) (nI 11))) ^^^ (h_r (h_rd Hf (h_w (h_P f ln) fr) t 4) (nI 25)))) + (((h_rd Hf (h_w (h_P f ln) fr) t 4) &&& (h_rd Hf (h_w (h_P f ln) fr) t 5)) ^^^ (((h_rd Hf (h_w (h_P f ln) fr) t 4) ^^^ (-1)) &&& (h_rd Hf (h_w (h_P f ln) fr) t 6)))) + (k_K t)) + ((h_w (h_P f ln) fr) t)))), (8, .int (h_rd Hf (h_w (h_P f ln) fr) t 4)), (9, .int (h_rd Hf (h_w (h_P f ln) fr) t 5)), (10, .int (h_rd Hf (h_w (h_P f ln) fr) t 6)), (13, .int ((((h_r (h_rd Hf (h_w (h_P f ln) fr) t 0) (nI 2)) ^^^ (h_r (h_rd Hf (h_w (h_P f ln) fr) t 0) (nI 13))) ^^^ (h_r (h_rd Hf (h_w (h_P f ln) fr) t 0) (nI 22))) + ((((h_rd Hf (h_w (h_P f ln) fr) t 0) &&& (h_rd Hf (h_w (h_P f ln) fr) t 1)) ^^^ ((h_rd Hf (h_w (h_P f ln) fr) t 0) &&& (h_rd Hf (h_w (h_P f ln) fr) t 2))) ^^^ ((h_rd Hf (h_w (h_P f ln) fr) t 1) &&& (h_rd Hf (h_w (h_P f ln) fr) t 2))))), (12, .int (((((h_rd Hf (h_w (h_P f ln) fr) t 7) + (((h_r (h_rd Hf (h_w (h_P f ln) fr) t 4) (nI 6)) ^^^ (h_r (h_rd Hf (h_w (h_P f ln) fr) t 4) (nI 11))) ^^^ (h_r (h_rd Hf (h_w (h_P f ln) fr) t 4) (nI 25)))) + (((h_rd Hf (h_w (h_P f ln) fr) t 4) &&& (h_rd Hf (h_w (h_P f ln) fr) t 5)) ^^^ (((h_rd Hf (h_w (h_P f ln) fr) t 4) ^^^ (-1)) &&& (h_rd Hf (h_w (h_P f ln) fr) t 6)))) + (k_K t)) + ((h_w (h_P f ln) fr) t))), (11, .int (nI t)), (0, .ref h0)]) E.1 E.2.1 d_Mo_round_374 rfl hl (by decide) rfl (fun ls hl => ?_)
              refine x_inc E 1 (lv' := [(11, .int (nI (t + 1))), (3, .int ((((((h_rd Hf (h_w (h_P f ln) fr) t 7) + (((h_r (h_rd Hf (h_w (h_P f ln) fr) t 4) (nI 6)) ^^^ (h_r (h_rd Hf (h_w (h_P f ln) fr) t 4) (nI 11))) ^^^ (h_r (h_rd Hf (h_w (h_P f ln) fr) t 4) (nI 25)))) + (((h_rd Hf (h_w (h_P f ln) fr) t 4) &&& (h_rd Hf (h_w (h_P f ln) fr) t 5)) ^^^ (((h_rd Hf (h_w (h_P f ln) fr) t 4) ^^^ (-1)) &&& (h_rd Hf (h_w (h_P f ln) fr) t 6)))) + (k_K t)) + ((h_w (h_P f ln) fr) t)) + ((((h_r (h_rd Hf (h_w (h_P f ln) fr) t 0) (nI 2)) ^^^ (h_r (h_rd Hf (h_w (h_P f ln) fr) t 0) (nI 13))) ^^^ (h_r (h_rd Hf (h_w (h_P f ln) fr) t 0) (nI 22))) + ((((h_rd Hf (h_w (h_P f ln) fr) t 0) &&& (h_rd Hf (h_w (h_P f ln) fr) t 1)) ^^^ ((h_rd Hf (h_w (h_P f ln) fr) t 0) &&& (h_rd Hf (h_w (h_P f ln) fr) t 2))) ^^^ ((h_rd Hf (h_w (h_P f ln) fr) t 1) &&& (h_rd Hf (h_w (h_P f ln) fr) t 2)))))), (4, .int (h_rd Hf (h_w (h_P f ln) fr) t 0)), (5, .int (h_rd Hf (h_w (h_P f ln) fr) t 1)), (6, .int (h_rd Hf (h_w (h_P f ln) fr) t 2)), (7, .int ((h_rd Hf (h_w (h_P f ln) fr) t 3) + (((((h_rd Hf (h_w (h_P f ln) fr) t 7) + (((h_r (h_rd Hf (h_w (h_P f ln) fr) t 4) (nI 6)) ^^^ (h_r (h_rd Hf (h_w (h_P f ln) fr) t 4) (nI 11))) ^^^ (h_r (h_rd Hf (h_w (h_P f ln) fr) t 4) (nI 25)))) + (((h_rd Hf (h_w (h_P f ln) fr) t 4) &&& (h_rd Hf (h_w (h_P f ln) fr) t 5)) ^^^ (((h_rd Hf (h_w (h_P f ln) fr) t 4) ^^^ (-1)) &&& (h_rd Hf (h_w (h_P f ln) fr) t 6)))) + (k_K t)) + ((h_w (h_P f ln) fr) t)))), (8, .int (h_rd Hf (h_w (h_P f ln) fr) t 4)), (9, .int (h_rd Hf (h_w (h_P f ln) fr) t 5)), (10, .int (h_rd Hf (h_w (h_P f ln) fr) t 6)), (13, .int ((((h_r (h_rd Hf (h_w (h_P f ln) fr) t 0) (nI 2)) ^^^ (h_r (h_rd Hf (h_w (h_P f ln) fr) t 0) (nI 13))) ^^^ (h_r (h_rd Hf (h_w (h_P f ln) fr) t 0) (nI 22))) + ((((h_rd Hf (h_w (h_P f ln) fr) t 0) &&& (h_rd Hf (h_w (h_P f ln) fr) t 1)) ^^^ ((h_rd Hf (h_w (h_P f ln) fr) t 0) &&& (h_rd Hf (h_w (h_P f ln) fr) t 2))) ^^^ ((h_rd Hf (h_w (h_P f ln) fr) t 1) &&& (h_rd Hf (h_w (h_P f ln) fr) t 2))))), (12, .int (((((h_rd Hf (h_w (h_P f ln) fr) t 7) + (((h_r (h_rd Hf (h_w (h_P f ln) fr) t 4) (nI 6)) ^^^ (h_r (h_rd Hf (h_w (h_P f ln) fr) t 4) (nI 11))) ^^^ (h_r (h_rd Hf (h_w (h_P f ln) fr) t 4) (nI 25)))) + (((h_rd Hf (h_w (h_P f ln) fr) t 4) &&& (h_rd Hf (h_w (h_P f ln) fr) t 5)) ^^^ (((h_rd Hf (h_w (h_P f ln) fr) t 4) ^^^ (-1)) &&& (h_rd Hf (h_w (h_P f ln) fr) t 6)))) + (k_K t)) + ((h_w (h_P f ln) fr) t))), (0, .ref h0)]) d_Mo_round_375 hl (k := 10) rfl rfl (by decide) rfl (fun ls hl => ?_)
              refine lv_goto (tgt := 239) E.1 E.2.1 d_Mo_round_378 (by decide) ?_
              exact ih239  (t + 1) (by omega) (by omega) _ _ _ B (lv_sub hl [0, 1, 2, 3, 4, 5, 6, 7, 8, 11] rfl)
        exact hL239 (65) 0 (by omega) (by omega) _ _ _ B (lv_sub hl [0, 8, 7, 6, 5, 4, 3, 2, 1, 9] rfl)
      · refine lv_iload_n E.1 E.2.1 d_Mo_round_8 rfl (lv_at hl 0 rfl) ?_
        refine lv_bipush (v := nI 16) E.1 E.2.1 d_Mo_round_9 (by decide) ?_
        refine x_ge (tgt := 76) E d_Mo_round_11 (by decide) (by omega) (by omega) (fun c3 => ?_) (fun c3 => ?_)
        · refine lv_aload_n E.1 E.2.1 d_Mo_round_76 rfl (lv_at hl 1 rfl) ?_
          refine x_get E B 0 rfl k_Mo 15 (by decide) wd_408 rfl d_Mo_round_77 ?_
          refine lv_iload_n E.1 E.2.1 d_Mo_round_80 rfl (lv_at hl 0 rfl) ?_
          refine lv_bipush (v := nI 15) E.1 E.2.1 d_Mo_round_81 (by decide) ?_
          refine x_isub E d_Mo_round_83 (by omega) ?_
          refine x_ald E B 2 rfl (i := t - 15) (by omega) (by decide) d_Mo_round_84 ?_
          refine x_top (v' := (h_w (h_P f ln) fr (t - 15))) (mx_lt (by omega)) ?_
          refine lv_istore (lv' := [(4, .int (h_w (h_P f ln) fr (t - 15))), (3, .int (nI t)), (0, .ref h0), (1, .int (nI fr)), (2, .int (nI (h_tot ln)))]) E.1 E.2.1 d_Mo_round_85 hl (by decide) rfl (fun ls hl => ?_)
          refine lv_aload_n E.1 E.2.1 d_Mo_round_87 rfl (lv_at hl 2 rfl) ?_
          refine x_get E B 0 rfl k_Mo 15 (by decide) wd_408 rfl d_Mo_round_88 ?_
          refine lv_iload_n E.1 E.2.1 d_Mo_round_91 rfl (lv_at hl 1 rfl) ?_
          refine lv_iconst (v := nI 2) E.1 E.2.1 d_Mo_round_92 (by decide) ?_
          refine x_isub E d_Mo_round_93 (by omega) ?_
          refine x_ald E B 2 rfl (i := t - 2) (by omega) (by decide) d_Mo_round_94 ?_
          refine x_top (v' := (h_w (h_P f ln) fr (t - 2))) (mx_lt (by omega)) ?_
          refine lv_istore (lv' := [(5, .int (h_w (h_P f ln) fr (t - 2))), (4, .int (h_w (h_P f ln) fr (t - 15))), (3, .int (nI t)), (0, .ref h0), (1, .int (nI fr)), (2, .int (nI (h_tot ln)))]) E.1 E.2.1 d_Mo_round_95 hl (by decide) rfl (fun ls hl => ?_)
          refine lv_aload_n E.1 E.2.1 d_Mo_round_97 rfl (lv_at hl 3 rfl) ?_
          refine x_get E B 0 rfl k_Mo 15 (by decide) wd_408 rfl d_Mo_round_98 ?_
          refine lv_iload_n E.1 E.2.1 d_Mo_round_101 rfl (lv_at hl 2 rfl) ?_
          refine lv_aload_n E.1 E.2.1 d_Mo_round_102 rfl (lv_at hl 3 rfl) ?_
          refine x_get E B 0 rfl k_Mo 15 (by decide) wd_408 rfl d_Mo_round_103 ?_
          refine lv_iload_n E.1 E.2.1 d_Mo_round_106 rfl (lv_at hl 2 rfl) ?_
          refine lv_bipush (v := nI 16) E.1 E.2.1 d_Mo_round_107 (by decide) ?_
          refine x_isub E d_Mo_round_109 (by omega) ?_
          refine x_ald E B 2 rfl (i := t - 16) (by omega) (by decide) d_Mo_round_110 ?_
          refine x_top (v' := (h_w (h_P f ln) fr (t - 16))) (mx_lt (by omega)) ?_
          refine lv_iload E.1 E.2.1 d_Mo_round_111 (lv_at hl 1 rfl) ?_
          refine lv_bipush (v := nI 7) E.1 E.2.1 d_Mo_round_113 (by decide) ?_
          refine x_cf (x_rS (rest := [.int (h_w (h_P f ln) fr (t - 16)), .int (nI t), .ref wq]) E (q_Mo_right l (h_w (h_P f ln) fr (t - 15)) (nI 7) ) x_pf (gg_S wd_528 wd_529 wd_40 wd_530) p_Mo_right rfl rfl ⟨Nat.le_of_ble_eq_true rfl, Nat.le_of_ble_eq_true rfl⟩ rfl hl.1 rfl (Nat.le_of_ble_eq_true rfl) d_Mo_round_115 ⟨Nat.le_of_ble_eq_true rfl, Nat.le_of_ble_eq_true rfl⟩) ?_
          refine lv_iload E.1 E.2.1 d_Mo_round_118 (lv_at hl 1 rfl) ?_
          refine lv_bipush (v := nI 18) E.1 E.2.1 d_Mo_round_120 (by decide) ?_
          refine x_cf (x_rS (rest := [.int (h_r (h_w (h_P f ln) fr (t - 15)) (nI 7)), .int (h_w (h_P f ln) fr (t - 16)), .int (nI t), .ref wq]) E (q_Mo_right l (h_w (h_P f ln) fr (t - 15)) (nI 18) ) x_pf (gg_S wd_528 wd_529 wd_40 wd_530) p_Mo_right rfl rfl ⟨Nat.le_of_ble_eq_true rfl, Nat.le_of_ble_eq_true rfl⟩ rfl hl.1 rfl (Nat.le_of_ble_eq_true rfl) d_Mo_round_122 ⟨Nat.le_of_ble_eq_true rfl, Nat.le_of_ble_eq_true rfl⟩) ?_
          refine lv_ixor E.1 E.2.1 d_Mo_round_125 ?_
          refine lv_iload E.1 E.2.1 d_Mo_round_126 (lv_at hl 1 rfl) ?_
          refine lv_iconst (v := nI 3) E.1 E.2.1 d_Mo_round_128 (by decide) ?_
          refine lv_iushr (v := b_us (h_w (h_P f ln) fr (t - 15)) (nI 3)) E.1 E.2.1 d_Mo_round_129 rfl ?_
          refine lv_ixor E.1 E.2.1 d_Mo_round_130 ?_
          refine lv_iadd E.1 E.2.1 d_Mo_round_131 ?_
          refine lv_aload_n E.1 E.2.1 d_Mo_round_132 rfl (lv_at hl 3 rfl) ?_
          refine x_get E B 0 rfl k_Mo 15 (by decide) wd_408 rfl d_Mo_round_133 ?_
          refine lv_iload_n E.1 E.2.1 d_Mo_round_136 rfl (lv_at hl 2 rfl) ?_
          refine lv_bipush (v := nI 7) E.1 E.2.1 d_Mo_round_137 (by decide) ?_
          refine x_isub E d_Mo_round_139 (by omega) ?_
          refine x_ald E B 2 rfl (i := t - 7) (by omega) (by decide) d_Mo_round_140 ?_
          refine x_top (v' := (h_w (h_P f ln) fr (t - 7))) (mx_lt (by omega)) ?_
          refine lv_iadd E.1 E.2.1 d_Mo_round_141 ?_
          refine lv_iload E.1 E.2.1 d_Mo_round_142 (lv_at hl 0 rfl) ?_
          refine lv_bipush (v := nI 17) E.1 E.2.1 d_Mo_round_144 (by decide) ?_
          refine x_cf (x_rS (rest := [.int (((h_w (h_P f ln) fr (t - 16)) + (((h_r (h_w (h_P f ln) fr (t - 15)) (nI 7)) ^^^ (h_r (h_w (h_P f ln) fr (t - 15)) (nI 18))) ^^^ (b_us (h_w (h_P f ln) fr (t - 15)) (nI 3)))) + (h_w (h_P f ln) fr (t - 7))), .int (nI t), .ref wq]) E (q_Mo_right l (h_w (h_P f ln) fr (t - 2)) (nI 17) ) x_pf (gg_S wd_528 wd_529 wd_40 wd_530) p_Mo_right rfl rfl ⟨Nat.le_of_ble_eq_true rfl, Nat.le_of_ble_eq_true rfl⟩ rfl hl.1 rfl (Nat.le_of_ble_eq_true rfl) d_Mo_round_146 ⟨Nat.le_of_ble_eq_true rfl, Nat.le_of_ble_eq_true rfl⟩) ?_
          refine lv_iload E.1 E.2.1 d_Mo_round_149 (lv_at hl 0 rfl) ?_
          refine lv_bipush (v := nI 19) E.1 E.2.1 d_Mo_round_151 (by decide) ?_
          refine x_cf (x_rS (rest := [.int (h_r (h_w (h_P f ln) fr (t - 2)) (nI 17)), .int (((h_w (h_P f ln) fr (t - 16)) + (((h_r (h_w (h_P f ln) fr (t - 15)) (nI 7)) ^^^ (h_r (h_w (h_P f ln) fr (t - 15)) (nI 18))) ^^^ (b_us (h_w (h_P f ln) fr (t - 15)) (nI 3)))) + (h_w (h_P f ln) fr (t - 7))), .int (nI t), .ref wq]) E (q_Mo_right l (h_w (h_P f ln) fr (t - 2)) (nI 19) ) x_pf (gg_S wd_528 wd_529 wd_40 wd_530) p_Mo_right rfl rfl ⟨Nat.le_of_ble_eq_true rfl, Nat.le_of_ble_eq_true rfl⟩ rfl hl.1 rfl (Nat.le_of_ble_eq_true rfl) d_Mo_round_153 ⟨Nat.le_of_ble_eq_true rfl, Nat.le_of_ble_eq_true rfl⟩) ?_
          refine lv_ixor E.1 E.2.1 d_Mo_round_156 ?_
          refine lv_iload E.1 E.2.1 d_Mo_round_157 (lv_at hl 0 rfl) ?_
          refine lv_bipush (v := nI 10) E.1 E.2.1 d_Mo_round_159 (by decide) ?_
          refine lv_iushr (v := b_us (h_w (h_P f ln) fr (t - 2)) (nI 10)) E.1 E.2.1 d_Mo_round_161 rfl ?_
          refine lv_ixor E.1 E.2.1 d_Mo_round_162 ?_
          refine lv_iadd E.1 E.2.1 d_Mo_round_163 ?_
          refine x_ast E B 2 rfl (i := t) (x := ((((h_w (h_P f ln) fr (t - 16)) + (((h_r (h_w (h_P f ln) fr (t - 15)) (nI 7)) ^^^ (h_r (h_w (h_P f ln) fr (t - 15)) (nI 18))) ^^^ (b_us (h_w (h_P f ln) fr (t - 15)) (nI 3)))) + (h_w (h_P f ln) fr (t - 7))) + (((h_r (h_w (h_P f ln) fr (t - 2)) (nI 17)) ^^^ (h_r (h_w (h_P f ln) fr (t - 2)) (nI 19))) ^^^ (b_us (h_w (h_P f ln) fr (t - 2)) (nI 10))))) (by omega) (by decide) d_Mo_round_164 (fun H locs B => ?_)
          have B : xB G A s _ _ ([(h0, .inr (6, [.int (nI cd), .ref kq, .ref cq, .int (nI rs), .int ck, .int lt, .ref lq, .ref pq, .ref oq, .int (nI os), .ref bq, .int tc, .int wr, .ref rq, .int (nI ln), .ref wq, .ref hq, .ref dq, .ref nq, .ref aq, .ref xq, .ref yq, .ref sq, .ref tq, .int (nI rd)])), (rq, x_N G 2000 f), (wq, x_I G 64 (upd (mx t (h_w (h_P f ln) fr) w0) t ((((h_w (h_P f ln) fr (t - 16)) + (((h_r (h_w (h_P f ln) fr (t - 15)) (nI 7)) ^^^ (h_r (h_w (h_P f ln) fr (t - 15)) (nI 18))) ^^^ (b_us (h_w (h_P f ln) fr (t - 15)) (nI 3)))) + (h_w (h_P f ln) fr (t - 7))) + (((h_r (h_w (h_P f ln) fr (t - 2)) (nI 17)) ^^^ (h_r (h_w (h_P f ln) fr (t - 2)) (nI 19))) ^^^ (b_us (h_w (h_P f ln) fr (t - 2)) (nI 10)))))), (hq, x_I G 8 Hf)]) := B
          have B := B.fn 2 rfl (mx (t + 1) (h_w (h_P f ln) fr) w0) (mx_fi (h_w_1 (by omega)).symm)
          have B : xB G A s _ _ ([(h0, .inr (6, [.int (nI cd), .ref kq, .ref cq, .int (nI rs), .int ck, .int lt, .ref lq, .ref pq, .ref oq, .int (nI os), .ref bq, .int tc, .int wr, .ref rq, .int (nI ln), .ref wq, .ref hq, .ref dq, .ref nq, .ref aq, .ref xq, .ref yq, .ref sq, .ref tq, .int (nI rd)])), (rq, x_N G 2000 f), (wq, x_I G 64 (mx (t + 1) (h_w (h_P f ln) fr) w0)), (hq, x_I G 8 Hf)]) := B
          refine x_inc E 1 (lv' := [(3, .int (nI (t + 1))), (5, .int (h_w (h_P f ln) fr (t - 2))), (4, .int (h_w (h_P f ln) fr (t - 15))), (0, .ref h0), (1, .int (nI fr)), (2, .int (nI (h_tot ln)))]) d_Mo_round_165 hl (k := 2) rfl rfl (by decide) rfl (fun ls hl => ?_)
          refine lv_goto (tgt := 2) E.1 E.2.1 d_Mo_round_168 (by decide) ?_
          exact ih2  (t + 1) (by omega) (by omega) _ _ _ B (lv_sub hl [0, 3, 4, 5] rfl)
        · refine lv_iload_n E.1 E.2.1 d_Mo_round_14 rfl (lv_at hl 2 rfl) ?_
          refine lv_iconst (v := nI 4) E.1 E.2.1 d_Mo_round_15 (by decide) ?_
          refine lv_iload_n E.1 E.2.1 d_Mo_round_16 rfl (lv_at hl 0 rfl) ?_
          refine x_imul E d_Mo_round_17 ?_
          refine x_iadd E d_Mo_round_18 ?_
          refine lv_istore (lv' := [(4, .int (nI (fr + (4 * t)))), (3, .int (nI t)), (0, .ref h0), (1, .int (nI fr)), (2, .int (nI (h_tot ln)))]) E.1 E.2.1 d_Mo_round_19 hl (by decide) rfl (fun ls hl => ?_)
          refine lv_aload_n E.1 E.2.1 d_Mo_round_21 rfl (lv_at hl 2 rfl) ?_
          refine x_get E B 0 rfl k_Mo 15 (by decide) wd_408 rfl d_Mo_round_22 ?_
          refine lv_iload_n E.1 E.2.1 d_Mo_round_25 rfl (lv_at hl 1 rfl) ?_
          refine lv_aload_n E.1 E.2.1 d_Mo_round_26 rfl (lv_at hl 2 rfl) ?_
          refine lv_iload E.1 E.2.1 d_Mo_round_27 (lv_at hl 0 rfl) ?_
          refine lv_iload_n E.1 E.2.1 d_Mo_round_29 rfl (lv_at hl 4 rfl) ?_
          refine x_cf (x_rV (rest := [.int (nI t), .ref wq]) E B (q_Mo_padded G l h0 cd kq cq rs lq pq oq os bq rq ln wq hq dq nq aq xq yq sq tq rd ck lt tc wr (fr + (4 * t)) f (hc) (by omega) _) (x_pre B [0, 1] rfl (by decide) x_ro0) 0 rfl k_Mo (gg_V wd_524 wd_526 wd_23 wd_40 wd_527) ⟨rfl, p_Mo_padded⟩ rfl rfl ⟨Nat.le_of_ble_eq_true rfl, Nat.le_of_ble_eq_true rfl⟩ rfl hl.1 rfl (Nat.le_of_ble_eq_true rfl) d_Mo_round_30 ⟨Nat.le_of_ble_eq_true rfl, Nat.le_of_ble_eq_true rfl⟩) ?_
          refine lv_bipush (v := nI 24) E.1 E.2.1 d_Mo_round_33 (by decide) ?_
          refine lv_ishl E.1 E.2.1 d_Mo_round_35 ?_
          refine lv_aload_n E.1 E.2.1 d_Mo_round_36 rfl (lv_at hl 2 rfl) ?_
          refine lv_iload E.1 E.2.1 d_Mo_round_37 (lv_at hl 0 rfl) ?_
          refine lv_iconst (v := nI 1) E.1 E.2.1 d_Mo_round_39 (by decide) ?_
          refine x_iadd E d_Mo_round_40 ?_
          refine lv_iload_n E.1 E.2.1 d_Mo_round_41 rfl (lv_at hl 4 rfl) ?_
          refine x_cf (x_rV (rest := [.int ((nI (h_P f ln (fr + (4 * t)))) <<< ((nI 24) &&& 31)), .int (nI t), .ref wq]) E B (q_Mo_padded G l h0 cd kq cq rs lq pq oq os bq rq ln wq hq dq nq aq xq yq sq tq rd ck lt tc wr ((fr + (4 * t)) + 1) f (hc) (by omega) _) (x_pre B [0, 1] rfl (by decide) x_ro0) 0 rfl k_Mo (gg_V wd_524 wd_526 wd_23 wd_40 wd_527) ⟨rfl, p_Mo_padded⟩ rfl rfl ⟨Nat.le_of_ble_eq_true rfl, Nat.le_of_ble_eq_true rfl⟩ rfl hl.1 rfl (Nat.le_of_ble_eq_true rfl) d_Mo_round_42 ⟨Nat.le_of_ble_eq_true rfl, Nat.le_of_ble_eq_true rfl⟩) ?_
          refine lv_bipush (v := nI 16) E.1 E.2.1 d_Mo_round_45 (by decide) ?_
          refine lv_ishl E.1 E.2.1 d_Mo_round_47 ?_
          refine lv_ior E.1 E.2.1 d_Mo_round_48 ?_
          refine lv_aload_n E.1 E.2.1 d_Mo_round_49 rfl (lv_at hl 2 rfl) ?_
          refine lv_iload E.1 E.2.1 d_Mo_round_50 (lv_at hl 0 rfl) ?_
          refine lv_iconst (v := nI 2) E.1 E.2.1 d_Mo_round_52 (by decide) ?_
          refine x_iadd E d_Mo_round_53 ?_
          refine lv_iload_n E.1 E.2.1 d_Mo_round_54 rfl (lv_at hl 4 rfl) ?_
          refine x_cf (x_rV (rest := [.int (((nI (h_P f ln (fr + (4 * t)))) <<< ((nI 24) &&& 31)) ||| ((nI (h_P f ln ((fr + (4 * t)) + 1))) <<< ((nI 16) &&& 31))), .int (nI t), .ref wq]) E B (q_Mo_padded G l h0 cd kq cq rs lq pq oq os bq rq ln wq hq dq nq aq xq yq sq tq rd ck lt tc wr ((fr + (4 * t)) + 2) f (hc) (by omega) _) (x_pre B [0, 1] rfl (by decide) x_ro0) 0 rfl k_Mo (gg_V wd_524 wd_526 wd_23 wd_40 wd_527) ⟨rfl, p_Mo_padded⟩ rfl rfl ⟨Nat.le_of_ble_eq_true rfl, Nat.le_of_ble_eq_true rfl⟩ rfl hl.1 rfl (Nat.le_of_ble_eq_true rfl) d_Mo_round_55 ⟨Nat.le_of_ble_eq_true rfl, Nat.le_of_ble_eq_true rfl⟩) ?_
          refine lv_bipush (v := nI 8) E.1 E.2.1 d_Mo_round_58 (by decide) ?_
          refine lv_ishl E.1 E.2.1 d_Mo_round_60 ?_
          refine lv_ior E.1 E.2.1 d_Mo_round_61 ?_
          refine lv_aload_n E.1 E.2.1 d_Mo_round_62 rfl (lv_at hl 2 rfl) ?_
          refine lv_iload E.1 E.2.1 d_Mo_round_63 (lv_at hl 0 rfl) ?_
          refine lv_iconst (v := nI 3) E.1 E.2.1 d_Mo_round_65 (by decide) ?_
          refine x_iadd E d_Mo_round_66 ?_
          refine lv_iload_n E.1 E.2.1 d_Mo_round_67 rfl (lv_at hl 4 rfl) ?_
          refine x_cf (x_rV (rest := [.int ((((nI (h_P f ln (fr + (4 * t)))) <<< ((nI 24) &&& 31)) ||| ((nI (h_P f ln ((fr + (4 * t)) + 1))) <<< ((nI 16) &&& 31))) ||| ((nI (h_P f ln ((fr + (4 * t)) + 2))) <<< ((nI 8) &&& 31))), .int (nI t), .ref wq]) E B (q_Mo_padded G l h0 cd kq cq rs lq pq oq os bq rq ln wq hq dq nq aq xq yq sq tq rd ck lt tc wr ((fr + (4 * t)) + 3) f (hc) (by omega) _) (x_pre B [0, 1] rfl (by decide) x_ro0) 0 rfl k_Mo (gg_V wd_524 wd_526 wd_23 wd_40 wd_527) ⟨rfl, p_Mo_padded⟩ rfl rfl ⟨Nat.le_of_ble_eq_true rfl, Nat.le_of_ble_eq_true rfl⟩ rfl hl.1 rfl (Nat.le_of_ble_eq_true rfl) d_Mo_round_68 ⟨Nat.le_of_ble_eq_true rfl, Nat.le_of_ble_eq_true rfl⟩) ?_
          refine lv_ior E.1 E.2.1 d_Mo_round_71 ?_
          refine x_top (v' := nI (h_ac (h_P f ln) (fr + 4 * t) 4)) (h_w4 (h_P_lt hf) _) ?_
          refine x_ast E B 2 rfl (i := t) (x := (nI (h_ac (h_P f ln) (fr + 4 * t) 4))) (by omega) (by decide) d_Mo_round_72 (fun H locs B => ?_)
          have B : xB G A s _ _ ([(h0, .inr (6, [.int (nI cd), .ref kq, .ref cq, .int (nI rs), .int ck, .int lt, .ref lq, .ref pq, .ref oq, .int (nI os), .ref bq, .int tc, .int wr, .ref rq, .int (nI ln), .ref wq, .ref hq, .ref dq, .ref nq, .ref aq, .ref xq, .ref yq, .ref sq, .ref tq, .int (nI rd)])), (rq, x_N G 2000 f), (wq, x_I G 64 (upd (mx t (h_w (h_P f ln) fr) w0) t (nI (h_ac (h_P f ln) (fr + 4 * t) 4)))), (hq, x_I G 8 Hf)]) := B
          have B := B.fn 2 rfl (mx (t + 1) (h_w (h_P f ln) fr) w0) (mx_fi (h_w_0 (by omega)).symm)
          have B : xB G A s _ _ ([(h0, .inr (6, [.int (nI cd), .ref kq, .ref cq, .int (nI rs), .int ck, .int lt, .ref lq, .ref pq, .ref oq, .int (nI os), .ref bq, .int tc, .int wr, .ref rq, .int (nI ln), .ref wq, .ref hq, .ref dq, .ref nq, .ref aq, .ref xq, .ref yq, .ref sq, .ref tq, .int (nI rd)])), (rq, x_N G 2000 f), (wq, x_I G 64 (mx (t + 1) (h_w (h_P f ln) fr) w0)), (hq, x_I G 8 Hf)]) := B
          refine lv_goto (tgt := 165) E.1 E.2.1 d_Mo_round_73 (by decide) ?_
          refine x_inc E 1 (lv' := [(3, .int (nI (t + 1))), (4, .int (nI (fr + (4 * t)))), (0, .ref h0), (1, .int (nI fr)), (2, .int (nI (h_tot ln)))]) d_Mo_round_165 hl (k := 1) rfl rfl (by decide) rfl (fun ls hl => ?_)
          refine lv_goto (tgt := 2) E.1 E.2.1 d_Mo_round_168 (by decide) ?_
          exact ih2  (t + 1) (by omega) (by omega) _ _ _ B (lv_sub hl [0, 2, 3, 4] rfl)
  have B := B.fn 2 rfl (mx 0 (h_w (h_P f ln) fr) w0) (mx_zi _ _)
  have B : xB G A s _ _ ([(h0, .inr (6, [.int (nI cd), .ref kq, .ref cq, .int (nI rs), .int ck, .int lt, .ref lq, .ref pq, .ref oq, .int (nI os), .ref bq, .int tc, .int wr, .ref rq, .int (nI ln), .ref wq, .ref hq, .ref dq, .ref nq, .ref aq, .ref xq, .ref yq, .ref sq, .ref tq, .int (nI rd)])), (rq, x_N G 2000 f), (wq, x_I G 64 (mx 0 (h_w (h_P f ln) fr) w0)), (hq, x_I G 8 Hf)]) := B
  exact hL2 (65) 0 (by omega) (by omega) _ _ _ B (lv_sub hl [0, 1, 2, 3] rfl)
