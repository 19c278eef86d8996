set_option maxHeartbeats 4000000 in
set_option maxRecDepth 100000 in
theorem s_X12_passed_L104 (x9_280 : Int32) (o_paperHigh82_320 : Int32) (o_paperShape82_321 : Int32) (o_highAt82_322 : Nat → Int32) (o_shapeAt82_324 : Nat → Int32) (o_atA98_353 : Int32) (o_atB98_354 : Int32) (o_atD98_355 : Int32) (o_atF98_356 : Int32) (o_atG98_357 : Int32) (o_atH98_358 : Int32) (o_atL98_359 : Int32) (o_atM98_360 : Int32) (o_atN98_361 : Int32) (o_atS98_362 : Int32) (o_atT98_363 : Int32) (o_atU98_364 : Int32) (o_atX98_365 : Int32) (o_first98_366 : Nat → Int32) (o_greatest98_367 : Nat → Int32) (o_isRefused98_368 : Nat → Int32) (o_last98_369 : Nat → Int32) (o_marked98_370 : Nat → Int32) (o_worth98_371 : Nat → Int32) (K72 : Int32 → Int32 → Int32 → Int32 → Int32 → Int32 → Int32 → Int32 → Int32 → Int32 → Int32 → Int32 → Int32 → Int32 → Int32 → Int32 → Int32 → Int32 → Int32 → (Nat → Int32) → (Nat → Int32) → (Nat → Int32) → (Nat → Int32) → (Nat → Int32) → (Nat → Int32) → (Nat → Int32) → (Nat → Int32) → Option (Int32 × Int32 × Int32 × Int32 × Int32 × Int32 × Int32 × Int32 × Int32 × Int32 × Int32 × Int32 × Int32 × Int32 × Int32 × Int32 × (Nat → Int32) × (Nat → Int32) × (Nat → Int32) × (Nat → Int32) × (Nat → Int32) × (Nat → Int32) × (Nat → Int32) × (Nat → Int32))) (hp0 : mkOK o_marked98_370) (hK72 : ∀ (a0 : Int32) (a1 : Int32) (a2 : Int32) (a3 : Int32) (a4 : Int32) (a5 : Int32) (a6 : Int32) (a7 : Int32) (a8 : Int32) (a9 : Int32) (a10 : Int32) (a11 : Int32) (a12 : Int32) (a13 : Int32) (a14 : Int32) (a15 : Int32) (a16 : Int32) (a17 : Int32) (a18 : Int32) (a19 : Nat → Int32) (a20 : Nat → Int32) (a21 : Nat → Int32) (a22 : Nat → Int32) (a23 : Nat → Int32) (a24 : Nat → Int32) (a25 : Nat → Int32) (a26 : Nat → Int32), (a3.toInt = x9_280.toInt + 1) → (mkOK a24) → Sf (K72 a0 a1 a2 a3 a4 a5 a6 a7 a8 a9 a10 a11 a12 a13 a14 a15 a16 a17 a18 a19 a20 a21 a22 a23 a24 a25 a26) (fun (y : Int32 × Int32 × Int32 × Int32 × Int32 × Int32 × Int32 × Int32 × Int32 × Int32 × Int32 × Int32 × Int32 × Int32 × Int32 × Int32 × (Nat → Int32) × (Nat → Int32) × (Nat → Int32) × (Nat → Int32) × (Nat → Int32) × (Nat → Int32) × (Nat → Int32) × (Nat → Int32)) => (mkOK (y.2.2.2.2.2.2.2.2.2.2.2.2.2.2.2.2.2.2.2.2.2.1)))) : ∀ (n : Nat) (x6_377 : Int32) (x7_378 : Int32) (x8_379 : Int32) (x10_380 : Int32), (0 ≤ x10_380.toInt) → (x10_380.toInt ≤ 720) → (0 ≤ x9_280.toInt) → (x9_280.toInt ≤ 399) → (721 - x10_380.toInt < (n : Int)) → Sf (f_X12_passed_L104 x9_280 o_paperHigh82_320 o_paperShape82_321 o_highAt82_322 o_shapeAt82_324 o_atA98_353 o_atB98_354 o_atD98_355 o_atF98_356 o_atG98_357 o_atH98_358 o_atL98_359 o_atM98_360 o_atN98_361 o_atS98_362 o_atT98_363 o_atU98_364 o_atX98_365 o_first98_366 o_greatest98_367 o_isRefused98_368 o_last98_369 o_marked98_370 o_worth98_371 K72 n x6_377 x7_378 x8_379 x10_380) (fun (y : Int32 × Int32 × Int32 × Int32 × Int32 × Int32 × Int32 × Int32 × Int32 × Int32 × Int32 × Int32 × Int32 × Int32 × Int32 × Int32 × (Nat → Int32) × (Nat → Int32) × (Nat → Int32) × (Nat → Int32) × (Nat → Int32) × (Nat → Int32) × (Nat → Int32) × (Nat → Int32)) => (mkOK (y.2.2.2.2.2.2.2.2.2.2.2.2.2.2.2.2.2.2.2.2.2.1))) := by
  have hFU : (100000 : Int) ≤ (FU : Int) := Int.ofNat_le.mpr FU_ge
  have g1 := rgI x9_280
  have g2 := rgI o_paperHigh82_320
  have g3 := rgI o_paperShape82_321
  have g4 := rgI o_atA98_353
  have g5 := rgI o_atB98_354
  have g6 := rgI o_atD98_355
  have g7 := rgI o_atF98_356
  have g8 := rgI o_atG98_357
  have g9 := rgI o_atH98_358
  have g10 := rgI o_atL98_359
  have g11 := rgI o_atM98_360
  have g12 := rgI o_atN98_361
  have g13 := rgI o_atS98_362
  have g14 := rgI o_atT98_363
  have g15 := rgI o_atU98_364
  have g16 := rgI o_atX98_365
  intro n
  induction n with
  | zero =>
    intro x6_377 x7_378 x8_379 x10_380 hi0 hi1 hi2 hi3 hm
    have g17 := rgI x6_377
    have g18 := rgI x7_378
    have g19 := rgI x8_379
    have g20 := rgI x10_380
    exact absurd hm (by omega)
  | succ n ih =>
    intro x6_377 x7_378 x8_379 x10_380 hi0 hi1 hi2 hi3 hm
    rw [f_X12_passed_L104]
    have g21 := rgI x6_377
    have g22 := rgI x7_378
    have g23 := rgI x8_379
    have g24 := rgI x10_380
    have l25 : (1 : Int32).toInt = 1 := by decide
    refine Sf_rdI (by omega) (by omega) (fun v111_381 hv26 => ?_)
    have g27 := rgI v111_381
    have hmrv111_381 := mkOK_rd (by assumption : mkOK o_marked98_370) hv26
    refine Sf_ite (fun h28 => ?_) (fun h28 => ?_)
    · skip
      have c29 := leI h28
      refine Sf_nmI (fun v158_388 hv30 => ?_)
      have g31 := rgI (x9_280 + 1)
      first | have e32 := adN x9_280 1 (1) (by decide) (by omega) (by omega) | skip
      have q33 := eqI hv30
      exact hK72 x6_377 x7_378 x8_379 v158_388 o_atA98_353 o_atB98_354 o_atD98_355 o_atF98_356 o_atG98_357 o_atH98_358 o_atL98_359 o_atM98_360 o_atN98_361 o_atS98_362 o_atT98_363 o_atU98_364 o_atX98_365 o_paperHigh82_320 o_paperShape82_321 o_first98_366 o_greatest98_367 o_highAt82_322 o_isRefused98_368 o_last98_369 o_marked98_370 o_shapeAt82_324 o_worth98_371 (by omega) (by assumption)
    · skip
      have c34 := nleI h28
      refine Sf_cb1 (s_X12_isAlone o_first98_366 o_last98_369 o_marked98_370 x10_380 (by assumption) (by omega) (by omega)) (fun r118_392 hp35 => ?_)
      have hp35 : ((r118_392.toInt = 0 ∨ r118_392.toInt = 1)) := hp35
      have g36 := rgI r118_392
      refine Sf_ite (fun h37 => ?_) (fun h37 => ?_)
      · skip
        have l38 : (0 : Int32).toInt = 0 := by decide
        have c39 := eqI h37
        refine Sf_nmI (fun v152_425 hv40 => ?_)
        have g41 := rgI (x10_380 + 1)
        first | have e42 := adN x10_380 1 (1) (by decide) (by omega) (by omega) | skip
        have q43 := eqI hv40
        exact ih x6_377 x7_378 x8_379 v152_425 (by omega) (by omega) (by omega) (by omega) (by omega)
      · skip
        have l44 : (0 : Int32).toInt = 0 := by decide
        have c45 := neI h37
        refine Sf_ite (fun h46 => ?_) (fun h46 => ?_)
        · skip
          have c47 := eqI h46
          have l48 : (720 : Int32).toInt = 720 := by decide
          have g49 := rgI (720 + x10_380)
          first | have e50 := adX 720 x10_380 (by omega) (by omega) | skip
          refine Sf_rdI (by omega) (by omega) (fun v146_412 hv51 => ?_)
          have g52 := rgI v146_412
          refine Sf_nmI (fun v149_417 hv53 => ?_)
          have g54 := rgI (x6_377 + 1)
          first | have e55 := adN x6_377 1 (1) (by decide) (by omega) (by omega) | skip
          have q56 := eqI hv53
          refine Sf_nmI (fun v152_421 hv57 => ?_)
          have g58 := rgI (x10_380 + 1)
          first | have e59 := adN x10_380 1 (1) (by decide) (by omega) (by omega) | skip
          have q60 := eqI hv57
          exact ih v149_417 x9_280 v146_412 v152_421 (by omega) (by omega) (by omega) (by omega) (by omega)
        · skip
          have c61 := neI h46
          refine Sf_nmI (fun v149_403 hv62 => ?_)
          have g63 := rgI (x6_377 + 1)
          first | have e64 := adN x6_377 1 (1) (by decide) (by omega) (by omega) | skip
          have q65 := eqI hv62
          refine Sf_nmI (fun v152_407 hv66 => ?_)
          have g67 := rgI (x10_380 + 1)
          first | have e68 := adN x10_380 1 (1) (by decide) (by omega) (by omega) | skip
          have q69 := eqI hv66
          exact ih v149_403 x7_378 x8_379 v152_407 (by omega) (by omega) (by omega) (by omega) (by omega)
set_option maxHeartbeats 4000000 in
set_option maxRecDepth 100000 in
theorem s_X12_passed_L72 (s_sources : Int32) (s_seed : Int32) (s_byStar : Nat → Int32) (s_code : Nat → Int32) (s_codeArg : Nat → Int32) (s_codeFrom : Nat → Int32) (s_codeTo : Nat → Int32) (s_many : Nat → Int32) (s_minuteOf : Nat → Int32) (s_shape : Nat → Int32) (s_sumFrom : Nat → Int32) (s_weekdays : Nat → Int32) (s_wide : Nat → Int32) (p1 : Int32) (p2 : Int32) (p4 : Int32) (K164 : Int32 → Int32 → Int32 → Int32 → Int32 → Int32 → Int32 → Int32 → Int32 → Int32 → Int32 → Int32 → Int32 → Int32 → Int32 → Int32 → Int32 → Int32 → (Nat → Int32) → (Nat → Int32) → (Nat → Int32) → (Nat → Int32) → (Nat → Int32) → (Nat → Int32) → (Nat → Int32) → (Nat → Int32) → Option (Int32 × Int32 × Int32 × Int32 × Int32 × Int32 × Int32 × Int32 × Int32 × Int32 × Int32 × Int32 × Int32 × Int32 × Int32 × Int32 × (Nat → Int32) × (Nat → Int32) × (Nat → Int32) × (Nat → Int32) × (Nat → Int32) × (Nat → Int32) × (Nat → Int32) × (Nat → Int32))) (hp0 : 0 ≤ s_sources.toInt) (hp1 : s_sources.toInt ≤ 10) (hp2 : rOK s_code s_codeFrom s_codeTo s_sumFrom s_many) (hp3 : 0 ≤ p1.toInt) (hp4 : p1.toInt ≤ 3) (hp5 : 0 ≤ p2.toInt) (hp6 : p2.toInt ≤ 3) (hp7 : p4.toInt ≤ 399) (hK164 : ∀ (a0 : Int32) (a1 : Int32) (a2 : Int32) (a3 : Int32) (a4 : Int32) (a5 : Int32) (a6 : Int32) (a7 : Int32) (a8 : Int32) (a9 : Int32) (a10 : Int32) (a11 : Int32) (a12 : Int32) (a13 : Int32) (a14 : Int32) (a15 : Int32) (a16 : Int32) (a17 : Int32) (a18 : Nat → Int32) (a19 : Nat → Int32) (a20 : Nat → Int32) (a21 : Nat → Int32) (a22 : Nat → Int32) (a23 : Nat → Int32) (a24 : Nat → Int32) (a25 : Nat → Int32), (mkOK a23) → Sf (K164 a0 a1 a2 a3 a4 a5 a6 a7 a8 a9 a10 a11 a12 a13 a14 a15 a16 a17 a18 a19 a20 a21 a22 a23 a24 a25) (fun (y : Int32 × Int32 × Int32 × Int32 × Int32 × Int32 × Int32 × Int32 × Int32 × Int32 × Int32 × Int32 × Int32 × Int32 × Int32 × Int32 × (Nat → Int32) × (Nat → Int32) × (Nat → Int32) × (Nat → Int32) × (Nat → Int32) × (Nat → Int32) × (Nat → Int32) × (Nat → Int32)) => (mkOK (y.2.2.2.2.2.2.2.2.2.2.2.2.2.2.2.2.2.2.2.2.2.1)))) : ∀ (n : Nat) (x6_277 : Int32) (x7_278 : Int32) (x8_279 : Int32) (x9_280 : Int32) (atA__281 : Int32) (atB__282 : Int32) (atD__283 : Int32) (atF__284 : Int32) (atG__285 : Int32) (atH__286 : Int32) (atL__287 : Int32) (atM__288 : Int32) (atN__289 : Int32) (atS__290 : Int32) (atT__291 : Int32) (atU__292 : Int32) (atX__293 : Int32) (paperHigh__294 : Int32) (paperShape__295 : Int32) (first__296 : Nat → Int32) (greatest__297 : Nat → Int32) (highAt__298 : Nat → Int32) (isRefused__299 : Nat → Int32) (last__300 : Nat → Int32) (marked__301 : Nat → Int32) (shapeAt__302 : Nat → Int32) (worth__303 : Nat → Int32), (0 ≤ x9_280.toInt) → (x9_280.toInt ≤ 400) → (mkOK marked__301) → (401 - x9_280.toInt < (n : Int)) → Sf (f_X12_passed_L72 s_sources s_seed s_byStar s_code s_codeArg s_codeFrom s_codeTo s_many s_minuteOf s_shape s_sumFrom s_weekdays s_wide p1 p2 p4 K164 n x6_277 x7_278 x8_279 x9_280 atA__281 atB__282 atD__283 atF__284 atG__285 atH__286 atL__287 atM__288 atN__289 atS__290 atT__291 atU__292 atX__293 paperHigh__294 paperShape__295 first__296 greatest__297 highAt__298 isRefused__299 last__300 marked__301 shapeAt__302 worth__303) (fun (y : Int32 × Int32 × Int32 × Int32 × Int32 × Int32 × Int32 × Int32 × Int32 × Int32 × Int32 × Int32 × Int32 × Int32 × Int32 × Int32 × (Nat → Int32) × (Nat → Int32) × (Nat → Int32) × (Nat → Int32) × (Nat → Int32) × (Nat → Int32) × (Nat → Int32) × (Nat → Int32)) => (mkOK (y.2.2.2.2.2.2.2.2.2.2.2.2.2.2.2.2.2.2.2.2.2.1))) := by
  have hFU : (100000 : Int) ≤ (FU : Int) := Int.ofNat_le.mpr FU_ge
  have g1 := rgI s_sources
  have g2 := rgI s_seed
  have g3 := rgI p1
  have g4 := rgI p2
  have g5 := rgI p4
  intro n
  induction n with
  | zero =>
    intro x6_277 x7_278 x8_279 x9_280 atA__281 atB__282 atD__283 atF__284 atG__285 atH__286 atL__287 atM__288 atN__289 atS__290 atT__291 atU__292 atX__293 paperHigh__294 paperShape__295 first__296 greatest__297 highAt__298 isRefused__299 last__300 marked__301 shapeAt__302 worth__303 hi0 hi1 hi2 hm
    have g6 := rgI x6_277
    have g7 := rgI x7_278
    have g8 := rgI x8_279
    have g9 := rgI x9_280
    have g10 := rgI atA__281
    have g11 := rgI atB__282
    have g12 := rgI atD__283
    have g13 := rgI atF__284
    have g14 := rgI atG__285
    have g15 := rgI atH__286
    have g16 := rgI atL__287
    have g17 := rgI atM__288
    have g18 := rgI atN__289
    have g19 := rgI atS__290
    have g20 := rgI atT__291
    have g21 := rgI atU__292
    have g22 := rgI atX__293
    have g23 := rgI paperHigh__294
    have g24 := rgI paperShape__295
    exact absurd hm (by omega)
  | succ n ih =>
    intro x6_277 x7_278 x8_279 x9_280 atA__281 atB__282 atD__283 atF__284 atG__285 atH__286 atL__287 atM__288 atN__289 atS__290 atT__291 atU__292 atX__293 paperHigh__294 paperShape__295 first__296 greatest__297 highAt__298 isRefused__299 last__300 marked__301 shapeAt__302 worth__303 hi0 hi1 hi2 hm
    rw [f_X12_passed_L72]
    have g25 := rgI x6_277
    have g26 := rgI x7_278
    have g27 := rgI x8_279
    have g28 := rgI x9_280
    have g29 := rgI atA__281
    have g30 := rgI atB__282
    have g31 := rgI atD__283
    have g32 := rgI atF__284
    have g33 := rgI atG__285
    have g34 := rgI atH__286
    have g35 := rgI atL__287
    have g36 := rgI atM__288
    have g37 := rgI atN__289
    have g38 := rgI atS__290
    have g39 := rgI atT__291
    have g40 := rgI atU__292
    have g41 := rgI atX__293
    have g42 := rgI paperHigh__294
    have g43 := rgI paperShape__295
    refine Sf_ite (fun h44 => ?_) (fun h44 => ?_)
    · skip
      have c45 := ltI h44
      exact hK164 x6_277 x7_278 x8_279 atA__281 atB__282 atD__283 atF__284 atG__285 atH__286 atL__287 atM__288 atN__289 atS__290 atT__291 atU__292 atX__293 paperHigh__294 paperShape__295 first__296 greatest__297 highAt__298 isRefused__299 last__300 marked__301 shapeAt__302 worth__303 (by assumption)
    · skip
      have c46 := nltI h44
      refine Sf_cb19 (s_X12_lays s_sources s_seed atA__281 atB__282 atD__283 atF__284 atG__285 atH__286 atL__287 atM__288 atN__289 atS__290 atT__291 atU__292 atX__293 paperHigh__294 paperShape__295 s_byStar s_code s_codeArg s_codeFrom s_codeTo highAt__298 isRefused__299 s_many s_minuteOf s_shape shapeAt__302 s_sumFrom s_weekdays s_wide worth__303 x9_280 (by omega) (by omega) (by assumption)) (fun o_atA82_307 o_atB82_308 o_atD82_309 o_atF82_310 o_atG82_311 o_atH82_312 o_atL82_313 o_atM82_314 o_atN82_315 o_atS82_316 o_atT82_317 o_atU82_318 o_atX82_319 o_paperHigh82_320 o_paperShape82_321 o_highAt82_322 o_isRefused82_323 o_shapeAt82_324 o_worth82_325 hp47 => ?_)
      have g48 := rgI o_atA82_307
      have g49 := rgI o_atB82_308
      have g50 := rgI o_atD82_309
      have g51 := rgI o_atF82_310
      have g52 := rgI o_atG82_311
      have g53 := rgI o_atH82_312
      have g54 := rgI o_atL82_313
      have g55 := rgI o_atM82_314
      have g56 := rgI o_atN82_315
      have g57 := rgI o_atS82_316
      have g58 := rgI o_atT82_317
      have g59 := rgI o_atU82_318
      have g60 := rgI o_atX82_319
      have g61 := rgI o_paperHigh82_320
      have g62 := rgI o_paperShape82_321
      have l63 : (0 : Int32).toInt = 0 := by decide
      refine Sf_cb19 (s_X12_goesOver o_atA82_307 o_atB82_308 o_atD82_309 o_atF82_310 o_atG82_311 o_atH82_312 o_atL82_313 o_atM82_314 o_atN82_315 o_atS82_316 o_atT82_317 o_atU82_318 o_atX82_319 s_code s_codeArg s_codeFrom s_codeTo first__296 greatest__297 o_highAt82_322 o_isRefused82_323 last__300 s_many marked__301 o_shapeAt82_324 o_worth82_325 p1 x9_280 0 (by omega) (by omega) (by omega) (by omega) (by first | assumption | exact ⟨_, ‹_›⟩) (by assumption)) (fun o_atA90_330 o_atB90_331 o_atD90_332 o_atF90_333 o_atG90_334 o_atH90_335 o_atL90_336 o_atM90_337 o_atN90_338 o_atS90_339 o_atT90_340 o_atU90_341 o_atX90_342 o_first90_343 o_greatest90_344 o_isRefused90_345 o_last90_346 o_marked90_347 o_worth90_348 hp64 => ?_)
      have hp64 : (mkOK o_marked90_347) := hp64
      have g65 := rgI o_atA90_330
      have g66 := rgI o_atB90_331
      have g67 := rgI o_atD90_332
      have g68 := rgI o_atF90_333
      have g69 := rgI o_atG90_334
      have g70 := rgI o_atH90_335
      have g71 := rgI o_atL90_336
      have g72 := rgI o_atM90_337
      have g73 := rgI o_atN90_338
      have g74 := rgI o_atS90_339
      have g75 := rgI o_atT90_340
      have g76 := rgI o_atU90_341
      have g77 := rgI o_atX90_342
      have l78 : (1 : Int32).toInt = 1 := by decide
      refine Sf_cb19 (s_X12_goesOver o_atA90_330 o_atB90_331 o_atD90_332 o_atF90_333 o_atG90_334 o_atH90_335 o_atL90_336 o_atM90_337 o_atN90_338 o_atS90_339 o_atT90_340 o_atU90_341 o_atX90_342 s_code s_codeArg s_codeFrom s_codeTo o_first90_343 o_greatest90_344 o_highAt82_322 o_isRefused90_345 o_last90_346 s_many o_marked90_347 o_shapeAt82_324 o_worth90_348 p2 x9_280 1 (by omega) (by omega) (by omega) (by omega) (by first | assumption | exact ⟨_, ‹_›⟩) (by assumption)) (fun o_atA98_353 o_atB98_354 o_atD98_355 o_atF98_356 o_atG98_357 o_atH98_358 o_atL98_359 o_atM98_360 o_atN98_361 o_atS98_362 o_atT98_363 o_atU98_364 o_atX98_365 o_first98_366 o_greatest98_367 o_isRefused98_368 o_last98_369 o_marked98_370 o_worth98_371 hp79 => ?_)
      have hp79 : (mkOK o_marked98_370) := hp79
      have g80 := rgI o_atA98_353
      have g81 := rgI o_atB98_354
      have g82 := rgI o_atD98_355
      have g83 := rgI o_atF98_356
      have g84 := rgI o_atG98_357
      have g85 := rgI o_atH98_358
      have g86 := rgI o_atL98_359
      have g87 := rgI o_atM98_360
      have g88 := rgI o_atN98_361
      have g89 := rgI o_atS98_362
      have g90 := rgI o_atT98_363
      have g91 := rgI o_atU98_364
      have g92 := rgI o_atX98_365
      refine s_X12_passed_L104 x9_280 o_paperHigh82_320 o_paperShape82_321 o_highAt82_322 o_shapeAt82_324 o_atA98_353 o_atB98_354 o_atD98_355 o_atF98_356 o_atG98_357 o_atH98_358 o_atL98_359 o_atM98_360 o_atN98_361 o_atS98_362 o_atT98_363 o_atU98_364 o_atX98_365 o_first98_366 o_greatest98_367 o_isRefused98_368 o_last98_369 o_marked98_370 o_worth98_371 (f_X12_passed_L72 s_sources s_seed s_byStar s_code s_codeArg s_codeFrom s_codeTo s_many s_minuteOf s_shape s_sumFrom s_weekdays s_wide p1 p2 p4 K164 n) (by assumption) ?_ FU x6_277 x7_278 x8_279 0 (by omega) (by omega) (by omega) (by omega) (by omega)
      · intro z93 z94 z95 z96 z97 z98 z99 z100 z101 z102 z103 z104 z105 z106 z107 z108 z109 z110 z111 z112 z113 z114 z115 z116 z117 z118 z119 hk120 hk121
        have g122 := rgI z93
        have g123 := rgI z94
        have g124 := rgI z95
        have g125 := rgI z96
        have g126 := rgI z97
        have g127 := rgI z98
        have g128 := rgI z99
        have g129 := rgI z100
        have g130 := rgI z101
        have g131 := rgI z102
        have g132 := rgI z103
        have g133 := rgI z104
        have g134 := rgI z105
        have g135 := rgI z106
        have g136 := rgI z107
        have g137 := rgI z108
        have g138 := rgI z109
        have g139 := rgI z110
        have g140 := rgI z111
        have hk120 : z96.toInt = x9_280.toInt + 1 := hk120
        have hk121 : mkOK z117 := hk121
        exact ih z93 z94 z95 z96 z97 z98 z99 z100 z101 z102 z103 z104 z105 z106 z107 z108 z109 z110 z111 z112 z113 z114 z115 z116 z117 z118 z119 (by omega) (by omega) (by assumption) (by omega)
set_option maxHeartbeats 4000000 in
set_option maxRecDepth 100000 in
theorem s_X12_passed (s_sources : Int32) (s_seed : Int32) (s_atA : Int32) (s_atB : Int32) (s_atD : Int32) (s_atF : Int32) (s_atG : Int32) (s_atH : Int32) (s_atL : Int32) (s_atM : Int32) (s_atN : Int32) (s_atS : Int32) (s_atT : Int32) (s_atU : Int32) (s_atX : Int32) (s_paperHigh : Int32) (s_paperShape : Int32) (s_byStar : Nat → Int32) (s_code : Nat → Int32) (s_codeArg : Nat → Int32) (s_codeFrom : Nat → Int32) (s_codeTo : Nat → Int32) (s_first : Nat → Int32) (s_greatest : Nat → Int32) (s_highAt : Nat → Int32) (s_isRefused : Nat → Int32) (s_last : Nat → Int32) (s_many : Nat → Int32) (s_marked : Nat → Int32) (s_minuteOf : Nat → Int32) (s_shape : Nat → Int32) (s_shapeAt : Nat → Int32) (s_sumFrom : Nat → Int32) (s_weekdays : Nat → Int32) (s_wide : Nat → Int32) (s_worth : Nat → Int32) (p1 : Int32) (p2 : Int32) (p3 : Int32) (p4 : Int32) (p5 : Int32) (hp0 : 0 ≤ s_sources.toInt) (hp1 : s_sources.toInt ≤ 10) (hp2 : rOK s_code s_codeFrom s_codeTo s_sumFrom s_many) (hp3 : mkOK s_marked) : Sf (f_X12_passed s_sources s_seed s_atA s_atB s_atD s_atF s_atG s_atH s_atL s_atM s_atN s_atS s_atT s_atU s_atX s_paperHigh s_paperShape s_byStar s_code s_codeArg s_codeFrom s_codeTo s_first s_greatest s_highAt s_isRefused s_last s_many s_marked s_minuteOf s_shape s_shapeAt s_sumFrom s_weekdays s_wide s_worth p1 p2 p3 p4 p5) (fun (y : Int32 × Int32 × Int32 × Int32 × Int32 × Int32 × Int32 × Int32 × Int32 × Int32 × Int32 × Int32 × Int32 × Int32 × Int32 × Int32 × (Nat → Int32) × (Nat → Int32) × (Nat → Int32) × (Nat → Int32) × (Nat → Int32) × (Nat → Int32) × (Nat → Int32) × (Nat → Int32)) => (mkOK (y.2.2.2.2.2.2.2.2.2.2.2.2.2.2.2.2.2.2.2.2.2.1))) := by
  have g1 := rgI s_sources
  have g2 := rgI s_seed
  have g3 := rgI s_atA
  have g4 := rgI s_atB
  have g5 := rgI s_atD
  have g6 := rgI s_atF
  have g7 := rgI s_atG
  have g8 := rgI s_atH
  have g9 := rgI s_atL
  have g10 := rgI s_atM
  have g11 := rgI s_atN
  have g12 := rgI s_atS
  have g13 := rgI s_atT
  have g14 := rgI s_atU
  have g15 := rgI s_atX
  have g16 := rgI s_paperHigh
  have g17 := rgI s_paperShape
  have g18 := rgI p1
  have g19 := rgI p2
  have g20 := rgI p3
  have g21 := rgI p4
  have g22 := rgI p5
  have hFU : (100000 : Int) ≤ (FU : Int) := Int.ofNat_le.mpr FU_ge
  rw [f_X12_passed]
  refine Sf_cb1 (s_X12_isReader p1 ) (fun r1_1 hp23 => ?_)
  have hp23 : ((r1_1.toInt = 0 ∨ r1_1.toInt = 1)) ∧ ((r1_1.toInt = 1 ∧ 0 ≤ p1.toInt ∧ p1.toInt ≤ 3) ∨ (r1_1.toInt = 0 ∧ (p1.toInt < 0 ∨ 3 < p1.toInt))) := hp23
  obtain ⟨hq24, hq25⟩ := hp23
  have g26 := rgI r1_1
  refine Sf_ite (fun h27 => ?_) (fun h27 => ?_)
  · skip
    have l28 : (0 : Int32).toInt = 0 := by decide
    have c29 := eqI h27
    have l30 : ((-1) : Int32).toInt = -1 := by decide
    refine Sf_some (show (mkOK s_marked) from ?_)
    (assumption)
  · skip
    have l31 : (0 : Int32).toInt = 0 := by decide
    have c32 := neI h27
    refine Sf_cb1 (s_X12_isReader p2 ) (fun r8_33 hp33 => ?_)
    have hp33 : ((r8_33.toInt = 0 ∨ r8_33.toInt = 1)) ∧ ((r8_33.toInt = 1 ∧ 0 ≤ p2.toInt ∧ p2.toInt ≤ 3) ∨ (r8_33.toInt = 0 ∧ (p2.toInt < 0 ∨ 3 < p2.toInt))) := hp33
    obtain ⟨hq34, hq35⟩ := hp33
    have g36 := rgI r8_33
    refine Sf_ite (fun h37 => ?_) (fun h37 => ?_)
    · skip
      have c38 := eqI h37
      have l39 : ((-1) : Int32).toInt = -1 := by decide
      refine Sf_some (show (mkOK s_marked) from ?_)
      (assumption)
    · skip
      have c40 := neI h37
      refine Sf_cb1 (s_X12_isDay p3 ) (fun r15_65 hp41 => ?_)
      have hp41 : ((r15_65.toInt = 0 ∨ r15_65.toInt = 1)) ∧ ((r15_65.toInt = 1 ∧ 0 ≤ p3.toInt ∧ p3.toInt ≤ 399) ∨ (r15_65.toInt = 0 ∧ (p3.toInt < 0 ∨ 399 < p3.toInt))) := hp41
      obtain ⟨hq42, hq43⟩ := hp41
      have g44 := rgI r15_65
      refine Sf_ite (fun h45 => ?_) (fun h45 => ?_)
      · skip
        have c46 := eqI h45
        have l47 : ((-1) : Int32).toInt = -1 := by decide
        refine Sf_some (show (mkOK s_marked) from ?_)
        (assumption)
      · skip
        have c48 := neI h45
        refine Sf_cb1 (s_X12_isDay p4 ) (fun r23_97 hp49 => ?_)
        have hp49 : ((r23_97.toInt = 0 ∨ r23_97.toInt = 1)) ∧ ((r23_97.toInt = 1 ∧ 0 ≤ p4.toInt ∧ p4.toInt ≤ 399) ∨ (r23_97.toInt = 0 ∧ (p4.toInt < 0 ∨ 399 < p4.toInt))) := hp49
        obtain ⟨hq50, hq51⟩ := hp49
        have g52 := rgI r23_97
        refine Sf_ite (fun h53 => ?_) (fun h53 => ?_)
        · skip
          have c54 := eqI h53
          have l55 : ((-1) : Int32).toInt = -1 := by decide
          refine Sf_some (show (mkOK s_marked) from ?_)
          (assumption)
        · skip
          have c56 := neI h53
          have t57 := t64 p4
          have t58 := t64 p3
          have g59 := rgI (p3 + 29)
          first | have e60 := adN p3 29 (29) (by decide) (by omega) (by omega) | skip
          have t61 := t64 (p3 + 29)
          refine Sf_cb1 (s_X12_lies (Int32.toInt64 p4) (Int32.toInt64 p3) (Int32.toInt64 (p3 + 29)) ) (fun r39_129 hp62 => ?_)
          have hp62 : ((r39_129.toInt = 0 ∨ r39_129.toInt = 1)) ∧ ((r39_129.toInt = 1 ∧ (Int32.toInt64 p3).toInt ≤ (Int32.toInt64 p4).toInt ∧ (Int32.toInt64 p4).toInt ≤ (Int32.toInt64 (p3 + 29)).toInt) ∨ (r39_129.toInt = 0 ∧ ((Int32.toInt64 p4).toInt < (Int32.toInt64 p3).toInt ∨ (Int32.toInt64 (p3 + 29)).toInt < (Int32.toInt64 p4).toInt))) := hp62
          obtain ⟨hq63, hq64⟩ := hp62
          have g65 := rgI r39_129
          refine Sf_ite (fun h66 => ?_) (fun h66 => ?_)
          · skip
            have c67 := eqI h66
            have l68 : ((-1) : Int32).toInt = -1 := by decide
            refine Sf_some (show (mkOK s_marked) from ?_)
            (assumption)
          · skip
            have c69 := neI h66
            have t70 := t64 p5
            have l71 : (0 : Int64).toInt = 0 := by decide
            have l72 : (2 : Int64).toInt = 2 := by decide
            refine Sf_cb1 (s_X12_lies (Int32.toInt64 p5) 0 2 ) (fun r52_161 hp73 => ?_)
            have hp73 : ((r52_161.toInt = 0 ∨ r52_161.toInt = 1)) ∧ ((r52_161.toInt = 1 ∧ (0 : Int64).toInt ≤ (Int32.toInt64 p5).toInt ∧ (Int32.toInt64 p5).toInt ≤ (2 : Int64).toInt) ∨ (r52_161.toInt = 0 ∧ ((Int32.toInt64 p5).toInt < (0 : Int64).toInt ∨ (2 : Int64).toInt < (Int32.toInt64 p5).toInt))) := hp73
            obtain ⟨hq74, hq75⟩ := hp73
            have g76 := rgI r52_161
            refine Sf_ite (fun h77 => ?_) (fun h77 => ?_)
            · skip
              have c78 := eqI h77
              have l79 : ((-1) : Int32).toInt = -1 := by decide
              refine Sf_some (show (mkOK s_marked) from ?_)
              (assumption)
            · skip
              have c80 := neI h77
              have l81 : ((-1) : Int32).toInt = -1 := by decide
              refine s_X12_passed_L72 s_sources s_seed s_byStar s_code s_codeArg s_codeFrom s_codeTo s_many s_minuteOf s_shape s_sumFrom s_weekdays s_wide p1 p2 p4 (f_X12_passed_J164 p5) (by omega) (by omega) (by assumption) (by omega) (by omega) (by omega) (by omega) (by omega) ?_ FU 0 (-1) (-1) p3 s_atA s_atB s_atD s_atF s_atG s_atH s_atL s_atM s_atN s_atS s_atT s_atU s_atX s_paperHigh s_paperShape s_first s_greatest s_highAt s_isRefused s_last s_marked s_shapeAt s_worth (by omega) (by omega) (by assumption) (by omega)
              · intro z82 z83 z84 z85 z86 z87 z88 z89 z90 z91 z92 z93 z94 z95 z96 z97 z98 z99 z100 z101 z102 z103 z104 z105 z106 z107 hk108
                have g109 := rgI z82
                have g110 := rgI z83
                have g111 := rgI z84
                have g112 := rgI z85
                have g113 := rgI z86
                have g114 := rgI z87
                have g115 := rgI z88
                have g116 := rgI z89
                have g117 := rgI z90
                have g118 := rgI z91
                have g119 := rgI z92
                have g120 := rgI z93
                have g121 := rgI z94
                have g122 := rgI z95
                have g123 := rgI z96
                have g124 := rgI z97
                have g125 := rgI z98
                have g126 := rgI z99
                have hk108 : mkOK z105 := hk108
                rw [f_X12_passed_J164]
                refine Sf_ite (fun h127 => ?_) (fun h127 => ?_)
                · skip
                  have c128 := eqI h127
                  refine Sf_some (show (mkOK z105) from ?_)
                  (assumption)
                · skip
                  have c129 := neI h127
                  refine Sf_ite (fun h130 => ?_) (fun h130 => ?_)
                  · skip
                    have l131 : (1 : Int32).toInt = 1 := by decide
                    have c132 := eqI h130
                    refine Sf_some (show (mkOK z105) from ?_)
                    (assumption)
                  · skip
                    have l133 : (1 : Int32).toInt = 1 := by decide
                    have c134 := neI h130
                    refine Sf_some (show (mkOK z105) from ?_)
                    (assumption)
