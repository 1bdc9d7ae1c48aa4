/-! ===== the law: one call on each side ===== -/
def LK (V : GV) (d lo C E i : Nat) (P : PT) : Prop := ∀ (S : ST) (X : XT) (FI AI : FT) (AL : LT), LI C E S X FI AI AL lo → G V m_Law_law (d + 11) 2104 [some (.ref (v_sb V)), some (.ref lo), some (.ref (lo + 110)), some (.int (nI i))] [] X FI AI AL P
theorem l_order {V : GV} {d lo C E i : Nat} {S : ST} {X : XT} {FI AI : FT} {AL : LT} {P : PT} (hcg : CGL) (hL : LI C E S X FI AI AL lo) (hi : i + 6 ≤ v_sn V) (hn : v_sn V ≤ 3072) (k : LK V d lo C E i P) : G V m_Law_law (d + 11) 268 [some (.ref (v_sb V)), some (.ref lo), some (.ref (lo + 110)), some (.int (nI i))] [] X FI AI AL P := by
  obtain ⟨h, hm, hI, hM, hW, hN⟩ := hL
  have hs := h.sh
  have hc := c_order (V := V) (d := d + 8) (x := v_sx V (i + 1)) h hI hW
  refine G_aload1 269 d_Law_law_268 rfl ?_
  refine G_aload0 270 d_Law_law_269 rfl ?_
  refine G_iload3 271 d_Law_law_270 rfl ?_
  refine G_iconstN 1 272 d_Law_law_271 rfl rfl ?_
  first | refine G_iaddN 273 d_Law_law_272 rfl ?_ | refine G_iadd 273 d_Law_law_272 rfl ?_
  refine G_scald 274 d_Law_law_273 rfl (ix_nI (by omega) (by omega)) ?_
  refine G_invV1 277 d_Law_law_274 rfl e_Law_13 M_Alg_order rfl hs (Nat.le_of_ble_eq_true rfl) (Nat.le_of_ble_eq_true rfl) rfl (G.conseq (hc) (fun r274 X274 FI274 AI274 AL274 h274 => ?_))
  obtain ⟨c1, c2, c3, c4⟩ := h274
  subst c1
  obtain ⟨m1, m2⟩ := LI.m1 hm hM c4
  have ms := m1.1
  have hd := m_order (V := V) (d := d + 7) (x := v_sx V (i + 1)) m1 m2 hW
  refine G_aload2 278 d_Law_law_277 rfl ?_
  refine G_aload0 279 d_Law_law_278 rfl ?_
  refine G_iload3 280 d_Law_law_279 rfl ?_
  refine G_iconstN 1 281 d_Law_law_280 rfl rfl ?_
  first | refine G_iaddN 282 d_Law_law_281 rfl ?_ | refine G_iadd 282 d_Law_law_281 rfl ?_
  refine G_scald 283 d_Law_law_282 rfl (ix_nI (by omega) (by omega)) ?_
  refine G_invV1 286 d_Law_law_283 rfl e_Law_17 M_Mod_order rfl ms (Nat.le_of_ble_eq_true rfl) (Nat.le_of_ble_eq_true rfl) rfl (G.conseq (hd) (fun r283 X283 FI283 AI283 AL283 h283 => ?_))
  obtain ⟨d1, d2, d3, d4⟩ := h283
  replace d2 := d2.symm
  subst d1 d2
  first | refine G_iceqN 2104 289 d_Law_law_286 rfl rfl (by omega) (by omega) (fun h286 => ?_) (fun h286 => ?_) | refine G_iceq 2104 289 d_Law_law_286 rfl rfl (fun h286 => ?_) (fun h286 => ?_)
  · exact k _ _ _ _ _ ⟨c2, m1, c3.fm (ws_order hW) d4, d3, ws_order hW, ns_order hN⟩
  · exact absurd rfl h286
theorem l_term {V : GV} {d lo C E i : Nat} {S : ST} {X : XT} {FI AI : FT} {AL : LT} {P : PT} (hcg : CGL) (hL : LI C E S X FI AI AL lo) (hi : i + 6 ≤ v_sn V) (hn : v_sn V ≤ 3072) (k : LK V d lo C E i P) : G V m_Law_law (d + 11) 291 [some (.ref (v_sb V)), some (.ref lo), some (.ref (lo + 110)), some (.int (nI i))] [] X FI AI AL P := by
  obtain ⟨h, hm, hI, hM, hW, hN⟩ := hL
  have hs := h.sh
  have hc := c_term (V := V) (d := d + 8) (s := v_sx V (i + 1)) (c := v_sx V (i + 2)) (x := v_sx V (i + 3)) (y := v_sx V (i + 4)) (z := v_sx V (i + 5)) h hI hW
  refine G_aload1 292 d_Law_law_291 rfl ?_
  refine G_aload0 293 d_Law_law_292 rfl ?_
  refine G_iload3 294 d_Law_law_293 rfl ?_
  refine G_iconstN 1 295 d_Law_law_294 rfl rfl ?_
  first | refine G_iaddN 296 d_Law_law_295 rfl ?_ | refine G_iadd 296 d_Law_law_295 rfl ?_
  refine G_scald 297 d_Law_law_296 rfl (ix_nI (by omega) (by omega)) ?_
  refine G_aload0 298 d_Law_law_297 rfl ?_
  refine G_iload3 299 d_Law_law_298 rfl ?_
  refine G_iconstN 2 300 d_Law_law_299 rfl rfl ?_
  first | refine G_iaddN 301 d_Law_law_300 rfl ?_ | refine G_iadd 301 d_Law_law_300 rfl ?_
  refine G_scald 302 d_Law_law_301 rfl (ix_nI (by omega) (by omega)) ?_
  refine G_aload0 303 d_Law_law_302 rfl ?_
  refine G_iload3 304 d_Law_law_303 rfl ?_
  refine G_iconstN 3 305 d_Law_law_304 rfl rfl ?_
  first | refine G_iaddN 306 d_Law_law_305 rfl ?_ | refine G_iadd 306 d_Law_law_305 rfl ?_
  refine G_scald 307 d_Law_law_306 rfl (ix_nI (by omega) (by omega)) ?_
  refine G_aload0 308 d_Law_law_307 rfl ?_
  refine G_iload3 309 d_Law_law_308 rfl ?_
  refine G_iconstN 4 310 d_Law_law_309 rfl rfl ?_
  first | refine G_iaddN 311 d_Law_law_310 rfl ?_ | refine G_iadd 311 d_Law_law_310 rfl ?_
  refine G_scald 312 d_Law_law_311 rfl (ix_nI (by omega) (by omega)) ?_
  refine G_aload0 313 d_Law_law_312 rfl ?_
  refine G_iload3 314 d_Law_law_313 rfl ?_
  refine G_iconstN 5 315 d_Law_law_314 rfl rfl ?_
  first | refine G_iaddN 316 d_Law_law_315 rfl ?_ | refine G_iadd 316 d_Law_law_315 rfl ?_
  refine G_scald 317 d_Law_law_316 rfl (ix_nI (by omega) (by omega)) ?_
  refine G_invV5 320 d_Law_law_317 rfl e_Law_18 M_Alg_term rfl hs (Nat.le_of_ble_eq_true rfl) (Nat.le_of_ble_eq_true rfl) rfl (G.conseq (hc) (fun r317 X317 FI317 AI317 AL317 h317 => ?_))
  obtain ⟨c1, c2, c3, c4⟩ := h317
  subst c1
  obtain ⟨m1, m2⟩ := LI.m1 hm hM c4
  have ms := m1.1
  have hd := m_term (V := V) (d := d + 8) (s := v_sx V (i + 1)) (c := v_sx V (i + 2)) (x := v_sx V (i + 3)) (y := v_sx V (i + 4)) (z := v_sx V (i + 5)) m1 m2 hW
  refine G_aload2 321 d_Law_law_320 rfl ?_
  refine G_aload0 322 d_Law_law_321 rfl ?_
  refine G_iload3 323 d_Law_law_322 rfl ?_
  refine G_iconstN 1 324 d_Law_law_323 rfl rfl ?_
  first | refine G_iaddN 325 d_Law_law_324 rfl ?_ | refine G_iadd 325 d_Law_law_324 rfl ?_
  refine G_scald 326 d_Law_law_325 rfl (ix_nI (by omega) (by omega)) ?_
  refine G_aload0 327 d_Law_law_326 rfl ?_
  refine G_iload3 328 d_Law_law_327 rfl ?_
  refine G_iconstN 2 329 d_Law_law_328 rfl rfl ?_
  first | refine G_iaddN 330 d_Law_law_329 rfl ?_ | refine G_iadd 330 d_Law_law_329 rfl ?_
  refine G_scald 331 d_Law_law_330 rfl (ix_nI (by omega) (by omega)) ?_
  refine G_aload0 332 d_Law_law_331 rfl ?_
  refine G_iload3 333 d_Law_law_332 rfl ?_
  refine G_iconstN 3 334 d_Law_law_333 rfl rfl ?_
  first | refine G_iaddN 335 d_Law_law_334 rfl ?_ | refine G_iadd 335 d_Law_law_334 rfl ?_
  refine G_scald 336 d_Law_law_335 rfl (ix_nI (by omega) (by omega)) ?_
  refine G_aload0 337 d_Law_law_336 rfl ?_
  refine G_iload3 338 d_Law_law_337 rfl ?_
  refine G_iconstN 4 339 d_Law_law_338 rfl rfl ?_
  first | refine G_iaddN 340 d_Law_law_339 rfl ?_ | refine G_iadd 340 d_Law_law_339 rfl ?_
  refine G_scald 341 d_Law_law_340 rfl (ix_nI (by omega) (by omega)) ?_
  refine G_aload0 342 d_Law_law_341 rfl ?_
  refine G_iload3 343 d_Law_law_342 rfl ?_
  refine G_iconstN 5 344 d_Law_law_343 rfl rfl ?_
  first | refine G_iaddN 345 d_Law_law_344 rfl ?_ | refine G_iadd 345 d_Law_law_344 rfl ?_
  refine G_scald 346 d_Law_law_345 rfl (ix_nI (by omega) (by omega)) ?_
  refine G_invV5 349 d_Law_law_346 rfl e_Law_22 M_Mod_term rfl ms (Nat.le_of_ble_eq_true rfl) (Nat.le_of_ble_eq_true rfl) rfl (G.conseq (hd) (fun r346 X346 FI346 AI346 AL346 h346 => ?_))
  obtain ⟨d1, d2, d3, d4⟩ := h346
  replace d2 := d2.symm
  subst d1 d2
  first | refine G_iceqN 2104 352 d_Law_law_349 rfl rfl (by omega) (by omega) (fun h349 => ?_) (fun h349 => ?_) | refine G_iceq 2104 352 d_Law_law_349 rfl rfl (fun h349 => ?_) (fun h349 => ?_)
  · exact k _ _ _ _ _ ⟨c2, m1, c3.fm (ws_term hW) d4, d3, ws_term hW, ns_term hN⟩
  · exact absurd rfl h349
theorem l_clear {V : GV} {d lo C E i : Nat} {S : ST} {X : XT} {FI AI : FT} {AL : LT} {P : PT} (hcg : CGL) (hL : LI C E S X FI AI AL lo) (hi : i + 6 ≤ v_sn V) (hn : v_sn V ≤ 3072) (k : LK V d lo C E i P) : G V m_Law_law (d + 11) 354 [some (.ref (v_sb V)), some (.ref lo), some (.ref (lo + 110)), some (.int (nI i))] [] X FI AI AL P := by
  obtain ⟨h, hm, hI, hM, hW, hN⟩ := hL
  have hs := h.sh
  have hc := c_clear (V := V) (d := d + 8) (x := v_sx V (i + 1)) h hI hW
  refine G_aload1 355 d_Law_law_354 rfl ?_
  refine G_aload0 356 d_Law_law_355 rfl ?_
  refine G_iload3 357 d_Law_law_356 rfl ?_
  refine G_iconstN 1 358 d_Law_law_357 rfl rfl ?_
  first | refine G_iaddN 359 d_Law_law_358 rfl ?_ | refine G_iadd 359 d_Law_law_358 rfl ?_
  refine G_scald 360 d_Law_law_359 rfl (ix_nI (by omega) (by omega)) ?_
  refine G_invV1 363 d_Law_law_360 rfl e_Law_23 M_Alg_clear rfl hs (Nat.le_of_ble_eq_true rfl) (Nat.le_of_ble_eq_true rfl) rfl (G.conseq (hc) (fun r360 X360 FI360 AI360 AL360 h360 => ?_))
  obtain ⟨c1, c2, c3, c4⟩ := h360
  subst c1
  obtain ⟨m1, m2⟩ := LI.m1 hm hM c4
  have ms := m1.1
  have hd := m_clear (V := V) (d := d + 9) (s := v_sx V (i + 1)) m1 m2 hW
  refine G_aload2 364 d_Law_law_363 rfl ?_
  refine G_aload0 365 d_Law_law_364 rfl ?_
  refine G_iload3 366 d_Law_law_365 rfl ?_
  refine G_iconstN 1 367 d_Law_law_366 rfl rfl ?_
  first | refine G_iaddN 368 d_Law_law_367 rfl ?_ | refine G_iadd 368 d_Law_law_367 rfl ?_
  refine G_scald 369 d_Law_law_368 rfl (ix_nI (by omega) (by omega)) ?_
  refine G_invV1 372 d_Law_law_369 rfl e_Law_26 M_Mod_clear rfl ms (Nat.le_of_ble_eq_true rfl) (Nat.le_of_ble_eq_true rfl) rfl (G.conseq (hd) (fun r369 X369 FI369 AI369 AL369 h369 => ?_))
  obtain ⟨d1, d2, d3, d4⟩ := h369
  replace d2 := d2.symm
  subst d1 d2
  first | refine G_iceqN 2104 375 d_Law_law_372 rfl rfl (by omega) (by omega) (fun h372 => ?_) (fun h372 => ?_) | refine G_iceq 2104 375 d_Law_law_372 rfl rfl (fun h372 => ?_) (fun h372 => ?_)
  · exact k _ _ _ _ _ ⟨c2, m1, c3.fm (ws_clear hW) d4, d3, ws_clear hW, ns_clear hN⟩
  · exact absurd rfl h372
theorem l_add {V : GV} {d lo C E i : Nat} {S : ST} {X : XT} {FI AI : FT} {AL : LT} {P : PT} (hcg : CGL) (hL : LI C E S X FI AI AL lo) (hi : i + 6 ≤ v_sn V) (hn : v_sn V ≤ 3072) (k : LK V d lo C E i P) : G V m_Law_law (d + 11) 377 [some (.ref (v_sb V)), some (.ref lo), some (.ref (lo + 110)), some (.int (nI i))] [] X FI AI AL P := by
  obtain ⟨h, hm, hI, hM, hW, hN⟩ := hL
  have hs := h.sh
  have hc := c_add (V := V) (d := d + 8) (s := v_sx V (i + 1)) (t := v_sx V (i + 2)) (c := v_sx V (i + 3)) h hI hW
  refine G_aload1 378 d_Law_law_377 rfl ?_
  refine G_aload0 379 d_Law_law_378 rfl ?_
  refine G_iload3 380 d_Law_law_379 rfl ?_
  refine G_iconstN 1 381 d_Law_law_380 rfl rfl ?_
  first | refine G_iaddN 382 d_Law_law_381 rfl ?_ | refine G_iadd 382 d_Law_law_381 rfl ?_
  refine G_scald 383 d_Law_law_382 rfl (ix_nI (by omega) (by omega)) ?_
  refine G_aload0 384 d_Law_law_383 rfl ?_
  refine G_iload3 385 d_Law_law_384 rfl ?_
  refine G_iconstN 2 386 d_Law_law_385 rfl rfl ?_
  first | refine G_iaddN 387 d_Law_law_386 rfl ?_ | refine G_iadd 387 d_Law_law_386 rfl ?_
  refine G_scald 388 d_Law_law_387 rfl (ix_nI (by omega) (by omega)) ?_
  refine G_aload0 389 d_Law_law_388 rfl ?_
  refine G_iload3 390 d_Law_law_389 rfl ?_
  refine G_iconstN 3 391 d_Law_law_390 rfl rfl ?_
  first | refine G_iaddN 392 d_Law_law_391 rfl ?_ | refine G_iadd 392 d_Law_law_391 rfl ?_
  refine G_scald 393 d_Law_law_392 rfl (ix_nI (by omega) (by omega)) ?_
  refine G_invV3 396 d_Law_law_393 rfl e_Law_27 M_Alg_add rfl hs (Nat.le_of_ble_eq_true rfl) (Nat.le_of_ble_eq_true rfl) rfl (G.conseq (hc) (fun r393 X393 FI393 AI393 AL393 h393 => ?_))
  obtain ⟨c1, c2, c3, c4⟩ := h393
  subst c1
  obtain ⟨m1, m2⟩ := LI.m1 hm hM c4
  have ms := m1.1
  have hd := m_add (V := V) (d := d + 8) (s := v_sx V (i + 1)) (t := v_sx V (i + 2)) (c := v_sx V (i + 3)) m1 m2 hW
  refine G_aload2 397 d_Law_law_396 rfl ?_
  refine G_aload0 398 d_Law_law_397 rfl ?_
  refine G_iload3 399 d_Law_law_398 rfl ?_
  refine G_iconstN 1 400 d_Law_law_399 rfl rfl ?_
  first | refine G_iaddN 401 d_Law_law_400 rfl ?_ | refine G_iadd 401 d_Law_law_400 rfl ?_
  refine G_scald 402 d_Law_law_401 rfl (ix_nI (by omega) (by omega)) ?_
  refine G_aload0 403 d_Law_law_402 rfl ?_
  refine G_iload3 404 d_Law_law_403 rfl ?_
  refine G_iconstN 2 405 d_Law_law_404 rfl rfl ?_
  first | refine G_iaddN 406 d_Law_law_405 rfl ?_ | refine G_iadd 406 d_Law_law_405 rfl ?_
  refine G_scald 407 d_Law_law_406 rfl (ix_nI (by omega) (by omega)) ?_
  refine G_aload0 408 d_Law_law_407 rfl ?_
  refine G_iload3 409 d_Law_law_408 rfl ?_
  refine G_iconstN 3 410 d_Law_law_409 rfl rfl ?_
  first | refine G_iaddN 411 d_Law_law_410 rfl ?_ | refine G_iadd 411 d_Law_law_410 rfl ?_
  refine G_scald 412 d_Law_law_411 rfl (ix_nI (by omega) (by omega)) ?_
  refine G_invV3 415 d_Law_law_412 rfl e_Law_31 M_Mod_add rfl ms (Nat.le_of_ble_eq_true rfl) (Nat.le_of_ble_eq_true rfl) rfl (G.conseq (hd) (fun r412 X412 FI412 AI412 AL412 h412 => ?_))
  obtain ⟨d1, d2, d3, d4⟩ := h412
  replace d2 := d2.symm
  subst d1 d2
  first | refine G_iceqN 2104 418 d_Law_law_415 rfl rfl (by omega) (by omega) (fun h415 => ?_) (fun h415 => ?_) | refine G_iceq 2104 418 d_Law_law_415 rfl rfl (fun h415 => ?_) (fun h415 => ?_)
  · exact k _ _ _ _ _ ⟨c2, m1, c3.fm (ws_add hW) d4, d3, ws_add hW, ns_add hN⟩
  · exact absurd rfl h415
theorem l_times {V : GV} {d lo C E i : Nat} {S : ST} {X : XT} {FI AI : FT} {AL : LT} {P : PT} (hcg : CGL) (hL : LI C E S X FI AI AL lo) (hi : i + 6 ≤ v_sn V) (hn : v_sn V ≤ 3072) (k : LK V d lo C E i P) : G V m_Law_law (d + 11) 420 [some (.ref (v_sb V)), some (.ref lo), some (.ref (lo + 110)), some (.int (nI i))] [] X FI AI AL P := by
  obtain ⟨h, hm, hI, hM, hW, hN⟩ := hL
  have hs := h.sh
  have hc := c_times (V := V) (d := d + 7) (s := v_sx V (i + 1)) (t := v_sx V (i + 2)) h hI hW
  refine G_aload1 421 d_Law_law_420 rfl ?_
  refine G_aload0 422 d_Law_law_421 rfl ?_
  refine G_iload3 423 d_Law_law_422 rfl ?_
  refine G_iconstN 1 424 d_Law_law_423 rfl rfl ?_
  first | refine G_iaddN 425 d_Law_law_424 rfl ?_ | refine G_iadd 425 d_Law_law_424 rfl ?_
  refine G_scald 426 d_Law_law_425 rfl (ix_nI (by omega) (by omega)) ?_
  refine G_aload0 427 d_Law_law_426 rfl ?_
  refine G_iload3 428 d_Law_law_427 rfl ?_
  refine G_iconstN 2 429 d_Law_law_428 rfl rfl ?_
  first | refine G_iaddN 430 d_Law_law_429 rfl ?_ | refine G_iadd 430 d_Law_law_429 rfl ?_
  refine G_scald 431 d_Law_law_430 rfl (ix_nI (by omega) (by omega)) ?_
  refine G_invV2 434 d_Law_law_431 rfl e_Law_32 M_Alg_times rfl hs (Nat.le_of_ble_eq_true rfl) (Nat.le_of_ble_eq_true rfl) rfl (G.conseq (hc) (fun r431 X431 FI431 AI431 AL431 h431 => ?_))
  obtain ⟨c1, c2, c3, c4⟩ := h431
  subst c1
  obtain ⟨m1, m2⟩ := LI.m1 hm hM c4
  have ms := m1.1
  have hd := m_times (V := V) (d := d + 7) (s := v_sx V (i + 1)) (t := v_sx V (i + 2)) m1 m2 hW
  refine G_aload2 435 d_Law_law_434 rfl ?_
  refine G_aload0 436 d_Law_law_435 rfl ?_
  refine G_iload3 437 d_Law_law_436 rfl ?_
  refine G_iconstN 1 438 d_Law_law_437 rfl rfl ?_
  first | refine G_iaddN 439 d_Law_law_438 rfl ?_ | refine G_iadd 439 d_Law_law_438 rfl ?_
  refine G_scald 440 d_Law_law_439 rfl (ix_nI (by omega) (by omega)) ?_
  refine G_aload0 441 d_Law_law_440 rfl ?_
  refine G_iload3 442 d_Law_law_441 rfl ?_
  refine G_iconstN 2 443 d_Law_law_442 rfl rfl ?_
  first | refine G_iaddN 444 d_Law_law_443 rfl ?_ | refine G_iadd 444 d_Law_law_443 rfl ?_
  refine G_scald 445 d_Law_law_444 rfl (ix_nI (by omega) (by omega)) ?_
  refine G_invV2 448 d_Law_law_445 rfl e_Law_36 M_Mod_times rfl ms (Nat.le_of_ble_eq_true rfl) (Nat.le_of_ble_eq_true rfl) rfl (G.conseq (hd) (fun r445 X445 FI445 AI445 AL445 h445 => ?_))
  obtain ⟨d1, d2, d3, d4⟩ := h445
  replace d2 := d2.symm
  subst d1 d2
  first | refine G_iceqN 2104 451 d_Law_law_448 rfl rfl (by omega) (by omega) (fun h448 => ?_) (fun h448 => ?_) | refine G_iceq 2104 451 d_Law_law_448 rfl rfl (fun h448 => ?_) (fun h448 => ?_)
  · exact k _ _ _ _ _ ⟨c2, m1, c3.fm (ws_times hW) d4, d3, ws_times hW, ns_times hN⟩
  · exact absurd rfl h448
theorem l_turn {V : GV} {d lo C E i : Nat} {S : ST} {X : XT} {FI AI : FT} {AL : LT} {P : PT} (hcg : CGL) (hL : LI C E S X FI AI AL lo) (hi : i + 6 ≤ v_sn V) (hn : v_sn V ≤ 3072) (k : LK V d lo C E i P) : G V m_Law_law (d + 11) 453 [some (.ref (v_sb V)), some (.ref lo), some (.ref (lo + 110)), some (.int (nI i))] [] X FI AI AL P := by
  obtain ⟨h, hm, hI, hM, hW, hN⟩ := hL
  have hs := h.sh
  have hc := c_turn (V := V) (d := d + 7) (s := v_sx V (i + 1)) (t := v_sx V (i + 2)) h hI hW
  refine G_aload1 454 d_Law_law_453 rfl ?_
  refine G_aload0 455 d_Law_law_454 rfl ?_
  refine G_iload3 456 d_Law_law_455 rfl ?_
  refine G_iconstN 1 457 d_Law_law_456 rfl rfl ?_
  first | refine G_iaddN 458 d_Law_law_457 rfl ?_ | refine G_iadd 458 d_Law_law_457 rfl ?_
  refine G_scald 459 d_Law_law_458 rfl (ix_nI (by omega) (by omega)) ?_
  refine G_aload0 460 d_Law_law_459 rfl ?_
  refine G_iload3 461 d_Law_law_460 rfl ?_
  refine G_iconstN 2 462 d_Law_law_461 rfl rfl ?_
  first | refine G_iaddN 463 d_Law_law_462 rfl ?_ | refine G_iadd 463 d_Law_law_462 rfl ?_
  refine G_scald 464 d_Law_law_463 rfl (ix_nI (by omega) (by omega)) ?_
  refine G_invV2 467 d_Law_law_464 rfl e_Law_37 M_Alg_turn rfl hs (Nat.le_of_ble_eq_true rfl) (Nat.le_of_ble_eq_true rfl) rfl (G.conseq (hc) (fun r464 X464 FI464 AI464 AL464 h464 => ?_))
  obtain ⟨c1, c2, c3, c4⟩ := h464
  subst c1
  obtain ⟨m1, m2⟩ := LI.m1 hm hM c4
  have ms := m1.1
  have hd := m_turn (V := V) (d := d + 7) (s := v_sx V (i + 1)) (w := v_sx V (i + 2)) m1 m2 hW
  refine G_aload2 468 d_Law_law_467 rfl ?_
  refine G_aload0 469 d_Law_law_468 rfl ?_
  refine G_iload3 470 d_Law_law_469 rfl ?_
  refine G_iconstN 1 471 d_Law_law_470 rfl rfl ?_
  first | refine G_iaddN 472 d_Law_law_471 rfl ?_ | refine G_iadd 472 d_Law_law_471 rfl ?_
  refine G_scald 473 d_Law_law_472 rfl (ix_nI (by omega) (by omega)) ?_
  refine G_aload0 474 d_Law_law_473 rfl ?_
  refine G_iload3 475 d_Law_law_474 rfl ?_
  refine G_iconstN 2 476 d_Law_law_475 rfl rfl ?_
  first | refine G_iaddN 477 d_Law_law_476 rfl ?_ | refine G_iadd 477 d_Law_law_476 rfl ?_
  refine G_scald 478 d_Law_law_477 rfl (ix_nI (by omega) (by omega)) ?_
  refine G_invV2 481 d_Law_law_478 rfl e_Law_40 M_Mod_turn rfl ms (Nat.le_of_ble_eq_true rfl) (Nat.le_of_ble_eq_true rfl) rfl (G.conseq (hd) (fun r478 X478 FI478 AI478 AL478 h478 => ?_))
  obtain ⟨d1, d2, d3, d4⟩ := h478
  replace d2 := d2.symm
  subst d1 d2
  first | refine G_iceqN 2104 484 d_Law_law_481 rfl rfl (by omega) (by omega) (fun h481 => ?_) (fun h481 => ?_) | refine G_iceq 2104 484 d_Law_law_481 rfl rfl (fun h481 => ?_) (fun h481 => ?_)
  · exact k _ _ _ _ _ ⟨c2, m1, c3.fm (ws_turn hW) d4, d3, ws_turn hW, ns_turn hN⟩
  · exact absurd rfl h481
theorem l_even {V : GV} {d lo C E i : Nat} {S : ST} {X : XT} {FI AI : FT} {AL : LT} {P : PT} (hcg : CGL) (hL : LI C E S X FI AI AL lo) (hi : i + 6 ≤ v_sn V) (hn : v_sn V ≤ 3072) (k : LK V d lo C E i P) : G V m_Law_law (d + 11) 486 [some (.ref (v_sb V)), some (.ref lo), some (.ref (lo + 110)), some (.int (nI i))] [] X FI AI AL P := by
  obtain ⟨h, hm, hI, hM, hW, hN⟩ := hL
  have hs := h.sh
  have hc := c_even (V := V) (d := d + 7) (s := v_sx V (i + 1)) h hI hW
  refine G_aload1 487 d_Law_law_486 rfl ?_
  refine G_aload0 488 d_Law_law_487 rfl ?_
  refine G_iload3 489 d_Law_law_488 rfl ?_
  refine G_iconstN 1 490 d_Law_law_489 rfl rfl ?_
  first | refine G_iaddN 491 d_Law_law_490 rfl ?_ | refine G_iadd 491 d_Law_law_490 rfl ?_
  refine G_scald 492 d_Law_law_491 rfl (ix_nI (by omega) (by omega)) ?_
  refine G_invV1 495 d_Law_law_492 rfl e_Law_41 M_Alg_even rfl hs (Nat.le_of_ble_eq_true rfl) (Nat.le_of_ble_eq_true rfl) rfl (G.conseq (hc) (fun r492 X492 FI492 AI492 AL492 h492 => ?_))
  obtain ⟨c1, c2, c3, c4⟩ := h492
  subst c1
  obtain ⟨m1, m2⟩ := LI.m1 hm hM c4
  have ms := m1.1
  have hd := m_even (V := V) (d := d + 7) (s := v_sx V (i + 1)) m1 m2 hW
  refine G_aload2 496 d_Law_law_495 rfl ?_
  refine G_aload0 497 d_Law_law_496 rfl ?_
  refine G_iload3 498 d_Law_law_497 rfl ?_
  refine G_iconstN 1 499 d_Law_law_498 rfl rfl ?_
  first | refine G_iaddN 500 d_Law_law_499 rfl ?_ | refine G_iadd 500 d_Law_law_499 rfl ?_
  refine G_scald 501 d_Law_law_500 rfl (ix_nI (by omega) (by omega)) ?_
  refine G_invV1 504 d_Law_law_501 rfl e_Law_44 M_Mod_even rfl ms (Nat.le_of_ble_eq_true rfl) (Nat.le_of_ble_eq_true rfl) rfl (G.conseq (hd) (fun r501 X501 FI501 AI501 AL501 h501 => ?_))
  obtain ⟨d1, d2, d3, d4⟩ := h501
  replace d2 := d2.symm
  subst d1 d2
  first | refine G_iceqN 2104 507 d_Law_law_504 rfl rfl (by omega) (by omega) (fun h504 => ?_) (fun h504 => ?_) | refine G_iceq 2104 507 d_Law_law_504 rfl rfl (fun h504 => ?_) (fun h504 => ?_)
  · exact k _ _ _ _ _ ⟨c2, m1, c3.fm (ws_even hW) d4, d3, ws_even hW, ns_even hN⟩
  · exact absurd rfl h504
theorem l_orbit {V : GV} {d lo C E i : Nat} {S : ST} {X : XT} {FI AI : FT} {AL : LT} {P : PT} (hcg : CGL) (hL : LI C E S X FI AI AL lo) (hi : i + 6 ≤ v_sn V) (hn : v_sn V ≤ 3072) (k : LK V d lo C E i P) : G V m_Law_law (d + 11) 509 [some (.ref (v_sb V)), some (.ref lo), some (.ref (lo + 110)), some (.int (nI i))] [] X FI AI AL P := by
  obtain ⟨h, hm, hI, hM, hW, hN⟩ := hL
  have hs := h.sh
  have hc := c_orbit (V := V) (d := d + 7) (s := v_sx V (i + 1)) h hI hW
  refine G_aload1 510 d_Law_law_509 rfl ?_
  refine G_aload0 511 d_Law_law_510 rfl ?_
  refine G_iload3 512 d_Law_law_511 rfl ?_
  refine G_iconstN 1 513 d_Law_law_512 rfl rfl ?_
  first | refine G_iaddN 514 d_Law_law_513 rfl ?_ | refine G_iadd 514 d_Law_law_513 rfl ?_
  refine G_scald 515 d_Law_law_514 rfl (ix_nI (by omega) (by omega)) ?_
  refine G_invV1 518 d_Law_law_515 rfl e_Law_45 M_Alg_orbit rfl hs (Nat.le_of_ble_eq_true rfl) (Nat.le_of_ble_eq_true rfl) rfl (G.conseq (hc) (fun r515 X515 FI515 AI515 AL515 h515 => ?_))
  obtain ⟨c1, c2, c3, c4⟩ := h515
  subst c1
  obtain ⟨m1, m2⟩ := LI.m1 hm hM c4
  have ms := m1.1
  have hd := m_orbit (V := V) (d := d + 7) (s := v_sx V (i + 1)) m1 m2 hW
  refine G_aload2 519 d_Law_law_518 rfl ?_
  refine G_aload0 520 d_Law_law_519 rfl ?_
  refine G_iload3 521 d_Law_law_520 rfl ?_
  refine G_iconstN 1 522 d_Law_law_521 rfl rfl ?_
  first | refine G_iaddN 523 d_Law_law_522 rfl ?_ | refine G_iadd 523 d_Law_law_522 rfl ?_
  refine G_scald 524 d_Law_law_523 rfl (ix_nI (by omega) (by omega)) ?_
  refine G_invV1 527 d_Law_law_524 rfl e_Law_48 M_Mod_orbit rfl ms (Nat.le_of_ble_eq_true rfl) (Nat.le_of_ble_eq_true rfl) rfl (G.conseq (hd) (fun r524 X524 FI524 AI524 AL524 h524 => ?_))
  obtain ⟨d1, d2, d3, d4⟩ := h524
  replace d2 := d2.symm
  subst d1 d2
  rw [id_orbit] at c3
  rw [id_orbit] at d3
  first | refine G_iceqN 2104 530 d_Law_law_527 rfl rfl (by omega) (by omega) (fun h527 => ?_) (fun h527 => ?_) | refine G_iceq 2104 530 d_Law_law_527 rfl rfl (fun h527 => ?_) (fun h527 => ?_)
  · exact k _ _ _ _ _ ⟨c2, m1, c3.fm hW d4, d3, hW, hN⟩
  · exact absurd rfl h527
theorem l_like {V : GV} {d lo C E i : Nat} {S : ST} {X : XT} {FI AI : FT} {AL : LT} {P : PT} (hcg : CGL) (hL : LI C E S X FI AI AL lo) (hi : i + 6 ≤ v_sn V) (hn : v_sn V ≤ 3072) (k : LK V d lo C E i P) : G V m_Law_law (d + 11) 532 [some (.ref (v_sb V)), some (.ref lo), some (.ref (lo + 110)), some (.int (nI i))] [] X FI AI AL P := by
  obtain ⟨h, hm, hI, hM, hW, hN⟩ := hL
  have hs := h.sh
  have hc := c_like (V := V) (d := d + 8) (s := v_sx V (i + 1)) h hI hW
  refine G_aload1 533 d_Law_law_532 rfl ?_
  refine G_aload0 534 d_Law_law_533 rfl ?_
  refine G_iload3 535 d_Law_law_534 rfl ?_
  refine G_iconstN 1 536 d_Law_law_535 rfl rfl ?_
  first | refine G_iaddN 537 d_Law_law_536 rfl ?_ | refine G_iadd 537 d_Law_law_536 rfl ?_
  refine G_scald 538 d_Law_law_537 rfl (ix_nI (by omega) (by omega)) ?_
  refine G_invV1 541 d_Law_law_538 rfl e_Law_49 M_Alg_like rfl hs (Nat.le_of_ble_eq_true rfl) (Nat.le_of_ble_eq_true rfl) rfl (G.conseq (hc) (fun r538 X538 FI538 AI538 AL538 h538 => ?_))
  obtain ⟨c1, c2, c3, c4⟩ := h538
  subst c1
  obtain ⟨m1, m2⟩ := LI.m1 hm hM c4
  have ms := m1.1
  have hd := m_like (V := V) (d := d + 9) (s := v_sx V (i + 1)) m1 m2 hW
  refine G_aload2 542 d_Law_law_541 rfl ?_
  refine G_aload0 543 d_Law_law_542 rfl ?_
  refine G_iload3 544 d_Law_law_543 rfl ?_
  refine G_iconstN 1 545 d_Law_law_544 rfl rfl ?_
  first | refine G_iaddN 546 d_Law_law_545 rfl ?_ | refine G_iadd 546 d_Law_law_545 rfl ?_
  refine G_scald 547 d_Law_law_546 rfl (ix_nI (by omega) (by omega)) ?_
  refine G_invV1 550 d_Law_law_547 rfl e_Law_52 M_Mod_like rfl ms (Nat.le_of_ble_eq_true rfl) (Nat.le_of_ble_eq_true rfl) rfl (G.conseq (hd) (fun r547 X547 FI547 AI547 AL547 h547 => ?_))
  obtain ⟨d1, d2, d3, d4⟩ := h547
  replace d2 := d2.symm
  subst d1 d2
  rw [id_like] at c3
  rw [id_like] at d3
  first | refine G_iceqN 2104 553 d_Law_law_550 rfl rfl (by omega) (by omega) (fun h550 => ?_) (fun h550 => ?_) | refine G_iceq 2104 553 d_Law_law_550 rfl rfl (fun h550 => ?_) (fun h550 => ?_)
  · exact k _ _ _ _ _ ⟨c2, m1, c3.fm hW d4, d3, hW, hN⟩
  · exact absurd rfl h550
theorem l_coefficient {V : GV} {d lo C E i : Nat} {S : ST} {X : XT} {FI AI : FT} {AL : LT} {P : PT} (hcg : CGL) (hL : LI C E S X FI AI AL lo) (hi : i + 6 ≤ v_sn V) (hn : v_sn V ≤ 3072) (k : LK V d lo C E i P) : G V m_Law_law (d + 11) 555 [some (.ref (v_sb V)), some (.ref lo), some (.ref (lo + 110)), some (.int (nI i))] [] X FI AI AL P := by
  obtain ⟨h, hm, hI, hM, hW, hN⟩ := hL
  have hs := h.sh
  have hc := c_coefficient (V := V) (d := d + 8) (s := v_sx V (i + 1)) (x := v_sx V (i + 2)) (y := v_sx V (i + 3)) (z := v_sx V (i + 4)) h hI hW
  refine G_aload1 556 d_Law_law_555 rfl ?_
  refine G_aload0 557 d_Law_law_556 rfl ?_
  refine G_iload3 558 d_Law_law_557 rfl ?_
  refine G_iconstN 1 559 d_Law_law_558 rfl rfl ?_
  first | refine G_iaddN 560 d_Law_law_559 rfl ?_ | refine G_iadd 560 d_Law_law_559 rfl ?_
  refine G_scald 561 d_Law_law_560 rfl (ix_nI (by omega) (by omega)) ?_
  refine G_aload0 562 d_Law_law_561 rfl ?_
  refine G_iload3 563 d_Law_law_562 rfl ?_
  refine G_iconstN 2 564 d_Law_law_563 rfl rfl ?_
  first | refine G_iaddN 565 d_Law_law_564 rfl ?_ | refine G_iadd 565 d_Law_law_564 rfl ?_
  refine G_scald 566 d_Law_law_565 rfl (ix_nI (by omega) (by omega)) ?_
  refine G_aload0 567 d_Law_law_566 rfl ?_
  refine G_iload3 568 d_Law_law_567 rfl ?_
  refine G_iconstN 3 569 d_Law_law_568 rfl rfl ?_
  first | refine G_iaddN 570 d_Law_law_569 rfl ?_ | refine G_iadd 570 d_Law_law_569 rfl ?_
  refine G_scald 571 d_Law_law_570 rfl (ix_nI (by omega) (by omega)) ?_
  refine G_aload0 572 d_Law_law_571 rfl ?_
  refine G_iload3 573 d_Law_law_572 rfl ?_
  refine G_iconstN 4 574 d_Law_law_573 rfl rfl ?_
  first | refine G_iaddN 575 d_Law_law_574 rfl ?_ | refine G_iadd 575 d_Law_law_574 rfl ?_
  refine G_scald 576 d_Law_law_575 rfl (ix_nI (by omega) (by omega)) ?_
  refine G_invV4 579 d_Law_law_576 rfl e_Law_53 M_Alg_coefficient rfl hs (Nat.le_of_ble_eq_true rfl) (Nat.le_of_ble_eq_true rfl) rfl (G.conseq (hc) (fun r576 X576 FI576 AI576 AL576 h576 => ?_))
  obtain ⟨c1, c2, c3, c4⟩ := h576
  subst c1
  obtain ⟨m1, m2⟩ := LI.m1 hm hM c4
  have ms := m1.1
  have hd := m_coefficient (V := V) (d := d + 8) (s := v_sx V (i + 1)) (x := v_sx V (i + 2)) (y := v_sx V (i + 3)) (z := v_sx V (i + 4)) m1 m2 hW
  refine G_aload2 580 d_Law_law_579 rfl ?_
  refine G_aload0 581 d_Law_law_580 rfl ?_
  refine G_iload3 582 d_Law_law_581 rfl ?_
  refine G_iconstN 1 583 d_Law_law_582 rfl rfl ?_
  first | refine G_iaddN 584 d_Law_law_583 rfl ?_ | refine G_iadd 584 d_Law_law_583 rfl ?_
  refine G_scald 585 d_Law_law_584 rfl (ix_nI (by omega) (by omega)) ?_
  refine G_aload0 586 d_Law_law_585 rfl ?_
  refine G_iload3 587 d_Law_law_586 rfl ?_
  refine G_iconstN 2 588 d_Law_law_587 rfl rfl ?_
  first | refine G_iaddN 589 d_Law_law_588 rfl ?_ | refine G_iadd 589 d_Law_law_588 rfl ?_
  refine G_scald 590 d_Law_law_589 rfl (ix_nI (by omega) (by omega)) ?_
  refine G_aload0 591 d_Law_law_590 rfl ?_
  refine G_iload3 592 d_Law_law_591 rfl ?_
  refine G_iconstN 3 593 d_Law_law_592 rfl rfl ?_
  first | refine G_iaddN 594 d_Law_law_593 rfl ?_ | refine G_iadd 594 d_Law_law_593 rfl ?_
  refine G_scald 595 d_Law_law_594 rfl (ix_nI (by omega) (by omega)) ?_
  refine G_aload0 596 d_Law_law_595 rfl ?_
  refine G_iload3 597 d_Law_law_596 rfl ?_
  refine G_iconstN 4 598 d_Law_law_597 rfl rfl ?_
  first | refine G_iaddN 599 d_Law_law_598 rfl ?_ | refine G_iadd 599 d_Law_law_598 rfl ?_
  refine G_scald 600 d_Law_law_599 rfl (ix_nI (by omega) (by omega)) ?_
  refine G_invV4 603 d_Law_law_600 rfl e_Law_57 M_Mod_coefficient rfl ms (Nat.le_of_ble_eq_true rfl) (Nat.le_of_ble_eq_true rfl) rfl (G.conseq (hd) (fun r600 X600 FI600 AI600 AL600 h600 => ?_))
  obtain ⟨d1, d2, d3, d4⟩ := h600
  replace d2 := d2.symm
  subst d1 d2
  rw [id_coefficient] at c3
  rw [id_coefficient] at d3
  refine G_lceq 2104 607 d_Law_law_603 d_Law_law_604 rfl rfl (fun h603 => ?_) (fun h603 => ?_)
  · exact k _ _ _ _ _ ⟨c2, m1, c3.fm hW d4, d3, hW, hN⟩
  · exact absurd rfl h603
theorem l_lead {V : GV} {d lo C E i : Nat} {S : ST} {X : XT} {FI AI : FT} {AL : LT} {P : PT} (hcg : CGL) (hL : LI C E S X FI AI AL lo) (hi : i + 6 ≤ v_sn V) (hn : v_sn V ≤ 3072) (k : LK V d lo C E i P) : G V m_Law_law (d + 11) 609 [some (.ref (v_sb V)), some (.ref lo), some (.ref (lo + 110)), some (.int (nI i))] [] X FI AI AL P := by
  obtain ⟨h, hm, hI, hM, hW, hN⟩ := hL
  have hs := h.sh
  have hc := c_lead (V := V) (d := d + 8) (s := v_sx V (i + 1)) (w := v_sx V (i + 2)) h hI hW
  refine G_aload1 610 d_Law_law_609 rfl ?_
  refine G_aload0 611 d_Law_law_610 rfl ?_
  refine G_iload3 612 d_Law_law_611 rfl ?_
  refine G_iconstN 1 613 d_Law_law_612 rfl rfl ?_
  first | refine G_iaddN 614 d_Law_law_613 rfl ?_ | refine G_iadd 614 d_Law_law_613 rfl ?_
  refine G_scald 615 d_Law_law_614 rfl (ix_nI (by omega) (by omega)) ?_
  refine G_aload0 616 d_Law_law_615 rfl ?_
  refine G_iload3 617 d_Law_law_616 rfl ?_
  refine G_iconstN 2 618 d_Law_law_617 rfl rfl ?_
  first | refine G_iaddN 619 d_Law_law_618 rfl ?_ | refine G_iadd 619 d_Law_law_618 rfl ?_
  refine G_scald 620 d_Law_law_619 rfl (ix_nI (by omega) (by omega)) ?_
  refine G_invV2 623 d_Law_law_620 rfl e_Law_58 M_Alg_lead rfl hs (Nat.le_of_ble_eq_true rfl) (Nat.le_of_ble_eq_true rfl) rfl (G.conseq (hc) (fun r620 X620 FI620 AI620 AL620 h620 => ?_))
  obtain ⟨c1, c2, c3, c4⟩ := h620
  subst c1
  obtain ⟨m1, m2⟩ := LI.m1 hm hM c4
  have ms := m1.1
  have hd := m_lead (V := V) (d := d + 8) (s := v_sx V (i + 1)) (w := v_sx V (i + 2)) m1 m2 hW
  refine G_aload2 624 d_Law_law_623 rfl ?_
  refine G_aload0 625 d_Law_law_624 rfl ?_
  refine G_iload3 626 d_Law_law_625 rfl ?_
  refine G_iconstN 1 627 d_Law_law_626 rfl rfl ?_
  first | refine G_iaddN 628 d_Law_law_627 rfl ?_ | refine G_iadd 628 d_Law_law_627 rfl ?_
  refine G_scald 629 d_Law_law_628 rfl (ix_nI (by omega) (by omega)) ?_
  refine G_aload0 630 d_Law_law_629 rfl ?_
  refine G_iload3 631 d_Law_law_630 rfl ?_
  refine G_iconstN 2 632 d_Law_law_631 rfl rfl ?_
  first | refine G_iaddN 633 d_Law_law_632 rfl ?_ | refine G_iadd 633 d_Law_law_632 rfl ?_
  refine G_scald 634 d_Law_law_633 rfl (ix_nI (by omega) (by omega)) ?_
  refine G_invV2 637 d_Law_law_634 rfl e_Law_61 M_Mod_lead rfl ms (Nat.le_of_ble_eq_true rfl) (Nat.le_of_ble_eq_true rfl) rfl (G.conseq (hd) (fun r634 X634 FI634 AI634 AL634 h634 => ?_))
  obtain ⟨d1, d2, d3, d4⟩ := h634
  replace d2 := d2.symm
  subst d1 d2
  rw [id_lead] at c3
  rw [id_lead] at d3
  first | refine G_iceqN 2104 640 d_Law_law_637 rfl rfl (by omega) (by omega) (fun h637 => ?_) (fun h637 => ?_) | refine G_iceq 2104 640 d_Law_law_637 rfl rfl (fun h637 => ?_) (fun h637 => ?_)
  · exact k _ _ _ _ _ ⟨c2, m1, c3.fm hW d4, d3, hW, hN⟩
  · exact absurd rfl h637
theorem l_norm {V : GV} {d lo C E i : Nat} {S : ST} {X : XT} {FI AI : FT} {AL : LT} {P : PT} (hcg : CGL) (hL : LI C E S X FI AI AL lo) (hi : i + 6 ≤ v_sn V) (hn : v_sn V ≤ 3072) (k : LK V d lo C E i P) : G V m_Law_law (d + 11) 642 [some (.ref (v_sb V)), some (.ref lo), some (.ref (lo + 110)), some (.int (nI i))] [] X FI AI AL P := by
  obtain ⟨h, hm, hI, hM, hW, hN⟩ := hL
  have hs := h.sh
  have hc := c_norm (V := V) (d := d + 8) (x := v_sx V (i + 1)) h hI hW
  refine G_aload1 643 d_Law_law_642 rfl ?_
  refine G_aload0 644 d_Law_law_643 rfl ?_
  refine G_iload3 645 d_Law_law_644 rfl ?_
  refine G_iconstN 1 646 d_Law_law_645 rfl rfl ?_
  first | refine G_iaddN 647 d_Law_law_646 rfl ?_ | refine G_iadd 647 d_Law_law_646 rfl ?_
  refine G_scald 648 d_Law_law_647 rfl (ix_nI (by omega) (by omega)) ?_
  refine G_invV1 651 d_Law_law_648 rfl e_Law_62 M_Alg_norm rfl hs (Nat.le_of_ble_eq_true rfl) (Nat.le_of_ble_eq_true rfl) rfl (G.conseq (hc) (fun r648 X648 FI648 AI648 AL648 h648 => ?_))
  obtain ⟨c1, c2, c3, c4⟩ := h648
  subst c1
  obtain ⟨m1, m2⟩ := LI.m1 hm hM c4
  have ms := m1.1
  have hd := m_norm (V := V) (d := d + 8) (s := v_sx V (i + 1)) m1 m2 hW
  refine G_aload2 652 d_Law_law_651 rfl ?_
  refine G_aload0 653 d_Law_law_652 rfl ?_
  refine G_iload3 654 d_Law_law_653 rfl ?_
  refine G_iconstN 1 655 d_Law_law_654 rfl rfl ?_
  first | refine G_iaddN 656 d_Law_law_655 rfl ?_ | refine G_iadd 656 d_Law_law_655 rfl ?_
  refine G_scald 657 d_Law_law_656 rfl (ix_nI (by omega) (by omega)) ?_
  refine G_invV1 660 d_Law_law_657 rfl e_Law_66 M_Mod_norm rfl ms (Nat.le_of_ble_eq_true rfl) (Nat.le_of_ble_eq_true rfl) rfl (G.conseq (hd) (fun r657 X657 FI657 AI657 AL657 h657 => ?_))
  obtain ⟨d1, d2, d3, d4⟩ := h657
  replace d2 := d2.symm
  subst d1 d2
  rw [id_norm] at c3
  rw [id_norm] at d3
  refine G_lceq 2104 664 d_Law_law_660 d_Law_law_661 rfl rfl (fun h660 => ?_) (fun h660 => ?_)
  · exact k _ _ _ _ _ ⟨c2, m1, c3.fm hW d4, d3, hW, hN⟩
  · exact absurd rfl h660
theorem l_at {V : GV} {d lo C E i : Nat} {S : ST} {X : XT} {FI AI : FT} {AL : LT} {P : PT} (hcg : CGL) (hL : LI C E S X FI AI AL lo) (hi : i + 6 ≤ v_sn V) (hn : v_sn V ≤ 3072) (k : LK V d lo C E i P) : G V m_Law_law (d + 11) 666 [some (.ref (v_sb V)), some (.ref lo), some (.ref (lo + 110)), some (.int (nI i))] [] X FI AI AL P := by
  obtain ⟨h, hm, hI, hM, hW, hN⟩ := hL
  have hs := h.sh
  have hc := c_at (V := V) (d := d + 7) (s := v_sx V (i + 1)) (x := v_sx V (i + 2)) (y := v_sx V (i + 3)) (z := v_sx V (i + 4)) (m := v_sx V (i + 5)) h hI hW
  refine G_aload1 667 d_Law_law_666 rfl ?_
  refine G_aload0 668 d_Law_law_667 rfl ?_
  refine G_iload3 669 d_Law_law_668 rfl ?_
  refine G_iconstN 1 670 d_Law_law_669 rfl rfl ?_
  first | refine G_iaddN 671 d_Law_law_670 rfl ?_ | refine G_iadd 671 d_Law_law_670 rfl ?_
  refine G_scald 672 d_Law_law_671 rfl (ix_nI (by omega) (by omega)) ?_
  refine G_aload0 673 d_Law_law_672 rfl ?_
  refine G_iload3 674 d_Law_law_673 rfl ?_
  refine G_iconstN 2 675 d_Law_law_674 rfl rfl ?_
  first | refine G_iaddN 676 d_Law_law_675 rfl ?_ | refine G_iadd 676 d_Law_law_675 rfl ?_
  refine G_scald 677 d_Law_law_676 rfl (ix_nI (by omega) (by omega)) ?_
  refine G_aload0 678 d_Law_law_677 rfl ?_
  refine G_iload3 679 d_Law_law_678 rfl ?_
  refine G_iconstN 3 680 d_Law_law_679 rfl rfl ?_
  first | refine G_iaddN 681 d_Law_law_680 rfl ?_ | refine G_iadd 681 d_Law_law_680 rfl ?_
  refine G_scald 682 d_Law_law_681 rfl (ix_nI (by omega) (by omega)) ?_
  refine G_aload0 683 d_Law_law_682 rfl ?_
  refine G_iload3 684 d_Law_law_683 rfl ?_
  refine G_iconstN 4 685 d_Law_law_684 rfl rfl ?_
  first | refine G_iaddN 686 d_Law_law_685 rfl ?_ | refine G_iadd 686 d_Law_law_685 rfl ?_
  refine G_scald 687 d_Law_law_686 rfl (ix_nI (by omega) (by omega)) ?_
  refine G_aload0 688 d_Law_law_687 rfl ?_
  refine G_iload3 689 d_Law_law_688 rfl ?_
  refine G_iconstN 5 690 d_Law_law_689 rfl rfl ?_
  first | refine G_iaddN 691 d_Law_law_690 rfl ?_ | refine G_iadd 691 d_Law_law_690 rfl ?_
  refine G_scald 692 d_Law_law_691 rfl (ix_nI (by omega) (by omega)) ?_
  refine G_invV5 695 d_Law_law_692 rfl e_Law_67 M_Alg_at rfl hs (Nat.le_of_ble_eq_true rfl) (Nat.le_of_ble_eq_true rfl) rfl (G.conseq (hc) (fun r692 X692 FI692 AI692 AL692 h692 => ?_))
  obtain ⟨c1, c2, c3, c4⟩ := h692
  subst c1
  obtain ⟨m1, m2⟩ := LI.m1 hm hM c4
  have ms := m1.1
  have hd := m_at (V := V) (d := d + 7) (s := v_sx V (i + 1)) (x := v_sx V (i + 2)) (y := v_sx V (i + 3)) (z := v_sx V (i + 4)) (m := v_sx V (i + 5)) m1 m2 hW
  refine G_aload2 696 d_Law_law_695 rfl ?_
  refine G_aload0 697 d_Law_law_696 rfl ?_
  refine G_iload3 698 d_Law_law_697 rfl ?_
  refine G_iconstN 1 699 d_Law_law_698 rfl rfl ?_
  first | refine G_iaddN 700 d_Law_law_699 rfl ?_ | refine G_iadd 700 d_Law_law_699 rfl ?_
  refine G_scald 701 d_Law_law_700 rfl (ix_nI (by omega) (by omega)) ?_
  refine G_aload0 702 d_Law_law_701 rfl ?_
  refine G_iload3 703 d_Law_law_702 rfl ?_
  refine G_iconstN 2 704 d_Law_law_703 rfl rfl ?_
  first | refine G_iaddN 705 d_Law_law_704 rfl ?_ | refine G_iadd 705 d_Law_law_704 rfl ?_
  refine G_scald 706 d_Law_law_705 rfl (ix_nI (by omega) (by omega)) ?_
  refine G_aload0 707 d_Law_law_706 rfl ?_
  refine G_iload3 708 d_Law_law_707 rfl ?_
  refine G_iconstN 3 709 d_Law_law_708 rfl rfl ?_
  first | refine G_iaddN 710 d_Law_law_709 rfl ?_ | refine G_iadd 710 d_Law_law_709 rfl ?_
  refine G_scald 711 d_Law_law_710 rfl (ix_nI (by omega) (by omega)) ?_
  refine G_aload0 712 d_Law_law_711 rfl ?_
  refine G_iload3 713 d_Law_law_712 rfl ?_
  refine G_iconstN 4 714 d_Law_law_713 rfl rfl ?_
  first | refine G_iaddN 715 d_Law_law_714 rfl ?_ | refine G_iadd 715 d_Law_law_714 rfl ?_
  refine G_scald 716 d_Law_law_715 rfl (ix_nI (by omega) (by omega)) ?_
  refine G_aload0 717 d_Law_law_716 rfl ?_
  refine G_iload3 718 d_Law_law_717 rfl ?_
  refine G_iconstN 5 719 d_Law_law_718 rfl rfl ?_
  first | refine G_iaddN 720 d_Law_law_719 rfl ?_ | refine G_iadd 720 d_Law_law_719 rfl ?_
  refine G_scald 721 d_Law_law_720 rfl (ix_nI (by omega) (by omega)) ?_
  refine G_invV5 724 d_Law_law_721 rfl e_Law_71 M_Mod_at rfl ms (Nat.le_of_ble_eq_true rfl) (Nat.le_of_ble_eq_true rfl) rfl (G.conseq (hd) (fun r721 X721 FI721 AI721 AL721 h721 => ?_))
  obtain ⟨d1, d2, d3, d4⟩ := h721
  replace d2 := d2.symm
  subst d1 d2
  rw [id_at] at c3
  rw [id_at] at d3
  refine G_lceq 2104 728 d_Law_law_724 d_Law_law_725 rfl rfl (fun h724 => ?_) (fun h724 => ?_)
  · exact k _ _ _ _ _ ⟨c2, m1, c3.fm hW d4, d3, hW, hN⟩
  · exact absurd rfl h724
theorem l_poly {V : GV} {d lo C E i : Nat} {S : ST} {X : XT} {FI AI : FT} {AL : LT} {P : PT} (hcg : CGL) (hL : LI C E S X FI AI AL lo) (hi : i + 6 ≤ v_sn V) (hn : v_sn V ≤ 3072) (k : LK V d lo C E i P) : G V m_Law_law (d + 11) 730 [some (.ref (v_sb V)), some (.ref lo), some (.ref (lo + 110)), some (.int (nI i))] [] X FI AI AL P := by
  obtain ⟨h, hm, hI, hM, hW, hN⟩ := hL
  have hs := h.sh
  have hc := c_poly (V := V) (d := d + 7) (s := v_sx V (i + 1)) (x := v_sx V (i + 2)) (a := v_sx V (i + 3)) (m := v_sx V (i + 4)) h hI hW
  refine G_aload1 731 d_Law_law_730 rfl ?_
  refine G_aload0 732 d_Law_law_731 rfl ?_
  refine G_iload3 733 d_Law_law_732 rfl ?_
  refine G_iconstN 1 734 d_Law_law_733 rfl rfl ?_
  first | refine G_iaddN 735 d_Law_law_734 rfl ?_ | refine G_iadd 735 d_Law_law_734 rfl ?_
  refine G_scald 736 d_Law_law_735 rfl (ix_nI (by omega) (by omega)) ?_
  refine G_aload0 737 d_Law_law_736 rfl ?_
  refine G_iload3 738 d_Law_law_737 rfl ?_
  refine G_iconstN 2 739 d_Law_law_738 rfl rfl ?_
  first | refine G_iaddN 740 d_Law_law_739 rfl ?_ | refine G_iadd 740 d_Law_law_739 rfl ?_
  refine G_scald 741 d_Law_law_740 rfl (ix_nI (by omega) (by omega)) ?_
  refine G_aload0 742 d_Law_law_741 rfl ?_
  refine G_iload3 743 d_Law_law_742 rfl ?_
  refine G_iconstN 3 744 d_Law_law_743 rfl rfl ?_
  first | refine G_iaddN 745 d_Law_law_744 rfl ?_ | refine G_iadd 745 d_Law_law_744 rfl ?_
  refine G_scald 746 d_Law_law_745 rfl (ix_nI (by omega) (by omega)) ?_
  refine G_aload0 747 d_Law_law_746 rfl ?_
  refine G_iload3 748 d_Law_law_747 rfl ?_
  refine G_iconstN 4 749 d_Law_law_748 rfl rfl ?_
  first | refine G_iaddN 750 d_Law_law_749 rfl ?_ | refine G_iadd 750 d_Law_law_749 rfl ?_
  refine G_scald 751 d_Law_law_750 rfl (ix_nI (by omega) (by omega)) ?_
  refine G_invV4 754 d_Law_law_751 rfl e_Law_72 M_Alg_poly rfl hs (Nat.le_of_ble_eq_true rfl) (Nat.le_of_ble_eq_true rfl) rfl (G.conseq (hc) (fun r751 X751 FI751 AI751 AL751 h751 => ?_))
  obtain ⟨c1, c2, c3, c4⟩ := h751
  subst c1
  obtain ⟨m1, m2⟩ := LI.m1 hm hM c4
  have ms := m1.1
  have hd := m_poly (V := V) (d := d + 7) (s := v_sx V (i + 1)) (x := v_sx V (i + 2)) (a := v_sx V (i + 3)) (m := v_sx V (i + 4)) m1 m2 hW
  refine G_aload2 755 d_Law_law_754 rfl ?_
  refine G_aload0 756 d_Law_law_755 rfl ?_
  refine G_iload3 757 d_Law_law_756 rfl ?_
  refine G_iconstN 1 758 d_Law_law_757 rfl rfl ?_
  first | refine G_iaddN 759 d_Law_law_758 rfl ?_ | refine G_iadd 759 d_Law_law_758 rfl ?_
  refine G_scald 760 d_Law_law_759 rfl (ix_nI (by omega) (by omega)) ?_
  refine G_aload0 761 d_Law_law_760 rfl ?_
  refine G_iload3 762 d_Law_law_761 rfl ?_
  refine G_iconstN 2 763 d_Law_law_762 rfl rfl ?_
  first | refine G_iaddN 764 d_Law_law_763 rfl ?_ | refine G_iadd 764 d_Law_law_763 rfl ?_
  refine G_scald 765 d_Law_law_764 rfl (ix_nI (by omega) (by omega)) ?_
  refine G_aload0 766 d_Law_law_765 rfl ?_
  refine G_iload3 767 d_Law_law_766 rfl ?_
  refine G_iconstN 3 768 d_Law_law_767 rfl rfl ?_
  first | refine G_iaddN 769 d_Law_law_768 rfl ?_ | refine G_iadd 769 d_Law_law_768 rfl ?_
  refine G_scald 770 d_Law_law_769 rfl (ix_nI (by omega) (by omega)) ?_
  refine G_aload0 771 d_Law_law_770 rfl ?_
  refine G_iload3 772 d_Law_law_771 rfl ?_
  refine G_iconstN 4 773 d_Law_law_772 rfl rfl ?_
  first | refine G_iaddN 774 d_Law_law_773 rfl ?_ | refine G_iadd 774 d_Law_law_773 rfl ?_
  refine G_scald 775 d_Law_law_774 rfl (ix_nI (by omega) (by omega)) ?_
  refine G_invV4 778 d_Law_law_775 rfl e_Law_76 M_Mod_poly rfl ms (Nat.le_of_ble_eq_true rfl) (Nat.le_of_ble_eq_true rfl) rfl (G.conseq (hd) (fun r775 X775 FI775 AI775 AL775 h775 => ?_))
  obtain ⟨d1, d2, d3, d4⟩ := h775
  replace d2 := d2.symm
  subst d1 d2
  first | refine G_iceqN 2104 781 d_Law_law_778 rfl rfl (by omega) (by omega) (fun h778 => ?_) (fun h778 => ?_) | refine G_iceq 2104 781 d_Law_law_778 rfl rfl (fun h778 => ?_) (fun h778 => ?_)
  · exact k _ _ _ _ _ ⟨c2, m1, c3.fm (ws_poly hW) d4, d3, ws_poly hW, ns_poly hN⟩
  · exact absurd rfl h778
