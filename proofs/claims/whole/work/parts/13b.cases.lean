section LWC
variable {p : Program} {l : Launch} {e : Env} {s : State} {m : MethodId} {below : List Frame} {meth : Method} {c : Code} {b L : Nat} {xs : Nat → Int32} {D : va_G} {tys : List (ClassId × FieldType)} {sa : Nat → Nat} {cI cT cS : ClassId} {adI adM : Nat → Nat} {Q : State → Prop} {gI gM : Mem}
set_option maxRecDepth 100000 in
set_option maxHeartbeats 4000000 in
theorem lwc_0 (C : LX p s m c b L xs D tys sa cI cT cS adI adM) {x : Int32} (hR : R gI gM) (hin : ∀ v : Int32, v ∈ ([1, 2, 3, 4, 5, 6] : List Int32) → vp_in (x + v) L) (kk : ∀ g1 g2, R g1 g2 → LW p l e s m below meth c b D cI cT cS adI adM 93 4262 Q g1 g2 1666 (lvL b adI adM x) ([])) : LW p l e s m below meth c b D cI cT cS adI adM 93 4262 Q gI gM 216 (lvL b adI adM x) ([]) := by
  obtain ⟨r, g1, g2, h1, h2, h3⟩ := e_count (N := 100000) (Nat.le_of_ble_eq_true rfl) hR (xs (x + 1).toNatClampNeg)
  refine lw_aload_n C 2 dL_law_216 rfl rfl 217 rfl ?_
  refine lw_arg C (1 : Int32) (by decide) (hin 1 (by decide)) dL_law_217 dL_law_218 dL_law_219 dL_law_220 dL_law_221 222 rfl ?_
  refine lw_callIi C (As := [.int (xs (x + 1).toNatClampNeg)]) r g1 (k_X5_count (Nat.le_refl _) h1) wl_13 cm_X5_count (Nat.le_of_ble_eq_true rfl) (Nat.le_of_ble_eq_true rfl) rfl rfl (Nat.le_of_ble_eq_true rfl) dL_law_222 225 rfl ?_
  refine lw_aload_n C 1 dL_law_225 rfl rfl 226 rfl ?_
  refine lw_arg C (1 : Int32) (by decide) (hin 1 (by decide)) dL_law_226 dL_law_227 dL_law_228 dL_law_229 dL_law_230 231 rfl ?_
  refine lw_callMi C (As := [.int (xs (x + 1).toNatClampNeg)]) r g2 (k_X6_count (Nat.le_refl _) h2) wl_17 cm_X6_count (Nat.le_of_ble_eq_true rfl) (Nat.le_of_ble_eq_true rfl) rfl rfl (Nat.le_of_ble_eq_true rfl) dL_law_231 234 rfl ?_
  refine lw_eqT C 1666 dL_law_234 (by decide) ?_
  exact kk g1 g2 h3
set_option maxRecDepth 100000 in
set_option maxHeartbeats 4000000 in
theorem lwc_1 (C : LX p s m c b L xs D tys sa cI cT cS adI adM) {x : Int32} (hR : R gI gM) (hin : ∀ v : Int32, v ∈ ([1, 2, 3, 4, 5, 6] : List Int32) → vp_in (x + v) L) (kk : ∀ g1 g2, R g1 g2 → LW p l e s m below meth c b D cI cT cS adI adM 93 4262 Q g1 g2 1666 (lvL b adI adM x) ([])) : LW p l e s m below meth c b D cI cT cS adI adM 93 4262 Q gI gM 239 (lvL b adI adM x) ([]) := by
  obtain ⟨r, g1, g2, h1, h2, h3⟩ := e_cask (N := 100000) (Nat.le_of_ble_eq_true rfl) hR (xs (x + 1).toNatClampNeg) (xs (x + 2).toNatClampNeg) (xs (x + 3).toNatClampNeg)
  refine lw_aload_n C 2 dL_law_239 rfl rfl 240 rfl ?_
  refine lw_arg C (1 : Int32) (by decide) (hin 1 (by decide)) dL_law_240 dL_law_241 dL_law_242 dL_law_243 dL_law_244 245 rfl ?_
  refine lw_arg C (2 : Int32) (by decide) (hin 2 (by decide)) dL_law_245 dL_law_246 dL_law_247 dL_law_248 dL_law_249 250 rfl ?_
  refine lw_arg C (3 : Int32) (by decide) (hin 3 (by decide)) dL_law_250 dL_law_251 dL_law_252 dL_law_253 dL_law_254 255 rfl ?_
  refine lw_callIi C (As := [.int (xs (x + 1).toNatClampNeg), .int (xs (x + 2).toNatClampNeg), .int (xs (x + 3).toNatClampNeg)]) r g1 (k_X5_cask (Nat.le_refl _) h1) wl_18 cm_X5_cask (Nat.le_of_ble_eq_true rfl) (Nat.le_of_ble_eq_true rfl) rfl rfl (Nat.le_of_ble_eq_true rfl) dL_law_255 258 rfl ?_
  refine lw_aload_n C 1 dL_law_258 rfl rfl 259 rfl ?_
  refine lw_arg C (1 : Int32) (by decide) (hin 1 (by decide)) dL_law_259 dL_law_260 dL_law_261 dL_law_262 dL_law_263 264 rfl ?_
  refine lw_arg C (2 : Int32) (by decide) (hin 2 (by decide)) dL_law_264 dL_law_265 dL_law_266 dL_law_267 dL_law_268 269 rfl ?_
  refine lw_arg C (3 : Int32) (by decide) (hin 3 (by decide)) dL_law_269 dL_law_270 dL_law_271 dL_law_272 dL_law_273 274 rfl ?_
  refine lw_callMi C (As := [.int (xs (x + 1).toNatClampNeg), .int (xs (x + 2).toNatClampNeg), .int (xs (x + 3).toNatClampNeg)]) r g2 (k_X6_cask (Nat.le_refl _) h2) wl_22 cm_X6_cask (Nat.le_of_ble_eq_true rfl) (Nat.le_of_ble_eq_true rfl) rfl rfl (Nat.le_of_ble_eq_true rfl) dL_law_274 277 rfl ?_
  refine lw_eqT C 1666 dL_law_277 (by decide) ?_
  exact kk g1 g2 h3
set_option maxRecDepth 100000 in
set_option maxHeartbeats 4000000 in
theorem lwc_2 (C : LX p s m c b L xs D tys sa cI cT cS adI adM) {x : Int32} (hR : R gI gM) (hin : ∀ v : Int32, v ∈ ([1, 2, 3, 4, 5, 6] : List Int32) → vp_in (x + v) L) (kk : ∀ g1 g2, R g1 g2 → LW p l e s m below meth c b D cI cT cS adI adM 93 4262 Q g1 g2 1666 (lvL b adI adM x) ([])) : LW p l e s m below meth c b D cI cT cS adI adM 93 4262 Q gI gM 282 (lvL b adI adM x) ([]) := by
  obtain ⟨r, g1, g2, h1, h2, h3⟩ := e_lies (N := 100000) (Nat.le_of_ble_eq_true rfl) hR (xs (x + 1).toNatClampNeg) (xs (x + 2).toNatClampNeg)
  refine lw_aload_n C 2 dL_law_282 rfl rfl 283 rfl ?_
  refine lw_arg C (1 : Int32) (by decide) (hin 1 (by decide)) dL_law_283 dL_law_284 dL_law_285 dL_law_286 dL_law_287 288 rfl ?_
  refine lw_arg C (2 : Int32) (by decide) (hin 2 (by decide)) dL_law_288 dL_law_289 dL_law_290 dL_law_291 dL_law_292 293 rfl ?_
  refine lw_callIi C (As := [.int (xs (x + 1).toNatClampNeg), .int (xs (x + 2).toNatClampNeg)]) r g1 (k_X5_lies (Nat.le_refl _) h1) wl_23 cm_X5_lies (Nat.le_of_ble_eq_true rfl) (Nat.le_of_ble_eq_true rfl) rfl rfl (Nat.le_of_ble_eq_true rfl) dL_law_293 296 rfl ?_
  refine lw_aload_n C 1 dL_law_296 rfl rfl 297 rfl ?_
  refine lw_arg C (1 : Int32) (by decide) (hin 1 (by decide)) dL_law_297 dL_law_298 dL_law_299 dL_law_300 dL_law_301 302 rfl ?_
  refine lw_arg C (2 : Int32) (by decide) (hin 2 (by decide)) dL_law_302 dL_law_303 dL_law_304 dL_law_305 dL_law_306 307 rfl ?_
  refine lw_callMi C (As := [.int (xs (x + 1).toNatClampNeg), .int (xs (x + 2).toNatClampNeg)]) r g2 (k_X6_lies (Nat.le_refl _) h2) wl_27 cm_X6_lies (Nat.le_of_ble_eq_true rfl) (Nat.le_of_ble_eq_true rfl) rfl rfl (Nat.le_of_ble_eq_true rfl) dL_law_307 310 rfl ?_
  refine lw_eqT C 1666 dL_law_310 (by decide) ?_
  exact kk g1 g2 h3
set_option maxRecDepth 100000 in
set_option maxHeartbeats 4000000 in
theorem lwc_3 (C : LX p s m c b L xs D tys sa cI cT cS adI adM) {x : Int32} (hR : R gI gM) (hin : ∀ v : Int32, v ∈ ([1, 2, 3, 4, 5, 6] : List Int32) → vp_in (x + v) L) (kk : ∀ g1 g2, R g1 g2 → LW p l e s m below meth c b D cI cT cS adI adM 93 4262 Q g1 g2 1666 (lvL b adI adM x) ([])) : LW p l e s m below meth c b D cI cT cS adI adM 93 4262 Q gI gM 315 (lvL b adI adM x) ([]) := by
  obtain ⟨r, g1, g2, h1, h2, h3⟩ := e_sky (N := 100000) (Nat.le_of_ble_eq_true rfl) hR (xs (x + 1).toNatClampNeg) (xs (x + 2).toNatClampNeg)
  refine lw_aload_n C 2 dL_law_315 rfl rfl 316 rfl ?_
  refine lw_arg C (1 : Int32) (by decide) (hin 1 (by decide)) dL_law_316 dL_law_317 dL_law_318 dL_law_319 dL_law_320 321 rfl ?_
  refine lw_arg C (2 : Int32) (by decide) (hin 2 (by decide)) dL_law_321 dL_law_322 dL_law_323 dL_law_324 dL_law_325 326 rfl ?_
  refine lw_callIi C (As := [.int (xs (x + 1).toNatClampNeg), .int (xs (x + 2).toNatClampNeg)]) r g1 (k_X5_sky (Nat.le_refl _) h1) wl_28 cm_X5_sky (Nat.le_of_ble_eq_true rfl) (Nat.le_of_ble_eq_true rfl) rfl rfl (Nat.le_of_ble_eq_true rfl) dL_law_326 329 rfl ?_
  refine lw_aload_n C 1 dL_law_329 rfl rfl 330 rfl ?_
  refine lw_arg C (1 : Int32) (by decide) (hin 1 (by decide)) dL_law_330 dL_law_331 dL_law_332 dL_law_333 dL_law_334 335 rfl ?_
  refine lw_arg C (2 : Int32) (by decide) (hin 2 (by decide)) dL_law_335 dL_law_336 dL_law_337 dL_law_338 dL_law_339 340 rfl ?_
  refine lw_callMi C (As := [.int (xs (x + 1).toNatClampNeg), .int (xs (x + 2).toNatClampNeg)]) r g2 (k_X6_sky (Nat.le_refl _) h2) wl_31 cm_X6_sky (Nat.le_of_ble_eq_true rfl) (Nat.le_of_ble_eq_true rfl) rfl rfl (Nat.le_of_ble_eq_true rfl) dL_law_340 343 rfl ?_
  refine lw_eqT C 1666 dL_law_343 (by decide) ?_
  exact kk g1 g2 h3
set_option maxRecDepth 100000 in
set_option maxHeartbeats 4000000 in
theorem lwc_4 (C : LX p s m c b L xs D tys sa cI cT cS adI adM) {x : Int32} (hR : R gI gM) (hin : ∀ v : Int32, v ∈ ([1, 2, 3, 4, 5, 6] : List Int32) → vp_in (x + v) L) (kk : ∀ g1 g2, R g1 g2 → LW p l e s m below meth c b D cI cT cS adI adM 93 4262 Q g1 g2 1666 (lvL b adI adM x) ([])) : LW p l e s m below meth c b D cI cT cS adI adM 93 4262 Q gI gM 348 (lvL b adI adM x) ([]) := by
  obtain ⟨r, g1, g2, h1, h2, h3⟩ := e_feed (N := 100000) (Nat.le_of_ble_eq_true rfl) hR (xs (x + 1).toNatClampNeg) (xs (x + 2).toNatClampNeg) (xs (x + 3).toNatClampNeg) (xs (x + 4).toNatClampNeg) (xs (x + 5).toNatClampNeg) (xs (x + 6).toNatClampNeg)
  refine lw_aload_n C 2 dL_law_348 rfl rfl 349 rfl ?_
  refine lw_arg C (1 : Int32) (by decide) (hin 1 (by decide)) dL_law_349 dL_law_350 dL_law_351 dL_law_352 dL_law_353 354 rfl ?_
  refine lw_arg C (2 : Int32) (by decide) (hin 2 (by decide)) dL_law_354 dL_law_355 dL_law_356 dL_law_357 dL_law_358 359 rfl ?_
  refine lw_arg C (3 : Int32) (by decide) (hin 3 (by decide)) dL_law_359 dL_law_360 dL_law_361 dL_law_362 dL_law_363 364 rfl ?_
  refine lw_arg C (4 : Int32) (by decide) (hin 4 (by decide)) dL_law_364 dL_law_365 dL_law_366 dL_law_367 dL_law_368 369 rfl ?_
  refine lw_arg C (5 : Int32) (by decide) (hin 5 (by decide)) dL_law_369 dL_law_370 dL_law_371 dL_law_372 dL_law_373 374 rfl ?_
  refine lw_argb C (6 : Int32) (by decide) (hin 6 (by decide)) dL_law_374 dL_law_375 dL_law_376 dL_law_378 dL_law_379 380 rfl ?_
  refine lw_callIi C (As := [.int (xs (x + 1).toNatClampNeg), .int (xs (x + 2).toNatClampNeg), .int (xs (x + 3).toNatClampNeg), .int (xs (x + 4).toNatClampNeg), .int (xs (x + 5).toNatClampNeg), .int (xs (x + 6).toNatClampNeg)]) r g1 (k_X5_feed (Nat.le_refl _) h1) wl_32 cm_X5_feed (Nat.le_of_ble_eq_true rfl) (Nat.le_of_ble_eq_true rfl) rfl rfl (Nat.le_of_ble_eq_true rfl) dL_law_380 383 rfl ?_
  refine lw_aload_n C 1 dL_law_383 rfl rfl 384 rfl ?_
  refine lw_arg C (1 : Int32) (by decide) (hin 1 (by decide)) dL_law_384 dL_law_385 dL_law_386 dL_law_387 dL_law_388 389 rfl ?_
  refine lw_arg C (2 : Int32) (by decide) (hin 2 (by decide)) dL_law_389 dL_law_390 dL_law_391 dL_law_392 dL_law_393 394 rfl ?_
  refine lw_arg C (3 : Int32) (by decide) (hin 3 (by decide)) dL_law_394 dL_law_395 dL_law_396 dL_law_397 dL_law_398 399 rfl ?_
  refine lw_arg C (4 : Int32) (by decide) (hin 4 (by decide)) dL_law_399 dL_law_400 dL_law_401 dL_law_402 dL_law_403 404 rfl ?_
  refine lw_arg C (5 : Int32) (by decide) (hin 5 (by decide)) dL_law_404 dL_law_405 dL_law_406 dL_law_407 dL_law_408 409 rfl ?_
  refine lw_argb C (6 : Int32) (by decide) (hin 6 (by decide)) dL_law_409 dL_law_410 dL_law_411 dL_law_413 dL_law_414 415 rfl ?_
  refine lw_callMi C (As := [.int (xs (x + 1).toNatClampNeg), .int (xs (x + 2).toNatClampNeg), .int (xs (x + 3).toNatClampNeg), .int (xs (x + 4).toNatClampNeg), .int (xs (x + 5).toNatClampNeg), .int (xs (x + 6).toNatClampNeg)]) r g2 (k_X6_feed (Nat.le_refl _) h2) wl_36 cm_X6_feed (Nat.le_of_ble_eq_true rfl) (Nat.le_of_ble_eq_true rfl) rfl rfl (Nat.le_of_ble_eq_true rfl) dL_law_415 418 rfl ?_
  refine lw_eqT C 1666 dL_law_418 (by decide) ?_
  exact kk g1 g2 h3
set_option maxRecDepth 100000 in
set_option maxHeartbeats 4000000 in
theorem lwc_5 (C : LX p s m c b L xs D tys sa cI cT cS adI adM) {x : Int32} (hR : R gI gM) (hin : ∀ v : Int32, v ∈ ([1, 2, 3, 4, 5, 6] : List Int32) → vp_in (x + v) L) (kk : ∀ g1 g2, R g1 g2 → LW p l e s m below meth c b D cI cT cS adI adM 93 4262 Q g1 g2 1666 (lvL b adI adM x) ([])) : LW p l e s m below meth c b D cI cT cS adI adM 93 4262 Q gI gM 423 (lvL b adI adM x) ([]) := by
  obtain ⟨r, g1, g2, h1, h2, h3⟩ := e_text (N := 100000) (Nat.le_of_ble_eq_true rfl) hR
  refine lw_aload_n C 2 dL_law_423 rfl rfl 424 rfl ?_
  refine lw_callIi C (As := []) r g1 (k_X5_text (Nat.le_refl _) h1) wl_37 cm_X5_text (Nat.le_of_ble_eq_true rfl) (Nat.le_of_ble_eq_true rfl) rfl rfl (Nat.le_of_ble_eq_true rfl) dL_law_424 427 rfl ?_
  refine lw_aload_n C 1 dL_law_427 rfl rfl 428 rfl ?_
  refine lw_callMi C (As := []) r g2 (k_X6_text (Nat.le_refl _) h2) wl_41 cm_X6_text (Nat.le_of_ble_eq_true rfl) (Nat.le_of_ble_eq_true rfl) rfl rfl (Nat.le_of_ble_eq_true rfl) dL_law_428 431 rfl ?_
  refine lw_eqT C 1666 dL_law_431 (by decide) ?_
  exact kk g1 g2 h3
set_option maxRecDepth 100000 in
set_option maxHeartbeats 4000000 in
theorem lwc_6 (C : LX p s m c b L xs D tys sa cI cT cS adI adM) {x : Int32} (hR : R gI gM) (hin : ∀ v : Int32, v ∈ ([1, 2, 3, 4, 5, 6] : List Int32) → vp_in (x + v) L) (kk : ∀ g1 g2, R g1 g2 → LW p l e s m below meth c b D cI cT cS adI adM 93 4262 Q g1 g2 1666 (lvL b adI adM x) ([])) : LW p l e s m below meth c b D cI cT cS adI adM 93 4262 Q gI gM 436 (lvL b adI adM x) ([]) := by
  obtain ⟨r, g1, g2, h1, h2, h3⟩ := e_force (N := 100000) (Nat.le_of_ble_eq_true rfl) hR (xs (x + 1).toNatClampNeg)
  refine lw_aload_n C 2 dL_law_436 rfl rfl 437 rfl ?_
  refine lw_arg C (1 : Int32) (by decide) (hin 1 (by decide)) dL_law_437 dL_law_438 dL_law_439 dL_law_440 dL_law_441 442 rfl ?_
  refine lw_callIi C (As := [.int (xs (x + 1).toNatClampNeg)]) r g1 (k_X5_force (Nat.le_refl _) h1) wl_42 cm_X5_force (Nat.le_of_ble_eq_true rfl) (Nat.le_of_ble_eq_true rfl) rfl rfl (Nat.le_of_ble_eq_true rfl) dL_law_442 445 rfl ?_
  refine lw_aload_n C 1 dL_law_445 rfl rfl 446 rfl ?_
  refine lw_arg C (1 : Int32) (by decide) (hin 1 (by decide)) dL_law_446 dL_law_447 dL_law_448 dL_law_449 dL_law_450 451 rfl ?_
  refine lw_callMi C (As := [.int (xs (x + 1).toNatClampNeg)]) r g2 (k_X6_force (Nat.le_refl _) h2) wl_45 cm_X6_force (Nat.le_of_ble_eq_true rfl) (Nat.le_of_ble_eq_true rfl) rfl rfl (Nat.le_of_ble_eq_true rfl) dL_law_451 454 rfl ?_
  refine lw_eqT C 1666 dL_law_454 (by decide) ?_
  exact kk g1 g2 h3
set_option maxRecDepth 100000 in
set_option maxHeartbeats 4000000 in
theorem lwc_7 (C : LX p s m c b L xs D tys sa cI cT cS adI adM) {x : Int32} (hR : R gI gM) (hin : ∀ v : Int32, v ∈ ([1, 2, 3, 4, 5, 6] : List Int32) → vp_in (x + v) L) (kk : ∀ g1 g2, R g1 g2 → LW p l e s m below meth c b D cI cT cS adI adM 93 4262 Q g1 g2 1666 (lvL b adI adM x) ([])) : LW p l e s m below meth c b D cI cT cS adI adM 93 4262 Q gI gM 459 (lvL b adI adM x) ([]) := by
  obtain ⟨r, g1, g2, h1, h2, h3⟩ := e_asks (N := 100000) (Nat.le_of_ble_eq_true rfl) hR (xs (x + 1).toNatClampNeg) (xs (x + 2).toNatClampNeg) (xs (x + 3).toNatClampNeg)
  refine lw_aload_n C 2 dL_law_459 rfl rfl 460 rfl ?_
  refine lw_arg C (1 : Int32) (by decide) (hin 1 (by decide)) dL_law_460 dL_law_461 dL_law_462 dL_law_463 dL_law_464 465 rfl ?_
  refine lw_arg C (2 : Int32) (by decide) (hin 2 (by decide)) dL_law_465 dL_law_466 dL_law_467 dL_law_468 dL_law_469 470 rfl ?_
  refine lw_arg C (3 : Int32) (by decide) (hin 3 (by decide)) dL_law_470 dL_law_471 dL_law_472 dL_law_473 dL_law_474 475 rfl ?_
  refine lw_callIi C (As := [.int (xs (x + 1).toNatClampNeg), .int (xs (x + 2).toNatClampNeg), .int (xs (x + 3).toNatClampNeg)]) r g1 (k_X5_asks (Nat.le_refl _) h1) wl_46 cm_X5_asks (Nat.le_of_ble_eq_true rfl) (Nat.le_of_ble_eq_true rfl) rfl rfl (Nat.le_of_ble_eq_true rfl) dL_law_475 478 rfl ?_
  refine lw_aload_n C 1 dL_law_478 rfl rfl 479 rfl ?_
  refine lw_arg C (1 : Int32) (by decide) (hin 1 (by decide)) dL_law_479 dL_law_480 dL_law_481 dL_law_482 dL_law_483 484 rfl ?_
  refine lw_arg C (2 : Int32) (by decide) (hin 2 (by decide)) dL_law_484 dL_law_485 dL_law_486 dL_law_487 dL_law_488 489 rfl ?_
  refine lw_arg C (3 : Int32) (by decide) (hin 3 (by decide)) dL_law_489 dL_law_490 dL_law_491 dL_law_492 dL_law_493 494 rfl ?_
  refine lw_callMi C (As := [.int (xs (x + 1).toNatClampNeg), .int (xs (x + 2).toNatClampNeg), .int (xs (x + 3).toNatClampNeg)]) r g2 (k_X6_asks (Nat.le_refl _) h2) wl_49 cm_X6_asks (Nat.le_of_ble_eq_true rfl) (Nat.le_of_ble_eq_true rfl) rfl rfl (Nat.le_of_ble_eq_true rfl) dL_law_494 497 rfl ?_
  refine lw_eqT C 1666 dL_law_497 (by decide) ?_
  exact kk g1 g2 h3
set_option maxRecDepth 100000 in
set_option maxHeartbeats 4000000 in
theorem lwc_8 (C : LX p s m c b L xs D tys sa cI cT cS adI adM) {x : Int32} (hR : R gI gM) (hin : ∀ v : Int32, v ∈ ([1, 2, 3, 4, 5, 6] : List Int32) → vp_in (x + v) L) (kk : ∀ g1 g2, R g1 g2 → LW p l e s m below meth c b D cI cT cS adI adM 93 4262 Q g1 g2 1666 (lvL b adI adM x) ([])) : LW p l e s m below meth c b D cI cT cS adI adM 93 4262 Q gI gM 502 (lvL b adI adM x) ([]) := by
  obtain ⟨r, g1, g2, h1, h2, h3⟩ := e_diver (N := 100000) (Nat.le_of_ble_eq_true rfl) hR (xs (x + 1).toNatClampNeg) (xs (x + 2).toNatClampNeg)
  refine lw_aload_n C 2 dL_law_502 rfl rfl 503 rfl ?_
  refine lw_arg C (1 : Int32) (by decide) (hin 1 (by decide)) dL_law_503 dL_law_504 dL_law_505 dL_law_506 dL_law_507 508 rfl ?_
  refine lw_arg C (2 : Int32) (by decide) (hin 2 (by decide)) dL_law_508 dL_law_509 dL_law_510 dL_law_511 dL_law_512 513 rfl ?_
  refine lw_callIi C (As := [.int (xs (x + 1).toNatClampNeg), .int (xs (x + 2).toNatClampNeg)]) r g1 (k_X5_diver (Nat.le_refl _) h1) wl_50 cm_X5_diver (Nat.le_of_ble_eq_true rfl) (Nat.le_of_ble_eq_true rfl) rfl rfl (Nat.le_of_ble_eq_true rfl) dL_law_513 516 rfl ?_
  refine lw_aload_n C 1 dL_law_516 rfl rfl 517 rfl ?_
  refine lw_arg C (1 : Int32) (by decide) (hin 1 (by decide)) dL_law_517 dL_law_518 dL_law_519 dL_law_520 dL_law_521 522 rfl ?_
  refine lw_arg C (2 : Int32) (by decide) (hin 2 (by decide)) dL_law_522 dL_law_523 dL_law_524 dL_law_525 dL_law_526 527 rfl ?_
  refine lw_callMi C (As := [.int (xs (x + 1).toNatClampNeg), .int (xs (x + 2).toNatClampNeg)]) r g2 (k_X6_diver (Nat.le_refl _) h2) wl_53 cm_X6_diver (Nat.le_of_ble_eq_true rfl) (Nat.le_of_ble_eq_true rfl) rfl rfl (Nat.le_of_ble_eq_true rfl) dL_law_527 530 rfl ?_
  refine lw_eqT C 1666 dL_law_530 (by decide) ?_
  exact kk g1 g2 h3
set_option maxRecDepth 100000 in
set_option maxHeartbeats 4000000 in
theorem lwc_9 (C : LX p s m c b L xs D tys sa cI cT cS adI adM) {x : Int32} (hR : R gI gM) (hin : ∀ v : Int32, v ∈ ([1, 2, 3, 4, 5, 6] : List Int32) → vp_in (x + v) L) (kk : ∀ g1 g2, R g1 g2 → LW p l e s m below meth c b D cI cT cS adI adM 93 4262 Q g1 g2 1666 (lvL b adI adM x) ([])) : LW p l e s m below meth c b D cI cT cS adI adM 93 4262 Q gI gM 535 (lvL b adI adM x) ([]) := by
  obtain ⟨r, g1, g2, h1, h2, h3⟩ := e_put (N := 100000) (Nat.le_of_ble_eq_true rfl) hR (xs (x + 1).toNatClampNeg) (xs (x + 2).toNatClampNeg)
  refine lw_aload_n C 2 dL_law_535 rfl rfl 536 rfl ?_
  refine lw_arg C (1 : Int32) (by decide) (hin 1 (by decide)) dL_law_536 dL_law_537 dL_law_538 dL_law_539 dL_law_540 541 rfl ?_
  refine lw_arg C (2 : Int32) (by decide) (hin 2 (by decide)) dL_law_541 dL_law_542 dL_law_543 dL_law_544 dL_law_545 546 rfl ?_
  refine lw_callIi C (As := [.int (xs (x + 1).toNatClampNeg), .int (xs (x + 2).toNatClampNeg)]) r g1 (k_X5_put (Nat.le_refl _) h1) wl_54 cm_X5_put (Nat.le_of_ble_eq_true rfl) (Nat.le_of_ble_eq_true rfl) rfl rfl (Nat.le_of_ble_eq_true rfl) dL_law_546 549 rfl ?_
  refine lw_aload_n C 1 dL_law_549 rfl rfl 550 rfl ?_
  refine lw_arg C (1 : Int32) (by decide) (hin 1 (by decide)) dL_law_550 dL_law_551 dL_law_552 dL_law_553 dL_law_554 555 rfl ?_
  refine lw_arg C (2 : Int32) (by decide) (hin 2 (by decide)) dL_law_555 dL_law_556 dL_law_557 dL_law_558 dL_law_559 560 rfl ?_
  refine lw_callMi C (As := [.int (xs (x + 1).toNatClampNeg), .int (xs (x + 2).toNatClampNeg)]) r g2 (k_X6_put (Nat.le_refl _) h2) wl_57 cm_X6_put (Nat.le_of_ble_eq_true rfl) (Nat.le_of_ble_eq_true rfl) rfl rfl (Nat.le_of_ble_eq_true rfl) dL_law_560 563 rfl ?_
  refine lw_eqT C 1666 dL_law_563 (by decide) ?_
  exact kk g1 g2 h3
set_option maxRecDepth 100000 in
set_option maxHeartbeats 4000000 in
theorem lwc_10 (C : LX p s m c b L xs D tys sa cI cT cS adI adM) {x : Int32} (hR : R gI gM) (hin : ∀ v : Int32, v ∈ ([1, 2, 3, 4, 5, 6] : List Int32) → vp_in (x + v) L) (kk : ∀ g1 g2, R g1 g2 → LW p l e s m below meth c b D cI cT cS adI adM 93 4262 Q g1 g2 1666 (lvL b adI adM x) ([])) : LW p l e s m below meth c b D cI cT cS adI adM 93 4262 Q gI gM 568 (lvL b adI adM x) ([]) := by
  obtain ⟨r, g1, g2, h1, h2, h3⟩ := e_told (N := 100000) (Nat.le_of_ble_eq_true rfl) hR (xs (x + 1).toNatClampNeg) (xs (x + 2).toNatClampNeg)
  refine lw_aload_n C 2 dL_law_568 rfl rfl 569 rfl ?_
  refine lw_arg C (1 : Int32) (by decide) (hin 1 (by decide)) dL_law_569 dL_law_570 dL_law_571 dL_law_572 dL_law_573 574 rfl ?_
  refine lw_arg C (2 : Int32) (by decide) (hin 2 (by decide)) dL_law_574 dL_law_575 dL_law_576 dL_law_577 dL_law_578 579 rfl ?_
  refine lw_callIi C (As := [.int (xs (x + 1).toNatClampNeg), .int (xs (x + 2).toNatClampNeg)]) r g1 (k_X5_told (Nat.le_refl _) h1) wl_58 cm_X5_told (Nat.le_of_ble_eq_true rfl) (Nat.le_of_ble_eq_true rfl) rfl rfl (Nat.le_of_ble_eq_true rfl) dL_law_579 582 rfl ?_
  refine lw_aload_n C 1 dL_law_582 rfl rfl 583 rfl ?_
  refine lw_arg C (1 : Int32) (by decide) (hin 1 (by decide)) dL_law_583 dL_law_584 dL_law_585 dL_law_586 dL_law_587 588 rfl ?_
  refine lw_arg C (2 : Int32) (by decide) (hin 2 (by decide)) dL_law_588 dL_law_589 dL_law_590 dL_law_591 dL_law_592 593 rfl ?_
  refine lw_callMi C (As := [.int (xs (x + 1).toNatClampNeg), .int (xs (x + 2).toNatClampNeg)]) r g2 (k_X6_told (Nat.le_refl _) h2) wl_61 cm_X6_told (Nat.le_of_ble_eq_true rfl) (Nat.le_of_ble_eq_true rfl) rfl rfl (Nat.le_of_ble_eq_true rfl) dL_law_593 596 rfl ?_
  refine lw_eqT C 1666 dL_law_596 (by decide) ?_
  exact kk g1 g2 h3
set_option maxRecDepth 100000 in
set_option maxHeartbeats 4000000 in
theorem lwc_11 (C : LX p s m c b L xs D tys sa cI cT cS adI adM) {x : Int32} (hR : R gI gM) (hin : ∀ v : Int32, v ∈ ([1, 2, 3, 4, 5, 6] : List Int32) → vp_in (x + v) L) (kk : ∀ g1 g2, R g1 g2 → LW p l e s m below meth c b D cI cT cS adI adM 93 4262 Q g1 g2 1666 (lvL b adI adM x) ([])) : LW p l e s m below meth c b D cI cT cS adI adM 93 4262 Q gI gM 601 (lvL b adI adM x) ([]) := by
  obtain ⟨r, g1, g2, h1, h2, h3⟩ := e_dives (N := 100000) (Nat.le_of_ble_eq_true rfl) hR (xs (x + 1).toNatClampNeg) (xs (x + 2).toNatClampNeg) (xs (x + 3).toNatClampNeg)
  refine lw_aload_n C 2 dL_law_601 rfl rfl 602 rfl ?_
  refine lw_arg C (1 : Int32) (by decide) (hin 1 (by decide)) dL_law_602 dL_law_603 dL_law_604 dL_law_605 dL_law_606 607 rfl ?_
  refine lw_arg C (2 : Int32) (by decide) (hin 2 (by decide)) dL_law_607 dL_law_608 dL_law_609 dL_law_610 dL_law_611 612 rfl ?_
  refine lw_arg C (3 : Int32) (by decide) (hin 3 (by decide)) dL_law_612 dL_law_613 dL_law_614 dL_law_615 dL_law_616 617 rfl ?_
  refine lw_callIi C (As := [.int (xs (x + 1).toNatClampNeg), .int (xs (x + 2).toNatClampNeg), .int (xs (x + 3).toNatClampNeg)]) r g1 (k_X5_dives (Nat.le_refl _) h1) wl_62 cm_X5_dives (Nat.le_of_ble_eq_true rfl) (Nat.le_of_ble_eq_true rfl) rfl rfl (Nat.le_of_ble_eq_true rfl) dL_law_617 620 rfl ?_
  refine lw_aload_n C 1 dL_law_620 rfl rfl 621 rfl ?_
  refine lw_arg C (1 : Int32) (by decide) (hin 1 (by decide)) dL_law_621 dL_law_622 dL_law_623 dL_law_624 dL_law_625 626 rfl ?_
  refine lw_arg C (2 : Int32) (by decide) (hin 2 (by decide)) dL_law_626 dL_law_627 dL_law_628 dL_law_629 dL_law_630 631 rfl ?_
  refine lw_arg C (3 : Int32) (by decide) (hin 3 (by decide)) dL_law_631 dL_law_632 dL_law_633 dL_law_634 dL_law_635 636 rfl ?_
  refine lw_callMi C (As := [.int (xs (x + 1).toNatClampNeg), .int (xs (x + 2).toNatClampNeg), .int (xs (x + 3).toNatClampNeg)]) r g2 (k_X6_dives (Nat.le_refl _) h2) wl_65 cm_X6_dives (Nat.le_of_ble_eq_true rfl) (Nat.le_of_ble_eq_true rfl) rfl rfl (Nat.le_of_ble_eq_true rfl) dL_law_636 639 rfl ?_
  refine lw_eqT C 1666 dL_law_639 (by decide) ?_
  exact kk g1 g2 h3
set_option maxRecDepth 100000 in
set_option maxHeartbeats 4000000 in
theorem lwc_12 (C : LX p s m c b L xs D tys sa cI cT cS adI adM) {x : Int32} (hR : R gI gM) (hin : ∀ v : Int32, v ∈ ([1, 2, 3, 4, 5, 6] : List Int32) → vp_in (x + v) L) (kk : ∀ g1 g2, R g1 g2 → LW p l e s m below meth c b D cI cT cS adI adM 93 4262 Q g1 g2 1666 (lvL b adI adM x) ([])) : LW p l e s m below meth c b D cI cT cS adI adM 93 4262 Q gI gM 644 (lvL b adI adM x) ([]) := by
  obtain ⟨r, g1, g2, h1, h2, h3⟩ := e_dive (N := 100000) (Nat.le_of_ble_eq_true rfl) hR (xs (x + 1).toNatClampNeg) (xs (x + 2).toNatClampNeg)
  refine lw_aload_n C 2 dL_law_644 rfl rfl 645 rfl ?_
  refine lw_arg C (1 : Int32) (by decide) (hin 1 (by decide)) dL_law_645 dL_law_646 dL_law_647 dL_law_648 dL_law_649 650 rfl ?_
  refine lw_arg C (2 : Int32) (by decide) (hin 2 (by decide)) dL_law_650 dL_law_651 dL_law_652 dL_law_653 dL_law_654 655 rfl ?_
  refine lw_callIi C (As := [.int (xs (x + 1).toNatClampNeg), .int (xs (x + 2).toNatClampNeg)]) r g1 (k_X5_dive (Nat.le_refl _) h1) wl_66 cm_X5_dive (Nat.le_of_ble_eq_true rfl) (Nat.le_of_ble_eq_true rfl) rfl rfl (Nat.le_of_ble_eq_true rfl) dL_law_655 658 rfl ?_
  refine lw_aload_n C 1 dL_law_658 rfl rfl 659 rfl ?_
  refine lw_arg C (1 : Int32) (by decide) (hin 1 (by decide)) dL_law_659 dL_law_660 dL_law_661 dL_law_662 dL_law_663 664 rfl ?_
  refine lw_arg C (2 : Int32) (by decide) (hin 2 (by decide)) dL_law_664 dL_law_665 dL_law_666 dL_law_667 dL_law_668 669 rfl ?_
  refine lw_callMi C (As := [.int (xs (x + 1).toNatClampNeg), .int (xs (x + 2).toNatClampNeg)]) r g2 (k_X6_dive (Nat.le_refl _) h2) wl_69 cm_X6_dive (Nat.le_of_ble_eq_true rfl) (Nat.le_of_ble_eq_true rfl) rfl rfl (Nat.le_of_ble_eq_true rfl) dL_law_669 672 rfl ?_
  refine lw_eqT C 1666 dL_law_672 (by decide) ?_
  exact kk g1 g2 h3
set_option maxRecDepth 100000 in
set_option maxHeartbeats 4000000 in
theorem lwc_13 (C : LX p s m c b L xs D tys sa cI cT cS adI adM) {x : Int32} (hR : R gI gM) (hin : ∀ v : Int32, v ∈ ([1, 2, 3, 4, 5, 6] : List Int32) → vp_in (x + v) L) (kk : ∀ g1 g2, R g1 g2 → LW p l e s m below meth c b D cI cT cS adI adM 93 4262 Q g1 g2 1666 (lvL b adI adM x) ([])) : LW p l e s m below meth c b D cI cT cS adI adM 93 4262 Q gI gM 677 (lvL b adI adM x) ([]) := by
  obtain ⟨r, g1, g2, h1, h2, h3⟩ := e_open (N := 100000) (Nat.le_of_ble_eq_true rfl) hR (xs (x + 1).toNatClampNeg)
  refine lw_aload_n C 2 dL_law_677 rfl rfl 678 rfl ?_
  refine lw_arg C (1 : Int32) (by decide) (hin 1 (by decide)) dL_law_678 dL_law_679 dL_law_680 dL_law_681 dL_law_682 683 rfl ?_
  refine lw_callIi C (As := [.int (xs (x + 1).toNatClampNeg)]) r g1 (k_X5_open (Nat.le_refl _) h1) wl_70 cm_X5_open (Nat.le_of_ble_eq_true rfl) (Nat.le_of_ble_eq_true rfl) rfl rfl (Nat.le_of_ble_eq_true rfl) dL_law_683 686 rfl ?_
  refine lw_aload_n C 1 dL_law_686 rfl rfl 687 rfl ?_
  refine lw_arg C (1 : Int32) (by decide) (hin 1 (by decide)) dL_law_687 dL_law_688 dL_law_689 dL_law_690 dL_law_691 692 rfl ?_
  refine lw_callMi C (As := [.int (xs (x + 1).toNatClampNeg)]) r g2 (k_X6_open (Nat.le_refl _) h2) wl_73 cm_X6_open (Nat.le_of_ble_eq_true rfl) (Nat.le_of_ble_eq_true rfl) rfl rfl (Nat.le_of_ble_eq_true rfl) dL_law_692 695 rfl ?_
  refine lw_eqT C 1666 dL_law_695 (by decide) ?_
  exact kk g1 g2 h3
set_option maxRecDepth 100000 in
set_option maxHeartbeats 4000000 in
theorem lwc_14 (C : LX p s m c b L xs D tys sa cI cT cS adI adM) {x : Int32} (hR : R gI gM) (hin : ∀ v : Int32, v ∈ ([1, 2, 3, 4, 5, 6] : List Int32) → vp_in (x + v) L) (kk : ∀ g1 g2, R g1 g2 → LW p l e s m below meth c b D cI cT cS adI adM 93 4262 Q g1 g2 1666 (lvL b adI adM x) ([])) : LW p l e s m below meth c b D cI cT cS adI adM 93 4262 Q gI gM 700 (lvL b adI adM x) ([]) := by
  obtain ⟨r, g1, g2, h1, h2, h3⟩ := e_hour (N := 100000) (Nat.le_of_ble_eq_true rfl) hR
  refine lw_aload_n C 2 dL_law_700 rfl rfl 701 rfl ?_
  refine lw_callIi C (As := []) r g1 (k_X5_hour (Nat.le_refl _) h1) wl_74 cm_X5_hour (Nat.le_of_ble_eq_true rfl) (Nat.le_of_ble_eq_true rfl) rfl rfl (Nat.le_of_ble_eq_true rfl) dL_law_701 704 rfl ?_
  refine lw_aload_n C 1 dL_law_704 rfl rfl 705 rfl ?_
  refine lw_callMi C (As := []) r g2 (k_X6_hour (Nat.le_refl _) h2) wl_77 cm_X6_hour (Nat.le_of_ble_eq_true rfl) (Nat.le_of_ble_eq_true rfl) rfl rfl (Nat.le_of_ble_eq_true rfl) dL_law_705 708 rfl ?_
  refine lw_eqT C 1666 dL_law_708 (by decide) ?_
  exact kk g1 g2 h3
set_option maxRecDepth 100000 in
set_option maxHeartbeats 4000000 in
theorem lwc_15 (C : LX p s m c b L xs D tys sa cI cT cS adI adM) {x : Int32} (hR : R gI gM) (hin : ∀ v : Int32, v ∈ ([1, 2, 3, 4, 5, 6] : List Int32) → vp_in (x + v) L) (kk : ∀ g1 g2, R g1 g2 → LW p l e s m below meth c b D cI cT cS adI adM 93 4262 Q g1 g2 1666 (lvL b adI adM x) ([])) : LW p l e s m below meth c b D cI cT cS adI adM 93 4262 Q gI gM 713 (lvL b adI adM x) ([]) := by
  obtain ⟨r, g1, g2, h1, h2, h3⟩ := e_bay (N := 100000) (Nat.le_of_ble_eq_true rfl) hR (xs (x + 1).toNatClampNeg)
  refine lw_aload_n C 2 dL_law_713 rfl rfl 714 rfl ?_
  refine lw_arg C (1 : Int32) (by decide) (hin 1 (by decide)) dL_law_714 dL_law_715 dL_law_716 dL_law_717 dL_law_718 719 rfl ?_
  refine lw_callIi C (As := [.int (xs (x + 1).toNatClampNeg)]) r g1 (k_X5_bay (Nat.le_refl _) h1) wl_78 cm_X5_bay (Nat.le_of_ble_eq_true rfl) (Nat.le_of_ble_eq_true rfl) rfl rfl (Nat.le_of_ble_eq_true rfl) dL_law_719 722 rfl ?_
  refine lw_aload_n C 1 dL_law_722 rfl rfl 723 rfl ?_
  refine lw_arg C (1 : Int32) (by decide) (hin 1 (by decide)) dL_law_723 dL_law_724 dL_law_725 dL_law_726 dL_law_727 728 rfl ?_
  refine lw_callMi C (As := [.int (xs (x + 1).toNatClampNeg)]) r g2 (k_X6_bay (Nat.le_refl _) h2) wl_81 cm_X6_bay (Nat.le_of_ble_eq_true rfl) (Nat.le_of_ble_eq_true rfl) rfl rfl (Nat.le_of_ble_eq_true rfl) dL_law_728 731 rfl ?_
  refine lw_eqT C 1666 dL_law_731 (by decide) ?_
  exact kk g1 g2 h3
set_option maxRecDepth 100000 in
set_option maxHeartbeats 4000000 in
theorem lwc_16 (C : LX p s m c b L xs D tys sa cI cT cS adI adM) {x : Int32} (hR : R gI gM) (hin : ∀ v : Int32, v ∈ ([1, 2, 3, 4, 5, 6] : List Int32) → vp_in (x + v) L) (kk : ∀ g1 g2, R g1 g2 → LW p l e s m below meth c b D cI cT cS adI adM 93 4262 Q g1 g2 1666 (lvL b adI adM x) ([])) : LW p l e s m below meth c b D cI cT cS adI adM 93 4262 Q gI gM 736 (lvL b adI adM x) ([]) := by
  obtain ⟨r, g1, g2, h1, h2, h3⟩ := e_run (N := 100000) (Nat.le_of_ble_eq_true rfl) hR (xs (x + 1).toNatClampNeg) (xs (x + 2).toNatClampNeg)
  refine lw_aload_n C 2 dL_law_736 rfl rfl 737 rfl ?_
  refine lw_arg C (1 : Int32) (by decide) (hin 1 (by decide)) dL_law_737 dL_law_738 dL_law_739 dL_law_740 dL_law_741 742 rfl ?_
  refine lw_arg C (2 : Int32) (by decide) (hin 2 (by decide)) dL_law_742 dL_law_743 dL_law_744 dL_law_745 dL_law_746 747 rfl ?_
  refine lw_callIi C (As := [.int (xs (x + 1).toNatClampNeg), .int (xs (x + 2).toNatClampNeg)]) r g1 (k_X5_run (Nat.le_refl _) h1) wl_82 cm_X5_run (Nat.le_of_ble_eq_true rfl) (Nat.le_of_ble_eq_true rfl) rfl rfl (Nat.le_of_ble_eq_true rfl) dL_law_747 750 rfl ?_
  refine lw_aload_n C 1 dL_law_750 rfl rfl 751 rfl ?_
  refine lw_arg C (1 : Int32) (by decide) (hin 1 (by decide)) dL_law_751 dL_law_752 dL_law_753 dL_law_754 dL_law_755 756 rfl ?_
  refine lw_arg C (2 : Int32) (by decide) (hin 2 (by decide)) dL_law_756 dL_law_757 dL_law_758 dL_law_759 dL_law_760 761 rfl ?_
  refine lw_callMi C (As := [.int (xs (x + 1).toNatClampNeg), .int (xs (x + 2).toNatClampNeg)]) r g2 (k_X6_run (Nat.le_refl _) h2) wl_85 cm_X6_run (Nat.le_of_ble_eq_true rfl) (Nat.le_of_ble_eq_true rfl) rfl rfl (Nat.le_of_ble_eq_true rfl) dL_law_761 764 rfl ?_
  refine lw_eqT C 1666 dL_law_764 (by decide) ?_
  exact kk g1 g2 h3
set_option maxRecDepth 100000 in
set_option maxHeartbeats 4000000 in
theorem lwc_17 (C : LX p s m c b L xs D tys sa cI cT cS adI adM) {x : Int32} (hR : R gI gM) (hin : ∀ v : Int32, v ∈ ([1, 2, 3, 4, 5, 6] : List Int32) → vp_in (x + v) L) (kk : ∀ g1 g2, R g1 g2 → LW p l e s m below meth c b D cI cT cS adI adM 93 4262 Q g1 g2 1666 (lvL b adI adM x) ([])) : LW p l e s m below meth c b D cI cT cS adI adM 93 4262 Q gI gM 769 (lvL b adI adM x) ([]) := by
  obtain ⟨r, g1, g2, h1, h2, h3⟩ := e_stills (N := 100000) (Nat.le_of_ble_eq_true rfl) hR
  refine lw_aload_n C 2 dL_law_769 rfl rfl 770 rfl ?_
  refine lw_callIi C (As := []) r g1 (k_X5_stills (Nat.le_refl _) h1) wl_86 cm_X5_stills (Nat.le_of_ble_eq_true rfl) (Nat.le_of_ble_eq_true rfl) rfl rfl (Nat.le_of_ble_eq_true rfl) dL_law_770 773 rfl ?_
  refine lw_aload_n C 1 dL_law_773 rfl rfl 774 rfl ?_
  refine lw_callMi C (As := []) r g2 (k_X6_stills (Nat.le_refl _) h2) wl_89 cm_X6_stills (Nat.le_of_ble_eq_true rfl) (Nat.le_of_ble_eq_true rfl) rfl rfl (Nat.le_of_ble_eq_true rfl) dL_law_774 777 rfl ?_
  refine lw_eqT C 1666 dL_law_777 (by decide) ?_
  exact kk g1 g2 h3
set_option maxRecDepth 100000 in
set_option maxHeartbeats 4000000 in
theorem lwc_18 (C : LX p s m c b L xs D tys sa cI cT cS adI adM) {x : Int32} (hR : R gI gM) (hin : ∀ v : Int32, v ∈ ([1, 2, 3, 4, 5, 6] : List Int32) → vp_in (x + v) L) (kk : ∀ g1 g2, R g1 g2 → LW p l e s m below meth c b D cI cT cS adI adM 93 4262 Q g1 g2 1666 (lvL b adI adM x) ([])) : LW p l e s m below meth c b D cI cT cS adI adM 93 4262 Q gI gM 782 (lvL b adI adM x) ([]) := by
  obtain ⟨r, g1, g2, h1, h2, h3⟩ := e_row (N := 100000) (Nat.le_of_ble_eq_true rfl) hR (xs (x + 1).toNatClampNeg) (xs (x + 2).toNatClampNeg) (xs (x + 3).toNatClampNeg)
  refine lw_aload_n C 2 dL_law_782 rfl rfl 783 rfl ?_
  refine lw_arg C (1 : Int32) (by decide) (hin 1 (by decide)) dL_law_783 dL_law_784 dL_law_785 dL_law_786 dL_law_787 788 rfl ?_
  refine lw_arg C (2 : Int32) (by decide) (hin 2 (by decide)) dL_law_788 dL_law_789 dL_law_790 dL_law_791 dL_law_792 793 rfl ?_
  refine lw_arg C (3 : Int32) (by decide) (hin 3 (by decide)) dL_law_793 dL_law_794 dL_law_795 dL_law_796 dL_law_797 798 rfl ?_
  refine lw_callIi C (As := [.int (xs (x + 1).toNatClampNeg), .int (xs (x + 2).toNatClampNeg), .int (xs (x + 3).toNatClampNeg)]) r g1 (k_X5_row (Nat.le_refl _) h1) wl_90 cm_X5_row (Nat.le_of_ble_eq_true rfl) (Nat.le_of_ble_eq_true rfl) rfl rfl (Nat.le_of_ble_eq_true rfl) dL_law_798 801 rfl ?_
  refine lw_aload_n C 1 dL_law_801 rfl rfl 802 rfl ?_
  refine lw_arg C (1 : Int32) (by decide) (hin 1 (by decide)) dL_law_802 dL_law_803 dL_law_804 dL_law_805 dL_law_806 807 rfl ?_
  refine lw_arg C (2 : Int32) (by decide) (hin 2 (by decide)) dL_law_807 dL_law_808 dL_law_809 dL_law_810 dL_law_811 812 rfl ?_
  refine lw_arg C (3 : Int32) (by decide) (hin 3 (by decide)) dL_law_812 dL_law_813 dL_law_814 dL_law_815 dL_law_816 817 rfl ?_
  refine lw_callMi C (As := [.int (xs (x + 1).toNatClampNeg), .int (xs (x + 2).toNatClampNeg), .int (xs (x + 3).toNatClampNeg)]) r g2 (k_X6_row (Nat.le_refl _) h2) wl_93 cm_X6_row (Nat.le_of_ble_eq_true rfl) (Nat.le_of_ble_eq_true rfl) rfl rfl (Nat.le_of_ble_eq_true rfl) dL_law_817 820 rfl ?_
  refine lw_eqT C 1666 dL_law_820 (by decide) ?_
  exact kk g1 g2 h3
set_option maxRecDepth 100000 in
set_option maxHeartbeats 4000000 in
theorem lwc_19 (C : LX p s m c b L xs D tys sa cI cT cS adI adM) {x : Int32} (hR : R gI gM) (hin : ∀ v : Int32, v ∈ ([1, 2, 3, 4, 5, 6] : List Int32) → vp_in (x + v) L) (kk : ∀ g1 g2, R g1 g2 → LW p l e s m below meth c b D cI cT cS adI adM 93 4262 Q g1 g2 1666 (lvL b adI adM x) ([])) : LW p l e s m below meth c b D cI cT cS adI adM 93 4262 Q gI gM 825 (lvL b adI adM x) ([]) := by
  obtain ⟨r, g1, g2, h1, h2, h3⟩ := e_salvage (N := 100000) (Nat.le_of_ble_eq_true rfl) hR (xs (x + 1).toNatClampNeg) (xs (x + 2).toNatClampNeg)
  refine lw_aload_n C 2 dL_law_825 rfl rfl 826 rfl ?_
  refine lw_arg C (1 : Int32) (by decide) (hin 1 (by decide)) dL_law_826 dL_law_827 dL_law_828 dL_law_829 dL_law_830 831 rfl ?_
  refine lw_arg C (2 : Int32) (by decide) (hin 2 (by decide)) dL_law_831 dL_law_832 dL_law_833 dL_law_834 dL_law_835 836 rfl ?_
  refine lw_callIi C (As := [.int (xs (x + 1).toNatClampNeg), .int (xs (x + 2).toNatClampNeg)]) r g1 (k_X5_salvage (Nat.le_refl _) h1) wl_94 cm_X5_salvage (Nat.le_of_ble_eq_true rfl) (Nat.le_of_ble_eq_true rfl) rfl rfl (Nat.le_of_ble_eq_true rfl) dL_law_836 839 rfl ?_
  refine lw_aload_n C 1 dL_law_839 rfl rfl 840 rfl ?_
  refine lw_arg C (1 : Int32) (by decide) (hin 1 (by decide)) dL_law_840 dL_law_841 dL_law_842 dL_law_843 dL_law_844 845 rfl ?_
  refine lw_arg C (2 : Int32) (by decide) (hin 2 (by decide)) dL_law_845 dL_law_846 dL_law_847 dL_law_848 dL_law_849 850 rfl ?_
  refine lw_callMi C (As := [.int (xs (x + 1).toNatClampNeg), .int (xs (x + 2).toNatClampNeg)]) r g2 (k_X6_salvage (Nat.le_refl _) h2) wl_97 cm_X6_salvage (Nat.le_of_ble_eq_true rfl) (Nat.le_of_ble_eq_true rfl) rfl rfl (Nat.le_of_ble_eq_true rfl) dL_law_850 853 rfl ?_
  refine lw_eqT C 1666 dL_law_853 (by decide) ?_
  exact kk g1 g2 h3
set_option maxRecDepth 100000 in
set_option maxHeartbeats 4000000 in
theorem lwc_20 (C : LX p s m c b L xs D tys sa cI cT cS adI adM) {x : Int32} (hR : R gI gM) (hin : ∀ v : Int32, v ∈ ([1, 2, 3, 4, 5, 6] : List Int32) → vp_in (x + v) L) (kk : ∀ g1 g2, R g1 g2 → LW p l e s m below meth c b D cI cT cS adI adM 93 4262 Q g1 g2 1666 (lvL b adI adM x) ([])) : LW p l e s m below meth c b D cI cT cS adI adM 93 4262 Q gI gM 858 (lvL b adI adM x) ([]) := by
  obtain ⟨r, g1, g2, h1, h2, h3⟩ := e_which (N := 100000) (Nat.le_of_ble_eq_true rfl) hR (xs (x + 1).toNatClampNeg) (xs (x + 2).toNatClampNeg)
  refine lw_aload_n C 2 dL_law_858 rfl rfl 859 rfl ?_
  refine lw_arg C (1 : Int32) (by decide) (hin 1 (by decide)) dL_law_859 dL_law_860 dL_law_861 dL_law_862 dL_law_863 864 rfl ?_
  refine lw_arg C (2 : Int32) (by decide) (hin 2 (by decide)) dL_law_864 dL_law_865 dL_law_866 dL_law_867 dL_law_868 869 rfl ?_
  refine lw_callIi C (As := [.int (xs (x + 1).toNatClampNeg), .int (xs (x + 2).toNatClampNeg)]) r g1 (k_X5_which (Nat.le_refl _) h1) wl_98 cm_X5_which (Nat.le_of_ble_eq_true rfl) (Nat.le_of_ble_eq_true rfl) rfl rfl (Nat.le_of_ble_eq_true rfl) dL_law_869 872 rfl ?_
  refine lw_aload_n C 1 dL_law_872 rfl rfl 873 rfl ?_
  refine lw_arg C (1 : Int32) (by decide) (hin 1 (by decide)) dL_law_873 dL_law_874 dL_law_875 dL_law_876 dL_law_877 878 rfl ?_
  refine lw_arg C (2 : Int32) (by decide) (hin 2 (by decide)) dL_law_878 dL_law_879 dL_law_880 dL_law_881 dL_law_882 883 rfl ?_
  refine lw_callMi C (As := [.int (xs (x + 1).toNatClampNeg), .int (xs (x + 2).toNatClampNeg)]) r g2 (k_X6_which (Nat.le_refl _) h2) wl_101 cm_X6_which (Nat.le_of_ble_eq_true rfl) (Nat.le_of_ble_eq_true rfl) rfl rfl (Nat.le_of_ble_eq_true rfl) dL_law_883 886 rfl ?_
  refine lw_eqT C 1666 dL_law_886 (by decide) ?_
  exact kk g1 g2 h3
set_option maxRecDepth 100000 in
set_option maxHeartbeats 4000000 in
theorem lwc_21 (C : LX p s m c b L xs D tys sa cI cT cS adI adM) {x : Int32} (hR : R gI gM) (hin : ∀ v : Int32, v ∈ ([1, 2, 3, 4, 5, 6] : List Int32) → vp_in (x + v) L) (kk : ∀ g1 g2, R g1 g2 → LW p l e s m below meth c b D cI cT cS adI adM 93 4262 Q g1 g2 1666 (lvL b adI adM x) ([])) : LW p l e s m below meth c b D cI cT cS adI adM 93 4262 Q gI gM 891 (lvL b adI adM x) ([]) := by
  obtain ⟨r, g1, g2, h1, h2, h3⟩ := e_cargo (N := 100000) (Nat.le_of_ble_eq_true rfl) hR (xs (x + 1).toNatClampNeg) (xs (x + 2).toNatClampNeg)
  refine lw_aload_n C 2 dL_law_891 rfl rfl 892 rfl ?_
  refine lw_arg C (1 : Int32) (by decide) (hin 1 (by decide)) dL_law_892 dL_law_893 dL_law_894 dL_law_895 dL_law_896 897 rfl ?_
  refine lw_arg C (2 : Int32) (by decide) (hin 2 (by decide)) dL_law_897 dL_law_898 dL_law_899 dL_law_900 dL_law_901 902 rfl ?_
  refine lw_callIi C (As := [.int (xs (x + 1).toNatClampNeg), .int (xs (x + 2).toNatClampNeg)]) r g1 (k_X5_cargo (Nat.le_refl _) h1) wl_102 cm_X5_cargo (Nat.le_of_ble_eq_true rfl) (Nat.le_of_ble_eq_true rfl) rfl rfl (Nat.le_of_ble_eq_true rfl) dL_law_902 905 rfl ?_
  refine lw_aload_n C 1 dL_law_905 rfl rfl 906 rfl ?_
  refine lw_arg C (1 : Int32) (by decide) (hin 1 (by decide)) dL_law_906 dL_law_907 dL_law_908 dL_law_909 dL_law_910 911 rfl ?_
  refine lw_arg C (2 : Int32) (by decide) (hin 2 (by decide)) dL_law_911 dL_law_912 dL_law_913 dL_law_914 dL_law_915 916 rfl ?_
  refine lw_callMi C (As := [.int (xs (x + 1).toNatClampNeg), .int (xs (x + 2).toNatClampNeg)]) r g2 (k_X6_cargo (Nat.le_refl _) h2) wl_105 cm_X6_cargo (Nat.le_of_ble_eq_true rfl) (Nat.le_of_ble_eq_true rfl) rfl rfl (Nat.le_of_ble_eq_true rfl) dL_law_916 919 rfl ?_
  refine lw_eqT C 1666 dL_law_919 (by decide) ?_
  exact kk g1 g2 h3
set_option maxRecDepth 100000 in
set_option maxHeartbeats 4000000 in
theorem lwc_22 (C : LX p s m c b L xs D tys sa cI cT cS adI adM) {x : Int32} (hR : R gI gM) (hin : ∀ v : Int32, v ∈ ([1, 2, 3, 4, 5, 6] : List Int32) → vp_in (x + v) L) (kk : ∀ g1 g2, R g1 g2 → LW p l e s m below meth c b D cI cT cS adI adM 93 4262 Q g1 g2 1666 (lvL b adI adM x) ([])) : LW p l e s m below meth c b D cI cT cS adI adM 93 4262 Q gI gM 924 (lvL b adI adM x) ([]) := by
  obtain ⟨r, g1, g2, h1, h2, h3⟩ := e_last (N := 100000) (Nat.le_of_ble_eq_true rfl) hR (xs (x + 1).toNatClampNeg) (xs (x + 2).toNatClampNeg) (xs (x + 3).toNatClampNeg)
  refine lw_aload_n C 2 dL_law_924 rfl rfl 925 rfl ?_
  refine lw_arg C (1 : Int32) (by decide) (hin 1 (by decide)) dL_law_925 dL_law_926 dL_law_927 dL_law_928 dL_law_929 930 rfl ?_
  refine lw_arg C (2 : Int32) (by decide) (hin 2 (by decide)) dL_law_930 dL_law_931 dL_law_932 dL_law_933 dL_law_934 935 rfl ?_
  refine lw_arg C (3 : Int32) (by decide) (hin 3 (by decide)) dL_law_935 dL_law_936 dL_law_937 dL_law_938 dL_law_939 940 rfl ?_
  refine lw_callIi C (As := [.int (xs (x + 1).toNatClampNeg), .int (xs (x + 2).toNatClampNeg), .int (xs (x + 3).toNatClampNeg)]) r g1 (k_X5_last (Nat.le_refl _) h1) wl_106 cm_X5_last (Nat.le_of_ble_eq_true rfl) (Nat.le_of_ble_eq_true rfl) rfl rfl (Nat.le_of_ble_eq_true rfl) dL_law_940 943 rfl ?_
  refine lw_aload_n C 1 dL_law_943 rfl rfl 944 rfl ?_
  refine lw_arg C (1 : Int32) (by decide) (hin 1 (by decide)) dL_law_944 dL_law_945 dL_law_946 dL_law_947 dL_law_948 949 rfl ?_
  refine lw_arg C (2 : Int32) (by decide) (hin 2 (by decide)) dL_law_949 dL_law_950 dL_law_951 dL_law_952 dL_law_953 954 rfl ?_
  refine lw_arg C (3 : Int32) (by decide) (hin 3 (by decide)) dL_law_954 dL_law_955 dL_law_956 dL_law_957 dL_law_958 959 rfl ?_
  refine lw_callMi C (As := [.int (xs (x + 1).toNatClampNeg), .int (xs (x + 2).toNatClampNeg), .int (xs (x + 3).toNatClampNeg)]) r g2 (k_X6_last (Nat.le_refl _) h2) wl_109 cm_X6_last (Nat.le_of_ble_eq_true rfl) (Nat.le_of_ble_eq_true rfl) rfl rfl (Nat.le_of_ble_eq_true rfl) dL_law_959 962 rfl ?_
  refine lw_eqT C 1666 dL_law_962 (by decide) ?_
  exact kk g1 g2 h3
set_option maxRecDepth 100000 in
set_option maxHeartbeats 4000000 in
theorem lwc_23 (C : LX p s m c b L xs D tys sa cI cT cS adI adM) {x : Int32} (hR : R gI gM) (hin : ∀ v : Int32, v ∈ ([1, 2, 3, 4, 5, 6] : List Int32) → vp_in (x + v) L) (kk : ∀ g1 g2, R g1 g2 → LW p l e s m below meth c b D cI cT cS adI adM 93 4262 Q g1 g2 1666 (lvL b adI adM x) ([])) : LW p l e s m below meth c b D cI cT cS adI adM 93 4262 Q gI gM 967 (lvL b adI adM x) ([]) := by
  obtain ⟨r, g1, g2, h1, h2, h3⟩ := e_best (N := 100000) (Nat.le_of_ble_eq_true rfl) hR (xs (x + 1).toNatClampNeg)
  refine lw_aload_n C 2 dL_law_967 rfl rfl 968 rfl ?_
  refine lw_arg C (1 : Int32) (by decide) (hin 1 (by decide)) dL_law_968 dL_law_969 dL_law_970 dL_law_971 dL_law_972 973 rfl ?_
  refine lw_callIi C (As := [.int (xs (x + 1).toNatClampNeg)]) r g1 (k_X5_best (Nat.le_refl _) h1) wl_110 cm_X5_best (Nat.le_of_ble_eq_true rfl) (Nat.le_of_ble_eq_true rfl) rfl rfl (Nat.le_of_ble_eq_true rfl) dL_law_973 976 rfl ?_
  refine lw_aload_n C 1 dL_law_976 rfl rfl 977 rfl ?_
  refine lw_arg C (1 : Int32) (by decide) (hin 1 (by decide)) dL_law_977 dL_law_978 dL_law_979 dL_law_980 dL_law_981 982 rfl ?_
  refine lw_callMi C (As := [.int (xs (x + 1).toNatClampNeg)]) r g2 (k_X6_best (Nat.le_refl _) h2) wl_113 cm_X6_best (Nat.le_of_ble_eq_true rfl) (Nat.le_of_ble_eq_true rfl) rfl rfl (Nat.le_of_ble_eq_true rfl) dL_law_982 985 rfl ?_
  refine lw_eqT C 1666 dL_law_985 (by decide) ?_
  exact kk g1 g2 h3
set_option maxRecDepth 100000 in
set_option maxHeartbeats 4000000 in
theorem lwc_24 (C : LX p s m c b L xs D tys sa cI cT cS adI adM) {x : Int32} (hR : R gI gM) (hin : ∀ v : Int32, v ∈ ([1, 2, 3, 4, 5, 6] : List Int32) → vp_in (x + v) L) (kk : ∀ g1 g2, R g1 g2 → LW p l e s m below meth c b D cI cT cS adI adM 93 4262 Q g1 g2 1666 (lvL b adI adM x) ([])) : LW p l e s m below meth c b D cI cT cS adI adM 93 4262 Q gI gM 990 (lvL b adI adM x) ([]) := by
  obtain ⟨r, g1, g2, h1, h2, h3⟩ := e_share (N := 100000) (Nat.le_of_ble_eq_true rfl) hR (xs (x + 1).toNatClampNeg) (xs (x + 2).toNatClampNeg)
  refine lw_aload_n C 2 dL_law_990 rfl rfl 991 rfl ?_
  refine lw_arg C (1 : Int32) (by decide) (hin 1 (by decide)) dL_law_991 dL_law_992 dL_law_993 dL_law_994 dL_law_995 996 rfl ?_
  refine lw_arg C (2 : Int32) (by decide) (hin 2 (by decide)) dL_law_996 dL_law_997 dL_law_998 dL_law_999 dL_law_1000 1001 rfl ?_
  refine lw_callIl C (As := [.int (xs (x + 1).toNatClampNeg), .int (xs (x + 2).toNatClampNeg)]) r g1 (k_X5_share (Nat.le_refl _) h1) wl_114 cm_X5_share (Nat.le_of_ble_eq_true rfl) (Nat.le_of_ble_eq_true rfl) rfl rfl (Nat.le_of_ble_eq_true rfl) dL_law_1001 1004 rfl ?_
  refine lw_aload_n C 1 dL_law_1004 rfl rfl 1005 rfl ?_
  refine lw_arg C (1 : Int32) (by decide) (hin 1 (by decide)) dL_law_1005 dL_law_1006 dL_law_1007 dL_law_1008 dL_law_1009 1010 rfl ?_
  refine lw_arg C (2 : Int32) (by decide) (hin 2 (by decide)) dL_law_1010 dL_law_1011 dL_law_1012 dL_law_1013 dL_law_1014 1015 rfl ?_
  refine lw_callMl C (As := [.int (xs (x + 1).toNatClampNeg), .int (xs (x + 2).toNatClampNeg)]) r g2 (k_X6_share (Nat.le_refl _) h2) wl_118 cm_X6_share (Nat.le_of_ble_eq_true rfl) (Nat.le_of_ble_eq_true rfl) rfl rfl (Nat.le_of_ble_eq_true rfl) dL_law_1015 1018 rfl ?_
  refine lw_lcmp C dL_law_1018 1019 rfl ?_
  refine lw_zT C (lg_self r) 1666 dL_law_1019 (by decide) ?_
  exact kk g1 g2 h3
set_option maxRecDepth 100000 in
set_option maxHeartbeats 4000000 in
theorem lwc_25 (C : LX p s m c b L xs D tys sa cI cT cS adI adM) {x : Int32} (hR : R gI gM) (hin : ∀ v : Int32, v ∈ ([1, 2, 3, 4, 5, 6] : List Int32) → vp_in (x + v) L) (kk : ∀ g1 g2, R g1 g2 → LW p l e s m below meth c b D cI cT cS adI adM 93 4262 Q g1 g2 1666 (lvL b adI adM x) ([])) : LW p l e s m below meth c b D cI cT cS adI adM 93 4262 Q gI gM 1024 (lvL b adI adM x) ([]) := by
  obtain ⟨r, g1, g2, h1, h2, h3⟩ := e_judge (N := 100000) (Nat.le_of_ble_eq_true rfl) hR (xs (x + 1).toNatClampNeg) (xs (x + 2).toNatClampNeg)
  refine lw_aload_n C 2 dL_law_1024 rfl rfl 1025 rfl ?_
  refine lw_arg C (1 : Int32) (by decide) (hin 1 (by decide)) dL_law_1025 dL_law_1026 dL_law_1027 dL_law_1028 dL_law_1029 1030 rfl ?_
  refine lw_arg C (2 : Int32) (by decide) (hin 2 (by decide)) dL_law_1030 dL_law_1031 dL_law_1032 dL_law_1033 dL_law_1034 1035 rfl ?_
  refine lw_callIi C (As := [.int (xs (x + 1).toNatClampNeg), .int (xs (x + 2).toNatClampNeg)]) r g1 (k_X5_judge (Nat.le_refl _) h1) wl_119 cm_X5_judge (Nat.le_of_ble_eq_true rfl) (Nat.le_of_ble_eq_true rfl) rfl rfl (Nat.le_of_ble_eq_true rfl) dL_law_1035 1038 rfl ?_
  refine lw_aload_n C 1 dL_law_1038 rfl rfl 1039 rfl ?_
  refine lw_arg C (1 : Int32) (by decide) (hin 1 (by decide)) dL_law_1039 dL_law_1040 dL_law_1041 dL_law_1042 dL_law_1043 1044 rfl ?_
  refine lw_arg C (2 : Int32) (by decide) (hin 2 (by decide)) dL_law_1044 dL_law_1045 dL_law_1046 dL_law_1047 dL_law_1048 1049 rfl ?_
  refine lw_callMi C (As := [.int (xs (x + 1).toNatClampNeg), .int (xs (x + 2).toNatClampNeg)]) r g2 (k_X6_judge (Nat.le_refl _) h2) wl_122 cm_X6_judge (Nat.le_of_ble_eq_true rfl) (Nat.le_of_ble_eq_true rfl) rfl rfl (Nat.le_of_ble_eq_true rfl) dL_law_1049 1052 rfl ?_
  refine lw_eqT C 1666 dL_law_1052 (by decide) ?_
  exact kk g1 g2 h3
set_option maxRecDepth 100000 in
set_option maxHeartbeats 4000000 in
theorem lwc_26 (C : LX p s m c b L xs D tys sa cI cT cS adI adM) {x : Int32} (hR : R gI gM) (hin : ∀ v : Int32, v ∈ ([1, 2, 3, 4, 5, 6] : List Int32) → vp_in (x + v) L) (kk : ∀ g1 g2, R g1 g2 → LW p l e s m below meth c b D cI cT cS adI adM 93 4262 Q g1 g2 1666 (lvL b adI adM x) ([])) : LW p l e s m below meth c b D cI cT cS adI adM 93 4262 Q gI gM 1057 (lvL b adI adM x) ([]) := by
  obtain ⟨r, g1, g2, h1, h2, h3⟩ := e_opened (N := 100000) (Nat.le_of_ble_eq_true rfl) hR (xs (x + 1).toNatClampNeg) (xs (x + 2).toNatClampNeg)
  refine lw_aload_n C 2 dL_law_1057 rfl rfl 1058 rfl ?_
  refine lw_arg C (1 : Int32) (by decide) (hin 1 (by decide)) dL_law_1058 dL_law_1059 dL_law_1060 dL_law_1061 dL_law_1062 1063 rfl ?_
  refine lw_arg C (2 : Int32) (by decide) (hin 2 (by decide)) dL_law_1063 dL_law_1064 dL_law_1065 dL_law_1066 dL_law_1067 1068 rfl ?_
  refine lw_callIi C (As := [.int (xs (x + 1).toNatClampNeg), .int (xs (x + 2).toNatClampNeg)]) r g1 (k_X5_opened (Nat.le_refl _) h1) wl_123 cm_X5_opened (Nat.le_of_ble_eq_true rfl) (Nat.le_of_ble_eq_true rfl) rfl rfl (Nat.le_of_ble_eq_true rfl) dL_law_1068 1071 rfl ?_
  refine lw_aload_n C 1 dL_law_1071 rfl rfl 1072 rfl ?_
  refine lw_arg C (1 : Int32) (by decide) (hin 1 (by decide)) dL_law_1072 dL_law_1073 dL_law_1074 dL_law_1075 dL_law_1076 1077 rfl ?_
  refine lw_arg C (2 : Int32) (by decide) (hin 2 (by decide)) dL_law_1077 dL_law_1078 dL_law_1079 dL_law_1080 dL_law_1081 1082 rfl ?_
  refine lw_callMi C (As := [.int (xs (x + 1).toNatClampNeg), .int (xs (x + 2).toNatClampNeg)]) r g2 (k_X6_opened (Nat.le_refl _) h2) wl_126 cm_X6_opened (Nat.le_of_ble_eq_true rfl) (Nat.le_of_ble_eq_true rfl) rfl rfl (Nat.le_of_ble_eq_true rfl) dL_law_1082 1085 rfl ?_
  refine lw_eqT C 1666 dL_law_1085 (by decide) ?_
  exact kk g1 g2 h3
set_option maxRecDepth 100000 in
set_option maxHeartbeats 4000000 in
theorem lwc_27 (C : LX p s m c b L xs D tys sa cI cT cS adI adM) {x : Int32} (hR : R gI gM) (hin : ∀ v : Int32, v ∈ ([1, 2, 3, 4, 5, 6] : List Int32) → vp_in (x + v) L) (kk : ∀ g1 g2, R g1 g2 → LW p l e s m below meth c b D cI cT cS adI adM 93 4262 Q g1 g2 1666 (lvL b adI adM x) ([])) : LW p l e s m below meth c b D cI cT cS adI adM 93 4262 Q gI gM 1090 (lvL b adI adM x) ([]) := by
  obtain ⟨r, g1, g2, h1, h2, h3⟩ := e_skies (N := 100000) (Nat.le_of_ble_eq_true rfl) hR (xs (x + 1).toNatClampNeg) (xs (x + 2).toNatClampNeg) (xs (x + 3).toNatClampNeg)
  refine lw_aload_n C 2 dL_law_1090 rfl rfl 1091 rfl ?_
  refine lw_arg C (1 : Int32) (by decide) (hin 1 (by decide)) dL_law_1091 dL_law_1092 dL_law_1093 dL_law_1094 dL_law_1095 1096 rfl ?_
  refine lw_arg C (2 : Int32) (by decide) (hin 2 (by decide)) dL_law_1096 dL_law_1097 dL_law_1098 dL_law_1099 dL_law_1100 1101 rfl ?_
  refine lw_arg C (3 : Int32) (by decide) (hin 3 (by decide)) dL_law_1101 dL_law_1102 dL_law_1103 dL_law_1104 dL_law_1105 1106 rfl ?_
  refine lw_callIi C (As := [.int (xs (x + 1).toNatClampNeg), .int (xs (x + 2).toNatClampNeg), .int (xs (x + 3).toNatClampNeg)]) r g1 (k_X5_skies (Nat.le_refl _) h1) wl_127 cm_X5_skies (Nat.le_of_ble_eq_true rfl) (Nat.le_of_ble_eq_true rfl) rfl rfl (Nat.le_of_ble_eq_true rfl) dL_law_1106 1109 rfl ?_
  refine lw_aload_n C 1 dL_law_1109 rfl rfl 1110 rfl ?_
  refine lw_arg C (1 : Int32) (by decide) (hin 1 (by decide)) dL_law_1110 dL_law_1111 dL_law_1112 dL_law_1113 dL_law_1114 1115 rfl ?_
  refine lw_arg C (2 : Int32) (by decide) (hin 2 (by decide)) dL_law_1115 dL_law_1116 dL_law_1117 dL_law_1118 dL_law_1119 1120 rfl ?_
  refine lw_arg C (3 : Int32) (by decide) (hin 3 (by decide)) dL_law_1120 dL_law_1121 dL_law_1122 dL_law_1123 dL_law_1124 1125 rfl ?_
  refine lw_callMi C (As := [.int (xs (x + 1).toNatClampNeg), .int (xs (x + 2).toNatClampNeg), .int (xs (x + 3).toNatClampNeg)]) r g2 (k_X6_skies (Nat.le_refl _) h2) wl_130 cm_X6_skies (Nat.le_of_ble_eq_true rfl) (Nat.le_of_ble_eq_true rfl) rfl rfl (Nat.le_of_ble_eq_true rfl) dL_law_1125 1128 rfl ?_
  refine lw_eqT C 1666 dL_law_1128 (by decide) ?_
  exact kk g1 g2 h3
set_option maxRecDepth 100000 in
set_option maxHeartbeats 4000000 in
theorem lwc_28 (C : LX p s m c b L xs D tys sa cI cT cS adI adM) {x : Int32} (hR : R gI gM) (hin : ∀ v : Int32, v ∈ ([1, 2, 3, 4, 5, 6] : List Int32) → vp_in (x + v) L) (kk : ∀ g1 g2, R g1 g2 → LW p l e s m below meth c b D cI cT cS adI adM 93 4262 Q g1 g2 1666 (lvL b adI adM x) ([])) : LW p l e s m below meth c b D cI cT cS adI adM 93 4262 Q gI gM 1133 (lvL b adI adM x) ([]) := by
  obtain ⟨r, g1, g2, h1, h2, h3⟩ := e_whose (N := 100000) (Nat.le_of_ble_eq_true rfl) hR (xs (x + 1).toNatClampNeg)
  refine lw_aload_n C 2 dL_law_1133 rfl rfl 1134 rfl ?_
  refine lw_arg C (1 : Int32) (by decide) (hin 1 (by decide)) dL_law_1134 dL_law_1135 dL_law_1136 dL_law_1137 dL_law_1138 1139 rfl ?_
  refine lw_callIi C (As := [.int (xs (x + 1).toNatClampNeg)]) r g1 (k_X5_whose (Nat.le_refl _) h1) wl_131 cm_X5_whose (Nat.le_of_ble_eq_true rfl) (Nat.le_of_ble_eq_true rfl) rfl rfl (Nat.le_of_ble_eq_true rfl) dL_law_1139 1142 rfl ?_
  refine lw_aload_n C 1 dL_law_1142 rfl rfl 1143 rfl ?_
  refine lw_arg C (1 : Int32) (by decide) (hin 1 (by decide)) dL_law_1143 dL_law_1144 dL_law_1145 dL_law_1146 dL_law_1147 1148 rfl ?_
  refine lw_callMi C (As := [.int (xs (x + 1).toNatClampNeg)]) r g2 (k_X6_whose (Nat.le_refl _) h2) wl_134 cm_X6_whose (Nat.le_of_ble_eq_true rfl) (Nat.le_of_ble_eq_true rfl) rfl rfl (Nat.le_of_ble_eq_true rfl) dL_law_1148 1151 rfl ?_
  refine lw_eqT C 1666 dL_law_1151 (by decide) ?_
  exact kk g1 g2 h3
set_option maxRecDepth 100000 in
set_option maxHeartbeats 4000000 in
theorem lwc_29 (C : LX p s m c b L xs D tys sa cI cT cS adI adM) {x : Int32} (hR : R gI gM) (hin : ∀ v : Int32, v ∈ ([1, 2, 3, 4, 5, 6] : List Int32) → vp_in (x + v) L) (kk : ∀ g1 g2, R g1 g2 → LW p l e s m below meth c b D cI cT cS adI adM 93 4262 Q g1 g2 1666 (lvL b adI adM x) ([])) : LW p l e s m below meth c b D cI cT cS adI adM 93 4262 Q gI gM 1156 (lvL b adI adM x) ([]) := by
  obtain ⟨r, g1, g2, h1, h2, h3⟩ := e_laws (N := 100000) (Nat.le_of_ble_eq_true rfl) hR (xs (x + 1).toNatClampNeg) (xs (x + 2).toNatClampNeg)
  refine lw_aload_n C 2 dL_law_1156 rfl rfl 1157 rfl ?_
  refine lw_arg C (1 : Int32) (by decide) (hin 1 (by decide)) dL_law_1157 dL_law_1158 dL_law_1159 dL_law_1160 dL_law_1161 1162 rfl ?_
  refine lw_arg C (2 : Int32) (by decide) (hin 2 (by decide)) dL_law_1162 dL_law_1163 dL_law_1164 dL_law_1165 dL_law_1166 1167 rfl ?_
  refine lw_callIi C (As := [.int (xs (x + 1).toNatClampNeg), .int (xs (x + 2).toNatClampNeg)]) r g1 (k_X5_laws (Nat.le_refl _) h1) wl_135 cm_X5_laws (Nat.le_of_ble_eq_true rfl) (Nat.le_of_ble_eq_true rfl) rfl rfl (Nat.le_of_ble_eq_true rfl) dL_law_1167 1170 rfl ?_
  refine lw_aload_n C 1 dL_law_1170 rfl rfl 1171 rfl ?_
  refine lw_arg C (1 : Int32) (by decide) (hin 1 (by decide)) dL_law_1171 dL_law_1172 dL_law_1173 dL_law_1174 dL_law_1175 1176 rfl ?_
  refine lw_arg C (2 : Int32) (by decide) (hin 2 (by decide)) dL_law_1176 dL_law_1177 dL_law_1178 dL_law_1179 dL_law_1180 1181 rfl ?_
  refine lw_callMi C (As := [.int (xs (x + 1).toNatClampNeg), .int (xs (x + 2).toNatClampNeg)]) r g2 (k_X6_laws (Nat.le_refl _) h2) wl_138 cm_X6_laws (Nat.le_of_ble_eq_true rfl) (Nat.le_of_ble_eq_true rfl) rfl rfl (Nat.le_of_ble_eq_true rfl) dL_law_1181 1184 rfl ?_
  refine lw_eqT C 1666 dL_law_1184 (by decide) ?_
  exact kk g1 g2 h3
set_option maxRecDepth 100000 in
set_option maxHeartbeats 4000000 in
theorem lwc_30 (C : LX p s m c b L xs D tys sa cI cT cS adI adM) {x : Int32} (hR : R gI gM) (hin : ∀ v : Int32, v ∈ ([1, 2, 3, 4, 5, 6] : List Int32) → vp_in (x + v) L) (kk : ∀ g1 g2, R g1 g2 → LW p l e s m below meth c b D cI cT cS adI adM 93 4262 Q g1 g2 1666 (lvL b adI adM x) ([])) : LW p l e s m below meth c b D cI cT cS adI adM 93 4262 Q gI gM 1189 (lvL b adI adM x) ([]) := by
  obtain ⟨r, g1, g2, h1, h2, h3⟩ := e_film (N := 100000) (Nat.le_of_ble_eq_true rfl) hR (xs (x + 1).toNatClampNeg) (xs (x + 2).toNatClampNeg) (xs (x + 3).toNatClampNeg)
  refine lw_aload_n C 2 dL_law_1189 rfl rfl 1190 rfl ?_
  refine lw_arg C (1 : Int32) (by decide) (hin 1 (by decide)) dL_law_1190 dL_law_1191 dL_law_1192 dL_law_1193 dL_law_1194 1195 rfl ?_
  refine lw_arg C (2 : Int32) (by decide) (hin 2 (by decide)) dL_law_1195 dL_law_1196 dL_law_1197 dL_law_1198 dL_law_1199 1200 rfl ?_
  refine lw_arg C (3 : Int32) (by decide) (hin 3 (by decide)) dL_law_1200 dL_law_1201 dL_law_1202 dL_law_1203 dL_law_1204 1205 rfl ?_
  refine lw_callIi C (As := [.int (xs (x + 1).toNatClampNeg), .int (xs (x + 2).toNatClampNeg), .int (xs (x + 3).toNatClampNeg)]) r g1 (k_X5_film (Nat.le_refl _) h1) wl_139 cm_X5_film (Nat.le_of_ble_eq_true rfl) (Nat.le_of_ble_eq_true rfl) rfl rfl (Nat.le_of_ble_eq_true rfl) dL_law_1205 1208 rfl ?_
  refine lw_aload_n C 1 dL_law_1208 rfl rfl 1209 rfl ?_
  refine lw_arg C (1 : Int32) (by decide) (hin 1 (by decide)) dL_law_1209 dL_law_1210 dL_law_1211 dL_law_1212 dL_law_1213 1214 rfl ?_
  refine lw_arg C (2 : Int32) (by decide) (hin 2 (by decide)) dL_law_1214 dL_law_1215 dL_law_1216 dL_law_1217 dL_law_1218 1219 rfl ?_
  refine lw_arg C (3 : Int32) (by decide) (hin 3 (by decide)) dL_law_1219 dL_law_1220 dL_law_1221 dL_law_1222 dL_law_1223 1224 rfl ?_
  refine lw_callMi C (As := [.int (xs (x + 1).toNatClampNeg), .int (xs (x + 2).toNatClampNeg), .int (xs (x + 3).toNatClampNeg)]) r g2 (k_X6_film (Nat.le_refl _) h2) wl_142 cm_X6_film (Nat.le_of_ble_eq_true rfl) (Nat.le_of_ble_eq_true rfl) rfl rfl (Nat.le_of_ble_eq_true rfl) dL_law_1224 1227 rfl ?_
  refine lw_eqT C 1666 dL_law_1227 (by decide) ?_
  exact kk g1 g2 h3
set_option maxRecDepth 100000 in
set_option maxHeartbeats 4000000 in
theorem lwc_31 (C : LX p s m c b L xs D tys sa cI cT cS adI adM) {x : Int32} (hR : R gI gM) (hin : ∀ v : Int32, v ∈ ([1, 2, 3, 4, 5, 6] : List Int32) → vp_in (x + v) L) (kk : ∀ g1 g2, R g1 g2 → LW p l e s m below meth c b D cI cT cS adI adM 93 4262 Q g1 g2 1666 (lvL b adI adM x) ([])) : LW p l e s m below meth c b D cI cT cS adI adM 93 4262 Q gI gM 1232 (lvL b adI adM x) ([]) := by
  obtain ⟨r, g1, g2, h1, h2, h3⟩ := e_kinds (N := 100000) (Nat.le_of_ble_eq_true rfl) hR (xs (x + 1).toNatClampNeg) (xs (x + 2).toNatClampNeg) (xs (x + 3).toNatClampNeg)
  refine lw_aload_n C 2 dL_law_1232 rfl rfl 1233 rfl ?_
  refine lw_arg C (1 : Int32) (by decide) (hin 1 (by decide)) dL_law_1233 dL_law_1234 dL_law_1235 dL_law_1236 dL_law_1237 1238 rfl ?_
  refine lw_arg C (2 : Int32) (by decide) (hin 2 (by decide)) dL_law_1238 dL_law_1239 dL_law_1240 dL_law_1241 dL_law_1242 1243 rfl ?_
  refine lw_arg C (3 : Int32) (by decide) (hin 3 (by decide)) dL_law_1243 dL_law_1244 dL_law_1245 dL_law_1246 dL_law_1247 1248 rfl ?_
  refine lw_callIi C (As := [.int (xs (x + 1).toNatClampNeg), .int (xs (x + 2).toNatClampNeg), .int (xs (x + 3).toNatClampNeg)]) r g1 (k_X5_kinds (Nat.le_refl _) h1) wl_143 cm_X5_kinds (Nat.le_of_ble_eq_true rfl) (Nat.le_of_ble_eq_true rfl) rfl rfl (Nat.le_of_ble_eq_true rfl) dL_law_1248 1251 rfl ?_
  refine lw_aload_n C 1 dL_law_1251 rfl rfl 1252 rfl ?_
  refine lw_arg C (1 : Int32) (by decide) (hin 1 (by decide)) dL_law_1252 dL_law_1253 dL_law_1254 dL_law_1255 dL_law_1256 1257 rfl ?_
  refine lw_arg C (2 : Int32) (by decide) (hin 2 (by decide)) dL_law_1257 dL_law_1258 dL_law_1259 dL_law_1260 dL_law_1261 1262 rfl ?_
  refine lw_arg C (3 : Int32) (by decide) (hin 3 (by decide)) dL_law_1262 dL_law_1263 dL_law_1264 dL_law_1265 dL_law_1266 1267 rfl ?_
  refine lw_callMi C (As := [.int (xs (x + 1).toNatClampNeg), .int (xs (x + 2).toNatClampNeg), .int (xs (x + 3).toNatClampNeg)]) r g2 (k_X6_kinds (Nat.le_refl _) h2) wl_146 cm_X6_kinds (Nat.le_of_ble_eq_true rfl) (Nat.le_of_ble_eq_true rfl) rfl rfl (Nat.le_of_ble_eq_true rfl) dL_law_1267 1270 rfl ?_
  refine lw_eqT C 1666 dL_law_1270 (by decide) ?_
  exact kk g1 g2 h3
set_option maxRecDepth 100000 in
set_option maxHeartbeats 4000000 in
theorem lwc_32 (C : LX p s m c b L xs D tys sa cI cT cS adI adM) {x : Int32} (hR : R gI gM) (hin : ∀ v : Int32, v ∈ ([1, 2, 3, 4, 5, 6] : List Int32) → vp_in (x + v) L) (kk : ∀ g1 g2, R g1 g2 → LW p l e s m below meth c b D cI cT cS adI adM 93 4262 Q g1 g2 1666 (lvL b adI adM x) ([])) : LW p l e s m below meth c b D cI cT cS adI adM 93 4262 Q gI gM 1275 (lvL b adI adM x) ([]) := by
  obtain ⟨r, g1, g2, h1, h2, h3⟩ := e_breaths (N := 100000) (Nat.le_of_ble_eq_true rfl) hR (xs (x + 1).toNatClampNeg) (xs (x + 2).toNatClampNeg) (xs (x + 3).toNatClampNeg)
  refine lw_aload_n C 2 dL_law_1275 rfl rfl 1276 rfl ?_
  refine lw_arg C (1 : Int32) (by decide) (hin 1 (by decide)) dL_law_1276 dL_law_1277 dL_law_1278 dL_law_1279 dL_law_1280 1281 rfl ?_
  refine lw_arg C (2 : Int32) (by decide) (hin 2 (by decide)) dL_law_1281 dL_law_1282 dL_law_1283 dL_law_1284 dL_law_1285 1286 rfl ?_
  refine lw_arg C (3 : Int32) (by decide) (hin 3 (by decide)) dL_law_1286 dL_law_1287 dL_law_1288 dL_law_1289 dL_law_1290 1291 rfl ?_
  refine lw_callIi C (As := [.int (xs (x + 1).toNatClampNeg), .int (xs (x + 2).toNatClampNeg), .int (xs (x + 3).toNatClampNeg)]) r g1 (k_X5_breaths (Nat.le_refl _) h1) wl_147 cm_X5_breaths (Nat.le_of_ble_eq_true rfl) (Nat.le_of_ble_eq_true rfl) rfl rfl (Nat.le_of_ble_eq_true rfl) dL_law_1291 1294 rfl ?_
  refine lw_aload_n C 1 dL_law_1294 rfl rfl 1295 rfl ?_
  refine lw_arg C (1 : Int32) (by decide) (hin 1 (by decide)) dL_law_1295 dL_law_1296 dL_law_1297 dL_law_1298 dL_law_1299 1300 rfl ?_
  refine lw_arg C (2 : Int32) (by decide) (hin 2 (by decide)) dL_law_1300 dL_law_1301 dL_law_1302 dL_law_1303 dL_law_1304 1305 rfl ?_
  refine lw_arg C (3 : Int32) (by decide) (hin 3 (by decide)) dL_law_1305 dL_law_1306 dL_law_1307 dL_law_1308 dL_law_1309 1310 rfl ?_
  refine lw_callMi C (As := [.int (xs (x + 1).toNatClampNeg), .int (xs (x + 2).toNatClampNeg), .int (xs (x + 3).toNatClampNeg)]) r g2 (k_X6_breaths (Nat.le_refl _) h2) wl_150 cm_X6_breaths (Nat.le_of_ble_eq_true rfl) (Nat.le_of_ble_eq_true rfl) rfl rfl (Nat.le_of_ble_eq_true rfl) dL_law_1310 1313 rfl ?_
  refine lw_eqT C 1666 dL_law_1313 (by decide) ?_
  exact kk g1 g2 h3
set_option maxRecDepth 100000 in
set_option maxHeartbeats 4000000 in
theorem lwc_33 (C : LX p s m c b L xs D tys sa cI cT cS adI adM) {x : Int32} (hR : R gI gM) (hin : ∀ v : Int32, v ∈ ([1, 2, 3, 4, 5, 6] : List Int32) → vp_in (x + v) L) (kk : ∀ g1 g2, R g1 g2 → LW p l e s m below meth c b D cI cT cS adI adM 93 4262 Q g1 g2 1666 (lvL b adI adM x) ([])) : LW p l e s m below meth c b D cI cT cS adI adM 93 4262 Q gI gM 1318 (lvL b adI adM x) ([]) := by
  obtain ⟨r, g1, g2, h1, h2, h3⟩ := e_drawn (N := 100000) (Nat.le_of_ble_eq_true rfl) hR (xs (x + 1).toNatClampNeg) (xs (x + 2).toNatClampNeg)
  refine lw_aload_n C 2 dL_law_1318 rfl rfl 1319 rfl ?_
  refine lw_arg C (1 : Int32) (by decide) (hin 1 (by decide)) dL_law_1319 dL_law_1320 dL_law_1321 dL_law_1322 dL_law_1323 1324 rfl ?_
  refine lw_arg C (2 : Int32) (by decide) (hin 2 (by decide)) dL_law_1324 dL_law_1325 dL_law_1326 dL_law_1327 dL_law_1328 1329 rfl ?_
  refine lw_callIi C (As := [.int (xs (x + 1).toNatClampNeg), .int (xs (x + 2).toNatClampNeg)]) r g1 (k_X5_drawn (Nat.le_refl _) h1) wl_151 cm_X5_drawn (Nat.le_of_ble_eq_true rfl) (Nat.le_of_ble_eq_true rfl) rfl rfl (Nat.le_of_ble_eq_true rfl) dL_law_1329 1332 rfl ?_
  refine lw_aload_n C 1 dL_law_1332 rfl rfl 1333 rfl ?_
  refine lw_arg C (1 : Int32) (by decide) (hin 1 (by decide)) dL_law_1333 dL_law_1334 dL_law_1335 dL_law_1336 dL_law_1337 1338 rfl ?_
  refine lw_arg C (2 : Int32) (by decide) (hin 2 (by decide)) dL_law_1338 dL_law_1339 dL_law_1340 dL_law_1341 dL_law_1342 1343 rfl ?_
  refine lw_callMi C (As := [.int (xs (x + 1).toNatClampNeg), .int (xs (x + 2).toNatClampNeg)]) r g2 (k_X6_drawn (Nat.le_refl _) h2) wl_154 cm_X6_drawn (Nat.le_of_ble_eq_true rfl) (Nat.le_of_ble_eq_true rfl) rfl rfl (Nat.le_of_ble_eq_true rfl) dL_law_1343 1346 rfl ?_
  refine lw_eqT C 1666 dL_law_1346 (by decide) ?_
  exact kk g1 g2 h3
set_option maxRecDepth 100000 in
set_option maxHeartbeats 4000000 in
theorem lwc_34 (C : LX p s m c b L xs D tys sa cI cT cS adI adM) {x : Int32} (hR : R gI gM) (hin : ∀ v : Int32, v ∈ ([1, 2, 3, 4, 5, 6] : List Int32) → vp_in (x + v) L) (kk : ∀ g1 g2, R g1 g2 → LW p l e s m below meth c b D cI cT cS adI adM 93 4262 Q g1 g2 1666 (lvL b adI adM x) ([])) : LW p l e s m below meth c b D cI cT cS adI adM 93 4262 Q gI gM 1351 (lvL b adI adM x) ([]) := by
  obtain ⟨r, g1, g2, h1, h2, h3⟩ := e_odds (N := 100000) (Nat.le_of_ble_eq_true rfl) hR (xs (x + 1).toNatClampNeg) (xs (x + 2).toNatClampNeg) (xs (x + 3).toNatClampNeg) (xs (x + 4).toNatClampNeg)
  refine lw_aload_n C 2 dL_law_1351 rfl rfl 1352 rfl ?_
  refine lw_arg C (1 : Int32) (by decide) (hin 1 (by decide)) dL_law_1352 dL_law_1353 dL_law_1354 dL_law_1355 dL_law_1356 1357 rfl ?_
  refine lw_arg C (2 : Int32) (by decide) (hin 2 (by decide)) dL_law_1357 dL_law_1358 dL_law_1359 dL_law_1360 dL_law_1361 1362 rfl ?_
  refine lw_arg C (3 : Int32) (by decide) (hin 3 (by decide)) dL_law_1362 dL_law_1363 dL_law_1364 dL_law_1365 dL_law_1366 1367 rfl ?_
  refine lw_arg C (4 : Int32) (by decide) (hin 4 (by decide)) dL_law_1367 dL_law_1368 dL_law_1369 dL_law_1370 dL_law_1371 1372 rfl ?_
  refine lw_callIl C (As := [.int (xs (x + 1).toNatClampNeg), .int (xs (x + 2).toNatClampNeg), .int (xs (x + 3).toNatClampNeg), .int (xs (x + 4).toNatClampNeg)]) r g1 (k_X5_odds (Nat.le_refl _) h1) wl_155 cm_X5_odds (Nat.le_of_ble_eq_true rfl) (Nat.le_of_ble_eq_true rfl) rfl rfl (Nat.le_of_ble_eq_true rfl) dL_law_1372 1375 rfl ?_
  refine lw_aload_n C 1 dL_law_1375 rfl rfl 1376 rfl ?_
  refine lw_arg C (1 : Int32) (by decide) (hin 1 (by decide)) dL_law_1376 dL_law_1377 dL_law_1378 dL_law_1379 dL_law_1380 1381 rfl ?_
  refine lw_arg C (2 : Int32) (by decide) (hin 2 (by decide)) dL_law_1381 dL_law_1382 dL_law_1383 dL_law_1384 dL_law_1385 1386 rfl ?_
  refine lw_arg C (3 : Int32) (by decide) (hin 3 (by decide)) dL_law_1386 dL_law_1387 dL_law_1388 dL_law_1389 dL_law_1390 1391 rfl ?_
  refine lw_arg C (4 : Int32) (by decide) (hin 4 (by decide)) dL_law_1391 dL_law_1392 dL_law_1393 dL_law_1394 dL_law_1395 1396 rfl ?_
  refine lw_callMl C (As := [.int (xs (x + 1).toNatClampNeg), .int (xs (x + 2).toNatClampNeg), .int (xs (x + 3).toNatClampNeg), .int (xs (x + 4).toNatClampNeg)]) r g2 (k_X6_odds (Nat.le_refl _) h2) wl_159 cm_X6_odds (Nat.le_of_ble_eq_true rfl) (Nat.le_of_ble_eq_true rfl) rfl rfl (Nat.le_of_ble_eq_true rfl) dL_law_1396 1399 rfl ?_
  refine lw_lcmp C dL_law_1399 1400 rfl ?_
  refine lw_zT C (lg_self r) 1666 dL_law_1400 (by decide) ?_
  exact kk g1 g2 h3
set_option maxRecDepth 100000 in
set_option maxHeartbeats 4000000 in
theorem lwc_35 (C : LX p s m c b L xs D tys sa cI cT cS adI adM) {x : Int32} (hR : R gI gM) (hin : ∀ v : Int32, v ∈ ([1, 2, 3, 4, 5, 6] : List Int32) → vp_in (x + v) L) (kk : ∀ g1 g2, R g1 g2 → LW p l e s m below meth c b D cI cT cS adI adM 93 4262 Q g1 g2 1666 (lvL b adI adM x) ([])) : LW p l e s m below meth c b D cI cT cS adI adM 93 4262 Q gI gM 1405 (lvL b adI adM x) ([]) := by
  obtain ⟨r, g1, g2, h1, h2, h3⟩ := e_image (N := 100000) (Nat.le_of_ble_eq_true rfl) hR
  refine lw_aload_n C 2 dL_law_1405 rfl rfl 1406 rfl ?_
  refine lw_callIi C (As := []) r g1 (k_X5_image (Nat.le_refl _) h1) wl_160 cm_X5_image (Nat.le_of_ble_eq_true rfl) (Nat.le_of_ble_eq_true rfl) rfl rfl (Nat.le_of_ble_eq_true rfl) dL_law_1406 1409 rfl ?_
  refine lw_aload_n C 1 dL_law_1409 rfl rfl 1410 rfl ?_
  refine lw_callMi C (As := []) r g2 (k_X6_image (Nat.le_refl _) h2) wl_163 cm_X6_image (Nat.le_of_ble_eq_true rfl) (Nat.le_of_ble_eq_true rfl) rfl rfl (Nat.le_of_ble_eq_true rfl) dL_law_1410 1413 rfl ?_
  refine lw_eqT C 1666 dL_law_1413 (by decide) ?_
  exact kk g1 g2 h3
set_option maxRecDepth 100000 in
set_option maxHeartbeats 4000000 in
theorem lwc_36 (C : LX p s m c b L xs D tys sa cI cT cS adI adM) {x : Int32} (hR : R gI gM) (hin : ∀ v : Int32, v ∈ ([1, 2, 3, 4, 5, 6] : List Int32) → vp_in (x + v) L) (kk : ∀ g1 g2, R g1 g2 → LW p l e s m below meth c b D cI cT cS adI adM 93 4262 Q g1 g2 1666 (lvL b adI adM x) ([])) : LW p l e s m below meth c b D cI cT cS adI adM 93 4262 Q gI gM 1418 (lvL b adI adM x) ([]) := by
  obtain ⟨r, g1, g2, h1, h2, h3⟩ := e_back (N := 100000) (Nat.le_of_ble_eq_true rfl) hR
  refine lw_aload_n C 2 dL_law_1418 rfl rfl 1419 rfl ?_
  refine lw_callIi C (As := []) r g1 (k_X5_back (Nat.le_refl _) h1) wl_164 cm_X5_back (Nat.le_of_ble_eq_true rfl) (Nat.le_of_ble_eq_true rfl) rfl rfl (Nat.le_of_ble_eq_true rfl) dL_law_1419 1422 rfl ?_
  refine lw_aload_n C 1 dL_law_1422 rfl rfl 1423 rfl ?_
  refine lw_callMi C (As := []) r g2 (k_X6_back (Nat.le_refl _) h2) wl_167 cm_X6_back (Nat.le_of_ble_eq_true rfl) (Nat.le_of_ble_eq_true rfl) rfl rfl (Nat.le_of_ble_eq_true rfl) dL_law_1423 1426 rfl ?_
  refine lw_eqT C 1666 dL_law_1426 (by decide) ?_
  exact kk g1 g2 h3
set_option maxRecDepth 100000 in
set_option maxHeartbeats 4000000 in
theorem lwc_37 (C : LX p s m c b L xs D tys sa cI cT cS adI adM) {x : Int32} (hR : R gI gM) (hin : ∀ v : Int32, v ∈ ([1, 2, 3, 4, 5, 6] : List Int32) → vp_in (x + v) L) (kk : ∀ g1 g2, R g1 g2 → LW p l e s m below meth c b D cI cT cS adI adM 93 4262 Q g1 g2 1666 (lvL b adI adM x) ([])) : LW p l e s m below meth c b D cI cT cS adI adM 93 4262 Q gI gM 1431 (lvL b adI adM x) ([]) := by
  obtain ⟨r, g1, g2, h1, h2, h3⟩ := e_sheet (N := 100000) (Nat.le_of_ble_eq_true rfl) hR (xs (x + 1).toNatClampNeg) (xs (x + 2).toNatClampNeg) (xs (x + 3).toNatClampNeg)
  refine lw_aload_n C 2 dL_law_1431 rfl rfl 1432 rfl ?_
  refine lw_arg C (1 : Int32) (by decide) (hin 1 (by decide)) dL_law_1432 dL_law_1433 dL_law_1434 dL_law_1435 dL_law_1436 1437 rfl ?_
  refine lw_arg C (2 : Int32) (by decide) (hin 2 (by decide)) dL_law_1437 dL_law_1438 dL_law_1439 dL_law_1440 dL_law_1441 1442 rfl ?_
  refine lw_arg C (3 : Int32) (by decide) (hin 3 (by decide)) dL_law_1442 dL_law_1443 dL_law_1444 dL_law_1445 dL_law_1446 1447 rfl ?_
  refine lw_callIi C (As := [.int (xs (x + 1).toNatClampNeg), .int (xs (x + 2).toNatClampNeg), .int (xs (x + 3).toNatClampNeg)]) r g1 (k_X5_sheet (Nat.le_refl _) h1) wl_168 cm_X5_sheet (Nat.le_of_ble_eq_true rfl) (Nat.le_of_ble_eq_true rfl) rfl rfl (Nat.le_of_ble_eq_true rfl) dL_law_1447 1450 rfl ?_
  refine lw_aload_n C 1 dL_law_1450 rfl rfl 1451 rfl ?_
  refine lw_arg C (1 : Int32) (by decide) (hin 1 (by decide)) dL_law_1451 dL_law_1452 dL_law_1453 dL_law_1454 dL_law_1455 1456 rfl ?_
  refine lw_arg C (2 : Int32) (by decide) (hin 2 (by decide)) dL_law_1456 dL_law_1457 dL_law_1458 dL_law_1459 dL_law_1460 1461 rfl ?_
  refine lw_arg C (3 : Int32) (by decide) (hin 3 (by decide)) dL_law_1461 dL_law_1462 dL_law_1463 dL_law_1464 dL_law_1465 1466 rfl ?_
  refine lw_callMi C (As := [.int (xs (x + 1).toNatClampNeg), .int (xs (x + 2).toNatClampNeg), .int (xs (x + 3).toNatClampNeg)]) r g2 (k_X6_sheet (Nat.le_refl _) h2) wl_171 cm_X6_sheet (Nat.le_of_ble_eq_true rfl) (Nat.le_of_ble_eq_true rfl) rfl rfl (Nat.le_of_ble_eq_true rfl) dL_law_1466 1469 rfl ?_
  refine lw_eqT C 1666 dL_law_1469 (by decide) ?_
  exact kk g1 g2 h3
set_option maxRecDepth 100000 in
set_option maxHeartbeats 4000000 in
theorem lwc_38 (C : LX p s m c b L xs D tys sa cI cT cS adI adM) {x : Int32} (hR : R gI gM) (hin : ∀ v : Int32, v ∈ ([1, 2, 3, 4, 5, 6] : List Int32) → vp_in (x + v) L) (kk : ∀ g1 g2, R g1 g2 → LW p l e s m below meth c b D cI cT cS adI adM 93 4262 Q g1 g2 1666 (lvL b adI adM x) ([])) : LW p l e s m below meth c b D cI cT cS adI adM 93 4262 Q gI gM 1474 (lvL b adI adM x) ([]) := by
  obtain ⟨r, g1, g2, h1, h2, h3⟩ := e_cell (N := 100000) (Nat.le_of_ble_eq_true rfl) hR (xs (x + 1).toNatClampNeg) (xs (x + 2).toNatClampNeg) (xs (x + 3).toNatClampNeg)
  refine lw_aload_n C 2 dL_law_1474 rfl rfl 1475 rfl ?_
  refine lw_arg C (1 : Int32) (by decide) (hin 1 (by decide)) dL_law_1475 dL_law_1476 dL_law_1477 dL_law_1478 dL_law_1479 1480 rfl ?_
  refine lw_arg C (2 : Int32) (by decide) (hin 2 (by decide)) dL_law_1480 dL_law_1481 dL_law_1482 dL_law_1483 dL_law_1484 1485 rfl ?_
  refine lw_arg C (3 : Int32) (by decide) (hin 3 (by decide)) dL_law_1485 dL_law_1486 dL_law_1487 dL_law_1488 dL_law_1489 1490 rfl ?_
  refine lw_callIi C (As := [.int (xs (x + 1).toNatClampNeg), .int (xs (x + 2).toNatClampNeg), .int (xs (x + 3).toNatClampNeg)]) r g1 (k_X5_cell (Nat.le_refl _) h1) wl_172 cm_X5_cell (Nat.le_of_ble_eq_true rfl) (Nat.le_of_ble_eq_true rfl) rfl rfl (Nat.le_of_ble_eq_true rfl) dL_law_1490 1493 rfl ?_
  refine lw_aload_n C 1 dL_law_1493 rfl rfl 1494 rfl ?_
  refine lw_arg C (1 : Int32) (by decide) (hin 1 (by decide)) dL_law_1494 dL_law_1495 dL_law_1496 dL_law_1497 dL_law_1498 1499 rfl ?_
  refine lw_arg C (2 : Int32) (by decide) (hin 2 (by decide)) dL_law_1499 dL_law_1500 dL_law_1501 dL_law_1502 dL_law_1503 1504 rfl ?_
  refine lw_arg C (3 : Int32) (by decide) (hin 3 (by decide)) dL_law_1504 dL_law_1505 dL_law_1506 dL_law_1507 dL_law_1508 1509 rfl ?_
  refine lw_callMi C (As := [.int (xs (x + 1).toNatClampNeg), .int (xs (x + 2).toNatClampNeg), .int (xs (x + 3).toNatClampNeg)]) r g2 (k_X6_cell (Nat.le_refl _) h2) wl_175 cm_X6_cell (Nat.le_of_ble_eq_true rfl) (Nat.le_of_ble_eq_true rfl) rfl rfl (Nat.le_of_ble_eq_true rfl) dL_law_1509 1512 rfl ?_
  refine lw_eqT C 1666 dL_law_1512 (by decide) ?_
  exact kk g1 g2 h3
set_option maxRecDepth 100000 in
set_option maxHeartbeats 4000000 in
theorem lwc_39 (C : LX p s m c b L xs D tys sa cI cT cS adI adM) {x : Int32} (hR : R gI gM) (hin : ∀ v : Int32, v ∈ ([1, 2, 3, 4, 5, 6] : List Int32) → vp_in (x + v) L) (kk : ∀ g1 g2, R g1 g2 → LW p l e s m below meth c b D cI cT cS adI adM 93 4262 Q g1 g2 1666 (lvL b adI adM x) ([])) : LW p l e s m below meth c b D cI cT cS adI adM 93 4262 Q gI gM 1517 (lvL b adI adM x) ([]) := by
  obtain ⟨r, g1, g2, h1, h2, h3⟩ := e_copy (N := 100000) (Nat.le_of_ble_eq_true rfl) hR (xs (x + 1).toNatClampNeg) (xs (x + 2).toNatClampNeg) (xs (x + 3).toNatClampNeg) (xs (x + 4).toNatClampNeg) (xs (x + 5).toNatClampNeg)
  refine lw_aload_n C 2 dL_law_1517 rfl rfl 1518 rfl ?_
  refine lw_arg C (1 : Int32) (by decide) (hin 1 (by decide)) dL_law_1518 dL_law_1519 dL_law_1520 dL_law_1521 dL_law_1522 1523 rfl ?_
  refine lw_arg C (2 : Int32) (by decide) (hin 2 (by decide)) dL_law_1523 dL_law_1524 dL_law_1525 dL_law_1526 dL_law_1527 1528 rfl ?_
  refine lw_arg C (3 : Int32) (by decide) (hin 3 (by decide)) dL_law_1528 dL_law_1529 dL_law_1530 dL_law_1531 dL_law_1532 1533 rfl ?_
  refine lw_arg C (4 : Int32) (by decide) (hin 4 (by decide)) dL_law_1533 dL_law_1534 dL_law_1535 dL_law_1536 dL_law_1537 1538 rfl ?_
  refine lw_arg C (5 : Int32) (by decide) (hin 5 (by decide)) dL_law_1538 dL_law_1539 dL_law_1540 dL_law_1541 dL_law_1542 1543 rfl ?_
  refine lw_callIi C (As := [.int (xs (x + 1).toNatClampNeg), .int (xs (x + 2).toNatClampNeg), .int (xs (x + 3).toNatClampNeg), .int (xs (x + 4).toNatClampNeg), .int (xs (x + 5).toNatClampNeg)]) r g1 (k_X5_copy (Nat.le_refl _) h1) wl_176 cm_X5_copy (Nat.le_of_ble_eq_true rfl) (Nat.le_of_ble_eq_true rfl) rfl rfl (Nat.le_of_ble_eq_true rfl) dL_law_1543 1546 rfl ?_
  refine lw_aload_n C 1 dL_law_1546 rfl rfl 1547 rfl ?_
  refine lw_arg C (1 : Int32) (by decide) (hin 1 (by decide)) dL_law_1547 dL_law_1548 dL_law_1549 dL_law_1550 dL_law_1551 1552 rfl ?_
  refine lw_arg C (2 : Int32) (by decide) (hin 2 (by decide)) dL_law_1552 dL_law_1553 dL_law_1554 dL_law_1555 dL_law_1556 1557 rfl ?_
  refine lw_arg C (3 : Int32) (by decide) (hin 3 (by decide)) dL_law_1557 dL_law_1558 dL_law_1559 dL_law_1560 dL_law_1561 1562 rfl ?_
  refine lw_arg C (4 : Int32) (by decide) (hin 4 (by decide)) dL_law_1562 dL_law_1563 dL_law_1564 dL_law_1565 dL_law_1566 1567 rfl ?_
  refine lw_arg C (5 : Int32) (by decide) (hin 5 (by decide)) dL_law_1567 dL_law_1568 dL_law_1569 dL_law_1570 dL_law_1571 1572 rfl ?_
  refine lw_callMi C (As := [.int (xs (x + 1).toNatClampNeg), .int (xs (x + 2).toNatClampNeg), .int (xs (x + 3).toNatClampNeg), .int (xs (x + 4).toNatClampNeg), .int (xs (x + 5).toNatClampNeg)]) r g2 (k_X6_copy (Nat.le_refl _) h2) wl_180 cm_X6_copy (Nat.le_of_ble_eq_true rfl) (Nat.le_of_ble_eq_true rfl) rfl rfl (Nat.le_of_ble_eq_true rfl) dL_law_1572 1575 rfl ?_
  refine lw_eqT C 1666 dL_law_1575 (by decide) ?_
  exact kk g1 g2 h3
set_option maxRecDepth 100000 in
set_option maxHeartbeats 4000000 in
theorem lwc_40 (C : LX p s m c b L xs D tys sa cI cT cS adI adM) {x : Int32} (hR : R gI gM) (hin : ∀ v : Int32, v ∈ ([1, 2, 3, 4, 5, 6] : List Int32) → vp_in (x + v) L) (kk : ∀ g1 g2, R g1 g2 → LW p l e s m below meth c b D cI cT cS adI adM 93 4262 Q g1 g2 1666 (lvL b adI adM x) ([])) : LW p l e s m below meth c b D cI cT cS adI adM 93 4262 Q gI gM 1580 (lvL b adI adM x) ([]) := by
  obtain ⟨r, g1, g2, h1, h2, h3⟩ := e_diversBy (N := 100000) (Nat.le_of_ble_eq_true rfl) hR (xs (x + 1).toNatClampNeg) (xs (x + 2).toNatClampNeg) (xs (x + 3).toNatClampNeg) (xs (x + 4).toNatClampNeg)
  refine lw_aload_n C 2 dL_law_1580 rfl rfl 1581 rfl ?_
  refine lw_arg C (1 : Int32) (by decide) (hin 1 (by decide)) dL_law_1581 dL_law_1582 dL_law_1583 dL_law_1584 dL_law_1585 1586 rfl ?_
  refine lw_arg C (2 : Int32) (by decide) (hin 2 (by decide)) dL_law_1586 dL_law_1587 dL_law_1588 dL_law_1589 dL_law_1590 1591 rfl ?_
  refine lw_arg C (3 : Int32) (by decide) (hin 3 (by decide)) dL_law_1591 dL_law_1592 dL_law_1593 dL_law_1594 dL_law_1595 1596 rfl ?_
  refine lw_arg C (4 : Int32) (by decide) (hin 4 (by decide)) dL_law_1596 dL_law_1597 dL_law_1598 dL_law_1599 dL_law_1600 1601 rfl ?_
  refine lw_callIi C (As := [.int (xs (x + 1).toNatClampNeg), .int (xs (x + 2).toNatClampNeg), .int (xs (x + 3).toNatClampNeg), .int (xs (x + 4).toNatClampNeg)]) r g1 (k_X5_diversBy (Nat.le_refl _) h1) wl_181 cm_X5_diversBy (Nat.le_of_ble_eq_true rfl) (Nat.le_of_ble_eq_true rfl) rfl rfl (Nat.le_of_ble_eq_true rfl) dL_law_1601 1604 rfl ?_
  refine lw_aload_n C 1 dL_law_1604 rfl rfl 1605 rfl ?_
  refine lw_arg C (1 : Int32) (by decide) (hin 1 (by decide)) dL_law_1605 dL_law_1606 dL_law_1607 dL_law_1608 dL_law_1609 1610 rfl ?_
  refine lw_arg C (2 : Int32) (by decide) (hin 2 (by decide)) dL_law_1610 dL_law_1611 dL_law_1612 dL_law_1613 dL_law_1614 1615 rfl ?_
  refine lw_arg C (3 : Int32) (by decide) (hin 3 (by decide)) dL_law_1615 dL_law_1616 dL_law_1617 dL_law_1618 dL_law_1619 1620 rfl ?_
  refine lw_arg C (4 : Int32) (by decide) (hin 4 (by decide)) dL_law_1620 dL_law_1621 dL_law_1622 dL_law_1623 dL_law_1624 1625 rfl ?_
  refine lw_callMi C (As := [.int (xs (x + 1).toNatClampNeg), .int (xs (x + 2).toNatClampNeg), .int (xs (x + 3).toNatClampNeg), .int (xs (x + 4).toNatClampNeg)]) r g2 (k_X6_diversBy (Nat.le_refl _) h2) wl_185 cm_X6_diversBy (Nat.le_of_ble_eq_true rfl) (Nat.le_of_ble_eq_true rfl) rfl rfl (Nat.le_of_ble_eq_true rfl) dL_law_1625 1628 rfl ?_
  refine lw_eqT C 1666 dL_law_1628 (by decide) ?_
  exact kk g1 g2 h3
set_option maxRecDepth 100000 in
set_option maxHeartbeats 4000000 in
theorem lwc_41 (C : LX p s m c b L xs D tys sa cI cT cS adI adM) {x : Int32} (hR : R gI gM) (hin : ∀ v : Int32, v ∈ ([1, 2, 3, 4, 5, 6] : List Int32) → vp_in (x + v) L) (kk : ∀ g1 g2, R g1 g2 → LW p l e s m below meth c b D cI cT cS adI adM 93 4262 Q g1 g2 1666 (lvL b adI adM x) ([])) : LW p l e s m below meth c b D cI cT cS adI adM 93 4262 Q gI gM 1633 (lvL b adI adM x) ([]) := by
  obtain ⟨r, g1, g2, h1, h2, h3⟩ := e_taken (N := 100000) (Nat.le_of_ble_eq_true rfl) hR (xs (x + 1).toNatClampNeg) (xs (x + 2).toNatClampNeg)
  refine lw_aload_n C 2 dL_law_1633 rfl rfl 1634 rfl ?_
  refine lw_arg C (1 : Int32) (by decide) (hin 1 (by decide)) dL_law_1634 dL_law_1635 dL_law_1636 dL_law_1637 dL_law_1638 1639 rfl ?_
  refine lw_arg C (2 : Int32) (by decide) (hin 2 (by decide)) dL_law_1639 dL_law_1640 dL_law_1641 dL_law_1642 dL_law_1643 1644 rfl ?_
  refine lw_callIi C (As := [.int (xs (x + 1).toNatClampNeg), .int (xs (x + 2).toNatClampNeg)]) r g1 (k_X5_taken (Nat.le_refl _) h1) wl_186 cm_X5_taken (Nat.le_of_ble_eq_true rfl) (Nat.le_of_ble_eq_true rfl) rfl rfl (Nat.le_of_ble_eq_true rfl) dL_law_1644 1647 rfl ?_
  refine lw_aload_n C 1 dL_law_1647 rfl rfl 1648 rfl ?_
  refine lw_arg C (1 : Int32) (by decide) (hin 1 (by decide)) dL_law_1648 dL_law_1649 dL_law_1650 dL_law_1651 dL_law_1652 1653 rfl ?_
  refine lw_arg C (2 : Int32) (by decide) (hin 2 (by decide)) dL_law_1653 dL_law_1654 dL_law_1655 dL_law_1656 dL_law_1657 1658 rfl ?_
  refine lw_callMi C (As := [.int (xs (x + 1).toNatClampNeg), .int (xs (x + 2).toNatClampNeg)]) r g2 (k_X6_taken (Nat.le_refl _) h2) wl_189 cm_X6_taken (Nat.le_of_ble_eq_true rfl) (Nat.le_of_ble_eq_true rfl) rfl rfl (Nat.le_of_ble_eq_true rfl) dL_law_1658 1661 rfl ?_
  refine lw_eqT C 1666 dL_law_1661 (by decide) ?_
  exact kk g1 g2 h3
end LWC
