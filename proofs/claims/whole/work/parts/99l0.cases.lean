/-! The law's cases 0 to 7 (by wip/whole/gen/m63.py). -/
set_option maxRecDepth 100000 in
theorem lw_c0 {l : Launch} {G : GG} (hl : l.stackTraces = false) {A : AD} {k KC KS : Nat} {P : Post} (hk : k < 512) (hj : 5 * k + 4 < (gX G).2.1) {X : CL} {Y : YS} {fo : Nat → Int64} {fd : Nat → UInt64} (hR : RelX k X Y) {v6 v7 v8 : Option Value} (nx : lwN l G A k KC KS P) : Go l G mL_law 40 (KC + 25) (KS + 3550) P 236 (lwL G A k v6 v7 v8) [] (LW A X Y fo fd) := by
  obtain ⟨M, N, c, q, H, L, R, t, l9, O⟩ := X
  obtain ⟨a, f⟩ := Y
  have hR : RelP k M N t l9 O a f := hR
  obtain ⟨mc, ms, hmc, hms, hE⟩ := jt_setGround (G := G) (A := A) (fo := fo) (fd := fd) hl hR (p0 := ((gX G).2.2 (5 * k + 1))) (p1 := ((gX G).2.2 (5 * k + 2))) (p2 := (((gX G).2.2 (5 * k + 3)).toUInt32 % 65536).toInt32)
  refine g_aload_n (i := 1) dL_law_236 rfl rfl ?_
  refine g_aload_n (i := 0) dL_law_237 rfl rfl ?_
  refine g_iload dL_law_238 rfl ?_
  refine g_iconst (v := 1) dL_law_240 (by decide) ?_
  refine g_iadd dL_law_241 ?_
  refine g_sld dL_law_242 (lw_ix1 hk) (by omega) ?_
  refine g_aload_n (i := 0) dL_law_243 rfl rfl ?_
  refine g_iload dL_law_244 rfl ?_
  refine g_iconst (v := 2) dL_law_246 (by decide) ?_
  refine g_iadd dL_law_247 ?_
  refine g_sld dL_law_248 (lw_ix2 hk) (by omega) ?_
  refine g_aload_n (i := 0) dL_law_249 rfl rfl ?_
  refine g_iload dL_law_250 rfl ?_
  refine g_iconst (v := 3) dL_law_252 (by decide) ?_
  refine g_iadd dL_law_253 ?_
  refine g_sld dL_law_254 (lw_ix3 hk) (by omega) ?_
  refine g_i2c dL_law_255 rfl ?_
  refine g_aload_n (i := 3) dL_law_256 rfl rfl ?_
  refine g_callS hE dL_law_257 ml_L_151 csL_setGround rfl rfl (Nat.le_of_ble_eq_true rfl) (Nat.le_of_ble_eq_true rfl) (by omega) (by omega) (kr_jw (KC := KC) (KS := KS) (by omega) (by omega) (fun k0 X2 f2 d2 Pm hM hJ => ?_)) kx_jw
  refine g_istore dL_law_260 (Nat.le_of_ble_eq_true rfl) ?_
  refine g_aload_n (i := 2) dL_law_262 rfl rfl ?_
  refine g_aload_n (i := 0) dL_law_263 rfl rfl ?_
  refine g_iload dL_law_264 rfl ?_
  refine g_iconst (v := 1) dL_law_266 (by decide) ?_
  refine g_iadd dL_law_267 ?_
  refine g_sld dL_law_268 (lw_ix1 hk) (by omega) ?_
  refine g_aload_n (i := 0) dL_law_269 rfl rfl ?_
  refine g_iload dL_law_270 rfl ?_
  refine g_iconst (v := 2) dL_law_272 (by decide) ?_
  refine g_iadd dL_law_273 ?_
  refine g_sld dL_law_274 (lw_ix2 hk) (by omega) ?_
  refine g_aload_n (i := 0) dL_law_275 rfl rfl ?_
  refine g_iload dL_law_276 rfl ?_
  refine g_iconst (v := 3) dL_law_278 (by decide) ?_
  refine g_iadd dL_law_279 ?_
  refine g_sld dL_law_280 (lw_ix3 hk) (by omega) ?_
  refine g_i2c dL_law_281 rfl ?_
  refine g_callV hM dL_law_282 ml_L_156 cvX10_setGround K_X10 rfl LW_30 rfl rfl (Nat.le_of_ble_eq_true rfl) (Nat.le_of_ble_eq_true rfl) (Nat.zero_le _) (Nat.zero_le _) (kr_jm hJ (fun b Y2 h11 hb hR2 => ?_)) (kx_jm hJ)
  refine g_istore dL_law_285 (Nat.le_of_ble_eq_true rfl) ?_
  refine g_aload_n (i := 2) dL_law_287 rfl rfl ?_
  refine g_callV (ev_thrownL hl) dL_law_288 ml_L_157 cvX10_thrown K_X10 rfl LW_30 rfl rfl (Nat.le_of_ble_eq_true rfl) (Nat.le_of_ble_eq_true rfl) (Nat.zero_le _) (Nat.zero_le _) (kr_rt ?_) kx_rt
  refine g_iload dL_law_291 rfl ?_
  refine g_icmp_eq (tgt := 298) dL_law_293 (by decide) (fun _ => ?_) (fun c9 => absurd h11 c9)
  refine g_iload dL_law_298 rfl ?_
  refine g_if_ne (tgt := 315) dL_law_300 (by decide) (fun _ => ?_) (fun c0 => ?_)
  · refine g_goto (tgt := 2620) dL_law_315 (by decide) ?_
    exact nx _ _ _ _ _ _ _ hR2
  · have e8 : f2 0 = b.toInt64 := hb c0
    refine g_aload_n (i := 3) dL_law_303 rfl rfl ?_
    refine g_iconst (v := 0) dL_law_304 (by decide) ?_
    refine g_lald dL_law_305 LW_60 (ix_nI (j := 0) (by decide)) (by decide) ?_
    refine g_iload dL_law_306 rfl ?_
    refine g_i2l dL_law_308 ?_
    refine g_lcmp dL_law_309 ?_
    refine g_if_eq (tgt := 315) dL_law_310 (by decide) (fun _ => ?_) (fun c9 => absurd (lgc0.mpr e8) c9)
    refine g_goto (tgt := 2620) dL_law_315 (by decide) ?_
    exact nx _ _ _ _ _ _ _ hR2

set_option maxRecDepth 100000 in
theorem lw_c1 {l : Launch} {G : GG} (hl : l.stackTraces = false) {A : AD} {k KC KS : Nat} {P : Post} (hk : k < 512) (hj : 5 * k + 4 < (gX G).2.1) {X : CL} {Y : YS} {fo : Nat → Int64} {fd : Nat → UInt64} (hR : RelX k X Y) {v6 v7 v8 : Option Value} (nx : lwN l G A k KC KS P) : Go l G mL_law 40 (KC + 25) (KS + 3550) P 318 (lwL G A k v6 v7 v8) [] (LW A X Y fo fd) := by
  obtain ⟨M, N, c, q, H, L, R, t, l9, O⟩ := X
  obtain ⟨a, f⟩ := Y
  have hR : RelP k M N t l9 O a f := hR
  obtain ⟨mc, ms, hmc, hms, hE⟩ := jt_groundAt (G := G) (A := A) (fo := fo) (fd := fd) hl hR (p0 := ((gX G).2.2 (5 * k + 1))) (p1 := ((gX G).2.2 (5 * k + 2)))
  refine g_aload_n (i := 1) dL_law_318 rfl rfl ?_
  refine g_aload_n (i := 0) dL_law_319 rfl rfl ?_
  refine g_iload dL_law_320 rfl ?_
  refine g_iconst (v := 1) dL_law_322 (by decide) ?_
  refine g_iadd dL_law_323 ?_
  refine g_sld dL_law_324 (lw_ix1 hk) (by omega) ?_
  refine g_aload_n (i := 0) dL_law_325 rfl rfl ?_
  refine g_iload dL_law_326 rfl ?_
  refine g_iconst (v := 2) dL_law_328 (by decide) ?_
  refine g_iadd dL_law_329 ?_
  refine g_sld dL_law_330 (lw_ix2 hk) (by omega) ?_
  refine g_aload_n (i := 3) dL_law_331 rfl rfl ?_
  refine g_callS hE dL_law_332 ml_L_160 csL_groundAt rfl rfl (Nat.le_of_ble_eq_true rfl) (Nat.le_of_ble_eq_true rfl) (by omega) (by omega) (kr_jw (KC := KC) (KS := KS) (by omega) (by omega) (fun k0 X2 f2 d2 Pm hM hJ => ?_)) kx_jw
  refine g_istore dL_law_335 (Nat.le_of_ble_eq_true rfl) ?_
  refine g_aload_n (i := 2) dL_law_337 rfl rfl ?_
  refine g_aload_n (i := 0) dL_law_338 rfl rfl ?_
  refine g_iload dL_law_339 rfl ?_
  refine g_iconst (v := 1) dL_law_341 (by decide) ?_
  refine g_iadd dL_law_342 ?_
  refine g_sld dL_law_343 (lw_ix1 hk) (by omega) ?_
  refine g_aload_n (i := 0) dL_law_344 rfl rfl ?_
  refine g_iload dL_law_345 rfl ?_
  refine g_iconst (v := 2) dL_law_347 (by decide) ?_
  refine g_iadd dL_law_348 ?_
  refine g_sld dL_law_349 (lw_ix2 hk) (by omega) ?_
  refine g_callV hM dL_law_350 ml_L_163 cvX10_groundAt K_X10 rfl LW_30 rfl rfl (Nat.le_of_ble_eq_true rfl) (Nat.le_of_ble_eq_true rfl) (Nat.zero_le _) (Nat.zero_le _) (kr_jm hJ (fun b Y2 h11 hb hR2 => ?_)) (kx_jm hJ)
  refine g_istore dL_law_353 (Nat.le_of_ble_eq_true rfl) ?_
  refine g_aload_n (i := 2) dL_law_355 rfl rfl ?_
  refine g_callV (ev_thrownL hl) dL_law_356 ml_L_157 cvX10_thrown K_X10 rfl LW_30 rfl rfl (Nat.le_of_ble_eq_true rfl) (Nat.le_of_ble_eq_true rfl) (Nat.zero_le _) (Nat.zero_le _) (kr_rt ?_) kx_rt
  refine g_iload dL_law_359 rfl ?_
  refine g_icmp_eq (tgt := 366) dL_law_361 (by decide) (fun _ => ?_) (fun c9 => absurd h11 c9)
  refine g_iload dL_law_366 rfl ?_
  refine g_if_ne (tgt := 383) dL_law_368 (by decide) (fun _ => ?_) (fun c0 => ?_)
  · refine g_goto (tgt := 2620) dL_law_383 (by decide) ?_
    exact nx _ _ _ _ _ _ _ hR2
  · have e8 : f2 0 = b.toInt64 := hb c0
    refine g_aload_n (i := 3) dL_law_371 rfl rfl ?_
    refine g_iconst (v := 0) dL_law_372 (by decide) ?_
    refine g_lald dL_law_373 LW_60 (ix_nI (j := 0) (by decide)) (by decide) ?_
    refine g_iload dL_law_374 rfl ?_
    refine g_i2l dL_law_376 ?_
    refine g_lcmp dL_law_377 ?_
    refine g_if_eq (tgt := 383) dL_law_378 (by decide) (fun _ => ?_) (fun c9 => absurd (lgc0.mpr e8) c9)
    refine g_goto (tgt := 2620) dL_law_383 (by decide) ?_
    exact nx _ _ _ _ _ _ _ hR2

set_option maxRecDepth 100000 in
theorem lw_c2 {l : Launch} {G : GG} (hl : l.stackTraces = false) {A : AD} {k KC KS : Nat} {P : Post} (hk : k < 512) (hj : 5 * k + 4 < (gX G).2.1) {X : CL} {Y : YS} {fo : Nat → Int64} {fd : Nat → UInt64} (hR : RelX k X Y) {v6 v7 v8 : Option Value} (nx : lwN l G A k KC KS P) : Go l G mL_law 40 (KC + 25) (KS + 3550) P 386 (lwL G A k v6 v7 v8) [] (LW A X Y fo fd) := by
  obtain ⟨M, N, c, q, H, L, R, t, l9, O⟩ := X
  obtain ⟨a, f⟩ := Y
  have hR : RelP k M N t l9 O a f := hR
  obtain ⟨mc, ms, hmc, hms, hE⟩ := jt_heatUp (G := G) (A := A) (fo := fo) (fd := fd) hl hR hk (p0 := ((gX G).2.2 (5 * k + 1))) (p1 := ((gX G).2.2 (5 * k + 2))) (p2 := ((gX G).2.2 (5 * k + 3)))
  refine g_aload_n (i := 1) dL_law_386 rfl rfl ?_
  refine g_aload_n (i := 0) dL_law_387 rfl rfl ?_
  refine g_iload dL_law_388 rfl ?_
  refine g_iconst (v := 1) dL_law_390 (by decide) ?_
  refine g_iadd dL_law_391 ?_
  refine g_sld dL_law_392 (lw_ix1 hk) (by omega) ?_
  refine g_aload_n (i := 0) dL_law_393 rfl rfl ?_
  refine g_iload dL_law_394 rfl ?_
  refine g_iconst (v := 2) dL_law_396 (by decide) ?_
  refine g_iadd dL_law_397 ?_
  refine g_sld dL_law_398 (lw_ix2 hk) (by omega) ?_
  refine g_aload_n (i := 0) dL_law_399 rfl rfl ?_
  refine g_iload dL_law_400 rfl ?_
  refine g_iconst (v := 3) dL_law_402 (by decide) ?_
  refine g_iadd dL_law_403 ?_
  refine g_sld dL_law_404 (lw_ix3 hk) (by omega) ?_
  refine g_aload_n (i := 3) dL_law_405 rfl rfl ?_
  refine g_callS hE dL_law_406 ml_L_164 csL_heatUp rfl rfl (Nat.le_of_ble_eq_true rfl) (Nat.le_of_ble_eq_true rfl) (by omega) (by omega) (kr_jw (KC := KC) (KS := KS) (by omega) (by omega) (fun k0 X2 f2 d2 Pm hM hJ => ?_)) kx_jw
  refine g_istore dL_law_409 (Nat.le_of_ble_eq_true rfl) ?_
  refine g_aload_n (i := 2) dL_law_411 rfl rfl ?_
  refine g_aload_n (i := 0) dL_law_412 rfl rfl ?_
  refine g_iload dL_law_413 rfl ?_
  refine g_iconst (v := 1) dL_law_415 (by decide) ?_
  refine g_iadd dL_law_416 ?_
  refine g_sld dL_law_417 (lw_ix1 hk) (by omega) ?_
  refine g_aload_n (i := 0) dL_law_418 rfl rfl ?_
  refine g_iload dL_law_419 rfl ?_
  refine g_iconst (v := 2) dL_law_421 (by decide) ?_
  refine g_iadd dL_law_422 ?_
  refine g_sld dL_law_423 (lw_ix2 hk) (by omega) ?_
  refine g_aload_n (i := 0) dL_law_424 rfl rfl ?_
  refine g_iload dL_law_425 rfl ?_
  refine g_iconst (v := 3) dL_law_427 (by decide) ?_
  refine g_iadd dL_law_428 ?_
  refine g_sld dL_law_429 (lw_ix3 hk) (by omega) ?_
  refine g_callV hM dL_law_430 ml_L_167 cvX10_heatUp K_X10 rfl LW_30 rfl rfl (Nat.le_of_ble_eq_true rfl) (Nat.le_of_ble_eq_true rfl) (Nat.zero_le _) (Nat.zero_le _) (kr_jm hJ (fun b Y2 h11 hb hR2 => ?_)) (kx_jm hJ)
  refine g_istore dL_law_433 (Nat.le_of_ble_eq_true rfl) ?_
  refine g_aload_n (i := 2) dL_law_435 rfl rfl ?_
  refine g_callV (ev_thrownL hl) dL_law_436 ml_L_157 cvX10_thrown K_X10 rfl LW_30 rfl rfl (Nat.le_of_ble_eq_true rfl) (Nat.le_of_ble_eq_true rfl) (Nat.zero_le _) (Nat.zero_le _) (kr_rt ?_) kx_rt
  refine g_iload dL_law_439 rfl ?_
  refine g_icmp_eq (tgt := 446) dL_law_441 (by decide) (fun _ => ?_) (fun c9 => absurd h11 c9)
  refine g_iload dL_law_446 rfl ?_
  refine g_if_ne (tgt := 463) dL_law_448 (by decide) (fun _ => ?_) (fun c0 => ?_)
  · refine g_goto (tgt := 2620) dL_law_463 (by decide) ?_
    exact nx _ _ _ _ _ _ _ hR2
  · have e8 : f2 0 = b.toInt64 := hb c0
    refine g_aload_n (i := 3) dL_law_451 rfl rfl ?_
    refine g_iconst (v := 0) dL_law_452 (by decide) ?_
    refine g_lald dL_law_453 LW_60 (ix_nI (j := 0) (by decide)) (by decide) ?_
    refine g_iload dL_law_454 rfl ?_
    refine g_i2l dL_law_456 ?_
    refine g_lcmp dL_law_457 ?_
    refine g_if_eq (tgt := 463) dL_law_458 (by decide) (fun _ => ?_) (fun c9 => absurd (lgc0.mpr e8) c9)
    refine g_goto (tgt := 2620) dL_law_463 (by decide) ?_
    exact nx _ _ _ _ _ _ _ hR2

set_option maxRecDepth 100000 in
theorem lw_c3 {l : Launch} {G : GG} (hl : l.stackTraces = false) {A : AD} {k KC KS : Nat} {P : Post} (hk : k < 512) (hj : 5 * k + 4 < (gX G).2.1) {X : CL} {Y : YS} {fo : Nat → Int64} {fd : Nat → UInt64} (hR : RelX k X Y) {v6 v7 v8 : Option Value} (nx : lwN l G A k KC KS P) : Go l G mL_law 40 (KC + 25) (KS + 3550) P 466 (lwL G A k v6 v7 v8) [] (LW A X Y fo fd) := by
  obtain ⟨M, N, c, q, H, L, R, t, l9, O⟩ := X
  obtain ⟨a, f⟩ := Y
  have hR : RelP k M N t l9 O a f := hR
  obtain ⟨mc, ms, hmc, hms, hE⟩ := jt_heatAt (G := G) (A := A) (fo := fo) (fd := fd) hl hR (p0 := ((gX G).2.2 (5 * k + 1))) (p1 := ((gX G).2.2 (5 * k + 2)))
  refine g_aload_n (i := 1) dL_law_466 rfl rfl ?_
  refine g_aload_n (i := 0) dL_law_467 rfl rfl ?_
  refine g_iload dL_law_468 rfl ?_
  refine g_iconst (v := 1) dL_law_470 (by decide) ?_
  refine g_iadd dL_law_471 ?_
  refine g_sld dL_law_472 (lw_ix1 hk) (by omega) ?_
  refine g_aload_n (i := 0) dL_law_473 rfl rfl ?_
  refine g_iload dL_law_474 rfl ?_
  refine g_iconst (v := 2) dL_law_476 (by decide) ?_
  refine g_iadd dL_law_477 ?_
  refine g_sld dL_law_478 (lw_ix2 hk) (by omega) ?_
  refine g_aload_n (i := 3) dL_law_479 rfl rfl ?_
  refine g_callS hE dL_law_480 ml_L_168 csL_heatAt rfl rfl (Nat.le_of_ble_eq_true rfl) (Nat.le_of_ble_eq_true rfl) (by omega) (by omega) (kr_jw (KC := KC) (KS := KS) (by omega) (by omega) (fun k0 X2 f2 d2 Pm hM hJ => ?_)) kx_jw
  refine g_istore dL_law_483 (Nat.le_of_ble_eq_true rfl) ?_
  refine g_aload_n (i := 2) dL_law_485 rfl rfl ?_
  refine g_aload_n (i := 0) dL_law_486 rfl rfl ?_
  refine g_iload dL_law_487 rfl ?_
  refine g_iconst (v := 1) dL_law_489 (by decide) ?_
  refine g_iadd dL_law_490 ?_
  refine g_sld dL_law_491 (lw_ix1 hk) (by omega) ?_
  refine g_aload_n (i := 0) dL_law_492 rfl rfl ?_
  refine g_iload dL_law_493 rfl ?_
  refine g_iconst (v := 2) dL_law_495 (by decide) ?_
  refine g_iadd dL_law_496 ?_
  refine g_sld dL_law_497 (lw_ix2 hk) (by omega) ?_
  refine g_callV hM dL_law_498 ml_L_170 cvX10_heatAt K_X10 rfl LW_30 rfl rfl (Nat.le_of_ble_eq_true rfl) (Nat.le_of_ble_eq_true rfl) (Nat.zero_le _) (Nat.zero_le _) (kr_jm hJ (fun b Y2 h11 hb hR2 => ?_)) (kx_jm hJ)
  refine g_istore dL_law_501 (Nat.le_of_ble_eq_true rfl) ?_
  refine g_aload_n (i := 2) dL_law_503 rfl rfl ?_
  refine g_callV (ev_thrownL hl) dL_law_504 ml_L_157 cvX10_thrown K_X10 rfl LW_30 rfl rfl (Nat.le_of_ble_eq_true rfl) (Nat.le_of_ble_eq_true rfl) (Nat.zero_le _) (Nat.zero_le _) (kr_rt ?_) kx_rt
  refine g_iload dL_law_507 rfl ?_
  refine g_icmp_eq (tgt := 514) dL_law_509 (by decide) (fun _ => ?_) (fun c9 => absurd h11 c9)
  refine g_iload dL_law_514 rfl ?_
  refine g_if_ne (tgt := 531) dL_law_516 (by decide) (fun _ => ?_) (fun c0 => ?_)
  · refine g_goto (tgt := 2620) dL_law_531 (by decide) ?_
    exact nx _ _ _ _ _ _ _ hR2
  · have e8 : f2 0 = b.toInt64 := hb c0
    refine g_aload_n (i := 3) dL_law_519 rfl rfl ?_
    refine g_iconst (v := 0) dL_law_520 (by decide) ?_
    refine g_lald dL_law_521 LW_60 (ix_nI (j := 0) (by decide)) (by decide) ?_
    refine g_iload dL_law_522 rfl ?_
    refine g_i2l dL_law_524 ?_
    refine g_lcmp dL_law_525 ?_
    refine g_if_eq (tgt := 531) dL_law_526 (by decide) (fun _ => ?_) (fun c9 => absurd (lgc0.mpr e8) c9)
    refine g_goto (tgt := 2620) dL_law_531 (by decide) ?_
    exact nx _ _ _ _ _ _ _ hR2

set_option maxRecDepth 100000 in
theorem lw_c4 {l : Launch} {G : GG} (hl : l.stackTraces = false) {A : AD} {k KC KS : Nat} {P : Post} (hk : k < 512) (hj : 5 * k + 4 < (gX G).2.1) {X : CL} {Y : YS} {fo : Nat → Int64} {fd : Nat → UInt64} (hR : RelX k X Y) {v6 v7 v8 : Option Value} (nx : lwN l G A k KC KS P) : Go l G mL_law 40 (KC + 25) (KS + 3550) P 534 (lwL G A k v6 v7 v8) [] (LW A X Y fo fd) := by
  obtain ⟨M, N, c, q, H, L, R, t, l9, O⟩ := X
  obtain ⟨a, f⟩ := Y
  have hR : RelP k M N t l9 O a f := hR
  obtain ⟨mc, ms, hmc, hms, hE⟩ := jt_embersAt (G := G) (A := A) (fo := fo) (fd := fd) hl hR (p0 := ((gX G).2.2 (5 * k + 1))) (p1 := ((gX G).2.2 (5 * k + 2)))
  refine g_aload_n (i := 1) dL_law_534 rfl rfl ?_
  refine g_aload_n (i := 0) dL_law_535 rfl rfl ?_
  refine g_iload dL_law_536 rfl ?_
  refine g_iconst (v := 1) dL_law_538 (by decide) ?_
  refine g_iadd dL_law_539 ?_
  refine g_sld dL_law_540 (lw_ix1 hk) (by omega) ?_
  refine g_aload_n (i := 0) dL_law_541 rfl rfl ?_
  refine g_iload dL_law_542 rfl ?_
  refine g_iconst (v := 2) dL_law_544 (by decide) ?_
  refine g_iadd dL_law_545 ?_
  refine g_sld dL_law_546 (lw_ix2 hk) (by omega) ?_
  refine g_aload_n (i := 3) dL_law_547 rfl rfl ?_
  refine g_callS hE dL_law_548 ml_L_171 csL_embersAt rfl rfl (Nat.le_of_ble_eq_true rfl) (Nat.le_of_ble_eq_true rfl) (by omega) (by omega) (kr_jw (KC := KC) (KS := KS) (by omega) (by omega) (fun k0 X2 f2 d2 Pm hM hJ => ?_)) kx_jw
  refine g_istore dL_law_551 (Nat.le_of_ble_eq_true rfl) ?_
  refine g_aload_n (i := 2) dL_law_553 rfl rfl ?_
  refine g_aload_n (i := 0) dL_law_554 rfl rfl ?_
  refine g_iload dL_law_555 rfl ?_
  refine g_iconst (v := 1) dL_law_557 (by decide) ?_
  refine g_iadd dL_law_558 ?_
  refine g_sld dL_law_559 (lw_ix1 hk) (by omega) ?_
  refine g_aload_n (i := 0) dL_law_560 rfl rfl ?_
  refine g_iload dL_law_561 rfl ?_
  refine g_iconst (v := 2) dL_law_563 (by decide) ?_
  refine g_iadd dL_law_564 ?_
  refine g_sld dL_law_565 (lw_ix2 hk) (by omega) ?_
  refine g_callV hM dL_law_566 ml_L_173 cvX10_embersAt K_X10 rfl LW_30 rfl rfl (Nat.le_of_ble_eq_true rfl) (Nat.le_of_ble_eq_true rfl) (Nat.zero_le _) (Nat.zero_le _) (kr_jm hJ (fun b Y2 h11 hb hR2 => ?_)) (kx_jm hJ)
  refine g_istore dL_law_569 (Nat.le_of_ble_eq_true rfl) ?_
  refine g_aload_n (i := 2) dL_law_571 rfl rfl ?_
  refine g_callV (ev_thrownL hl) dL_law_572 ml_L_157 cvX10_thrown K_X10 rfl LW_30 rfl rfl (Nat.le_of_ble_eq_true rfl) (Nat.le_of_ble_eq_true rfl) (Nat.zero_le _) (Nat.zero_le _) (kr_rt ?_) kx_rt
  refine g_iload dL_law_575 rfl ?_
  refine g_icmp_eq (tgt := 582) dL_law_577 (by decide) (fun _ => ?_) (fun c9 => absurd h11 c9)
  refine g_iload dL_law_582 rfl ?_
  refine g_if_ne (tgt := 599) dL_law_584 (by decide) (fun _ => ?_) (fun c0 => ?_)
  · refine g_goto (tgt := 2620) dL_law_599 (by decide) ?_
    exact nx _ _ _ _ _ _ _ hR2
  · have e8 : f2 0 = b.toInt64 := hb c0
    refine g_aload_n (i := 3) dL_law_587 rfl rfl ?_
    refine g_iconst (v := 0) dL_law_588 (by decide) ?_
    refine g_lald dL_law_589 LW_60 (ix_nI (j := 0) (by decide)) (by decide) ?_
    refine g_iload dL_law_590 rfl ?_
    refine g_i2l dL_law_592 ?_
    refine g_lcmp dL_law_593 ?_
    refine g_if_eq (tgt := 599) dL_law_594 (by decide) (fun _ => ?_) (fun c9 => absurd (lgc0.mpr e8) c9)
    refine g_goto (tgt := 2620) dL_law_599 (by decide) ?_
    exact nx _ _ _ _ _ _ _ hR2

set_option maxRecDepth 100000 in
theorem lw_c5 {l : Launch} {G : GG} (hl : l.stackTraces = false) {A : AD} {k KC KS : Nat} {P : Post} (hk : k < 512) (hj : 5 * k + 4 < (gX G).2.1) {X : CL} {Y : YS} {fo : Nat → Int64} {fd : Nat → UInt64} (hR : RelX k X Y) {v6 v7 v8 : Option Value} (nx : lwN l G A k KC KS P) : Go l G mL_law 40 (KC + 25) (KS + 3550) P 602 (lwL G A k v6 v7 v8) [] (LW A X Y fo fd) := by
  obtain ⟨M, N, c, q, H, L, R, t, l9, O⟩ := X
  obtain ⟨a, f⟩ := Y
  have hR : RelP k M N t l9 O a f := hR
  refine g_aload_n (i := 1) dL_law_602 rfl rfl ?_
  obtain ⟨B, hB, hm, ⟨ho, ht⟩, hG, hbb⟩ := RelP.m0 hR
  refine g_callV (ev_allHeat hl) dL_law_603 ml_L_174 cvX9_allHeat K_X9 rfl LW_6 rfl rfl (Nat.le_of_ble_eq_true rfl) (Nat.le_of_ble_eq_true rfl) (Nat.zero_le _) (Nat.zero_le _) (kr_rt (Go.heap (h' := LW A (M, N, c, q, H, L, R, t, l9, O) (a, f) fo fd) rfl ?_)) kx_rt
  refine g_aload_n (i := 2) dL_law_606 rfl rfl ?_
  refine g_callV (lwM (ev_mAllHeat hl)) dL_law_607 ml_L_177 cvX10_allHeat K_X10 rfl LW_30 rfl rfl (Nat.le_of_ble_eq_true rfl) (Nat.le_of_ble_eq_true rfl) (Nat.zero_le _) (Nat.zero_le _) (kr_rt ?_) kx_rt
  refine g_icmp_eq (tgt := 2620) dL_law_610 (by decide) (fun _ => ?_) (fun c9 => absurd (by rw [hs_sum, sumN_cong 64 hm.he, sumN_cong 64 hm.em]) c9)
  exact Go.wid (by omega) (by omega) (nx _ _ _ _ _ _ _ (RelP.same hR rfl rfl rfl rfl rfl rfl rfl rfl rfl rfl rfl rfl rfl rfl rfl rfl rfl (fun _ _ => rfl)))

set_option maxRecDepth 100000 in
theorem lw_c6 {l : Launch} {G : GG} (hl : l.stackTraces = false) {A : AD} {k KC KS : Nat} {P : Post} (hk : k < 512) (hj : 5 * k + 4 < (gX G).2.1) {X : CL} {Y : YS} {fo : Nat → Int64} {fd : Nat → UInt64} (hR : RelX k X Y) {v6 v7 v8 : Option Value} (nx : lwN l G A k KC KS P) : Go l G mL_law 40 (KC + 25) (KS + 3550) P 615 (lwL G A k v6 v7 v8) [] (LW A X Y fo fd) := by
  obtain ⟨M, N, c, q, H, L, R, t, l9, O⟩ := X
  obtain ⟨a, f⟩ := Y
  have hR : RelP k M N t l9 O a f := hR
  refine g_aload_n (i := 1) dL_law_615 rfl rfl ?_
  obtain ⟨B, hB, hm, ⟨ho, ht⟩, hG, hbb⟩ := RelP.m0 hR
  refine g_callV (ev_byAccounts hl) dL_law_616 ml_L_178 cvX9_allHeatByAccounts K_X9 rfl LW_6 rfl rfl (Nat.le_of_ble_eq_true rfl) (Nat.le_of_ble_eq_true rfl) (Nat.zero_le _) (Nat.zero_le _) (kr_rt (Go.heap (h' := LW A (M, N, c, q, H, L, R, t, l9, O) (a, f) fo fd) rfl ?_)) kx_rt
  refine g_aload_n (i := 2) dL_law_619 rfl rfl ?_
  refine g_callV (lwM (ev_mByAccounts hl)) dL_law_620 ml_L_181 cvX10_allHeatByAccounts K_X10 rfl LW_30 rfl rfl (Nat.le_of_ble_eq_true rfl) (Nat.le_of_ble_eq_true rfl) (Nat.zero_le _) (Nat.zero_le _) (kr_rt ?_) kx_rt
  refine g_icmp_eq (tgt := 2620) dL_law_623 (by decide) (fun _ => ?_) (fun c9 => absurd (by rw [← aI_sum ho, hs_sum, sumN_cong 64 hm.he, sumN_cong 64 hm.em]) c9)
  exact Go.wid (by omega) (by omega) (nx _ _ _ _ _ _ _ (RelP.same hR rfl rfl rfl rfl rfl rfl rfl rfl rfl rfl rfl rfl rfl rfl rfl rfl rfl (fun _ _ => rfl)))

set_option maxRecDepth 100000 in
theorem lw_c7 {l : Launch} {G : GG} (hl : l.stackTraces = false) {A : AD} {k KC KS : Nat} {P : Post} (hk : k < 512) (hj : 5 * k + 4 < (gX G).2.1) {X : CL} {Y : YS} {fo : Nat → Int64} {fd : Nat → UInt64} (hR : RelX k X Y) {v6 v7 v8 : Option Value} (nx : lwN l G A k KC KS P) : Go l G mL_law 40 (KC + 25) (KS + 3550) P 628 (lwL G A k v6 v7 v8) [] (LW A X Y fo fd) := by
  obtain ⟨M, N, c, q, H, L, R, t, l9, O⟩ := X
  obtain ⟨a, f⟩ := Y
  have hR : RelP k M N t l9 O a f := hR
  obtain ⟨mc, ms, hmc, hms, hE⟩ := jt_cellAtRank (G := G) (A := A) (fo := fo) (fd := fd) hl hR (p0 := ((gX G).2.2 (5 * k + 1)))
  refine g_aload_n (i := 1) dL_law_628 rfl rfl ?_
  refine g_aload_n (i := 0) dL_law_629 rfl rfl ?_
  refine g_iload dL_law_630 rfl ?_
  refine g_iconst (v := 1) dL_law_632 (by decide) ?_
  refine g_iadd dL_law_633 ?_
  refine g_sld dL_law_634 (lw_ix1 hk) (by omega) ?_
  refine g_aload_n (i := 3) dL_law_635 rfl rfl ?_
  refine g_callS hE dL_law_636 ml_L_182 csL_cellAtRank rfl rfl (Nat.le_of_ble_eq_true rfl) (Nat.le_of_ble_eq_true rfl) (by omega) (by omega) (kr_jw (KC := KC) (KS := KS) (by omega) (by omega) (fun k0 X2 f2 d2 Pm hM hJ => ?_)) kx_jw
  refine g_istore dL_law_639 (Nat.le_of_ble_eq_true rfl) ?_
  refine g_aload_n (i := 2) dL_law_641 rfl rfl ?_
  refine g_aload_n (i := 0) dL_law_642 rfl rfl ?_
  refine g_iload dL_law_643 rfl ?_
  refine g_iconst (v := 1) dL_law_645 (by decide) ?_
  refine g_iadd dL_law_646 ?_
  refine g_sld dL_law_647 (lw_ix1 hk) (by omega) ?_
  refine g_callV hM dL_law_648 ml_L_185 cvX10_cellAtRank K_X10 rfl LW_30 rfl rfl (Nat.le_of_ble_eq_true rfl) (Nat.le_of_ble_eq_true rfl) (Nat.zero_le _) (Nat.zero_le _) (kr_jm hJ (fun b Y2 h11 hb hR2 => ?_)) (kx_jm hJ)
  refine g_istore dL_law_651 (Nat.le_of_ble_eq_true rfl) ?_
  refine g_aload_n (i := 2) dL_law_653 rfl rfl ?_
  refine g_callV (ev_thrownL hl) dL_law_654 ml_L_157 cvX10_thrown K_X10 rfl LW_30 rfl rfl (Nat.le_of_ble_eq_true rfl) (Nat.le_of_ble_eq_true rfl) (Nat.zero_le _) (Nat.zero_le _) (kr_rt ?_) kx_rt
  refine g_iload dL_law_657 rfl ?_
  refine g_icmp_eq (tgt := 664) dL_law_659 (by decide) (fun _ => ?_) (fun c9 => absurd h11 c9)
  refine g_iload dL_law_664 rfl ?_
  refine g_if_ne (tgt := 681) dL_law_666 (by decide) (fun _ => ?_) (fun c0 => ?_)
  · refine g_goto (tgt := 2620) dL_law_681 (by decide) ?_
    exact nx _ _ _ _ _ _ _ hR2
  · have e8 : f2 0 = b.toInt64 := hb c0
    refine g_aload_n (i := 3) dL_law_669 rfl rfl ?_
    refine g_iconst (v := 0) dL_law_670 (by decide) ?_
    refine g_lald dL_law_671 LW_60 (ix_nI (j := 0) (by decide)) (by decide) ?_
    refine g_iload dL_law_672 rfl ?_
    refine g_i2l dL_law_674 ?_
    refine g_lcmp dL_law_675 ?_
    refine g_if_eq (tgt := 681) dL_law_676 (by decide) (fun _ => ?_) (fun c9 => absurd (lgc0.mpr e8) c9)
    refine g_goto (tgt := 2620) dL_law_681 (by decide) ?_
    exact nx _ _ _ _ _ _ _ hR2

