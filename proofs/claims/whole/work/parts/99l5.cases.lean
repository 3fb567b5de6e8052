/-! The law's cases 38 to 43 (by wip/whole/gen/m63.py). -/
set_option maxRecDepth 100000 in
theorem lw_c38 {l : Launch} {G : GG} (hl : l.stackTraces = false) {A : AD} {k KC KS : Nat} {P : Post} (hk : k < 512) (hj : 5 * k + 4 < (gX G).2.1) {X : CL} {Y : YS} {fo : Nat → Int64} {fd : Nat → UInt64} (hR : RelX k X Y) {v6 v7 v8 : Option Value} (nx : lwN l G A k KC KS P) : Go l G mL_law 40 (KC + 25) (KS + 3550) P 2363 (lwL G A k v6 v7 v8) [] (LW A X Y fo fd) := by
  obtain ⟨M, N, c, q, H, L, R, t, l9, O⟩ := X
  obtain ⟨a, f⟩ := Y
  have hR : RelP k M N t l9 O a f := hR
  obtain ⟨mc, ms, hmc, hms, hE⟩ := jt_meanHeat (G := G) (A := A) (fo := fo) (fd := fd) hl hR
  refine g_aload_n (i := 1) dL_law_2363 rfl rfl ?_
  refine g_aload dL_law_2364 rfl ?_
  refine g_callS hE dL_law_2366 ml_L_281 csL_meanHeat rfl rfl (Nat.le_of_ble_eq_true rfl) (Nat.le_of_ble_eq_true rfl) (by omega) (by omega) (kr_jw (KC := KC) (KS := KS) (by omega) (by omega) (fun k0 X2 f2 d2 Pm hM hJ => ?_)) kx_jw
  refine g_istore dL_law_2369 (Nat.le_of_ble_eq_true rfl) ?_
  refine g_aload_n (i := 2) dL_law_2371 rfl rfl ?_
  refine g_callV hM dL_law_2372 ml_L_284 cvX10_meanHeat K_X10 rfl LW_30 rfl rfl (Nat.le_of_ble_eq_true rfl) (Nat.le_of_ble_eq_true rfl) (Nat.zero_le _) (Nat.zero_le _) (kr_jm hJ (fun b Y2 h11 hb hR2 => ?_)) (kx_jm hJ)
  refine g_dstore dL_law_2375 (Nat.le_of_ble_eq_true rfl) ?_
  refine g_aload_n (i := 2) dL_law_2377 rfl rfl ?_
  refine g_callV (ev_thrownL hl) dL_law_2378 ml_L_157 cvX10_thrown K_X10 rfl LW_30 rfl rfl (Nat.le_of_ble_eq_true rfl) (Nat.le_of_ble_eq_true rfl) (Nat.zero_le _) (Nat.zero_le _) (kr_rt ?_) kx_rt
  refine g_iload dL_law_2381 rfl ?_
  refine g_icmp_eq (tgt := 2388) dL_law_2383 (by decide) (fun _ => ?_) (fun c9 => absurd h11 c9)
  refine g_iload dL_law_2388 rfl ?_
  refine g_if_ne (tgt := 2425) dL_law_2390 (by decide) (fun _ => ?_) (fun c0 => ?_)
  · refine g_goto (tgt := 2620) dL_law_2425 (by decide) ?_
    exact nx _ _ _ _ _ _ _ hR2
  · have e8 : d2 0 = b := hb c0
    refine g_aload dL_law_2393 rfl ?_
    refine g_iconst (v := 0) dL_law_2395 (by decide) ?_
    refine g_dald dL_law_2396 LW_61 (ix_nI (j := 0) (by decide)) (by decide) ?_
    refine g_dload dL_law_2397 rfl ?_
    refine g_dcmp dL_law_2399 ?_
    refine g_if_eq (tgt := 2425) dL_law_2400 (by decide) (fun _ => ?_) (fun c1 => ?_)
    · refine g_goto (tgt := 2620) dL_law_2425 (by decide) ?_
      exact nx _ _ _ _ _ _ _ hR2
    · rw [← e8] at c1
      refine g_aload dL_law_2403 rfl ?_
      refine g_iconst (v := 0) dL_law_2405 (by decide) ?_
      refine g_dald dL_law_2406 LW_61 (ix_nI (j := 0) (by decide)) (by decide) ?_
      refine g_aload dL_law_2407 rfl ?_
      refine g_iconst (v := 0) dL_law_2409 (by decide) ?_
      refine g_dald dL_law_2410 LW_61 (ix_nI (j := 0) (by decide)) (by decide) ?_
      refine g_dcmp dL_law_2411 ?_
      refine g_if_eq (tgt := 2423) dL_law_2412 (by decide) (fun c2 => absurd c2 c1) (fun _ => ?_)
      refine g_dload dL_law_2415 rfl ?_
      refine g_dload dL_law_2417 rfl ?_
      refine g_dcmp dL_law_2419 ?_
      refine g_if_ne (tgt := 2425) dL_law_2420 (by decide) (fun _ => ?_) (fun c3 => absurd (by rw [← e8] at c3; exact c3) c1)
      refine g_goto (tgt := 2620) dL_law_2425 (by decide) ?_
      exact nx _ _ _ _ _ _ _ hR2

set_option maxRecDepth 100000 in
theorem lw_c39 {l : Launch} {G : GG} (hl : l.stackTraces = false) {A : AD} {k KC KS : Nat} {P : Post} (hk : k < 512) (hj : 5 * k + 4 < (gX G).2.1) {X : CL} {Y : YS} {fo : Nat → Int64} {fd : Nat → UInt64} (hR : RelX k X Y) {v6 v7 v8 : Option Value} (nx : lwN l G A k KC KS P) : Go l G mL_law 40 (KC + 25) (KS + 3550) P 2428 (lwL G A k v6 v7 v8) [] (LW A X Y fo fd) := by
  obtain ⟨M, N, c, q, H, L, R, t, l9, O⟩ := X
  obtain ⟨a, f⟩ := Y
  have hR : RelP k M N t l9 O a f := hR
  obtain ⟨mc, ms, hmc, hms, hE⟩ := jt_levelShare (G := G) (A := A) (fo := fo) (fd := fd) hl hR (p0 := ((gX G).2.2 (5 * k + 1)))
  refine g_aload_n (i := 1) dL_law_2428 rfl rfl ?_
  refine g_aload_n (i := 0) dL_law_2429 rfl rfl ?_
  refine g_iload dL_law_2430 rfl ?_
  refine g_iconst (v := 1) dL_law_2432 (by decide) ?_
  refine g_iadd dL_law_2433 ?_
  refine g_sld dL_law_2434 (lw_ix1 hk) (by omega) ?_
  refine g_aload dL_law_2435 rfl ?_
  refine g_callS hE dL_law_2437 ml_L_285 csL_levelShare rfl rfl (Nat.le_of_ble_eq_true rfl) (Nat.le_of_ble_eq_true rfl) (by omega) (by omega) (kr_jw (KC := KC) (KS := KS) (by omega) (by omega) (fun k0 X2 f2 d2 Pm hM hJ => ?_)) kx_jw
  refine g_istore dL_law_2440 (Nat.le_of_ble_eq_true rfl) ?_
  refine g_aload_n (i := 2) dL_law_2442 rfl rfl ?_
  refine g_aload_n (i := 0) dL_law_2443 rfl rfl ?_
  refine g_iload dL_law_2444 rfl ?_
  refine g_iconst (v := 1) dL_law_2446 (by decide) ?_
  refine g_iadd dL_law_2447 ?_
  refine g_sld dL_law_2448 (lw_ix1 hk) (by omega) ?_
  refine g_callV hM dL_law_2449 ml_L_288 cvX10_levelShare K_X10 rfl LW_30 rfl rfl (Nat.le_of_ble_eq_true rfl) (Nat.le_of_ble_eq_true rfl) (Nat.zero_le _) (Nat.zero_le _) (kr_jm hJ (fun b Y2 h11 hb hR2 => ?_)) (kx_jm hJ)
  refine g_fstore dL_law_2452 (Nat.le_of_ble_eq_true rfl) ?_
  refine g_aload_n (i := 2) dL_law_2454 rfl rfl ?_
  refine g_callV (ev_thrownL hl) dL_law_2455 ml_L_157 cvX10_thrown K_X10 rfl LW_30 rfl rfl (Nat.le_of_ble_eq_true rfl) (Nat.le_of_ble_eq_true rfl) (Nat.zero_le _) (Nat.zero_le _) (kr_rt ?_) kx_rt
  refine g_iload dL_law_2458 rfl ?_
  refine g_icmp_eq (tgt := 2465) dL_law_2460 (by decide) (fun _ => ?_) (fun c9 => absurd h11 c9)
  refine g_iload dL_law_2465 rfl ?_
  refine g_if_ne (tgt := 2503) dL_law_2467 (by decide) (fun _ => ?_) (fun c0 => ?_)
  · refine g_goto (tgt := 2620) dL_law_2503 (by decide) ?_
    exact nx _ _ _ _ _ _ _ hR2
  · obtain ⟨e8, e9⟩ : d2 0 = FP.f2d b ∧ vf_n64 (FP.f2d b) := hb c0
    refine g_aload dL_law_2470 rfl ?_
    refine g_iconst (v := 0) dL_law_2472 (by decide) ?_
    refine g_dald dL_law_2473 LW_61 (ix_nI (j := 0) (by decide)) (by decide) ?_
    refine g_fload dL_law_2474 rfl ?_
    refine g_f2d dL_law_2476 e9 ?_
    refine g_dcmp dL_law_2477 ?_
    refine g_if_eq (tgt := 2503) dL_law_2478 (by decide) (fun _ => ?_) (fun c9 => absurd (by rw [e8]; exact dc_self e9) c9)
    refine g_goto (tgt := 2620) dL_law_2503 (by decide) ?_
    exact nx _ _ _ _ _ _ _ hR2

set_option maxRecDepth 100000 in
theorem lw_c40 {l : Launch} {G : GG} (hl : l.stackTraces = false) {A : AD} {k KC KS : Nat} {P : Post} (hk : k < 512) (hj : 5 * k + 4 < (gX G).2.1) {X : CL} {Y : YS} {fo : Nat → Int64} {fd : Nat → UInt64} (hR : RelX k X Y) {v6 v7 v8 : Option Value} (nx : lwN l G A k KC KS P) : Go l G mL_law 40 (KC + 25) (KS + 3550) P 2506 (lwL G A k v6 v7 v8) [] (LW A X Y fo fd) := by
  obtain ⟨M, N, c, q, H, L, R, t, l9, O⟩ := X
  obtain ⟨a, f⟩ := Y
  have hR : RelP k M N t l9 O a f := hR
  refine g_aload_n (i := 1) dL_law_2506 rfl rfl ?_
  obtain ⟨B, hB, hm, ⟨ho, ht⟩, hG, hbb⟩ := RelP.m0 hR
  obtain ⟨i1, i2, i3, i4⟩ := lw_cons hm ho
  refine g_callV (ev_isConsistent2 hl i1 i2 i3 i4) dL_law_2507 ml_L_289 cvX9_isConsistent K_X9 rfl LW_6 rfl rfl (Nat.le_of_ble_eq_true rfl) (Nat.le_of_ble_eq_true rfl) (Nat.zero_le _) (Nat.zero_le _) (kr_x (fun x9 => Go.heap (h' := LW A (M, N, c, x9.1, x9.2.1, x9.2.2, R, t, l9, O) (a, f) fo fd) rfl ?_)) kx_x
  refine g_aload_n (i := 2) dL_law_2510 rfl rfl ?_
  refine g_callV (lwM (ev_mConsistent hl)) dL_law_2511 ml_L_293 cvX10_isConsistent K_X10 rfl LW_30 rfl rfl (Nat.le_of_ble_eq_true rfl) (Nat.le_of_ble_eq_true rfl) (Nat.zero_le _) (Nat.zero_le _) (kr_rt ?_) kx_rt
  refine g_icmp_eq (tgt := 2620) dL_law_2514 (by decide) (fun _ => ?_) (fun c9 => absurd (rfl) c9)
  exact Go.wid (by omega) (by omega) (nx _ _ _ _ _ _ _ (RelP.same hR rfl rfl rfl rfl rfl rfl rfl rfl rfl rfl rfl rfl rfl rfl rfl rfl rfl (fun _ _ => rfl)))

set_option maxRecDepth 100000 in
theorem lw_c41 {l : Launch} {G : GG} (hl : l.stackTraces = false) {A : AD} {k KC KS : Nat} {P : Post} (hk : k < 512) (hj : 5 * k + 4 < (gX G).2.1) {X : CL} {Y : YS} {fo : Nat → Int64} {fd : Nat → UInt64} (hR : RelX k X Y) {v6 v7 v8 : Option Value} (nx : lwN l G A k KC KS P) : Go l G mL_law 40 (KC + 25) (KS + 3550) P 2519 (lwL G A k v6 v7 v8) [] (LW A X Y fo fd) := by
  obtain ⟨M, N, c, q, H, L, R, t, l9, O⟩ := X
  obtain ⟨a, f⟩ := Y
  have hR : RelP k M N t l9 O a f := hR
  obtain ⟨mc, ms, hmc, hms, hE⟩ := jt_undo (G := G) (A := A) (fo := fo) (fd := fd) hl hR
  refine g_aload_n (i := 1) dL_law_2519 rfl rfl ?_
  refine g_aload_n (i := 3) dL_law_2520 rfl rfl ?_
  refine g_callS hE dL_law_2521 ml_L_294 csL_undo rfl rfl (Nat.le_of_ble_eq_true rfl) (Nat.le_of_ble_eq_true rfl) (by omega) (by omega) (kr_jw (KC := KC) (KS := KS) (by omega) (by omega) (fun k0 X2 f2 d2 Pm hM hJ => ?_)) kx_jw
  refine g_istore dL_law_2524 (Nat.le_of_ble_eq_true rfl) ?_
  refine g_aload_n (i := 2) dL_law_2526 rfl rfl ?_
  refine g_callV hM dL_law_2527 ml_L_296 cvX10_undo K_X10 rfl LW_30 rfl rfl (Nat.le_of_ble_eq_true rfl) (Nat.le_of_ble_eq_true rfl) (Nat.zero_le _) (Nat.zero_le _) (kr_jm hJ (fun b Y2 h11 hb hR2 => ?_)) (kx_jm hJ)
  refine g_istore dL_law_2530 (Nat.le_of_ble_eq_true rfl) ?_
  refine g_aload_n (i := 2) dL_law_2532 rfl rfl ?_
  refine g_callV (ev_thrownL hl) dL_law_2533 ml_L_157 cvX10_thrown K_X10 rfl LW_30 rfl rfl (Nat.le_of_ble_eq_true rfl) (Nat.le_of_ble_eq_true rfl) (Nat.zero_le _) (Nat.zero_le _) (kr_rt ?_) kx_rt
  refine g_iload dL_law_2536 rfl ?_
  refine g_icmp_eq (tgt := 2543) dL_law_2538 (by decide) (fun _ => ?_) (fun c9 => absurd h11 c9)
  refine g_iload dL_law_2543 rfl ?_
  refine g_if_ne (tgt := 2560) dL_law_2545 (by decide) (fun _ => ?_) (fun c0 => ?_)
  · refine g_goto (tgt := 2620) dL_law_2560 (by decide) ?_
    exact nx _ _ _ _ _ _ _ hR2
  · have e8 : f2 0 = b.toInt64 := hb c0
    refine g_aload_n (i := 3) dL_law_2548 rfl rfl ?_
    refine g_iconst (v := 0) dL_law_2549 (by decide) ?_
    refine g_lald dL_law_2550 LW_60 (ix_nI (j := 0) (by decide)) (by decide) ?_
    refine g_iload dL_law_2551 rfl ?_
    refine g_i2l dL_law_2553 ?_
    refine g_lcmp dL_law_2554 ?_
    refine g_if_eq (tgt := 2560) dL_law_2555 (by decide) (fun _ => ?_) (fun c9 => absurd (lgc0.mpr e8) c9)
    refine g_goto (tgt := 2620) dL_law_2560 (by decide) ?_
    exact nx _ _ _ _ _ _ _ hR2

set_option maxRecDepth 100000 in
theorem lw_c42 {l : Launch} {G : GG} (hl : l.stackTraces = false) {A : AD} {k KC KS : Nat} {P : Post} (hk : k < 512) (hj : 5 * k + 4 < (gX G).2.1) {X : CL} {Y : YS} {fo : Nat → Int64} {fd : Nat → UInt64} (hR : RelX k X Y) {v6 v7 v8 : Option Value} (nx : lwN l G A k KC KS P) : Go l G mL_law 40 (KC + 25) (KS + 3550) P 2563 (lwL G A k v6 v7 v8) [] (LW A X Y fo fd) := by
  obtain ⟨M, N, c, q, H, L, R, t, l9, O⟩ := X
  obtain ⟨a, f⟩ := Y
  have hR : RelP k M N t l9 O a f := hR
  refine g_aload_n (i := 1) dL_law_2563 rfl rfl ?_
  obtain ⟨B, hB, hm, ⟨ho, ht⟩, hG, hbb⟩ := RelP.m0 hR
  refine g_callV (ev_save hl hG) dL_law_2564 ml_L_297 cvX9_save K_X9 rfl LW_6 rfl rfl (Nat.le_of_ble_eq_true rfl) (Nat.le_of_ble_eq_true rfl) (Nat.zero_le _) (Nat.zero_le _) (kr_rt (Go.heap (h' := LW A (va_up M 2 (M 0), N, c, q, H, L, R, t, l9, (1, O.2)) (a, f) fo fd) rfl ?_)) kx_rt
  refine g_aload_n (i := 2) dL_law_2567 rfl rfl ?_
  refine g_callV (lwM (ev_mSave hl)) dL_law_2568 ml_L_300 cvX10_save K_X10 rfl LW_30 rfl rfl (Nat.le_of_ble_eq_true rfl) (Nat.le_of_ble_eq_true rfl) (Nat.zero_le _) (Nat.zero_le _) (kr_rt ?_) kx_rt
  refine g_icmp_eq (tgt := 2620) dL_law_2571 (by decide) (fun _ => ?_) (fun c9 => absurd (hm.ti) c9)
  exact Go.wid (by omega) (by omega) (nx _ _ _ _ _ _ _ (RelP.saved hR rfl rfl rfl rfl rfl rfl rfl rfl rfl rfl rfl rfl rfl rfl rfl ))

set_option maxRecDepth 100000 in
theorem lw_c43 {l : Launch} {G : GG} (hl : l.stackTraces = false) {A : AD} {k KC KS : Nat} {P : Post} (hk : k < 512) (hj : 5 * k + 4 < (gX G).2.1) {X : CL} {Y : YS} {fo : Nat → Int64} {fd : Nat → UInt64} (hR : RelX k X Y) {v6 v7 v8 : Option Value} (nx : lwN l G A k KC KS P) : Go l G mL_law 40 (KC + 25) (KS + 3550) P 2576 (lwL G A k v6 v7 v8) [] (LW A X Y fo fd) := by
  obtain ⟨M, N, c, q, H, L, R, t, l9, O⟩ := X
  obtain ⟨a, f⟩ := Y
  have hR : RelP k M N t l9 O a f := hR
  obtain ⟨mc, ms, hmc, hms, hE⟩ := jt_restore (G := G) (A := A) (fo := fo) (fd := fd) hl hR
  refine g_aload_n (i := 1) dL_law_2576 rfl rfl ?_
  refine g_aload_n (i := 3) dL_law_2577 rfl rfl ?_
  refine g_callS hE dL_law_2578 ml_L_301 csL_restore rfl rfl (Nat.le_of_ble_eq_true rfl) (Nat.le_of_ble_eq_true rfl) (by omega) (by omega) (kr_jw (KC := KC) (KS := KS) (by omega) (by omega) (fun k0 X2 f2 d2 Pm hM hJ => ?_)) kx_jw
  refine g_istore dL_law_2581 (Nat.le_of_ble_eq_true rfl) ?_
  refine g_aload_n (i := 2) dL_law_2583 rfl rfl ?_
  refine g_callV hM dL_law_2584 ml_L_303 cvX10_restore K_X10 rfl LW_30 rfl rfl (Nat.le_of_ble_eq_true rfl) (Nat.le_of_ble_eq_true rfl) (Nat.zero_le _) (Nat.zero_le _) (kr_jm hJ (fun b Y2 h11 hb hR2 => ?_)) (kx_jm hJ)
  refine g_istore dL_law_2587 (Nat.le_of_ble_eq_true rfl) ?_
  refine g_aload_n (i := 2) dL_law_2589 rfl rfl ?_
  refine g_callV (ev_thrownL hl) dL_law_2590 ml_L_157 cvX10_thrown K_X10 rfl LW_30 rfl rfl (Nat.le_of_ble_eq_true rfl) (Nat.le_of_ble_eq_true rfl) (Nat.zero_le _) (Nat.zero_le _) (kr_rt ?_) kx_rt
  refine g_iload dL_law_2593 rfl ?_
  refine g_icmp_eq (tgt := 2600) dL_law_2595 (by decide) (fun _ => ?_) (fun c9 => absurd h11 c9)
  refine g_iload dL_law_2600 rfl ?_
  refine g_if_ne (tgt := 2617) dL_law_2602 (by decide) (fun _ => ?_) (fun c0 => ?_)
  · refine g_goto (tgt := 2620) dL_law_2617 (by decide) ?_
    exact nx _ _ _ _ _ _ _ hR2
  · have e8 : f2 0 = b.toInt64 := hb c0
    refine g_aload_n (i := 3) dL_law_2605 rfl rfl ?_
    refine g_iconst (v := 0) dL_law_2606 (by decide) ?_
    refine g_lald dL_law_2607 LW_60 (ix_nI (j := 0) (by decide)) (by decide) ?_
    refine g_iload dL_law_2608 rfl ?_
    refine g_i2l dL_law_2610 ?_
    refine g_lcmp dL_law_2611 ?_
    refine g_if_eq (tgt := 2617) dL_law_2612 (by decide) (fun _ => ?_) (fun c9 => absurd (lgc0.mpr e8) c9)
    refine g_goto (tgt := 2620) dL_law_2617 (by decide) ?_
    exact nx _ _ _ _ _ _ _ hR2

