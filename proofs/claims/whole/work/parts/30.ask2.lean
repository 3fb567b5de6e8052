/-! The class's methods that ask (by wip/whole/gen/m16.py). -/
/-- reached from f to t through open cells up to v -/
def rchP (m : MS) (f t : Nat) (v : Int32) : Prop := inJ (fillJ (bitJ (nI f)) (openL m.1 m.2.1 v 64)) (nI t)
def tryN (m : MS) (f t : Nat) : Nat → Int32 × Int32
  | 0 => (-1, -1)
  | k + 1 => if (tryN m f t k).1 < m.2.1 k ∧ ((tryN m f t k).2 = -1 ∨ m.2.1 k < (tryN m f t k).2) then (if inJ (fillJ (bitJ (nI f)) (openL m.1 m.2.1 (m.2.1 k) 64)) (nI t) then ((tryN m f t k).1, m.2.1 k) else (m.2.1 k, (tryN m f t k).2)) else tryN m f t k
/-- the rank's cell, among j cells from k on -/
def rkN (m : MS) (r : Int32) : Nat → Nat → Option Nat
  | 0, _ => none
  | j + 1, k => if rankN m.2.1 k 64 = r then some k else rkN m r j (k + 1)
theorem rkN_lt {m : MS} {r : Int32} : ∀ (j k n : Nat), rkN m r j k = some n → n < k + j
  | 0, _, _, h => by cases h
  | j + 1, k, n, h => by
    rw [rkN] at h
    split at h
    · cases h; omega
    · have := rkN_lt j (k + 1) n h; omega

set_option maxRecDepth 100000 in
theorem ev_requireSide_ok {l : Launch} {G : GG} (hl : l.stackTraces = false) {x : Int32} {h : AH} (hs : sideP x) :
    Ev l G 11 0 0 mX9_requireSide [.int x] h (Rt none h) := by
  refine Ev.of hl (by decide) (Nat.le_of_ble_eq_true rfl) ?_
  refine g_iload_n (i := 0) dX9_requireSide_0 rfl rfl ?_
  refine g_callS (ev_isSide hl) dX9_requireSide_1 ml_X9_393 csX9_isSide rfl rfl (Nat.le_of_ble_eq_true rfl) (Nat.le_of_ble_eq_true rfl) (Nat.zero_le _) (Nat.zero_le _) (kr_rt ?_) kx_rt
  refine g_if_ne (tgt := 18) dX9_requireSide_4 (by decide) (fun c4 => ?_) (fun c4 => ?_)
  · refine g_vret dX9_requireSide_18 rfl ?_
    exact ⟨rfl, rfl⟩
  · exact absurd c4 (by rw [if_pos hs]; decide)

set_option maxRecDepth 100000 in
theorem ev_requireSide_no {l : Launch} {G : GG} (hl : l.stackTraces = false) {x : Int32} {h : AH} (hs : ¬ sideP x) :
    Ev l G 11 1 6 mX9_requireSide [.int x] h (Tr "java/lang/IndexOutOfBoundsException" h) := by
  refine Ev.of hl (by decide) (Nat.le_of_ble_eq_true rfl) ?_
  refine g_iload_n (i := 0) dX9_requireSide_0 rfl rfl ?_
  refine g_callS (ev_isSide hl) dX9_requireSide_1 ml_X9_393 csX9_isSide rfl rfl (Nat.le_of_ble_eq_true rfl) (Nat.le_of_ble_eq_true rfl) (Nat.zero_le _) (Nat.zero_le _) (kr_rt ?_) kx_rt
  refine g_if_ne (tgt := 18) dX9_requireSide_4 (by decide) (fun c4 => ?_) (fun c4 => ?_)
  · exact absurd (if_neg hs) c4
  · exact g_throwSW th_X9_343_396 dX9_requireSide_7 dX9_requireSide_10 dX9_requireSide_11 dX9_requireSide_14 dX9_requireSide_17 rfl (by decide) (by decide) (Nat.le_of_ble_eq_true rfl) (Nat.le_of_ble_eq_true rfl) ⟨rfl, rfl⟩

set_option maxRecDepth 100000 in
theorem ev_requireLevel_ok {l : Launch} {G : GG} (hl : l.stackTraces = false) {x : Int32} {h : AH} (hv : levP x) :
    Ev l G 10 0 0 mX9_requireLevel [.int x] h (Rt none h) := by
  refine Ev.of hl (by decide) (Nat.le_of_ble_eq_true rfl) ?_
  refine g_iload_n (i := 0) dX9_requireLevel_0 rfl rfl ?_
  refine g_iconst (v := 1) dX9_requireLevel_1 (by decide) ?_
  refine g_icmp_lt (tgt := 12) dX9_requireLevel_2 (by decide) (fun c2 => ?_) (fun c2 => ?_)
  · exact absurd c2 (nlt hv.1)
  · refine g_iload_n (i := 0) dX9_requireLevel_5 rfl rfl ?_
    refine g_sipush (v := 9999) dX9_requireLevel_6 (by decide) ?_
    refine g_icmp_le (tgt := 23) dX9_requireLevel_9 (by decide) (fun c9 => ?_) (fun c9 => ?_)
    · refine g_vret dX9_requireLevel_23 rfl ?_
      exact ⟨rfl, rfl⟩
    · exact absurd hv.2 c9

set_option maxRecDepth 100000 in
theorem ev_requireLevel_no {l : Launch} {G : GG} (hl : l.stackTraces = false) {x : Int32} {h : AH} (hv : ¬ levP x) :
    Ev l G 10 1 6 mX9_requireLevel [.int x] h (Tr "java/lang/IllegalArgumentException" h) := by
  refine Ev.of hl (by decide) (Nat.le_of_ble_eq_true rfl) ?_
  refine g_iload_n (i := 0) dX9_requireLevel_0 rfl rfl ?_
  refine g_iconst (v := 1) dX9_requireLevel_1 (by decide) ?_
  refine g_icmp_lt (tgt := 12) dX9_requireLevel_2 (by decide) (fun c2 => ?_) (fun c2 => ?_)
  · exact g_throwSW th_X9_99_398 dX9_requireLevel_12 dX9_requireLevel_15 dX9_requireLevel_16 dX9_requireLevel_19 dX9_requireLevel_22 rfl (by decide) (by decide) (Nat.le_of_ble_eq_true rfl) (Nat.le_of_ble_eq_true rfl) ⟨rfl, rfl⟩
  · refine g_iload_n (i := 0) dX9_requireLevel_5 rfl rfl ?_
    refine g_sipush (v := 9999) dX9_requireLevel_6 (by decide) ?_
    refine g_icmp_le (tgt := 23) dX9_requireLevel_9 (by decide) (fun c9 => ?_) (fun c9 => ?_)
    · exact absurd ⟨ltn' c2, c9⟩ hv
    · exact g_throwSW th_X9_99_398 dX9_requireLevel_12 dX9_requireLevel_15 dX9_requireLevel_16 dX9_requireLevel_19 dX9_requireLevel_22 rfl (by decide) (by decide) (Nat.le_of_ble_eq_true rfl) (Nat.le_of_ble_eq_true rfl) ⟨rfl, rfl⟩

set_option maxRecDepth 100000 in
theorem ev_requireLegend_ok {l : Launch} {G : GG} (hl : l.stackTraces = false) {A : AD} {h : AH} {M : Nat → MS} {N : Nat × Nat} {c : Nat → Int32} {q : Nat → Nat} {H : HS} {L : LgS} {R : RS} {t l9 : SB} {O : OB} {x : Int32} (hv : clsP x) (ho : x ≤ openN (M 0).1 64) :
    Ev l G 12 0 0 mX9_requireLegend [.ref (A 6 0), .int x] (hC h A (M, N, c, q, H, L, R, t, l9, O)) (Rt none (hC h A (M, N, c, q, H, L, R, t, l9, O))) := by
  refine Ev.of hl (by decide) (Nat.le_of_ble_eq_true rfl) ?_
  refine g_iload_n (i := 1) dX9_requireLegend_0 rfl rfl ?_
  refine g_iconst (v := 1) dX9_requireLegend_1 (by decide) ?_
  refine g_icmp_lt (tgt := 11) dX9_requireLegend_2 (by decide) (fun c2 => ?_) (fun c2 => ?_)
  · exact absurd c2 (nlt hv.1)
  · refine g_iload_n (i := 1) dX9_requireLegend_5 rfl rfl ?_
    refine g_bipush (v := 6) dX9_requireLegend_6 (by decide) ?_
    refine g_icmp_le (tgt := 22) dX9_requireLegend_8 (by decide) (fun c8 => ?_) (fun c8 => ?_)
    · refine g_aload_n (i := 0) dX9_requireLegend_22 rfl rfl ?_
      refine g_getf dX9_requireLegend_23 K_X9 (k := 0) fl_X9_10 (Nat.le_of_ble_eq_true rfl) hC_6 rfl ?_
      refine g_callV (ev_countOpen hl (hC_map (g := 0) (by decide))) dX9_requireLegend_26 ml_X9_351 cvX3_countOpenCells K_X3 rfl (hC_map (g := 0) (by decide)).1 rfl rfl (Nat.le_of_ble_eq_true rfl) (Nat.le_of_ble_eq_true rfl) (Nat.zero_le _) (Nat.zero_le _) (kr_rt ?_) kx_rt
      refine g_iload_n (i := 1) dX9_requireLegend_29 rfl rfl ?_
      refine g_icmp_ge (tgt := 44) dX9_requireLegend_30 (by decide) (fun c30 => ?_) (fun c30 => ?_)
      · refine g_vret dX9_requireLegend_44 rfl ?_
        exact ⟨rfl, rfl⟩
      · exact absurd ho c30
    · exact absurd hv.2 c8

set_option maxRecDepth 100000 in
theorem ev_requireLegend_no1 {l : Launch} {G : GG} (hl : l.stackTraces = false) {A : AD} {h : AH} {M : Nat → MS} {N : Nat × Nat} {c : Nat → Int32} {q : Nat → Nat} {H : HS} {L : LgS} {R : RS} {t l9 : SB} {O : OB} {x : Int32} (hv : ¬ clsP x) :
    Ev l G 12 1 6 mX9_requireLegend [.ref (A 6 0), .int x] (hC h A (M, N, c, q, H, L, R, t, l9, O)) (Tr "java/lang/IllegalArgumentException" (hC h A (M, N, c, q, H, L, R, t, l9, O))) := by
  refine Ev.of hl (by decide) (Nat.le_of_ble_eq_true rfl) ?_
  refine g_iload_n (i := 1) dX9_requireLegend_0 rfl rfl ?_
  refine g_iconst (v := 1) dX9_requireLegend_1 (by decide) ?_
  refine g_icmp_lt (tgt := 11) dX9_requireLegend_2 (by decide) (fun c2 => ?_) (fun c2 => ?_)
  · exact g_throwSW th_X9_99_400 dX9_requireLegend_11 dX9_requireLegend_14 dX9_requireLegend_15 dX9_requireLegend_18 dX9_requireLegend_21 rfl (by decide) (by decide) (Nat.le_of_ble_eq_true rfl) (Nat.le_of_ble_eq_true rfl) ⟨rfl, rfl⟩
  · refine g_iload_n (i := 1) dX9_requireLegend_5 rfl rfl ?_
    refine g_bipush (v := 6) dX9_requireLegend_6 (by decide) ?_
    refine g_icmp_le (tgt := 22) dX9_requireLegend_8 (by decide) (fun c8 => ?_) (fun c8 => ?_)
    · exact absurd ⟨ltn' c2, c8⟩ hv
    · exact g_throwSW th_X9_99_400 dX9_requireLegend_11 dX9_requireLegend_14 dX9_requireLegend_15 dX9_requireLegend_18 dX9_requireLegend_21 rfl (by decide) (by decide) (Nat.le_of_ble_eq_true rfl) (Nat.le_of_ble_eq_true rfl) ⟨rfl, rfl⟩

set_option maxRecDepth 100000 in
theorem ev_requireLegend_no2 {l : Launch} {G : GG} (hl : l.stackTraces = false) {A : AD} {h : AH} {M : Nat → MS} {N : Nat × Nat} {c : Nat → Int32} {q : Nat → Nat} {H : HS} {L : LgS} {R : RS} {t l9 : SB} {O : OB} {x : Int32} (hv : clsP x) (ho : ¬ x ≤ openN (M 0).1 64) :
    Ev l G 12 1 6 mX9_requireLegend [.ref (A 6 0), .int x] (hC h A (M, N, c, q, H, L, R, t, l9, O)) (Tr "java/lang/IllegalStateException" (hC h A (M, N, c, q, H, L, R, t, l9, O))) := by
  refine Ev.of hl (by decide) (Nat.le_of_ble_eq_true rfl) ?_
  refine g_iload_n (i := 1) dX9_requireLegend_0 rfl rfl ?_
  refine g_iconst (v := 1) dX9_requireLegend_1 (by decide) ?_
  refine g_icmp_lt (tgt := 11) dX9_requireLegend_2 (by decide) (fun c2 => ?_) (fun c2 => ?_)
  · exact absurd c2 (nlt hv.1)
  · refine g_iload_n (i := 1) dX9_requireLegend_5 rfl rfl ?_
    refine g_bipush (v := 6) dX9_requireLegend_6 (by decide) ?_
    refine g_icmp_le (tgt := 22) dX9_requireLegend_8 (by decide) (fun c8 => ?_) (fun c8 => ?_)
    · refine g_aload_n (i := 0) dX9_requireLegend_22 rfl rfl ?_
      refine g_getf dX9_requireLegend_23 K_X9 (k := 0) fl_X9_10 (Nat.le_of_ble_eq_true rfl) hC_6 rfl ?_
      refine g_callV (ev_countOpen hl (hC_map (g := 0) (by decide))) dX9_requireLegend_26 ml_X9_351 cvX3_countOpenCells K_X3 rfl (hC_map (g := 0) (by decide)).1 rfl rfl (Nat.le_of_ble_eq_true rfl) (Nat.le_of_ble_eq_true rfl) (Nat.zero_le _) (Nat.zero_le _) (kr_rt ?_) kx_rt
      refine g_iload_n (i := 1) dX9_requireLegend_29 rfl rfl ?_
      refine g_icmp_ge (tgt := 44) dX9_requireLegend_30 (by decide) (fun c30 => ?_) (fun c30 => ?_)
      · exact absurd c30 ho
      · exact g_throwSW th_X9_286_402 dX9_requireLegend_33 dX9_requireLegend_36 dX9_requireLegend_37 dX9_requireLegend_40 dX9_requireLegend_43 rfl (by decide) (by decide) (Nat.le_of_ble_eq_true rfl) (Nat.le_of_ble_eq_true rfl) ⟨rfl, rfl⟩
    · exact absurd hv.2 c8

set_option maxRecDepth 100000 in
theorem ev_requireRefusal_ok {l : Launch} {G : GG} (hl : l.stackTraces = false) {A : AD} {h : AH} {M : Nat → MS} {N : Nat × Nat} {c : Nat → Int32} {q : Nat → Nat} {H : HS} {L : LgS} {R : RS} {t l9 : SB} {O : OB} (hr : ¬ O.2.1 = 0) :
    Ev l G 10 0 0 mX9_requireRefusal [.ref (A 6 0)] (hC h A (M, N, c, q, H, L, R, t, l9, O)) (Rt none (hC h A (M, N, c, q, H, L, R, t, l9, O))) := by
  refine Ev.of hl (by decide) (Nat.le_of_ble_eq_true rfl) ?_
  refine g_aload_n (i := 0) dX9_requireRefusal_0 rfl rfl ?_
  refine g_getf dX9_requireRefusal_1 K_X9 (k := 12) fl_X9_78 (Nat.le_of_ble_eq_true rfl) hC_6 rfl ?_
  refine g_if_ne (tgt := 18) dX9_requireRefusal_4 (by decide) (fun c4 => ?_) (fun c4 => ?_)
  · refine g_vret dX9_requireRefusal_18 rfl ?_
    exact ⟨rfl, rfl⟩
  · exact absurd c4 hr

set_option maxRecDepth 100000 in
theorem ev_requireRefusal_no {l : Launch} {G : GG} (hl : l.stackTraces = false) {A : AD} {h : AH} {M : Nat → MS} {N : Nat × Nat} {c : Nat → Int32} {q : Nat → Nat} {H : HS} {L : LgS} {R : RS} {t l9 : SB} {O : OB} (hr : O.2.1 = 0) :
    Ev l G 10 1 6 mX9_requireRefusal [.ref (A 6 0)] (hC h A (M, N, c, q, H, L, R, t, l9, O)) (Tr "java/util/NoSuchElementException" (hC h A (M, N, c, q, H, L, R, t, l9, O))) := by
  refine Ev.of hl (by decide) (Nat.le_of_ble_eq_true rfl) ?_
  refine g_aload_n (i := 0) dX9_requireRefusal_0 rfl rfl ?_
  refine g_getf dX9_requireRefusal_1 K_X9 (k := 12) fl_X9_78 (Nat.le_of_ble_eq_true rfl) hC_6 rfl ?_
  refine g_if_ne (tgt := 18) dX9_requireRefusal_4 (by decide) (fun c4 => ?_) (fun c4 => ?_)
  · exact absurd hr c4
  · exact g_throwN th_X9_164_404 dX9_requireRefusal_7 dX9_requireRefusal_10 dX9_requireRefusal_11 dX9_requireRefusal_14 dX9_requireRefusal_17 rfl (by decide) (by decide) (Nat.le_of_ble_eq_true rfl) (Nat.le_of_ble_eq_true rfl) ⟨rfl, rfl⟩

set_option maxRecDepth 100000 in
theorem ev_allHeat {l : Launch} {G : GG} (hl : l.stackTraces = false) {A : AD} {h : AH} {M : Nat → MS} {N : Nat × Nat} {c : Nat → Int32} {q : Nat → Nat} {H : HS} {L : LgS} {R : RS} {t l9 : SB} {O : OB} :
    Ev l G 11 0 0 mX9_allHeat [.ref (A 6 0)] (hC h A (M, N, c, q, H, L, R, t, l9, O)) (Rt (some (.int (sumN (M 0).2.1 64 + sumN (M 0).2.2.1 64))) (hC h A (M, N, c, q, H, L, R, t, l9, O))) := by
  refine Ev.of hl (by decide) (Nat.le_of_ble_eq_true rfl) ?_
  refine g_aload_n (i := 0) dX9_allHeat_0 rfl rfl ?_
  refine g_getf dX9_allHeat_1 K_X9 (k := 0) fl_X9_10 (Nat.le_of_ble_eq_true rfl) hC_6 rfl ?_
  refine g_callV (ev_heatOfCells hl (hC_map (g := 0) (by decide))) dX9_allHeat_4 ml_X9_147 cvX3_heatOfCells K_X3 rfl (hC_map (g := 0) (by decide)).1 rfl rfl (Nat.le_of_ble_eq_true rfl) (Nat.le_of_ble_eq_true rfl) (Nat.zero_le _) (Nat.zero_le _) (kr_rt ?_) kx_rt
  refine g_aload_n (i := 0) dX9_allHeat_7 rfl rfl ?_
  refine g_getf dX9_allHeat_8 K_X9 (k := 0) fl_X9_10 (Nat.le_of_ble_eq_true rfl) hC_6 rfl ?_
  refine g_callV (ev_embersOfCells hl (hC_map (g := 0) (by decide))) dX9_allHeat_11 ml_X9_151 cvX3_embersOfCells K_X3 rfl (hC_map (g := 0) (by decide)).1 rfl rfl (Nat.le_of_ble_eq_true rfl) (Nat.le_of_ble_eq_true rfl) (Nat.zero_le _) (Nat.zero_le _) (kr_rt ?_) kx_rt
  refine g_iadd dX9_allHeat_14 ?_
  refine g_iret dX9_allHeat_15 rfl rfl ?_
  exact ⟨rfl, rfl⟩

set_option maxRecDepth 100000 in
theorem ev_byAccounts {l : Launch} {G : GG} (hl : l.stackTraces = false) {A : AD} {h : AH} {M : Nat → MS} {N : Nat × Nat} {c : Nat → Int32} {q : Nat → Nat} {H : HS} {L : LgS} {R : RS} {t l9 : SB} {O : OB} :
    Ev l G 11 0 0 mX9_allHeatByAccounts [.ref (A 6 0)] (hC h A (M, N, c, q, H, L, R, t, l9, O)) (Rt (some (.int ((M 0).2.2.2.2.2.2.2 - sumN (M 0).2.2.2.2.1 4))) (hC h A (M, N, c, q, H, L, R, t, l9, O))) := by
  refine Ev.of hl (by decide) (Nat.le_of_ble_eq_true rfl) ?_
  refine g_aload_n (i := 0) dX9_allHeatByAccounts_0 rfl rfl ?_
  refine g_getf dX9_allHeatByAccounts_1 K_X9 (k := 0) fl_X9_10 (Nat.le_of_ble_eq_true rfl) hC_6 rfl ?_
  refine g_getN dX9_allHeatByAccounts_4 K_X3 (k := 7) fl_X9_154 (Nat.le_of_ble_eq_true rfl) (hC_map (g := 0) (by decide)).1 rfl ?_
  refine g_aload_n (i := 0) dX9_allHeatByAccounts_7 rfl rfl ?_
  refine g_getf dX9_allHeatByAccounts_8 K_X9 (k := 0) fl_X9_10 (Nat.le_of_ble_eq_true rfl) hC_6 rfl ?_
  refine g_callV (ev_lostHeat hl (hC_map (g := 0) (by decide))) dX9_allHeatByAccounts_11 ml_X9_157 cvX3_lostHeat K_X3 rfl (hC_map (g := 0) (by decide)).1 rfl rfl (Nat.le_of_ble_eq_true rfl) (Nat.le_of_ble_eq_true rfl) (Nat.zero_le _) (Nat.zero_le _) (kr_rt ?_) kx_rt
  refine g_isub dX9_allHeatByAccounts_14 ?_
  refine g_iret dX9_allHeatByAccounts_15 rfl rfl ?_
  exact ⟨rfl, rfl⟩

set_option maxRecDepth 100000 in
theorem ev_ticks {l : Launch} {G : GG} (hl : l.stackTraces = false) {A : AD} {h : AH} {M : Nat → MS} {N : Nat × Nat} {c : Nat → Int32} {q : Nat → Nat} {H : HS} {L : LgS} {R : RS} {t l9 : SB} {O : OB} :
    Ev l G 10 0 0 mX9_ticks [.ref (A 6 0)] (hC h A (M, N, c, q, H, L, R, t, l9, O)) (Rt (some (.int ((M 0).2.2.2.2.2.1))) (hC h A (M, N, c, q, H, L, R, t, l9, O))) := by
  refine Ev.of hl (by decide) (Nat.le_of_ble_eq_true rfl) ?_
  refine g_aload_n (i := 0) dX9_ticks_0 rfl rfl ?_
  refine g_getf dX9_ticks_1 K_X9 (k := 0) fl_X9_10 (Nat.le_of_ble_eq_true rfl) hC_6 rfl ?_
  refine g_getN dX9_ticks_4 K_X3 (k := 5) fl_X9_196 (Nat.le_of_ble_eq_true rfl) (hC_map (g := 0) (by decide)).1 rfl ?_
  refine g_iret dX9_ticks_7 rfl rfl ?_
  exact ⟨rfl, rfl⟩

set_option maxRecDepth 100000 in
theorem ev_relapses {l : Launch} {G : GG} (hl : l.stackTraces = false) {A : AD} {h : AH} {M : Nat → MS} {N : Nat × Nat} {c : Nat → Int32} {q : Nat → Nat} {H : HS} {L : LgS} {R : RS} {t l9 : SB} {O : OB} :
    Ev l G 10 0 0 mX9_relapses [.ref (A 6 0)] (hC h A (M, N, c, q, H, L, R, t, l9, O)) (Rt (some (.int ((M 0).2.2.2.2.2.2.1))) (hC h A (M, N, c, q, H, L, R, t, l9, O))) := by
  refine Ev.of hl (by decide) (Nat.le_of_ble_eq_true rfl) ?_
  refine g_aload_n (i := 0) dX9_relapses_0 rfl rfl ?_
  refine g_getf dX9_relapses_1 K_X9 (k := 0) fl_X9_10 (Nat.le_of_ble_eq_true rfl) hC_6 rfl ?_
  refine g_getN dX9_relapses_4 K_X3 (k := 6) fl_X9_199 (Nat.le_of_ble_eq_true rfl) (hC_map (g := 0) (by decide)).1 rfl ?_
  refine g_iret dX9_relapses_7 rfl rfl ?_
  exact ⟨rfl, rfl⟩

set_option maxRecDepth 100000 in
theorem ev_groundAt {l : Launch} {G : GG} (hl : l.stackTraces = false) {A : AD} {h : AH} {M : Nat → MS} {N : Nat × Nat} {c : Nat → Int32} {q : Nat → Nat} {H : HS} {L : LgS} {R : RS} {t l9 : SB} {O : OB} {i j : Nat} (hi : i < 8) (hj : j < 8) (hG : gOk (M 0)) :
    Ev l G 12 0 0 mX9_groundAt [.ref (A 6 0), .int (nI i), .int (nI j)] (hC h A (M, N, c, q, H, L, R, t, l9, O)) (Rt (some (.int ((M 0).1 (8 * j + i)))) (hC h A (M, N, c, q, H, L, R, t, l9, O))) := by
  refine Ev.of hl (by decide) (Nat.le_of_ble_eq_true rfl) ?_
  refine g_iload_n (i := 1) dX9_groundAt_0 rfl rfl ?_
  refine g_iload_n (i := 2) dX9_groundAt_1 rfl rfl ?_
  refine g_callS (ev_requireCell_ok hl (cellB_nI hi hj)) dX9_groundAt_2 ml_X9_91 csX9_requireCell rfl rfl (Nat.le_of_ble_eq_true rfl) (Nat.le_of_ble_eq_true rfl) (Nat.zero_le _) (Nat.zero_le _) (kr_vd ?_) kx_rt
  refine g_aload_n (i := 0) dX9_groundAt_5 rfl rfl ?_
  refine g_getf dX9_groundAt_6 K_X9 (k := 0) fl_X9_10 (Nat.le_of_ble_eq_true rfl) hC_6 rfl ?_
  refine g_getN dX9_groundAt_9 K_X3 (k := 0) fl_X9_119 (Nat.le_of_ble_eq_true rfl) (hC_map (g := 0) (by decide)).1 rfl ?_
  refine g_iload_n (i := 1) dX9_groundAt_12 rfl rfl ?_
  refine g_iload_n (i := 2) dX9_groundAt_13 rfl rfl ?_
  refine g_callS (ev_cellOf hl) dX9_groundAt_14 ml_X9_106 csX9_cellOf rfl rfl (Nat.le_of_ble_eq_true rfl) (Nat.le_of_ble_eq_true rfl) (Nat.zero_le _) (Nat.zero_le _) (kr_rt ?_) kx_rt
  rw [cel]
  refine g_cald dX9_groundAt_17 (hC_map (g := 0) (by decide)).2.1 (ix_nI (j := 8 * j + i) (by omega)) (by omega) ?_
  refine g_iret dX9_groundAt_18 rfl (gnd_fits (hG _ (by omega))).2.1 ?_
  exact ⟨rfl, rfl⟩

set_option maxRecDepth 100000 in
theorem ev_groundAt_no {l : Launch} {G : GG} (hl : l.stackTraces = false) {A : AD} {h : AH} {M : Nat → MS} {N : Nat × Nat} {c : Nat → Int32} {q : Nat → Nat} {H : HS} {L : LgS} {R : RS} {t l9 : SB} {O : OB} {x y : Int32} (hc : ¬ cellB x y) :
    Ev l G 12 1 6 mX9_groundAt [.ref (A 6 0), .int x, .int y] (hC h A (M, N, c, q, H, L, R, t, l9, O)) (Tr "java/lang/IndexOutOfBoundsException" (hC h A (M, N, c, q, H, L, R, t, l9, O))) := by
  refine Ev.of hl (by decide) (Nat.le_of_ble_eq_true rfl) ?_
  refine g_iload_n (i := 1) dX9_groundAt_0 rfl rfl ?_
  refine g_iload_n (i := 2) dX9_groundAt_1 rfl rfl ?_
  refine g_callS (ev_requireCell_no hl hc) dX9_groundAt_2 ml_X9_91 csX9_requireCell rfl rfl (Nat.le_of_ble_eq_true rfl) (Nat.le_of_ble_eq_true rfl) (Nat.le_refl _) (Nat.le_refl _) kr_tr (kx_tr rfl ⟨rfl, rfl⟩)

set_option maxRecDepth 100000 in
theorem ev_heatAt {l : Launch} {G : GG} (hl : l.stackTraces = false) {A : AD} {h : AH} {M : Nat → MS} {N : Nat × Nat} {c : Nat → Int32} {q : Nat → Nat} {H : HS} {L : LgS} {R : RS} {t l9 : SB} {O : OB} {i j : Nat} (hi : i < 8) (hj : j < 8) :
    Ev l G 12 0 0 mX9_heatAt [.ref (A 6 0), .int (nI i), .int (nI j)] (hC h A (M, N, c, q, H, L, R, t, l9, O)) (Rt (some (.int ((M 0).2.1 (8 * j + i)))) (hC h A (M, N, c, q, H, L, R, t, l9, O))) := by
  refine Ev.of hl (by decide) (Nat.le_of_ble_eq_true rfl) ?_
  refine g_iload_n (i := 1) dX9_heatAt_0 rfl rfl ?_
  refine g_iload_n (i := 2) dX9_heatAt_1 rfl rfl ?_
  refine g_callS (ev_requireCell_ok hl (cellB_nI hi hj)) dX9_heatAt_2 ml_X9_91 csX9_requireCell rfl rfl (Nat.le_of_ble_eq_true rfl) (Nat.le_of_ble_eq_true rfl) (Nat.zero_le _) (Nat.zero_le _) (kr_vd ?_) kx_rt
  refine g_aload_n (i := 0) dX9_heatAt_5 rfl rfl ?_
  refine g_getf dX9_heatAt_6 K_X9 (k := 0) fl_X9_10 (Nat.le_of_ble_eq_true rfl) hC_6 rfl ?_
  refine g_getN dX9_heatAt_9 K_X3 (k := 1) fl_X9_140 (Nat.le_of_ble_eq_true rfl) (hC_map (g := 0) (by decide)).1 rfl ?_
  refine g_iload_n (i := 1) dX9_heatAt_12 rfl rfl ?_
  refine g_iload_n (i := 2) dX9_heatAt_13 rfl rfl ?_
  refine g_callS (ev_cellOf hl) dX9_heatAt_14 ml_X9_106 csX9_cellOf rfl rfl (Nat.le_of_ble_eq_true rfl) (Nat.le_of_ble_eq_true rfl) (Nat.zero_le _) (Nat.zero_le _) (kr_rt ?_) kx_rt
  rw [cel]
  refine g_iald dX9_heatAt_17 (hC_map (g := 0) (by decide)).2.2.1 (ix_nI (j := 8 * j + i) (by omega)) (by omega) ?_
  refine g_iret dX9_heatAt_18 rfl rfl ?_
  exact ⟨rfl, rfl⟩

set_option maxRecDepth 100000 in
theorem ev_heatAt_no {l : Launch} {G : GG} (hl : l.stackTraces = false) {A : AD} {h : AH} {M : Nat → MS} {N : Nat × Nat} {c : Nat → Int32} {q : Nat → Nat} {H : HS} {L : LgS} {R : RS} {t l9 : SB} {O : OB} {x y : Int32} (hc : ¬ cellB x y) :
    Ev l G 12 1 6 mX9_heatAt [.ref (A 6 0), .int x, .int y] (hC h A (M, N, c, q, H, L, R, t, l9, O)) (Tr "java/lang/IndexOutOfBoundsException" (hC h A (M, N, c, q, H, L, R, t, l9, O))) := by
  refine Ev.of hl (by decide) (Nat.le_of_ble_eq_true rfl) ?_
  refine g_iload_n (i := 1) dX9_heatAt_0 rfl rfl ?_
  refine g_iload_n (i := 2) dX9_heatAt_1 rfl rfl ?_
  refine g_callS (ev_requireCell_no hl hc) dX9_heatAt_2 ml_X9_91 csX9_requireCell rfl rfl (Nat.le_of_ble_eq_true rfl) (Nat.le_of_ble_eq_true rfl) (Nat.le_refl _) (Nat.le_refl _) kr_tr (kx_tr rfl ⟨rfl, rfl⟩)

set_option maxRecDepth 100000 in
theorem ev_embersAt {l : Launch} {G : GG} (hl : l.stackTraces = false) {A : AD} {h : AH} {M : Nat → MS} {N : Nat × Nat} {c : Nat → Int32} {q : Nat → Nat} {H : HS} {L : LgS} {R : RS} {t l9 : SB} {O : OB} {i j : Nat} (hi : i < 8) (hj : j < 8) :
    Ev l G 12 0 0 mX9_embersAt [.ref (A 6 0), .int (nI i), .int (nI j)] (hC h A (M, N, c, q, H, L, R, t, l9, O)) (Rt (some (.int ((M 0).2.2.1 (8 * j + i)))) (hC h A (M, N, c, q, H, L, R, t, l9, O))) := by
  refine Ev.of hl (by decide) (Nat.le_of_ble_eq_true rfl) ?_
  refine g_iload_n (i := 1) dX9_embersAt_0 rfl rfl ?_
  refine g_iload_n (i := 2) dX9_embersAt_1 rfl rfl ?_
  refine g_callS (ev_requireCell_ok hl (cellB_nI hi hj)) dX9_embersAt_2 ml_X9_91 csX9_requireCell rfl rfl (Nat.le_of_ble_eq_true rfl) (Nat.le_of_ble_eq_true rfl) (Nat.zero_le _) (Nat.zero_le _) (kr_vd ?_) kx_rt
  refine g_aload_n (i := 0) dX9_embersAt_5 rfl rfl ?_
  refine g_getf dX9_embersAt_6 K_X9 (k := 0) fl_X9_10 (Nat.le_of_ble_eq_true rfl) hC_6 rfl ?_
  refine g_getN dX9_embersAt_9 K_X3 (k := 2) fl_X9_144 (Nat.le_of_ble_eq_true rfl) (hC_map (g := 0) (by decide)).1 rfl ?_
  refine g_iload_n (i := 1) dX9_embersAt_12 rfl rfl ?_
  refine g_iload_n (i := 2) dX9_embersAt_13 rfl rfl ?_
  refine g_callS (ev_cellOf hl) dX9_embersAt_14 ml_X9_106 csX9_cellOf rfl rfl (Nat.le_of_ble_eq_true rfl) (Nat.le_of_ble_eq_true rfl) (Nat.zero_le _) (Nat.zero_le _) (kr_rt ?_) kx_rt
  rw [cel]
  refine g_iald dX9_embersAt_17 (hC_map (g := 0) (by decide)).2.2.2.1 (ix_nI (j := 8 * j + i) (by omega)) (by omega) ?_
  refine g_iret dX9_embersAt_18 rfl rfl ?_
  exact ⟨rfl, rfl⟩

set_option maxRecDepth 100000 in
theorem ev_embersAt_no {l : Launch} {G : GG} (hl : l.stackTraces = false) {A : AD} {h : AH} {M : Nat → MS} {N : Nat × Nat} {c : Nat → Int32} {q : Nat → Nat} {H : HS} {L : LgS} {R : RS} {t l9 : SB} {O : OB} {x y : Int32} (hc : ¬ cellB x y) :
    Ev l G 12 1 6 mX9_embersAt [.ref (A 6 0), .int x, .int y] (hC h A (M, N, c, q, H, L, R, t, l9, O)) (Tr "java/lang/IndexOutOfBoundsException" (hC h A (M, N, c, q, H, L, R, t, l9, O))) := by
  refine Ev.of hl (by decide) (Nat.le_of_ble_eq_true rfl) ?_
  refine g_iload_n (i := 1) dX9_embersAt_0 rfl rfl ?_
  refine g_iload_n (i := 2) dX9_embersAt_1 rfl rfl ?_
  refine g_callS (ev_requireCell_no hl hc) dX9_embersAt_2 ml_X9_91 csX9_requireCell rfl rfl (Nat.le_of_ble_eq_true rfl) (Nat.le_of_ble_eq_true rfl) (Nat.le_refl _) (Nat.le_refl _) kr_tr (kx_tr rfl ⟨rfl, rfl⟩)

set_option maxRecDepth 100000 in
theorem ev_cellAtRank {l : Launch} {G : GG} (hl : l.stackTraces = false) {A : AD} {h : AH} {M : Nat → MS} {N : Nat × Nat} {c : Nat → Int32} {q : Nat → Nat} {H : HS} {L : LgS} {R : RS} {t l9 : SB} {O : OB} {r : Int32} {n : Nat} (h9 : rkN (M 0) r 64 0 = some n) :
    Ev l G 11 0 0 mX9_cellAtRank [.ref (A 6 0), .int r] (hC h A (M, N, c, q, H, L, R, t, l9, O)) (Rt (some (.int (nI n))) (hC h A (M, N, c, q, H, L, R, t, l9, O))) := by
  refine Ev.of hl (by decide) (Nat.le_of_ble_eq_true rfl) ?_
  have loop : ∀ (j : Nat) (k : Nat), k + j = 64 → rkN (M 0) r j k = some n → Go l G mX9_cellAtRank 11 0 0 (Rt (some (.int (nI n))) (hC h A (M, N, c, q, H, L, R, t, l9, O))) 2 [some (.ref (A 6 0)), some (.int r), some (.int (nI k))] [] (hC h A (M, N, c, q, H, L, R, t, l9, O)) := by
    intro j
    induction j with
    | zero =>
      intro k hk hr
      cases hr
    | succ j ih =>
      intro k hk hr
      refine g_iload_n (i := 2) dX9_cellAtRank_2 rfl rfl ?_
      refine g_bipush (v := 64) dX9_cellAtRank_3 (by decide) ?_
      refine g_icmp_ge (tgt := 28) dX9_cellAtRank_5 (by decide) (fun c5 => ?_) (fun c5 => ?_)
      · exact absurd ((le_nI (a := 64) (b := k) rfl (by omega) (by omega)).mp c5) (by omega)
      · refine g_aload_n (i := 0) dX9_cellAtRank_8 rfl rfl ?_
        refine g_getf dX9_cellAtRank_9 K_X9 (k := 0) fl_X9_10 (Nat.le_of_ble_eq_true rfl) hC_6 rfl ?_
        refine g_iload_n (i := 2) dX9_cellAtRank_12 rfl rfl ?_
        refine g_callV (ev_rankOf hl (hC_map (g := 0) (by decide)) (c := k) (by omega)) dX9_cellAtRank_13 ml_X9_160 cvX3_rankOf K_X3 rfl (hC_map (g := 0) (by decide)).1 rfl rfl (Nat.le_of_ble_eq_true rfl) (Nat.le_of_ble_eq_true rfl) (Nat.zero_le _) (Nat.zero_le _) (kr_rt ?_) kx_rt
        refine g_iload_n (i := 1) dX9_cellAtRank_16 rfl rfl ?_
        refine g_icmp_ne (tgt := 22) dX9_cellAtRank_17 (by decide) (fun c17 => ?_) (fun c17 => ?_)
        · refine g_iinc (w := 1) dX9_cellAtRank_22 (by decide) rfl (nI_succ k).symm (Nat.le_of_ble_eq_true rfl) ?_
          refine g_goto (tgt := 2) dX9_cellAtRank_25 (by decide) ?_
          exact ih (k + 1) (by omega) (by rw [← hr]; exact (if_neg c17).symm)
        · refine g_iload_n (i := 2) dX9_cellAtRank_20 rfl rfl ?_
          refine g_iret dX9_cellAtRank_21 rfl rfl ?_
          exact ⟨by rw [show rkN (M 0) r (j + 1) k = some k from if_pos c17] at hr; cases hr; rfl, rfl⟩
  refine g_iconst (v := 0) dX9_cellAtRank_0 (by decide) ?_
  refine g_istore_n (i := 2) dX9_cellAtRank_1 rfl (Nat.le_of_ble_eq_true rfl) ?_
  exact loop 64 0 rfl h9

set_option maxRecDepth 100000 in
theorem ev_cellAtRank_no {l : Launch} {G : GG} (hl : l.stackTraces = false) {A : AD} {h : AH} {M : Nat → MS} {N : Nat × Nat} {c : Nat → Int32} {q : Nat → Nat} {H : HS} {L : LgS} {R : RS} {t l9 : SB} {O : OB} {r : Int32} (h9 : rkN (M 0) r 64 0 = none) :
    Ev l G 11 1 6 mX9_cellAtRank [.ref (A 6 0), .int r] (hC h A (M, N, c, q, H, L, R, t, l9, O)) (Tr "java/util/NoSuchElementException" (hC h A (M, N, c, q, H, L, R, t, l9, O))) := by
  refine Ev.of hl (by decide) (Nat.le_of_ble_eq_true rfl) ?_
  have loop : ∀ (j : Nat) (k : Nat), k + j = 64 → rkN (M 0) r j k = none → Go l G mX9_cellAtRank 11 1 6 (Tr "java/util/NoSuchElementException" (hC h A (M, N, c, q, H, L, R, t, l9, O))) 2 [some (.ref (A 6 0)), some (.int r), some (.int (nI k))] [] (hC h A (M, N, c, q, H, L, R, t, l9, O)) := by
    intro j
    induction j with
    | zero =>
      intro k hk hr
      refine g_iload_n (i := 2) dX9_cellAtRank_2 rfl rfl ?_
      refine g_bipush (v := 64) dX9_cellAtRank_3 (by decide) ?_
      refine g_icmp_ge (tgt := 28) dX9_cellAtRank_5 (by decide) (fun c5 => ?_) (fun c5 => ?_)
      · exact g_throwNn th_X9_164_166 dX9_cellAtRank_28 dX9_cellAtRank_31 dX9_cellAtRank_32 dX9_cellAtRank_34 dX9_cellAtRank_37 rfl (by decide) (by decide) (Nat.le_of_ble_eq_true rfl) (Nat.le_of_ble_eq_true rfl) ⟨rfl, rfl⟩
      · exact absurd ((le_nI (a := 64) (b := k) rfl (by omega) (by omega)).mpr (by omega)) c5
    | succ j ih =>
      intro k hk hr
      refine g_iload_n (i := 2) dX9_cellAtRank_2 rfl rfl ?_
      refine g_bipush (v := 64) dX9_cellAtRank_3 (by decide) ?_
      refine g_icmp_ge (tgt := 28) dX9_cellAtRank_5 (by decide) (fun c5 => ?_) (fun c5 => ?_)
      · exact absurd ((le_nI (a := 64) (b := k) rfl (by omega) (by omega)).mp c5) (by omega)
      · refine g_aload_n (i := 0) dX9_cellAtRank_8 rfl rfl ?_
        refine g_getf dX9_cellAtRank_9 K_X9 (k := 0) fl_X9_10 (Nat.le_of_ble_eq_true rfl) hC_6 rfl ?_
        refine g_iload_n (i := 2) dX9_cellAtRank_12 rfl rfl ?_
        refine g_callV (ev_rankOf hl (hC_map (g := 0) (by decide)) (c := k) (by omega)) dX9_cellAtRank_13 ml_X9_160 cvX3_rankOf K_X3 rfl (hC_map (g := 0) (by decide)).1 rfl rfl (Nat.le_of_ble_eq_true rfl) (Nat.le_of_ble_eq_true rfl) (Nat.zero_le _) (Nat.zero_le _) (kr_rt ?_) kx_rt
        refine g_iload_n (i := 1) dX9_cellAtRank_16 rfl rfl ?_
        refine g_icmp_ne (tgt := 22) dX9_cellAtRank_17 (by decide) (fun c17 => ?_) (fun c17 => ?_)
        · refine g_iinc (w := 1) dX9_cellAtRank_22 (by decide) rfl (nI_succ k).symm (Nat.le_of_ble_eq_true rfl) ?_
          refine g_goto (tgt := 2) dX9_cellAtRank_25 (by decide) ?_
          exact ih (k + 1) (by omega) (by rw [← hr]; exact (if_neg c17).symm)
        · rw [show rkN (M 0) r (j + 1) k = some k from if_pos c17] at hr; cases hr
  refine g_iconst (v := 0) dX9_cellAtRank_0 (by decide) ?_
  refine g_istore_n (i := 2) dX9_cellAtRank_1 rfl (Nat.le_of_ble_eq_true rfl) ?_
  exact loop 64 0 rfl h9

set_option maxRecDepth 100000 in
theorem ev_refusalReason {l : Launch} {G : GG} (hl : l.stackTraces = false) {A : AD} {h : AH} {M : Nat → MS} {N : Nat × Nat} {c : Nat → Int32} {q : Nat → Nat} {H : HS} {L : LgS} {R : RS} {t l9 : SB} {O : OB} (hr : ¬ O.2.1 = 0) :
    Ev l G 11 0 0 mX9_refusalReason [.ref (A 6 0)] (hC h A (M, N, c, q, H, L, R, t, l9, O)) (Rt (some (.int (O.2.1))) (hC h A (M, N, c, q, H, L, R, t, l9, O))) := by
  refine Ev.of hl (by decide) (Nat.le_of_ble_eq_true rfl) ?_
  refine g_aload_n (i := 0) dX9_refusalReason_0 rfl rfl ?_
  refine g_callV (ev_requireRefusal_ok hl hr) dX9_refusalReason_1 ml_X9_169 cvX9_requireRefusal K_X9 rfl hC_6 rfl rfl (Nat.le_of_ble_eq_true rfl) (Nat.le_of_ble_eq_true rfl) (Nat.zero_le _) (Nat.zero_le _) (kr_vd ?_) kx_rt
  refine g_aload_n (i := 0) dX9_refusalReason_4 rfl rfl ?_
  refine g_getf dX9_refusalReason_5 K_X9 (k := 12) fl_X9_78 (Nat.le_of_ble_eq_true rfl) hC_6 rfl ?_
  refine g_iret dX9_refusalReason_8 rfl rfl ?_
  exact ⟨rfl, rfl⟩

set_option maxRecDepth 100000 in
theorem ev_refusalReason_no {l : Launch} {G : GG} (hl : l.stackTraces = false) {A : AD} {h : AH} {M : Nat → MS} {N : Nat × Nat} {c : Nat → Int32} {q : Nat → Nat} {H : HS} {L : LgS} {R : RS} {t l9 : SB} {O : OB} (hr : O.2.1 = 0) :
    Ev l G 11 1 6 mX9_refusalReason [.ref (A 6 0)] (hC h A (M, N, c, q, H, L, R, t, l9, O)) (Tr "java/util/NoSuchElementException" (hC h A (M, N, c, q, H, L, R, t, l9, O))) := by
  refine Ev.of hl (by decide) (Nat.le_of_ble_eq_true rfl) ?_
  refine g_aload_n (i := 0) dX9_refusalReason_0 rfl rfl ?_
  refine g_callV (ev_requireRefusal_no hl hr) dX9_refusalReason_1 ml_X9_169 cvX9_requireRefusal K_X9 rfl hC_6 rfl rfl (Nat.le_of_ble_eq_true rfl) (Nat.le_of_ble_eq_true rfl) (Nat.le_refl _) (Nat.le_refl _) kr_tr (kx_tr rfl ⟨rfl, rfl⟩)

set_option maxRecDepth 100000 in
theorem ev_refusalDetail {l : Launch} {G : GG} (hl : l.stackTraces = false) {A : AD} {h : AH} {M : Nat → MS} {N : Nat × Nat} {c : Nat → Int32} {q : Nat → Nat} {H : HS} {L : LgS} {R : RS} {t l9 : SB} {O : OB} (hr : ¬ O.2.1 = 0) :
    Ev l G 11 0 0 mX9_refusalDetail [.ref (A 6 0)] (hC h A (M, N, c, q, H, L, R, t, l9, O)) (Rt (some (.int (O.2.2.1))) (hC h A (M, N, c, q, H, L, R, t, l9, O))) := by
  refine Ev.of hl (by decide) (Nat.le_of_ble_eq_true rfl) ?_
  refine g_aload_n (i := 0) dX9_refusalDetail_0 rfl rfl ?_
  refine g_callV (ev_requireRefusal_ok hl hr) dX9_refusalDetail_1 ml_X9_169 cvX9_requireRefusal K_X9 rfl hC_6 rfl rfl (Nat.le_of_ble_eq_true rfl) (Nat.le_of_ble_eq_true rfl) (Nat.zero_le _) (Nat.zero_le _) (kr_vd ?_) kx_rt
  refine g_aload_n (i := 0) dX9_refusalDetail_4 rfl rfl ?_
  refine g_getf dX9_refusalDetail_5 K_X9 (k := 13) fl_X9_82 (Nat.le_of_ble_eq_true rfl) hC_6 rfl ?_
  refine g_iret dX9_refusalDetail_8 rfl rfl ?_
  exact ⟨rfl, rfl⟩

set_option maxRecDepth 100000 in
theorem ev_refusalDetail_no {l : Launch} {G : GG} (hl : l.stackTraces = false) {A : AD} {h : AH} {M : Nat → MS} {N : Nat × Nat} {c : Nat → Int32} {q : Nat → Nat} {H : HS} {L : LgS} {R : RS} {t l9 : SB} {O : OB} (hr : O.2.1 = 0) :
    Ev l G 11 1 6 mX9_refusalDetail [.ref (A 6 0)] (hC h A (M, N, c, q, H, L, R, t, l9, O)) (Tr "java/util/NoSuchElementException" (hC h A (M, N, c, q, H, L, R, t, l9, O))) := by
  refine Ev.of hl (by decide) (Nat.le_of_ble_eq_true rfl) ?_
  refine g_aload_n (i := 0) dX9_refusalDetail_0 rfl rfl ?_
  refine g_callV (ev_requireRefusal_no hl hr) dX9_refusalDetail_1 ml_X9_169 cvX9_requireRefusal K_X9 rfl hC_6 rfl rfl (Nat.le_of_ble_eq_true rfl) (Nat.le_of_ble_eq_true rfl) (Nat.le_refl _) (Nat.le_refl _) kr_tr (kx_tr rfl ⟨rfl, rfl⟩)

set_option maxRecDepth 100000 in
theorem ev_border {l : Launch} {G : GG} (hl : l.stackTraces = false) {A : AD} {h : AH} {M : Nat → MS} {N : Nat × Nat} {c : Nat → Int32} {q : Nat → Nat} {H : HS} {L : LgS} {R : RS} {t l9 : SB} {O : OB} {s : Nat} (hs : s < 4) :
    Ev l G 12 0 0 mX9_border [.ref (A 6 0), .int (nI s)] (hC h A (M, N, c, q, H, L, R, t, l9, O)) (Rt (some (.int ((M 0).2.2.2.1 s))) (hC h A (M, N, c, q, H, L, R, t, l9, O))) := by
  refine Ev.of hl (by decide) (Nat.le_of_ble_eq_true rfl) ?_
  refine g_iload_n (i := 1) dX9_border_0 rfl rfl ?_
  refine g_callS (ev_requireSide_ok hl ⟨nI_pos' (by omega), (nI_lt' rfl (by omega) (by decide)).mpr hs⟩) dX9_border_1 ml_X9_172 csX9_requireSide rfl rfl (Nat.le_of_ble_eq_true rfl) (Nat.le_of_ble_eq_true rfl) (Nat.zero_le _) (Nat.zero_le _) (kr_vd ?_) kx_rt
  refine g_aload_n (i := 0) dX9_border_4 rfl rfl ?_
  refine g_getf dX9_border_5 K_X9 (k := 0) fl_X9_10 (Nat.le_of_ble_eq_true rfl) hC_6 rfl ?_
  refine g_getN dX9_border_8 K_X3 (k := 3) fl_X9_181 (Nat.le_of_ble_eq_true rfl) (hC_map (g := 0) (by decide)).1 rfl ?_
  refine g_iload_n (i := 1) dX9_border_11 rfl rfl ?_
  refine g_iald dX9_border_12 (hC_map (g := 0) (by decide)).2.2.2.2.1 (ix_nI (by omega)) hs ?_
  refine g_iret dX9_border_13 rfl rfl ?_
  exact ⟨rfl, rfl⟩

set_option maxRecDepth 100000 in
theorem ev_border_no {l : Launch} {G : GG} (hl : l.stackTraces = false) {A : AD} {h : AH} {M : Nat → MS} {N : Nat × Nat} {c : Nat → Int32} {q : Nat → Nat} {H : HS} {L : LgS} {R : RS} {t l9 : SB} {O : OB} {x : Int32} (hs : ¬ sideP x) :
    Ev l G 12 1 6 mX9_border [.ref (A 6 0), .int x] (hC h A (M, N, c, q, H, L, R, t, l9, O)) (Tr "java/lang/IndexOutOfBoundsException" (hC h A (M, N, c, q, H, L, R, t, l9, O))) := by
  refine Ev.of hl (by decide) (Nat.le_of_ble_eq_true rfl) ?_
  refine g_iload_n (i := 1) dX9_border_0 rfl rfl ?_
  refine g_callS (ev_requireSide_no hl hs) dX9_border_1 ml_X9_172 csX9_requireSide rfl rfl (Nat.le_of_ble_eq_true rfl) (Nat.le_of_ble_eq_true rfl) (Nat.le_refl _) (Nat.le_refl _) kr_tr (kx_tr rfl ⟨rfl, rfl⟩)

set_option maxRecDepth 100000 in
theorem ev_lostBy {l : Launch} {G : GG} (hl : l.stackTraces = false) {A : AD} {h : AH} {M : Nat → MS} {N : Nat × Nat} {c : Nat → Int32} {q : Nat → Nat} {H : HS} {L : LgS} {R : RS} {t l9 : SB} {O : OB} {s : Nat} (hs : s < 4) :
    Ev l G 12 0 0 mX9_lostBy [.ref (A 6 0), .int (nI s)] (hC h A (M, N, c, q, H, L, R, t, l9, O)) (Rt (some (.int ((M 0).2.2.2.2.1 s))) (hC h A (M, N, c, q, H, L, R, t, l9, O))) := by
  refine Ev.of hl (by decide) (Nat.le_of_ble_eq_true rfl) ?_
  refine g_iload_n (i := 1) dX9_lostBy_0 rfl rfl ?_
  refine g_callS (ev_requireSide_ok hl ⟨nI_pos' (by omega), (nI_lt' rfl (by omega) (by decide)).mpr hs⟩) dX9_lostBy_1 ml_X9_172 csX9_requireSide rfl rfl (Nat.le_of_ble_eq_true rfl) (Nat.le_of_ble_eq_true rfl) (Nat.zero_le _) (Nat.zero_le _) (kr_vd ?_) kx_rt
  refine g_aload_n (i := 0) dX9_lostBy_4 rfl rfl ?_
  refine g_getf dX9_lostBy_5 K_X9 (k := 0) fl_X9_10 (Nat.le_of_ble_eq_true rfl) hC_6 rfl ?_
  refine g_getN dX9_lostBy_8 K_X3 (k := 4) fl_X9_184 (Nat.le_of_ble_eq_true rfl) (hC_map (g := 0) (by decide)).1 rfl ?_
  refine g_iload_n (i := 1) dX9_lostBy_11 rfl rfl ?_
  refine g_iald dX9_lostBy_12 (hC_map (g := 0) (by decide)).2.2.2.2.2 (ix_nI (by omega)) hs ?_
  refine g_iret dX9_lostBy_13 rfl rfl ?_
  exact ⟨rfl, rfl⟩

set_option maxRecDepth 100000 in
theorem ev_lostBy_no {l : Launch} {G : GG} (hl : l.stackTraces = false) {A : AD} {h : AH} {M : Nat → MS} {N : Nat × Nat} {c : Nat → Int32} {q : Nat → Nat} {H : HS} {L : LgS} {R : RS} {t l9 : SB} {O : OB} {x : Int32} (hs : ¬ sideP x) :
    Ev l G 12 1 6 mX9_lostBy [.ref (A 6 0), .int x] (hC h A (M, N, c, q, H, L, R, t, l9, O)) (Tr "java/lang/IndexOutOfBoundsException" (hC h A (M, N, c, q, H, L, R, t, l9, O))) := by
  refine Ev.of hl (by decide) (Nat.le_of_ble_eq_true rfl) ?_
  refine g_iload_n (i := 1) dX9_lostBy_0 rfl rfl ?_
  refine g_callS (ev_requireSide_no hl hs) dX9_lostBy_1 ml_X9_172 csX9_requireSide rfl rfl (Nat.le_of_ble_eq_true rfl) (Nat.le_of_ble_eq_true rfl) (Nat.le_refl _) (Nat.le_refl _) kr_tr (kx_tr rfl ⟨rfl, rfl⟩)

set_option maxRecDepth 100000 in
theorem ev_cellBits {l : Launch} {G : GG} (hl : l.stackTraces = false) {A : AD} {h : AH} {M : Nat → MS} {N : Nat × Nat} {c : Nat → Int32} {q : Nat → Nat} {H : HS} {L : LgS} {R : RS} {t l9 : SB} {O : OB} {v : Int32} (hv : levP v) :
    Ev l G 12 0 0 mX9_cellBits [.ref (A 6 0), .int v] (hC h A (M, N, c, q, H, L, R, t, l9, O)) (Rt (some (.long (levN (M 0).2.1 v 64))) (hC h A (M, N, c, q, H, L, R, t, l9, O))) := by
  refine Ev.of hl (by decide) (Nat.le_of_ble_eq_true rfl) ?_
  refine g_iload_n (i := 1) dX9_cellBits_0 rfl rfl ?_
  refine g_callS (ev_requireLevel_ok hl hv) dX9_cellBits_1 ml_X9_202 csX9_requireLevel rfl rfl (Nat.le_of_ble_eq_true rfl) (Nat.le_of_ble_eq_true rfl) (Nat.zero_le _) (Nat.zero_le _) (kr_vd ?_) kx_rt
  refine g_aload_n (i := 0) dX9_cellBits_4 rfl rfl ?_
  refine g_getf dX9_cellBits_5 K_X9 (k := 0) fl_X9_10 (Nat.le_of_ble_eq_true rfl) hC_6 rfl ?_
  refine g_iload_n (i := 1) dX9_cellBits_8 rfl rfl ?_
  refine g_callV (ev_cellsOfLevel hl (hC_map (g := 0) (by decide))) dX9_cellBits_9 ml_X9_208 cvX3_cellsOfLevel K_X3 rfl (hC_map (g := 0) (by decide)).1 rfl rfl (Nat.le_of_ble_eq_true rfl) (Nat.le_of_ble_eq_true rfl) (Nat.zero_le _) (Nat.zero_le _) (kr_rt ?_) kx_rt
  refine g_lret dX9_cellBits_12 rfl ?_
  exact ⟨rfl, rfl⟩

set_option maxRecDepth 100000 in
theorem ev_cellBits_no {l : Launch} {G : GG} (hl : l.stackTraces = false) {A : AD} {h : AH} {M : Nat → MS} {N : Nat × Nat} {c : Nat → Int32} {q : Nat → Nat} {H : HS} {L : LgS} {R : RS} {t l9 : SB} {O : OB} {v : Int32} (hv : ¬ levP v) :
    Ev l G 12 1 6 mX9_cellBits [.ref (A 6 0), .int v] (hC h A (M, N, c, q, H, L, R, t, l9, O)) (Tr "java/lang/IllegalArgumentException" (hC h A (M, N, c, q, H, L, R, t, l9, O))) := by
  refine Ev.of hl (by decide) (Nat.le_of_ble_eq_true rfl) ?_
  refine g_iload_n (i := 1) dX9_cellBits_0 rfl rfl ?_
  refine g_callS (ev_requireLevel_no hl hv) dX9_cellBits_1 ml_X9_202 csX9_requireLevel rfl rfl (Nat.le_of_ble_eq_true rfl) (Nat.le_of_ble_eq_true rfl) (Nat.le_refl _) (Nat.le_refl _) kr_tr (kx_tr rfl ⟨rfl, rfl⟩)

set_option maxRecDepth 100000 in
theorem ev_regions {l : Launch} {G : GG} (hl : l.stackTraces = false) {A : AD} {h : AH} {M : Nat → MS} {N : Nat × Nat} {c : Nat → Int32} {q : Nat → Nat} {H : HS} {L : LgS} {R : RS} {t l9 : SB} {O : OB} {v : Int32} (hv : levP v) :
    Ev l G 13 0 0 mX9_regions [.ref (A 6 0), .int v] (hC h A (M, N, c, q, H, L, R, t, l9, O)) (Rt (some (.int (regN 64 0 (levN (M 0).2.1 v 64) 0))) (hC h A (M, N, c, q, H, L, R, t, l9, O))) := by
  refine Ev.of hl (by decide) (Nat.le_of_ble_eq_true rfl) ?_
  refine g_iload_n (i := 1) dX9_regions_0 rfl rfl ?_
  refine g_callS (ev_requireLevel_ok hl hv) dX9_regions_1 ml_X9_202 csX9_requireLevel rfl rfl (Nat.le_of_ble_eq_true rfl) (Nat.le_of_ble_eq_true rfl) (Nat.zero_le _) (Nat.zero_le _) (kr_vd ?_) kx_rt
  refine g_aload_n (i := 0) dX9_regions_4 rfl rfl ?_
  refine g_getf dX9_regions_5 K_X9 (k := 0) fl_X9_10 (Nat.le_of_ble_eq_true rfl) hC_6 rfl ?_
  refine g_iload_n (i := 1) dX9_regions_8 rfl rfl ?_
  refine g_callV (ev_cellsOfLevel hl (hC_map (g := 0) (by decide))) dX9_regions_9 ml_X9_208 cvX3_cellsOfLevel K_X3 rfl (hC_map (g := 0) (by decide)).1 rfl rfl (Nat.le_of_ble_eq_true rfl) (Nat.le_of_ble_eq_true rfl) (Nat.zero_le _) (Nat.zero_le _) (kr_rt ?_) kx_rt
  refine g_callS (ev_countRegions hl) dX9_regions_12 ml_X9_214 csX6_countRegions rfl rfl (Nat.le_of_ble_eq_true rfl) (Nat.le_of_ble_eq_true rfl) (Nat.zero_le _) (Nat.zero_le _) (kr_rt ?_) kx_rt
  refine g_iret dX9_regions_15 rfl rfl ?_
  exact ⟨rfl, rfl⟩

set_option maxRecDepth 100000 in
theorem ev_regions_no {l : Launch} {G : GG} (hl : l.stackTraces = false) {A : AD} {h : AH} {M : Nat → MS} {N : Nat × Nat} {c : Nat → Int32} {q : Nat → Nat} {H : HS} {L : LgS} {R : RS} {t l9 : SB} {O : OB} {v : Int32} (hv : ¬ levP v) :
    Ev l G 13 1 6 mX9_regions [.ref (A 6 0), .int v] (hC h A (M, N, c, q, H, L, R, t, l9, O)) (Tr "java/lang/IllegalArgumentException" (hC h A (M, N, c, q, H, L, R, t, l9, O))) := by
  refine Ev.of hl (by decide) (Nat.le_of_ble_eq_true rfl) ?_
  refine g_iload_n (i := 1) dX9_regions_0 rfl rfl ?_
  refine g_callS (ev_requireLevel_no hl hv) dX9_regions_1 ml_X9_202 csX9_requireLevel rfl rfl (Nat.le_of_ble_eq_true rfl) (Nat.le_of_ble_eq_true rfl) (Nat.le_refl _) (Nat.le_refl _) kr_tr (kx_tr rfl ⟨rfl, rfl⟩)

set_option maxRecDepth 100000 in
theorem ev_regionsU {l : Launch} {G : GG} (hl : l.stackTraces = false) {A : AD} {h : AH} {M : Nat → MS} {N : Nat × Nat} {c : Nat → Int32} {q : Nat → Nat} {H : HS} {L : LgS} {R : RS} {t l9 : SB} {O : OB} {v : Int32} (hv : levP v) :
    Ev l G 13 0 0 mX9_regionsByUnions [.ref (A 6 0), .int v] (hC h A (M, N, c, q, H, L, R, t, l9, O)) (RtX (some (.int (unAN (levN (M 0).2.1 v 64) 64))) (fun q' => (hC h A (M, N, c, q', H, L, R, t, l9, O)))) := by
  refine Ev.of hl (by decide) (Nat.le_of_ble_eq_true rfl) ?_
  refine g_iload_n (i := 1) dX9_regionsByUnions_0 rfl rfl ?_
  refine g_callS (ev_requireLevel_ok hl hv) dX9_regionsByUnions_1 ml_X9_202 csX9_requireLevel rfl rfl (Nat.le_of_ble_eq_true rfl) (Nat.le_of_ble_eq_true rfl) (Nat.zero_le _) (Nat.zero_le _) (kr_vd ?_) kx_rt
  refine g_aload_n (i := 0) dX9_regionsByUnions_4 rfl rfl ?_
  refine g_getf dX9_regionsByUnions_5 K_X9 (k := 6) fl_X9_42 (Nat.le_of_ble_eq_true rfl) hC_6 rfl ?_
  refine g_aload_n (i := 0) dX9_regionsByUnions_8 rfl rfl ?_
  refine g_getf dX9_regionsByUnions_9 K_X9 (k := 0) fl_X9_10 (Nat.le_of_ble_eq_true rfl) hC_6 rfl ?_
  refine g_iload_n (i := 1) dX9_regionsByUnions_12 rfl rfl ?_
  refine g_callV (ev_cellsOfLevel hl (hC_map (g := 0) (by decide))) dX9_regionsByUnions_13 ml_X9_208 cvX3_cellsOfLevel K_X3 rfl (hC_map (g := 0) (by decide)).1 rfl rfl (Nat.le_of_ble_eq_true rfl) (Nat.le_of_ble_eq_true rfl) (Nat.zero_le _) (Nat.zero_le _) (kr_rt ?_) kx_rt
  refine g_callV (wr_unions hl) dX9_regionsByUnions_16 ml_X9_220 cvX8_countRegions K_X8 rfl hC_11 rfl rfl (Nat.le_of_ble_eq_true rfl) (Nat.le_of_ble_eq_true rfl) (Nat.zero_le _) (Nat.zero_le _) (kr_x (fun x9 => ?_)) kx_x
  refine g_iret dX9_regionsByUnions_19 rfl rfl ?_
  exact ⟨rfl, x9, rfl⟩

set_option maxRecDepth 100000 in
theorem ev_regionsU_no {l : Launch} {G : GG} (hl : l.stackTraces = false) {A : AD} {h : AH} {M : Nat → MS} {N : Nat × Nat} {c : Nat → Int32} {q : Nat → Nat} {H : HS} {L : LgS} {R : RS} {t l9 : SB} {O : OB} {v : Int32} (hv : ¬ levP v) :
    Ev l G 13 1 6 mX9_regionsByUnions [.ref (A 6 0), .int v] (hC h A (M, N, c, q, H, L, R, t, l9, O)) (Tr "java/lang/IllegalArgumentException" (hC h A (M, N, c, q, H, L, R, t, l9, O))) := by
  refine Ev.of hl (by decide) (Nat.le_of_ble_eq_true rfl) ?_
  refine g_iload_n (i := 1) dX9_regionsByUnions_0 rfl rfl ?_
  refine g_callS (ev_requireLevel_no hl hv) dX9_regionsByUnions_1 ml_X9_202 csX9_requireLevel rfl rfl (Nat.le_of_ble_eq_true rfl) (Nat.le_of_ble_eq_true rfl) (Nat.le_refl _) (Nat.le_refl _) kr_tr (kx_tr rfl ⟨rfl, rfl⟩)

set_option maxRecDepth 100000 in
theorem ev_holes {l : Launch} {G : GG} (hl : l.stackTraces = false) {A : AD} {h : AH} {M : Nat → MS} {N : Nat × Nat} {c : Nat → Int32} {q : Nat → Nat} {H : HS} {L : LgS} {R : RS} {t l9 : SB} {O : OB} {v : Int32} (hv : levP v) :
    Ev l G 13 0 0 mX9_holes [.ref (A 6 0), .int v] (hC h A (M, N, c, q, H, L, R, t, l9, O)) (Rt (some (.int (holN 64 0 ((levN (M 0).2.1 v 64) ^^^ (-1)) 0))) (hC h A (M, N, c, q, H, L, R, t, l9, O))) := by
  refine Ev.of hl (by decide) (Nat.le_of_ble_eq_true rfl) ?_
  refine g_iload_n (i := 1) dX9_holes_0 rfl rfl ?_
  refine g_callS (ev_requireLevel_ok hl hv) dX9_holes_1 ml_X9_202 csX9_requireLevel rfl rfl (Nat.le_of_ble_eq_true rfl) (Nat.le_of_ble_eq_true rfl) (Nat.zero_le _) (Nat.zero_le _) (kr_vd ?_) kx_rt
  refine g_aload_n (i := 0) dX9_holes_4 rfl rfl ?_
  refine g_getf dX9_holes_5 K_X9 (k := 0) fl_X9_10 (Nat.le_of_ble_eq_true rfl) hC_6 rfl ?_
  refine g_iload_n (i := 1) dX9_holes_8 rfl rfl ?_
  refine g_callV (ev_cellsOfLevel hl (hC_map (g := 0) (by decide))) dX9_holes_9 ml_X9_208 cvX3_cellsOfLevel K_X3 rfl (hC_map (g := 0) (by decide)).1 rfl rfl (Nat.le_of_ble_eq_true rfl) (Nat.le_of_ble_eq_true rfl) (Nat.zero_le _) (Nat.zero_le _) (kr_rt ?_) kx_rt
  refine g_callS (ev_countHoles hl) dX9_holes_12 ml_X9_221 csX6_countHoles rfl rfl (Nat.le_of_ble_eq_true rfl) (Nat.le_of_ble_eq_true rfl) (Nat.zero_le _) (Nat.zero_le _) (kr_rt ?_) kx_rt
  refine g_iret dX9_holes_15 rfl rfl ?_
  exact ⟨rfl, rfl⟩

set_option maxRecDepth 100000 in
theorem ev_holes_no {l : Launch} {G : GG} (hl : l.stackTraces = false) {A : AD} {h : AH} {M : Nat → MS} {N : Nat × Nat} {c : Nat → Int32} {q : Nat → Nat} {H : HS} {L : LgS} {R : RS} {t l9 : SB} {O : OB} {v : Int32} (hv : ¬ levP v) :
    Ev l G 13 1 6 mX9_holes [.ref (A 6 0), .int v] (hC h A (M, N, c, q, H, L, R, t, l9, O)) (Tr "java/lang/IllegalArgumentException" (hC h A (M, N, c, q, H, L, R, t, l9, O))) := by
  refine Ev.of hl (by decide) (Nat.le_of_ble_eq_true rfl) ?_
  refine g_iload_n (i := 1) dX9_holes_0 rfl rfl ?_
  refine g_callS (ev_requireLevel_no hl hv) dX9_holes_1 ml_X9_202 csX9_requireLevel rfl rfl (Nat.le_of_ble_eq_true rfl) (Nat.le_of_ble_eq_true rfl) (Nat.le_refl _) (Nat.le_refl _) kr_tr (kx_tr rfl ⟨rfl, rfl⟩)

set_option maxRecDepth 100000 in
theorem ev_holesSq {l : Launch} {G : GG} (hl : l.stackTraces = false) {A : AD} {h : AH} {M : Nat → MS} {N : Nat × Nat} {c : Nat → Int32} {q : Nat → Nat} {H : HS} {L : LgS} {R : RS} {t l9 : SB} {O : OB} {b : Int64} :
    Ev l G 14 0 0 mX9_countHolesBySquares [.ref (A 6 0), .long b] (hC h A (M, N, c, q, H, L, R, t, l9, O)) (RtX (some (.int (unAN b 64 - sqAll b 9 (-1) 0 / 4))) (fun q' => (hC h A (M, N, c, q', H, L, R, t, l9, O)))) := by
  refine Ev.of hl (by decide) (Nat.le_of_ble_eq_true rfl) ?_
  refine g_aload_n (i := 0) dX9_countHolesBySquares_0 rfl rfl ?_
  refine g_getf dX9_countHolesBySquares_1 K_X9 (k := 6) fl_X9_42 (Nat.le_of_ble_eq_true rfl) hC_6 rfl ?_
  refine g_lload_n (i := 1) dX9_countHolesBySquares_4 rfl rfl ?_
  refine g_callV (wr_unions hl) dX9_countHolesBySquares_5 ml_X9_220 cvX8_countRegions K_X8 rfl hC_11 rfl rfl (Nat.le_of_ble_eq_true rfl) (Nat.le_of_ble_eq_true rfl) (Nat.zero_le _) (Nat.zero_le _) (kr_x (fun x9 => ?_)) kx_x
  refine g_lload_n (i := 1) dX9_countHolesBySquares_8 rfl rfl ?_
  refine g_callS (ev_countSquares hl) dX9_countHolesBySquares_9 ml_X9_436 csX6_countSquares rfl rfl (Nat.le_of_ble_eq_true rfl) (Nat.le_of_ble_eq_true rfl) (Nat.zero_le _) (Nat.zero_le _) (kr_rt ?_) kx_rt
  refine g_iconst (v := 4) dX9_countHolesBySquares_12 (by decide) ?_
  refine g_idiv dX9_countHolesBySquares_13 (by decide) ?_
  refine g_isub dX9_countHolesBySquares_14 ?_
  refine g_iret dX9_countHolesBySquares_15 rfl rfl ?_
  exact ⟨rfl, x9, rfl⟩

set_option maxRecDepth 100000 in
theorem ev_holesBySquares {l : Launch} {G : GG} (hl : l.stackTraces = false) {A : AD} {h : AH} {M : Nat → MS} {N : Nat × Nat} {c : Nat → Int32} {q : Nat → Nat} {H : HS} {L : LgS} {R : RS} {t l9 : SB} {O : OB} {v : Int32} (hv : levP v) :
    Ev l G 15 0 0 mX9_holesBySquares [.ref (A 6 0), .int v] (hC h A (M, N, c, q, H, L, R, t, l9, O)) (RtX (some (.int (unAN (levN (M 0).2.1 v 64) 64 - sqAll (levN (M 0).2.1 v 64) 9 (-1) 0 / 4))) (fun q' => (hC h A (M, N, c, q', H, L, R, t, l9, O)))) := by
  refine Ev.of hl (by decide) (Nat.le_of_ble_eq_true rfl) ?_
  refine g_iload_n (i := 1) dX9_holesBySquares_0 rfl rfl ?_
  refine g_callS (ev_requireLevel_ok hl hv) dX9_holesBySquares_1 ml_X9_202 csX9_requireLevel rfl rfl (Nat.le_of_ble_eq_true rfl) (Nat.le_of_ble_eq_true rfl) (Nat.zero_le _) (Nat.zero_le _) (kr_vd ?_) kx_rt
  refine g_aload_n (i := 0) dX9_holesBySquares_4 rfl rfl ?_
  refine g_aload_n (i := 0) dX9_holesBySquares_5 rfl rfl ?_
  refine g_getf dX9_holesBySquares_6 K_X9 (k := 0) fl_X9_10 (Nat.le_of_ble_eq_true rfl) hC_6 rfl ?_
  refine g_iload_n (i := 1) dX9_holesBySquares_9 rfl rfl ?_
  refine g_callV (ev_cellsOfLevel hl (hC_map (g := 0) (by decide))) dX9_holesBySquares_10 ml_X9_208 cvX3_cellsOfLevel K_X3 rfl (hC_map (g := 0) (by decide)).1 rfl rfl (Nat.le_of_ble_eq_true rfl) (Nat.le_of_ble_eq_true rfl) (Nat.zero_le _) (Nat.zero_le _) (kr_rt ?_) kx_rt
  refine g_callV (ev_holesSq hl) dX9_holesBySquares_13 ml_X9_224 cvX9_countHolesBySquares K_X9 rfl hC_6 rfl rfl (Nat.le_of_ble_eq_true rfl) (Nat.le_of_ble_eq_true rfl) (Nat.zero_le _) (Nat.zero_le _) (kr_x (fun x9 => ?_)) kx_x
  refine g_iret dX9_holesBySquares_16 rfl rfl ?_
  exact ⟨rfl, x9, rfl⟩

set_option maxRecDepth 100000 in
theorem ev_holesBySquares_no {l : Launch} {G : GG} (hl : l.stackTraces = false) {A : AD} {h : AH} {M : Nat → MS} {N : Nat × Nat} {c : Nat → Int32} {q : Nat → Nat} {H : HS} {L : LgS} {R : RS} {t l9 : SB} {O : OB} {v : Int32} (hv : ¬ levP v) :
    Ev l G 15 1 6 mX9_holesBySquares [.ref (A 6 0), .int v] (hC h A (M, N, c, q, H, L, R, t, l9, O)) (Tr "java/lang/IllegalArgumentException" (hC h A (M, N, c, q, H, L, R, t, l9, O))) := by
  refine Ev.of hl (by decide) (Nat.le_of_ble_eq_true rfl) ?_
  refine g_iload_n (i := 1) dX9_holesBySquares_0 rfl rfl ?_
  refine g_callS (ev_requireLevel_no hl hv) dX9_holesBySquares_1 ml_X9_202 csX9_requireLevel rfl rfl (Nat.le_of_ble_eq_true rfl) (Nat.le_of_ble_eq_true rfl) (Nat.le_refl _) (Nat.le_refl _) kr_tr (kx_tr rfl ⟨rfl, rfl⟩)

set_option maxRecDepth 100000 in
theorem ev_contour {l : Launch} {G : GG} (hl : l.stackTraces = false) {A : AD} {h : AH} {M : Nat → MS} {N : Nat × Nat} {c : Nat → Int32} {q : Nat → Nat} {H : HS} {L : LgS} {R : RS} {t l9 : SB} {O : OB} {v : Int32} (hv : levP v) :
    Ev l G 13 0 0 mX9_contourLength [.ref (A 6 0), .int v] (hC h A (M, N, c, q, H, L, R, t, l9, O)) (Rt (some (.int (conN (levN (M 0).2.1 v 64) 64))) (hC h A (M, N, c, q, H, L, R, t, l9, O))) := by
  refine Ev.of hl (by decide) (Nat.le_of_ble_eq_true rfl) ?_
  refine g_iload_n (i := 1) dX9_contourLength_0 rfl rfl ?_
  refine g_callS (ev_requireLevel_ok hl hv) dX9_contourLength_1 ml_X9_202 csX9_requireLevel rfl rfl (Nat.le_of_ble_eq_true rfl) (Nat.le_of_ble_eq_true rfl) (Nat.zero_le _) (Nat.zero_le _) (kr_vd ?_) kx_rt
  refine g_aload_n (i := 0) dX9_contourLength_4 rfl rfl ?_
  refine g_getf dX9_contourLength_5 K_X9 (k := 0) fl_X9_10 (Nat.le_of_ble_eq_true rfl) hC_6 rfl ?_
  refine g_iload_n (i := 1) dX9_contourLength_8 rfl rfl ?_
  refine g_callV (ev_cellsOfLevel hl (hC_map (g := 0) (by decide))) dX9_contourLength_9 ml_X9_208 cvX3_cellsOfLevel K_X3 rfl (hC_map (g := 0) (by decide)).1 rfl rfl (Nat.le_of_ble_eq_true rfl) (Nat.le_of_ble_eq_true rfl) (Nat.zero_le _) (Nat.zero_le _) (kr_rt ?_) kx_rt
  refine g_callS (ev_measureContour hl) dX9_contourLength_12 ml_X9_227 csX6_measureContour rfl rfl (Nat.le_of_ble_eq_true rfl) (Nat.le_of_ble_eq_true rfl) (Nat.zero_le _) (Nat.zero_le _) (kr_rt ?_) kx_rt
  refine g_iret dX9_contourLength_15 rfl rfl ?_
  exact ⟨rfl, rfl⟩

set_option maxRecDepth 100000 in
theorem ev_contour_no {l : Launch} {G : GG} (hl : l.stackTraces = false) {A : AD} {h : AH} {M : Nat → MS} {N : Nat × Nat} {c : Nat → Int32} {q : Nat → Nat} {H : HS} {L : LgS} {R : RS} {t l9 : SB} {O : OB} {v : Int32} (hv : ¬ levP v) :
    Ev l G 13 1 6 mX9_contourLength [.ref (A 6 0), .int v] (hC h A (M, N, c, q, H, L, R, t, l9, O)) (Tr "java/lang/IllegalArgumentException" (hC h A (M, N, c, q, H, L, R, t, l9, O))) := by
  refine Ev.of hl (by decide) (Nat.le_of_ble_eq_true rfl) ?_
  refine g_iload_n (i := 1) dX9_contourLength_0 rfl rfl ?_
  refine g_callS (ev_requireLevel_no hl hv) dX9_contourLength_1 ml_X9_202 csX9_requireLevel rfl rfl (Nat.le_of_ble_eq_true rfl) (Nat.le_of_ble_eq_true rfl) (Nat.le_refl _) (Nat.le_refl _) kr_tr (kx_tr rfl ⟨rfl, rfl⟩)

set_option maxRecDepth 100000 in
theorem ev_contourP {l : Launch} {G : GG} (hl : l.stackTraces = false) {A : AD} {h : AH} {M : Nat → MS} {N : Nat × Nat} {c : Nat → Int32} {q : Nat → Nat} {H : HS} {L : LgS} {R : RS} {t l9 : SB} {O : OB} {v : Int32} (hv : levP v) :
    Ev l G 12 0 0 mX9_contourLengthByPairs [.ref (A 6 0), .int v] (hC h A (M, N, c, q, H, L, R, t, l9, O)) (Rt (some (.int (4 * pcJ (levN (M 0).2.1 v 64) - 2 * (pcJ ((levN (M 0).2.1 v 64) &&& srl (levN (M 0).2.1 v 64) 1 &&& 9187201950435737471) + pcJ ((levN (M 0).2.1 v 64) &&& srl (levN (M 0).2.1 v 64) 8))))) (hC h A (M, N, c, q, H, L, R, t, l9, O))) := by
  refine Ev.of hl (by decide) (Nat.le_of_ble_eq_true rfl) ?_
  refine g_iload_n (i := 1) dX9_contourLengthByPairs_0 rfl rfl ?_
  refine g_callS (ev_requireLevel_ok hl hv) dX9_contourLengthByPairs_1 ml_X9_202 csX9_requireLevel rfl rfl (Nat.le_of_ble_eq_true rfl) (Nat.le_of_ble_eq_true rfl) (Nat.zero_le _) (Nat.zero_le _) (kr_vd ?_) kx_rt
  refine g_aload_n (i := 0) dX9_contourLengthByPairs_4 rfl rfl ?_
  refine g_getf dX9_contourLengthByPairs_5 K_X9 (k := 0) fl_X9_10 (Nat.le_of_ble_eq_true rfl) hC_6 rfl ?_
  refine g_iload_n (i := 1) dX9_contourLengthByPairs_8 rfl rfl ?_
  refine g_callV (ev_cellsOfLevel hl (hC_map (g := 0) (by decide))) dX9_contourLengthByPairs_9 ml_X9_208 cvX3_cellsOfLevel K_X3 rfl (hC_map (g := 0) (by decide)).1 rfl rfl (Nat.le_of_ble_eq_true rfl) (Nat.le_of_ble_eq_true rfl) (Nat.zero_le _) (Nat.zero_le _) (kr_rt ?_) kx_rt
  refine g_callS (ev_contourByPairs hl) dX9_contourLengthByPairs_12 ml_X9_230 csX6_measureContourByPairs rfl rfl (Nat.le_of_ble_eq_true rfl) (Nat.le_of_ble_eq_true rfl) (Nat.zero_le _) (Nat.zero_le _) (kr_rt ?_) kx_rt
  refine g_iret dX9_contourLengthByPairs_15 rfl rfl ?_
  exact ⟨rfl, rfl⟩

set_option maxRecDepth 100000 in
theorem ev_contourP_no {l : Launch} {G : GG} (hl : l.stackTraces = false) {A : AD} {h : AH} {M : Nat → MS} {N : Nat × Nat} {c : Nat → Int32} {q : Nat → Nat} {H : HS} {L : LgS} {R : RS} {t l9 : SB} {O : OB} {v : Int32} (hv : ¬ levP v) :
    Ev l G 12 1 6 mX9_contourLengthByPairs [.ref (A 6 0), .int v] (hC h A (M, N, c, q, H, L, R, t, l9, O)) (Tr "java/lang/IllegalArgumentException" (hC h A (M, N, c, q, H, L, R, t, l9, O))) := by
  refine Ev.of hl (by decide) (Nat.le_of_ble_eq_true rfl) ?_
  refine g_iload_n (i := 1) dX9_contourLengthByPairs_0 rfl rfl ?_
  refine g_callS (ev_requireLevel_no hl hv) dX9_contourLengthByPairs_1 ml_X9_202 csX9_requireLevel rfl rfl (Nat.le_of_ble_eq_true rfl) (Nat.le_of_ble_eq_true rfl) (Nat.le_refl _) (Nat.le_refl _) kr_tr (kx_tr rfl ⟨rfl, rfl⟩)

set_option maxRecDepth 100000 in
theorem ev_regionSize {l : Launch} {G : GG} (hl : l.stackTraces = false) {A : AD} {h : AH} {M : Nat → MS} {N : Nat × Nat} {c : Nat → Int32} {q : Nat → Nat} {H : HS} {L : LgS} {R : RS} {t l9 : SB} {O : OB} {i j : Nat} (hi : i < 8) (hj : j < 8) {v : Int32} (hv : levP v) :
    Ev l G 12 0 0 mX9_regionSize [.ref (A 6 0), .int (nI i), .int (nI j), .int v] (hC h A (M, N, c, q, H, L, R, t, l9, O)) (Rt (some (.int (pcJ (fillJ (bitJ (nI (8 * j + i))) (levN (M 0).2.1 v 64))))) (hC h A (M, N, c, q, H, L, R, t, l9, O))) := by
  refine Ev.of hl (by decide) (Nat.le_of_ble_eq_true rfl) ?_
  refine g_iload_n (i := 1) dX9_regionSize_0 rfl rfl ?_
  refine g_iload_n (i := 2) dX9_regionSize_1 rfl rfl ?_
  refine g_callS (ev_requireCell_ok hl (cellB_nI hi hj)) dX9_regionSize_2 ml_X9_91 csX9_requireCell rfl rfl (Nat.le_of_ble_eq_true rfl) (Nat.le_of_ble_eq_true rfl) (Nat.zero_le _) (Nat.zero_le _) (kr_vd ?_) kx_rt
  refine g_iload_n (i := 3) dX9_regionSize_5 rfl rfl ?_
  refine g_callS (ev_requireLevel_ok hl hv) dX9_regionSize_6 ml_X9_202 csX9_requireLevel rfl rfl (Nat.le_of_ble_eq_true rfl) (Nat.le_of_ble_eq_true rfl) (Nat.zero_le _) (Nat.zero_le _) (kr_vd ?_) kx_rt
  refine g_iload_n (i := 1) dX9_regionSize_9 rfl rfl ?_
  refine g_iload_n (i := 2) dX9_regionSize_10 rfl rfl ?_
  refine g_callS (ev_cellOf hl) dX9_regionSize_11 ml_X9_106 csX9_cellOf rfl rfl (Nat.le_of_ble_eq_true rfl) (Nat.le_of_ble_eq_true rfl) (Nat.zero_le _) (Nat.zero_le _) (kr_rt ?_) kx_rt
  rw [cel]
  refine g_callS (ev_bitOf hl) dX9_regionSize_14 ml_X9_233 csX6_bitOf rfl rfl (Nat.le_of_ble_eq_true rfl) (Nat.le_of_ble_eq_true rfl) (Nat.zero_le _) (Nat.zero_le _) (kr_rt ?_) kx_rt
  refine g_aload_n (i := 0) dX9_regionSize_17 rfl rfl ?_
  refine g_getf dX9_regionSize_18 K_X9 (k := 0) fl_X9_10 (Nat.le_of_ble_eq_true rfl) hC_6 rfl ?_
  refine g_iload_n (i := 3) dX9_regionSize_21 rfl rfl ?_
  refine g_callV (ev_cellsOfLevel hl (hC_map (g := 0) (by decide))) dX9_regionSize_22 ml_X9_208 cvX3_cellsOfLevel K_X3 rfl (hC_map (g := 0) (by decide)).1 rfl rfl (Nat.le_of_ble_eq_true rfl) (Nat.le_of_ble_eq_true rfl) (Nat.zero_le _) (Nat.zero_le _) (kr_rt ?_) kx_rt
  refine g_callS (ev_fillJ hl) dX9_regionSize_25 ml_X9_236 csX6_fill rfl rfl (Nat.le_of_ble_eq_true rfl) (Nat.le_of_ble_eq_true rfl) (Nat.zero_le _) (Nat.zero_le _) (kr_rt ?_) kx_rt
  refine g_callS (ev_bitCount hl) dX9_regionSize_28 ml_X9_240 csJ13_bitCount_95d88 rfl rfl (Nat.le_of_ble_eq_true rfl) (Nat.le_of_ble_eq_true rfl) (Nat.zero_le _) (Nat.zero_le _) (kr_rt ?_) kx_rt
  refine g_iret dX9_regionSize_31 rfl rfl ?_
  exact ⟨rfl, rfl⟩

set_option maxRecDepth 100000 in
theorem ev_regionSize_no1 {l : Launch} {G : GG} (hl : l.stackTraces = false) {A : AD} {h : AH} {M : Nat → MS} {N : Nat × Nat} {c : Nat → Int32} {q : Nat → Nat} {H : HS} {L : LgS} {R : RS} {t l9 : SB} {O : OB} {x y v : Int32} (hc : ¬ cellB x y) :
    Ev l G 12 1 6 mX9_regionSize [.ref (A 6 0), .int x, .int y, .int v] (hC h A (M, N, c, q, H, L, R, t, l9, O)) (Tr "java/lang/IndexOutOfBoundsException" (hC h A (M, N, c, q, H, L, R, t, l9, O))) := by
  refine Ev.of hl (by decide) (Nat.le_of_ble_eq_true rfl) ?_
  refine g_iload_n (i := 1) dX9_regionSize_0 rfl rfl ?_
  refine g_iload_n (i := 2) dX9_regionSize_1 rfl rfl ?_
  refine g_callS (ev_requireCell_no hl hc) dX9_regionSize_2 ml_X9_91 csX9_requireCell rfl rfl (Nat.le_of_ble_eq_true rfl) (Nat.le_of_ble_eq_true rfl) (Nat.le_refl _) (Nat.le_refl _) kr_tr (kx_tr rfl ⟨rfl, rfl⟩)

set_option maxRecDepth 100000 in
theorem ev_regionSize_no2 {l : Launch} {G : GG} (hl : l.stackTraces = false) {A : AD} {h : AH} {M : Nat → MS} {N : Nat × Nat} {c : Nat → Int32} {q : Nat → Nat} {H : HS} {L : LgS} {R : RS} {t l9 : SB} {O : OB} {x y v : Int32} (hc : cellB x y) (hv : ¬ levP v) :
    Ev l G 12 1 6 mX9_regionSize [.ref (A 6 0), .int x, .int y, .int v] (hC h A (M, N, c, q, H, L, R, t, l9, O)) (Tr "java/lang/IllegalArgumentException" (hC h A (M, N, c, q, H, L, R, t, l9, O))) := by
  refine Ev.of hl (by decide) (Nat.le_of_ble_eq_true rfl) ?_
  refine g_iload_n (i := 1) dX9_regionSize_0 rfl rfl ?_
  refine g_iload_n (i := 2) dX9_regionSize_1 rfl rfl ?_
  refine g_callS (ev_requireCell_ok hl hc) dX9_regionSize_2 ml_X9_91 csX9_requireCell rfl rfl (Nat.le_of_ble_eq_true rfl) (Nat.le_of_ble_eq_true rfl) (Nat.zero_le _) (Nat.zero_le _) (kr_vd ?_) kx_rt
  refine g_iload_n (i := 3) dX9_regionSize_5 rfl rfl ?_
  refine g_callS (ev_requireLevel_no hl hv) dX9_regionSize_6 ml_X9_202 csX9_requireLevel rfl rfl (Nat.le_of_ble_eq_true rfl) (Nat.le_of_ble_eq_true rfl) (Nat.le_refl _) (Nat.le_refl _) kr_tr (kx_tr rfl ⟨rfl, rfl⟩)

set_option maxRecDepth 100000 in
theorem ev_isReached {l : Launch} {G : GG} (hl : l.stackTraces = false) {A : AD} {h : AH} {M : Nat → MS} {N : Nat × Nat} {c : Nat → Int32} {q : Nat → Nat} {H : HS} {L : LgS} {R : RS} {t l9 : SB} {O : OB} {f w : Nat} {v : Int32} :
    Ev l G 12 0 0 mX9_isReached [.ref (A 6 0), .int (nI f), .int (nI w), .int v] (hC h A (M, N, c, q, H, L, R, t, l9, O)) (Rt (some (.int (if inJ (fillJ (bitJ (nI f)) (openL (M 0).1 (M 0).2.1 v 64)) (nI w) then 1 else 0))) (hC h A (M, N, c, q, H, L, R, t, l9, O))) := by
  refine Ev.of hl (by decide) (Nat.le_of_ble_eq_true rfl) ?_
  refine g_iload_n (i := 1) dX9_isReached_0 rfl rfl ?_
  refine g_callS (ev_bitOf hl) dX9_isReached_1 ml_X9_233 csX6_bitOf rfl rfl (Nat.le_of_ble_eq_true rfl) (Nat.le_of_ble_eq_true rfl) (Nat.zero_le _) (Nat.zero_le _) (kr_rt ?_) kx_rt
  refine g_aload_n (i := 0) dX9_isReached_4 rfl rfl ?_
  refine g_getf dX9_isReached_5 K_X9 (k := 0) fl_X9_10 (Nat.le_of_ble_eq_true rfl) hC_6 rfl ?_
  refine g_iload_n (i := 3) dX9_isReached_8 rfl rfl ?_
  refine g_callV (ev_openCellsUpTo hl (hC_map (g := 0) (by decide))) dX9_isReached_9 ml_X9_442 cvX3_openCellsUpTo K_X3 rfl (hC_map (g := 0) (by decide)).1 rfl rfl (Nat.le_of_ble_eq_true rfl) (Nat.le_of_ble_eq_true rfl) (Nat.zero_le _) (Nat.zero_le _) (kr_rt ?_) kx_rt
  refine g_callS (ev_fillJ hl) dX9_isReached_12 ml_X9_236 csX6_fill rfl rfl (Nat.le_of_ble_eq_true rfl) (Nat.le_of_ble_eq_true rfl) (Nat.zero_le _) (Nat.zero_le _) (kr_rt ?_) kx_rt
  refine g_lstore dX9_isReached_15 (Nat.le_of_ble_eq_true rfl) ?_
  refine g_lload dX9_isReached_17 rfl ?_
  refine g_iload_n (i := 2) dX9_isReached_19 rfl rfl ?_
  refine g_callS (ev_isIn hl) dX9_isReached_20 ml_X9_445 csX6_isIn rfl rfl (Nat.le_of_ble_eq_true rfl) (Nat.le_of_ble_eq_true rfl) (Nat.zero_le _) (Nat.zero_le _) (kr_rt ?_) kx_rt
  refine g_iret dX9_isReached_23 rfl (by split <;> rfl) ?_
  exact ⟨rfl, rfl⟩

set_option maxRecDepth 100000 in
theorem ev_findPeakT {l : Launch} {G : GG} (hl : l.stackTraces = false) {A : AD} {h : AH} {M : Nat → MS} {N : Nat × Nat} {c : Nat → Int32} {q : Nat → Nat} {H : HS} {L : LgS} {R : RS} {t l9 : SB} {O : OB} {f w : Nat} :
    Ev l G 13 0 0 mX9_findPeakByTrying [.ref (A 6 0), .int (nI f), .int (nI w)] (hC h A (M, N, c, q, H, L, R, t, l9, O)) (Rt (some (.int ((tryN (M 0) f w 64).2))) (hC h A (M, N, c, q, H, L, R, t, l9, O))) := by
  refine Ev.of hl (by decide) (Nat.le_of_ble_eq_true rfl) ?_
  have loop : ∀ (n9 : Nat) (k : Nat) (Y : Option Value), 64 - k < n9 → k ≤ 64 → Go l G mX9_findPeakByTrying 13 0 0 (Rt (some (.int (tryN (M 0) f w 64).2)) (hC h A (M, N, c, q, H, L, R, t, l9, O))) 8 [some (.ref (A 6 0)), some (.int (nI f)), some (.int (nI w)), some (.int (tryN (M 0) f w k).1), some (.int (tryN (M 0) f w k).2), some (.int (nI k)), Y] [] (hC h A (M, N, c, q, H, L, R, t, l9, O)) := by
    intro n9
    induction n9 with
    | zero => intros; omega
    | succ n9 ih =>
      intro k Y hf hk
      refine g_iload dX9_findPeakByTrying_8 rfl ?_
      refine g_bipush (v := 64) dX9_findPeakByTrying_10 (by decide) ?_
      refine g_icmp_ge (tgt := 73) dX9_findPeakByTrying_12 (by decide) (fun c12 => ?_) (fun c12 => ?_)
      · refine g_iload dX9_findPeakByTrying_73 rfl ?_
        refine g_iret dX9_findPeakByTrying_75 rfl rfl ?_
        exact ⟨by rw [show k = 64 by have := (le_nI (a := 64) rfl (by omega) (by omega)).mp c12; omega], rfl⟩
      · have hk2 : k < 64 := by have := mt (le_nI (a := 64) (b := k) rfl (by omega) (by omega)).mpr c12; omega
        refine g_aload_n (i := 0) dX9_findPeakByTrying_15 rfl rfl ?_
        refine g_getf dX9_findPeakByTrying_16 K_X9 (k := 0) fl_X9_10 (Nat.le_of_ble_eq_true rfl) hC_6 rfl ?_
        refine g_getN dX9_findPeakByTrying_19 K_X3 (k := 1) fl_X9_140 (Nat.le_of_ble_eq_true rfl) (hC_map (g := 0) (by decide)).1 rfl ?_
        refine g_iload dX9_findPeakByTrying_22 rfl ?_
        refine g_iald dX9_findPeakByTrying_24 (hC_map (g := 0) (by decide)).2.2.1 (ix_nI (by omega)) hk2 ?_
        refine g_istore dX9_findPeakByTrying_25 (Nat.le_of_ble_eq_true rfl) ?_
        refine g_iload dX9_findPeakByTrying_27 rfl ?_
        refine g_iload_n (i := 3) dX9_findPeakByTrying_29 rfl rfl ?_
        refine g_icmp_le (tgt := 67) dX9_findPeakByTrying_30 (by decide) (fun c30 => ?_) (fun c30 => ?_)
        · refine g_iinc (w := 1) dX9_findPeakByTrying_67 (by decide) rfl (nI_succ k).symm (Nat.le_of_ble_eq_true rfl) ?_
          refine g_goto (tgt := 8) dX9_findPeakByTrying_70 (by decide) ?_
          have z := ih (k + 1) (some (.int ((M 0).2.1 k))) (by omega) (by omega)
          rw [show tryN (M 0) f w (k + 1) = _ from if_neg (fun z => nlt c30 z.1)] at z
          exact z
        · refine g_iload dX9_findPeakByTrying_33 rfl ?_
          refine g_iconst (v := (-1)) dX9_findPeakByTrying_35 (by decide) ?_
          refine g_icmp_eq (tgt := 46) dX9_findPeakByTrying_36 (by decide) (fun c36 => ?_) (fun c36 => ?_)
          · refine g_aload_n (i := 0) dX9_findPeakByTrying_46 rfl rfl ?_
            refine g_iload_n (i := 1) dX9_findPeakByTrying_47 rfl rfl ?_
            refine g_iload_n (i := 2) dX9_findPeakByTrying_48 rfl rfl ?_
            refine g_iload dX9_findPeakByTrying_49 rfl ?_
            refine g_callV (ev_isReached hl) dX9_findPeakByTrying_51 ml_X9_439 cvX9_isReached K_X9 rfl hC_6 rfl rfl (Nat.le_of_ble_eq_true rfl) (Nat.le_of_ble_eq_true rfl) (Nat.zero_le _) (Nat.zero_le _) (kr_rt ?_) kx_rt
            refine g_if_eq (tgt := 64) dX9_findPeakByTrying_54 (by decide) (fun c54 => ?_) (fun c54 => ?_)
            · refine g_iload dX9_findPeakByTrying_64 rfl ?_
              refine g_istore_n (i := 3) dX9_findPeakByTrying_66 rfl (Nat.le_of_ble_eq_true rfl) ?_
              refine g_iinc (w := 1) dX9_findPeakByTrying_67 (by decide) rfl (nI_succ k).symm (Nat.le_of_ble_eq_true rfl) ?_
              refine g_goto (tgt := 8) dX9_findPeakByTrying_70 (by decide) ?_
              have z := ih (k + 1) (some (.int ((M 0).2.1 k))) (by omega) (by omega)
              rw [show tryN (M 0) f w (k + 1) = _ from (if_pos ⟨ltn c30, Or.inl c36⟩).trans (if_neg (ite_0 c54))] at z
              exact z
            · refine g_iload dX9_findPeakByTrying_57 rfl ?_
              refine g_istore dX9_findPeakByTrying_59 (Nat.le_of_ble_eq_true rfl) ?_
              refine g_goto (tgt := 67) dX9_findPeakByTrying_61 (by decide) ?_
              refine g_iinc (w := 1) dX9_findPeakByTrying_67 (by decide) rfl (nI_succ k).symm (Nat.le_of_ble_eq_true rfl) ?_
              refine g_goto (tgt := 8) dX9_findPeakByTrying_70 (by decide) ?_
              have z := ih (k + 1) (some (.int ((M 0).2.1 k))) (by omega) (by omega)
              rw [show tryN (M 0) f w (k + 1) = _ from (if_pos ⟨ltn c30, Or.inl c36⟩).trans (if_pos (ite_1 c54))] at z
              exact z
          · refine g_iload dX9_findPeakByTrying_39 rfl ?_
            refine g_iload dX9_findPeakByTrying_41 rfl ?_
            refine g_icmp_ge (tgt := 67) dX9_findPeakByTrying_43 (by decide) (fun c43 => ?_) (fun c43 => ?_)
            · refine g_iinc (w := 1) dX9_findPeakByTrying_67 (by decide) rfl (nI_succ k).symm (Nat.le_of_ble_eq_true rfl) ?_
              refine g_goto (tgt := 8) dX9_findPeakByTrying_70 (by decide) ?_
              have z := ih (k + 1) (some (.int ((M 0).2.1 k))) (by omega) (by omega)
              rw [show tryN (M 0) f w (k + 1) = _ from if_neg (fun z => z.2.elim c36 (fun y => nlt c43 y))] at z
              exact z
            · refine g_aload_n (i := 0) dX9_findPeakByTrying_46 rfl rfl ?_
              refine g_iload_n (i := 1) dX9_findPeakByTrying_47 rfl rfl ?_
              refine g_iload_n (i := 2) dX9_findPeakByTrying_48 rfl rfl ?_
              refine g_iload dX9_findPeakByTrying_49 rfl ?_
              refine g_callV (ev_isReached hl) dX9_findPeakByTrying_51 ml_X9_439 cvX9_isReached K_X9 rfl hC_6 rfl rfl (Nat.le_of_ble_eq_true rfl) (Nat.le_of_ble_eq_true rfl) (Nat.zero_le _) (Nat.zero_le _) (kr_rt ?_) kx_rt
              refine g_if_eq (tgt := 64) dX9_findPeakByTrying_54 (by decide) (fun c54 => ?_) (fun c54 => ?_)
              · refine g_iload dX9_findPeakByTrying_64 rfl ?_
                refine g_istore_n (i := 3) dX9_findPeakByTrying_66 rfl (Nat.le_of_ble_eq_true rfl) ?_
                refine g_iinc (w := 1) dX9_findPeakByTrying_67 (by decide) rfl (nI_succ k).symm (Nat.le_of_ble_eq_true rfl) ?_
                refine g_goto (tgt := 8) dX9_findPeakByTrying_70 (by decide) ?_
                have z := ih (k + 1) (some (.int ((M 0).2.1 k))) (by omega) (by omega)
                rw [show tryN (M 0) f w (k + 1) = _ from (if_pos ⟨ltn c30, Or.inr (ltn c43)⟩).trans (if_neg (ite_0 c54))] at z
                exact z
              · refine g_iload dX9_findPeakByTrying_57 rfl ?_
                refine g_istore dX9_findPeakByTrying_59 (Nat.le_of_ble_eq_true rfl) ?_
                refine g_goto (tgt := 67) dX9_findPeakByTrying_61 (by decide) ?_
                refine g_iinc (w := 1) dX9_findPeakByTrying_67 (by decide) rfl (nI_succ k).symm (Nat.le_of_ble_eq_true rfl) ?_
                refine g_goto (tgt := 8) dX9_findPeakByTrying_70 (by decide) ?_
                have z := ih (k + 1) (some (.int ((M 0).2.1 k))) (by omega) (by omega)
                rw [show tryN (M 0) f w (k + 1) = _ from (if_pos ⟨ltn c30, Or.inr (ltn c43)⟩).trans (if_pos (ite_1 c54))] at z
                exact z
  refine g_iconst (v := (-1)) dX9_findPeakByTrying_0 (by decide) ?_
  refine g_istore_n (i := 3) dX9_findPeakByTrying_1 rfl (Nat.le_of_ble_eq_true rfl) ?_
  refine g_iconst (v := (-1)) dX9_findPeakByTrying_2 (by decide) ?_
  refine g_istore dX9_findPeakByTrying_3 (Nat.le_of_ble_eq_true rfl) ?_
  refine g_iconst (v := 0) dX9_findPeakByTrying_5 (by decide) ?_
  refine g_istore dX9_findPeakByTrying_6 (Nat.le_of_ble_eq_true rfl) ?_
  exact loop 65 0 _ (by omega) (by omega)

set_option maxRecDepth 100000 in
theorem ev_coolestPeak {l : Launch} {G : GG} (hl : l.stackTraces = false) {A : AD} {h : AH} {M : Nat → MS} {N : Nat × Nat} {c : Nat → Int32} {q : Nat → Nat} {H : HS} {L : LgS} {R : RS} {t l9 : SB} {O : OB} {i j i2 j2 : Nat} (hi : i < 8) (hj : j < 8) (hi2 : i2 < 8) (hj2 : j2 < 8) (hp : ¬ fpJ (M 0) (8 * j + i) (8 * j2 + i2) H.2 = -1) :
    Ev l G 13 0 0 mX9_coolestPeak [.ref (A 6 0), .int (nI i), .int (nI j), .int (nI i2), .int (nI j2)] (hC h A (M, N, c, q, H, L, R, t, l9, O)) (RtX (some (.int (fpJ (M 0) (8 * j + i) (8 * j2 + i2) H.2))) (fun H' => (hC h A (M, N, c, q, H', L, R, t, l9, O)))) := by
  refine Ev.of hl (by decide) (Nat.le_of_ble_eq_true rfl) ?_
  refine g_iload_n (i := 1) dX9_coolestPeak_0 rfl rfl ?_
  refine g_iload_n (i := 2) dX9_coolestPeak_1 rfl rfl ?_
  refine g_callS (ev_requireCell_ok hl (cellB_nI hi hj)) dX9_coolestPeak_2 ml_X9_91 csX9_requireCell rfl rfl (Nat.le_of_ble_eq_true rfl) (Nat.le_of_ble_eq_true rfl) (Nat.zero_le _) (Nat.zero_le _) (kr_vd ?_) kx_rt
  refine g_iload_n (i := 3) dX9_coolestPeak_5 rfl rfl ?_
  refine g_iload dX9_coolestPeak_6 rfl ?_
  refine g_callS (ev_requireCell_ok hl (cellB_nI hi2 hj2)) dX9_coolestPeak_8 ml_X9_91 csX9_requireCell rfl rfl (Nat.le_of_ble_eq_true rfl) (Nat.le_of_ble_eq_true rfl) (Nat.zero_le _) (Nat.zero_le _) (kr_vd ?_) kx_rt
  refine g_aload_n (i := 0) dX9_coolestPeak_11 rfl rfl ?_
  refine g_getf dX9_coolestPeak_12 K_X9 (k := 7) fl_X9_49 (Nat.le_of_ble_eq_true rfl) hC_6 rfl ?_
  refine g_aload_n (i := 0) dX9_coolestPeak_15 rfl rfl ?_
  refine g_getf dX9_coolestPeak_16 K_X9 (k := 0) fl_X9_10 (Nat.le_of_ble_eq_true rfl) hC_6 rfl ?_
  refine g_iload_n (i := 1) dX9_coolestPeak_19 rfl rfl ?_
  refine g_iload_n (i := 2) dX9_coolestPeak_20 rfl rfl ?_
  refine g_callS (ev_cellOf hl) dX9_coolestPeak_21 ml_X9_106 csX9_cellOf rfl rfl (Nat.le_of_ble_eq_true rfl) (Nat.le_of_ble_eq_true rfl) (Nat.zero_le _) (Nat.zero_le _) (kr_rt ?_) kx_rt
  rw [cel]
  refine g_iload_n (i := 3) dX9_coolestPeak_24 rfl rfl ?_
  refine g_iload dX9_coolestPeak_25 rfl ?_
  refine g_callS (ev_cellOf hl) dX9_coolestPeak_27 ml_X9_106 csX9_cellOf rfl rfl (Nat.le_of_ble_eq_true rfl) (Nat.le_of_ble_eq_true rfl) (Nat.zero_le _) (Nat.zero_le _) (kr_rt ?_) kx_rt
  rw [cel]
  refine g_callV (wr_peak hl (fm := 8 * j + i) (to := 8 * j2 + i2) (by omega) (by omega)) dX9_coolestPeak_30 ml_X9_245 cvX0_findPeak K_X0 rfl hC_13 rfl rfl (Nat.le_of_ble_eq_true rfl) (Nat.le_of_ble_eq_true rfl) (Nat.zero_le _) (Nat.zero_le _) (kr_x (fun x9 => ?_)) kx_x
  refine g_istore dX9_coolestPeak_33 (Nat.le_of_ble_eq_true rfl) ?_
  refine g_iload dX9_coolestPeak_35 rfl ?_
  refine g_iconst (v := (-1)) dX9_coolestPeak_37 (by decide) ?_
  refine g_icmp_ne (tgt := 51) dX9_coolestPeak_38 (by decide) (fun c38 => ?_) (fun c38 => ?_)
  · refine g_iload dX9_coolestPeak_51 rfl ?_
    refine g_iret dX9_coolestPeak_53 rfl rfl ?_
    exact ⟨rfl, x9, rfl⟩
  · exact absurd c38 hp

/-- contracts that tell what is thrown but for a part of the heap that is scratch -/
def TrX {α : Type} (E : String) (F : α → AH) : Post := fun o h2 => o = .inr E ∧ ∃ c, h2 = F c
section TX9
variable {α : Type} {l : Launch} {G : GG} {M : MD} {d kc ks pc mc ms : Nat} {P : Post} {L : List (Option Value)} {rest : List Value} {E : String} {F : α → AH}
theorem kr_trx : ∀ v2 h2, TrX E F (.inl v2) h2 → Go l G M d (kc - mc) (ks - ms) P pc L (v2.toList ++ rest) h2 := by
  rintro v2 h2 ⟨e1, -⟩
  cases e1
theorem kx_trx (ht : M.2.2.2.2 = []) (hP : ∀ c, P (.inr E) (F c)) : ∀ E2 h2, TrX E F (.inr E2) h2 → GoT l G M d (kc - mc) (ks - ms) P pc L E2 h2 := by
  rintro E2 h2 ⟨e1, c, rfl⟩
  cases e1
  exact gt_out ht (hP c)
end TX9

set_option maxRecDepth 100000 in
theorem ev_coolestPeak_no2 {l : Launch} {G : GG} (hl : l.stackTraces = false) {A : AD} {h : AH} {M : Nat → MS} {N : Nat × Nat} {c : Nat → Int32} {q : Nat → Nat} {H : HS} {L : LgS} {R : RS} {t l9 : SB} {O : OB} {i j i2 j2 : Nat} (hi : i < 8) (hj : j < 8) (hi2 : i2 < 8) (hj2 : j2 < 8) (hp : fpJ (M 0) (8 * j + i) (8 * j2 + i2) H.2 = -1) :
    Ev l G 13 1 6 mX9_coolestPeak [.ref (A 6 0), .int (nI i), .int (nI j), .int (nI i2), .int (nI j2)] (hC h A (M, N, c, q, H, L, R, t, l9, O)) (TrX "java/util/NoSuchElementException" (fun H' => (hC h A (M, N, c, q, H', L, R, t, l9, O)))) := by
  refine Ev.of hl (by decide) (Nat.le_of_ble_eq_true rfl) ?_
  refine g_iload_n (i := 1) dX9_coolestPeak_0 rfl rfl ?_
  refine g_iload_n (i := 2) dX9_coolestPeak_1 rfl rfl ?_
  refine g_callS (ev_requireCell_ok hl (cellB_nI hi hj)) dX9_coolestPeak_2 ml_X9_91 csX9_requireCell rfl rfl (Nat.le_of_ble_eq_true rfl) (Nat.le_of_ble_eq_true rfl) (Nat.zero_le _) (Nat.zero_le _) (kr_vd ?_) kx_rt
  refine g_iload_n (i := 3) dX9_coolestPeak_5 rfl rfl ?_
  refine g_iload dX9_coolestPeak_6 rfl ?_
  refine g_callS (ev_requireCell_ok hl (cellB_nI hi2 hj2)) dX9_coolestPeak_8 ml_X9_91 csX9_requireCell rfl rfl (Nat.le_of_ble_eq_true rfl) (Nat.le_of_ble_eq_true rfl) (Nat.zero_le _) (Nat.zero_le _) (kr_vd ?_) kx_rt
  refine g_aload_n (i := 0) dX9_coolestPeak_11 rfl rfl ?_
  refine g_getf dX9_coolestPeak_12 K_X9 (k := 7) fl_X9_49 (Nat.le_of_ble_eq_true rfl) hC_6 rfl ?_
  refine g_aload_n (i := 0) dX9_coolestPeak_15 rfl rfl ?_
  refine g_getf dX9_coolestPeak_16 K_X9 (k := 0) fl_X9_10 (Nat.le_of_ble_eq_true rfl) hC_6 rfl ?_
  refine g_iload_n (i := 1) dX9_coolestPeak_19 rfl rfl ?_
  refine g_iload_n (i := 2) dX9_coolestPeak_20 rfl rfl ?_
  refine g_callS (ev_cellOf hl) dX9_coolestPeak_21 ml_X9_106 csX9_cellOf rfl rfl (Nat.le_of_ble_eq_true rfl) (Nat.le_of_ble_eq_true rfl) (Nat.zero_le _) (Nat.zero_le _) (kr_rt ?_) kx_rt
  rw [cel]
  refine g_iload_n (i := 3) dX9_coolestPeak_24 rfl rfl ?_
  refine g_iload dX9_coolestPeak_25 rfl ?_
  refine g_callS (ev_cellOf hl) dX9_coolestPeak_27 ml_X9_106 csX9_cellOf rfl rfl (Nat.le_of_ble_eq_true rfl) (Nat.le_of_ble_eq_true rfl) (Nat.zero_le _) (Nat.zero_le _) (kr_rt ?_) kx_rt
  rw [cel]
  refine g_callV (wr_peak hl (fm := 8 * j + i) (to := 8 * j2 + i2) (by omega) (by omega)) dX9_coolestPeak_30 ml_X9_245 cvX0_findPeak K_X0 rfl hC_13 rfl rfl (Nat.le_of_ble_eq_true rfl) (Nat.le_of_ble_eq_true rfl) (Nat.zero_le _) (Nat.zero_le _) (kr_x (fun x9 => ?_)) kx_x
  refine g_istore dX9_coolestPeak_33 (Nat.le_of_ble_eq_true rfl) ?_
  refine g_iload dX9_coolestPeak_35 rfl ?_
  refine g_iconst (v := (-1)) dX9_coolestPeak_37 (by decide) ?_
  refine g_icmp_ne (tgt := 51) dX9_coolestPeak_38 (by decide) (fun c38 => ?_) (fun c38 => ?_)
  · exact absurd hp c38
  · exact g_throwNn th_X9_164_249 dX9_coolestPeak_41 dX9_coolestPeak_44 dX9_coolestPeak_45 dX9_coolestPeak_47 dX9_coolestPeak_50 rfl (by decide) (by decide) (Nat.le_of_ble_eq_true rfl) (Nat.le_of_ble_eq_true rfl) ⟨rfl, x9, rfl⟩

set_option maxRecDepth 100000 in
theorem ev_coolestPeak_no1 {l : Launch} {G : GG} (hl : l.stackTraces = false) {A : AD} {h : AH} {M : Nat → MS} {N : Nat × Nat} {c : Nat → Int32} {q : Nat → Nat} {H : HS} {L : LgS} {R : RS} {t l9 : SB} {O : OB} {x y x2 y2 : Int32} (hc : ¬ cellB x y) :
    Ev l G 13 1 6 mX9_coolestPeak [.ref (A 6 0), .int x, .int y, .int x2, .int y2] (hC h A (M, N, c, q, H, L, R, t, l9, O)) (Tr "java/lang/IndexOutOfBoundsException" (hC h A (M, N, c, q, H, L, R, t, l9, O))) := by
  refine Ev.of hl (by decide) (Nat.le_of_ble_eq_true rfl) ?_
  refine g_iload_n (i := 1) dX9_coolestPeak_0 rfl rfl ?_
  refine g_iload_n (i := 2) dX9_coolestPeak_1 rfl rfl ?_
  refine g_callS (ev_requireCell_no hl hc) dX9_coolestPeak_2 ml_X9_91 csX9_requireCell rfl rfl (Nat.le_of_ble_eq_true rfl) (Nat.le_of_ble_eq_true rfl) (Nat.le_refl _) (Nat.le_refl _) kr_tr (kx_tr rfl ⟨rfl, rfl⟩)

set_option maxRecDepth 100000 in
theorem ev_coolestPeak_no1b {l : Launch} {G : GG} (hl : l.stackTraces = false) {A : AD} {h : AH} {M : Nat → MS} {N : Nat × Nat} {c : Nat → Int32} {q : Nat → Nat} {H : HS} {L : LgS} {R : RS} {t l9 : SB} {O : OB} {x y x2 y2 : Int32} (hc : cellB x y) (hc2 : ¬ cellB x2 y2) :
    Ev l G 13 1 6 mX9_coolestPeak [.ref (A 6 0), .int x, .int y, .int x2, .int y2] (hC h A (M, N, c, q, H, L, R, t, l9, O)) (Tr "java/lang/IndexOutOfBoundsException" (hC h A (M, N, c, q, H, L, R, t, l9, O))) := by
  refine Ev.of hl (by decide) (Nat.le_of_ble_eq_true rfl) ?_
  refine g_iload_n (i := 1) dX9_coolestPeak_0 rfl rfl ?_
  refine g_iload_n (i := 2) dX9_coolestPeak_1 rfl rfl ?_
  refine g_callS (ev_requireCell_ok hl hc) dX9_coolestPeak_2 ml_X9_91 csX9_requireCell rfl rfl (Nat.le_of_ble_eq_true rfl) (Nat.le_of_ble_eq_true rfl) (Nat.zero_le _) (Nat.zero_le _) (kr_vd ?_) kx_rt
  refine g_iload_n (i := 3) dX9_coolestPeak_5 rfl rfl ?_
  refine g_iload dX9_coolestPeak_6 rfl ?_
  refine g_callS (ev_requireCell_no hl hc2) dX9_coolestPeak_8 ml_X9_91 csX9_requireCell rfl rfl (Nat.le_of_ble_eq_true rfl) (Nat.le_of_ble_eq_true rfl) (Nat.le_refl _) (Nat.le_refl _) kr_tr (kx_tr rfl ⟨rfl, rfl⟩)

set_option maxRecDepth 100000 in
theorem ev_coolestPeakT {l : Launch} {G : GG} (hl : l.stackTraces = false) {A : AD} {h : AH} {M : Nat → MS} {N : Nat × Nat} {c : Nat → Int32} {q : Nat → Nat} {H : HS} {L : LgS} {R : RS} {t l9 : SB} {O : OB} {i j i2 j2 : Nat} (hi : i < 8) (hj : j < 8) (hi2 : i2 < 8) (hj2 : j2 < 8) (hp : ¬ (tryN (M 0) (8 * j + i) (8 * j2 + i2) 64).2 = -1) :
    Ev l G 14 0 0 mX9_coolestPeakByTrying [.ref (A 6 0), .int (nI i), .int (nI j), .int (nI i2), .int (nI j2)] (hC h A (M, N, c, q, H, L, R, t, l9, O)) (Rt (some (.int ((tryN (M 0) (8 * j + i) (8 * j2 + i2) 64).2))) (hC h A (M, N, c, q, H, L, R, t, l9, O))) := by
  refine Ev.of hl (by decide) (Nat.le_of_ble_eq_true rfl) ?_
  refine g_iload_n (i := 1) dX9_coolestPeakByTrying_0 rfl rfl ?_
  refine g_iload_n (i := 2) dX9_coolestPeakByTrying_1 rfl rfl ?_
  refine g_callS (ev_requireCell_ok hl (cellB_nI hi hj)) dX9_coolestPeakByTrying_2 ml_X9_91 csX9_requireCell rfl rfl (Nat.le_of_ble_eq_true rfl) (Nat.le_of_ble_eq_true rfl) (Nat.zero_le _) (Nat.zero_le _) (kr_vd ?_) kx_rt
  refine g_iload_n (i := 3) dX9_coolestPeakByTrying_5 rfl rfl ?_
  refine g_iload dX9_coolestPeakByTrying_6 rfl ?_
  refine g_callS (ev_requireCell_ok hl (cellB_nI hi2 hj2)) dX9_coolestPeakByTrying_8 ml_X9_91 csX9_requireCell rfl rfl (Nat.le_of_ble_eq_true rfl) (Nat.le_of_ble_eq_true rfl) (Nat.zero_le _) (Nat.zero_le _) (kr_vd ?_) kx_rt
  refine g_aload_n (i := 0) dX9_coolestPeakByTrying_11 rfl rfl ?_
  refine g_iload_n (i := 1) dX9_coolestPeakByTrying_12 rfl rfl ?_
  refine g_iload_n (i := 2) dX9_coolestPeakByTrying_13 rfl rfl ?_
  refine g_callS (ev_cellOf hl) dX9_coolestPeakByTrying_14 ml_X9_106 csX9_cellOf rfl rfl (Nat.le_of_ble_eq_true rfl) (Nat.le_of_ble_eq_true rfl) (Nat.zero_le _) (Nat.zero_le _) (kr_rt ?_) kx_rt
  rw [cel]
  refine g_iload_n (i := 3) dX9_coolestPeakByTrying_17 rfl rfl ?_
  refine g_iload dX9_coolestPeakByTrying_18 rfl ?_
  refine g_callS (ev_cellOf hl) dX9_coolestPeakByTrying_20 ml_X9_106 csX9_cellOf rfl rfl (Nat.le_of_ble_eq_true rfl) (Nat.le_of_ble_eq_true rfl) (Nat.zero_le _) (Nat.zero_le _) (kr_rt ?_) kx_rt
  rw [cel]
  refine g_callV (ev_findPeakT hl) dX9_coolestPeakByTrying_23 ml_X9_251 cvX9_findPeakByTrying K_X9 rfl hC_6 rfl rfl (Nat.le_of_ble_eq_true rfl) (Nat.le_of_ble_eq_true rfl) (Nat.zero_le _) (Nat.zero_le _) (kr_rt ?_) kx_rt
  refine g_istore dX9_coolestPeakByTrying_26 (Nat.le_of_ble_eq_true rfl) ?_
  refine g_iload dX9_coolestPeakByTrying_28 rfl ?_
  refine g_iconst (v := (-1)) dX9_coolestPeakByTrying_30 (by decide) ?_
  refine g_icmp_ne (tgt := 44) dX9_coolestPeakByTrying_31 (by decide) (fun c31 => ?_) (fun c31 => ?_)
  · refine g_iload dX9_coolestPeakByTrying_44 rfl ?_
    refine g_iret dX9_coolestPeakByTrying_46 rfl rfl ?_
    exact ⟨rfl, rfl⟩
  · exact absurd c31 hp

set_option maxRecDepth 100000 in
theorem ev_coolestPeakT_no2 {l : Launch} {G : GG} (hl : l.stackTraces = false) {A : AD} {h : AH} {M : Nat → MS} {N : Nat × Nat} {c : Nat → Int32} {q : Nat → Nat} {H : HS} {L : LgS} {R : RS} {t l9 : SB} {O : OB} {i j i2 j2 : Nat} (hi : i < 8) (hj : j < 8) (hi2 : i2 < 8) (hj2 : j2 < 8) (hp : (tryN (M 0) (8 * j + i) (8 * j2 + i2) 64).2 = -1) :
    Ev l G 14 1 6 mX9_coolestPeakByTrying [.ref (A 6 0), .int (nI i), .int (nI j), .int (nI i2), .int (nI j2)] (hC h A (M, N, c, q, H, L, R, t, l9, O)) (Tr "java/util/NoSuchElementException" (hC h A (M, N, c, q, H, L, R, t, l9, O))) := by
  refine Ev.of hl (by decide) (Nat.le_of_ble_eq_true rfl) ?_
  refine g_iload_n (i := 1) dX9_coolestPeakByTrying_0 rfl rfl ?_
  refine g_iload_n (i := 2) dX9_coolestPeakByTrying_1 rfl rfl ?_
  refine g_callS (ev_requireCell_ok hl (cellB_nI hi hj)) dX9_coolestPeakByTrying_2 ml_X9_91 csX9_requireCell rfl rfl (Nat.le_of_ble_eq_true rfl) (Nat.le_of_ble_eq_true rfl) (Nat.zero_le _) (Nat.zero_le _) (kr_vd ?_) kx_rt
  refine g_iload_n (i := 3) dX9_coolestPeakByTrying_5 rfl rfl ?_
  refine g_iload dX9_coolestPeakByTrying_6 rfl ?_
  refine g_callS (ev_requireCell_ok hl (cellB_nI hi2 hj2)) dX9_coolestPeakByTrying_8 ml_X9_91 csX9_requireCell rfl rfl (Nat.le_of_ble_eq_true rfl) (Nat.le_of_ble_eq_true rfl) (Nat.zero_le _) (Nat.zero_le _) (kr_vd ?_) kx_rt
  refine g_aload_n (i := 0) dX9_coolestPeakByTrying_11 rfl rfl ?_
  refine g_iload_n (i := 1) dX9_coolestPeakByTrying_12 rfl rfl ?_
  refine g_iload_n (i := 2) dX9_coolestPeakByTrying_13 rfl rfl ?_
  refine g_callS (ev_cellOf hl) dX9_coolestPeakByTrying_14 ml_X9_106 csX9_cellOf rfl rfl (Nat.le_of_ble_eq_true rfl) (Nat.le_of_ble_eq_true rfl) (Nat.zero_le _) (Nat.zero_le _) (kr_rt ?_) kx_rt
  rw [cel]
  refine g_iload_n (i := 3) dX9_coolestPeakByTrying_17 rfl rfl ?_
  refine g_iload dX9_coolestPeakByTrying_18 rfl ?_
  refine g_callS (ev_cellOf hl) dX9_coolestPeakByTrying_20 ml_X9_106 csX9_cellOf rfl rfl (Nat.le_of_ble_eq_true rfl) (Nat.le_of_ble_eq_true rfl) (Nat.zero_le _) (Nat.zero_le _) (kr_rt ?_) kx_rt
  rw [cel]
  refine g_callV (ev_findPeakT hl) dX9_coolestPeakByTrying_23 ml_X9_251 cvX9_findPeakByTrying K_X9 rfl hC_6 rfl rfl (Nat.le_of_ble_eq_true rfl) (Nat.le_of_ble_eq_true rfl) (Nat.zero_le _) (Nat.zero_le _) (kr_rt ?_) kx_rt
  refine g_istore dX9_coolestPeakByTrying_26 (Nat.le_of_ble_eq_true rfl) ?_
  refine g_iload dX9_coolestPeakByTrying_28 rfl ?_
  refine g_iconst (v := (-1)) dX9_coolestPeakByTrying_30 (by decide) ?_
  refine g_icmp_ne (tgt := 44) dX9_coolestPeakByTrying_31 (by decide) (fun c31 => ?_) (fun c31 => ?_)
  · exact absurd hp c31
  · exact g_throwNn th_X9_164_249 dX9_coolestPeakByTrying_34 dX9_coolestPeakByTrying_37 dX9_coolestPeakByTrying_38 dX9_coolestPeakByTrying_40 dX9_coolestPeakByTrying_43 rfl (by decide) (by decide) (Nat.le_of_ble_eq_true rfl) (Nat.le_of_ble_eq_true rfl) ⟨rfl, rfl⟩

set_option maxRecDepth 100000 in
theorem ev_coolestPeakT_no1 {l : Launch} {G : GG} (hl : l.stackTraces = false) {A : AD} {h : AH} {M : Nat → MS} {N : Nat × Nat} {c : Nat → Int32} {q : Nat → Nat} {H : HS} {L : LgS} {R : RS} {t l9 : SB} {O : OB} {x y x2 y2 : Int32} (hc : ¬ cellB x y) :
    Ev l G 14 1 6 mX9_coolestPeakByTrying [.ref (A 6 0), .int x, .int y, .int x2, .int y2] (hC h A (M, N, c, q, H, L, R, t, l9, O)) (Tr "java/lang/IndexOutOfBoundsException" (hC h A (M, N, c, q, H, L, R, t, l9, O))) := by
  refine Ev.of hl (by decide) (Nat.le_of_ble_eq_true rfl) ?_
  refine g_iload_n (i := 1) dX9_coolestPeakByTrying_0 rfl rfl ?_
  refine g_iload_n (i := 2) dX9_coolestPeakByTrying_1 rfl rfl ?_
  refine g_callS (ev_requireCell_no hl hc) dX9_coolestPeakByTrying_2 ml_X9_91 csX9_requireCell rfl rfl (Nat.le_of_ble_eq_true rfl) (Nat.le_of_ble_eq_true rfl) (Nat.le_refl _) (Nat.le_refl _) kr_tr (kx_tr rfl ⟨rfl, rfl⟩)

set_option maxRecDepth 100000 in
theorem ev_coolestPeakT_no1b {l : Launch} {G : GG} (hl : l.stackTraces = false) {A : AD} {h : AH} {M : Nat → MS} {N : Nat × Nat} {c : Nat → Int32} {q : Nat → Nat} {H : HS} {L : LgS} {R : RS} {t l9 : SB} {O : OB} {x y x2 y2 : Int32} (hc : cellB x y) (hc2 : ¬ cellB x2 y2) :
    Ev l G 14 1 6 mX9_coolestPeakByTrying [.ref (A 6 0), .int x, .int y, .int x2, .int y2] (hC h A (M, N, c, q, H, L, R, t, l9, O)) (Tr "java/lang/IndexOutOfBoundsException" (hC h A (M, N, c, q, H, L, R, t, l9, O))) := by
  refine Ev.of hl (by decide) (Nat.le_of_ble_eq_true rfl) ?_
  refine g_iload_n (i := 1) dX9_coolestPeakByTrying_0 rfl rfl ?_
  refine g_iload_n (i := 2) dX9_coolestPeakByTrying_1 rfl rfl ?_
  refine g_callS (ev_requireCell_ok hl hc) dX9_coolestPeakByTrying_2 ml_X9_91 csX9_requireCell rfl rfl (Nat.le_of_ble_eq_true rfl) (Nat.le_of_ble_eq_true rfl) (Nat.zero_le _) (Nat.zero_le _) (kr_vd ?_) kx_rt
  refine g_iload_n (i := 3) dX9_coolestPeakByTrying_5 rfl rfl ?_
  refine g_iload dX9_coolestPeakByTrying_6 rfl ?_
  refine g_callS (ev_requireCell_no hl hc2) dX9_coolestPeakByTrying_8 ml_X9_91 csX9_requireCell rfl rfl (Nat.le_of_ble_eq_true rfl) (Nat.le_of_ble_eq_true rfl) (Nat.le_refl _) (Nat.le_refl _) kr_tr (kx_tr rfl ⟨rfl, rfl⟩)

