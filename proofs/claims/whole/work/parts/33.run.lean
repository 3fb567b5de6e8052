/-! Commands carried out, forecasts, consistency (by wip/whole/gen/m19.py). -/
theorem cCell_eq {x y : Int32} (h : cellB x y) : 8 * y + x = nI (cCell x y) ∧ cCell x y < 64 := by
  obtain ⟨e1, h1⟩ := nI_ofS h.1
  obtain ⟨e2, h2⟩ := nI_ofS h.2.2.1
  have hx : x.toNatClampNeg < 8 := (nI_lt' (b := 8) rfl h1 (by decide)).mp (by rw [← e1]; exact h.2.1)
  have hy : y.toNatClampNeg < 8 := (nI_lt' (b := 8) rfl h2 (by decide)).mp (by rw [← e2]; exact h.2.2.2)
  have e : 8 * y + x = nI (8 * y.toNatClampNeg + x.toNatClampNeg) := by rw [← cel, ← e1, ← e2]
  have e3 : cCell x y = 8 * y.toNatClampNeg + x.toNatClampNeg := by rw [cCell, e, nI_clamp (by omega)]
  rw [e3]
  exact ⟨e, by omega⟩
theorem cCell_nI {i j : Nat} (hi : i < 8) (hj : j < 8) : cCell (nI i) (nI j) = 8 * j + i := by rw [cCell, cel, nI_clamp (by omega)]
abbrev CR : Type := (MS × OB) × Bool
def cHeat (m : MS) (O : OB) (x y a : Int32) : CR := if cellB x y ∧ amountP a then (match hrf m (cCell x y) a with | none => ((adM m (cCell x y) a, O), true) | some r => ((m, oRef O (some r)), false)) else ((m, O), false)
def cGround (m : MS) (O : OB) (x y a : Int32) : CR := if cellB x y ∧ groundP a then (match grf m (cCell x y) a with | none => ((grM m (cCell x y) a, O), true) | some r => ((m, oRef O (some r)), false)) else ((m, O), false)
def cBorder (m : MS) (O : OB) (x y : Int32) : CR := if sideP x ∧ tempP y then ((boM m x.toNatClampNeg y, O), true) else ((m, O), false)
def cPass (m : MS) (O : OB) (x : Int32) : CR := if tickP x then ((tkM m x.toNatClampNeg, O), true) else ((m, O), false)
def cCmd (m : MS) (O : OB) (c : CM) : CR := if c.1 = 0 then cHeat m O c.2.1 c.2.2.1 c.2.2.2 else if c.1 = 1 then cGround m O c.2.1 c.2.2.1 c.2.2.2 else if c.1 = 2 then cBorder m O c.2.1 c.2.2.1 else cPass m O c.2.1
/-- the j commands from the k-th on: the map, the numbers, the one that failed -/
def cRun (K : Nat → CM) : Nat → Nat → MS → OB → (MS × OB) × Option Nat
  | 0, _, m, O => ((m, O), none)
  | j + 1, k, m, O => if (cCmd m O (K k)).2 = true then cRun K j (k + 1) (cCmd m O (K k)).1.1 (cCmd m O (K k)).1.2 else ((cCmd m O (K k)).1, some k)
section CH
variable {m : MS} {O : OB} {x y a : Int32}
theorem cHeat_n (h : ¬ (cellB x y ∧ amountP a)) : cHeat m O x y a = ((m, O), false) := if_neg h
theorem cHeat_t (h : cellB x y ∧ amountP a) (hr : hrf m (cCell x y) a = none) : cHeat m O x y a = ((adM m (cCell x y) a, O), true) := by rw [cHeat, if_pos h, hr]
theorem cHeat_f (h : cellB x y ∧ amountP a) {r : Int32 × Int32} (hr : hrf m (cCell x y) a = some r) : cHeat m O x y a = ((m, oRef O (some r)), false) := by rw [cHeat, if_pos h, hr]
theorem cGround_n (h : ¬ (cellB x y ∧ groundP a)) : cGround m O x y a = ((m, O), false) := if_neg h
theorem cGround_t (h : cellB x y ∧ groundP a) (hr : grf m (cCell x y) a = none) : cGround m O x y a = ((grM m (cCell x y) a, O), true) := by rw [cGround, if_pos h, hr]
theorem cGround_f (h : cellB x y ∧ groundP a) {r : Int32 × Int32} (hr : grf m (cCell x y) a = some r) : cGround m O x y a = ((m, oRef O (some r)), false) := by rw [cGround, if_pos h, hr]
theorem isSome_0 {α : Type} {o : Option α} (h : (if o.isSome = true then (1 : Int32) else 0) = 0) : o = none := by
  cases o with
  | none => rfl
  | some r => exact absurd h (show ¬ (1 : Int32) = 0 by decide)
theorem isSome_1 {α : Type} {o : Option α} (h : ¬ (if o.isSome = true then (1 : Int32) else 0) = 0) : ∃ r, o = some r := by
  cases o with
  | none => exact absurd rfl h
  | some r => exact ⟨r, rfl⟩
end CH
def fcN (m : MS) : Nat → MS
  | 0 => m
  | k + 1 => tkM (fcN m k) 1
/-- after how many ticks no cell is of the level, among j from k on -/
def tubN (m : MS) (v : Int32) : Nat → Nat → Option Nat
  | 0, _ => none
  | j + 1, k => if levN (fcN m k).2.1 v 64 = 0 then some k else tubN m v j (k + 1)
theorem hC_mapU {h : AH} {A : AD} {M : Nat → MS} {N : Nat × Nat} {c : Nat → Int32} {q : Nat → Nat} {H : HS} {L : LgS} {R : RS} {t l : SB} {O : OB} {g : Nat} {m : MS} (hg : g < 12) : isMap (hC h A (va_up M g m, N, c, q, H, L, R, t, l, O)) A g m := by
  have e := hC_map (h := h) (A := A) hg (X := (va_up M g m, N, c, q, H, L, R, t, l, O))
  simp only [va_up_self] at e
  exact e

set_option maxRecDepth 100000 in
theorem ev_carryHeat {l : Launch} {G : GG} (hl : l.stackTraces = false) {A : AD} {h : AH} {M : Nat → MS} {N : Nat × Nat} {c : Nat → Int32} {q : Nat → Nat} {H : HS} {L : LgS} {R : RS} {t l9 : SB} {O : OB} {x y a : Int32} :
    Ev l G 12 0 0 mX9_carryOutHeat [.ref (A 6 0), .int x, .int y, .int a] (hC h A (M, N, c, q, H, L, R, t, l9, O)) (Rt (some (.int (if (cHeat (M 0) O x y a).2 = true then 1 else 0))) (hC h A (va_up M 0 (cHeat (M 0) O x y a).1.1, N, c, q, H, L, R, t, l9, (cHeat (M 0) O x y a).1.2))) := by
  refine Ev.of hl (by decide) (Nat.le_of_ble_eq_true rfl) ?_
  refine g_iload_n (i := 1) dX9_carryOutHeat_0 rfl rfl ?_
  refine g_iload_n (i := 2) dX9_carryOutHeat_1 rfl rfl ?_
  refine g_callS (ev_isCell hl) dX9_carryOutHeat_2 ml_X9_388 csX9_isCell rfl rfl (Nat.le_of_ble_eq_true rfl) (Nat.le_of_ble_eq_true rfl) (Nat.zero_le _) (Nat.zero_le _) (kr_rt ?_) kx_rt
  refine g_if_eq (tgt := 28) dX9_carryOutHeat_5 (by decide) (fun c5 => ?_) (fun c5 => ?_)
  · refine g_iconst (v := 0) dX9_carryOutHeat_28 (by decide) ?_
    refine g_iret dX9_carryOutHeat_29 rfl rfl ?_
    have e := cHeat_n (m := M 0) (O := O) (x := x) (y := y) (a := a) (fun z => ite_0 c5 z.1)
    exact ⟨by rw [e]; rfl, by rw [e]; show _ = hC h A (va_up M 0 (M 0), _, _, _, _, _, _, _, _, _); rw [va_self]⟩
  · have hc := ite_1 c5
    have hk := cCell_eq hc
    refine g_iload_n (i := 3) dX9_carryOutHeat_8 rfl rfl ?_
    refine g_callS (ev_isAmount hl) dX9_carryOutHeat_9 ml_X9_127 csX9_isAmount rfl rfl (Nat.le_of_ble_eq_true rfl) (Nat.le_of_ble_eq_true rfl) (Nat.zero_le _) (Nat.zero_le _) (kr_rt ?_) kx_rt
    refine g_if_eq (tgt := 28) dX9_carryOutHeat_12 (by decide) (fun c12 => ?_) (fun c12 => ?_)
    · refine g_iconst (v := 0) dX9_carryOutHeat_28 (by decide) ?_
      refine g_iret dX9_carryOutHeat_29 rfl rfl ?_
      have e := cHeat_n (m := M 0) (O := O) (x := x) (y := y) (a := a) (fun z => ite_0 c12 z.2)
      exact ⟨by rw [e]; rfl, by rw [e]; show _ = hC h A (va_up M 0 (M 0), _, _, _, _, _, _, _, _, _); rw [va_self]⟩
    · have ha := ite_1 c12
      refine g_aload_n (i := 0) dX9_carryOutHeat_15 rfl rfl ?_
      refine g_iload_n (i := 1) dX9_carryOutHeat_16 rfl rfl ?_
      refine g_iload_n (i := 2) dX9_carryOutHeat_17 rfl rfl ?_
      refine g_callS (ev_cellOf hl) dX9_carryOutHeat_18 ml_X9_106 csX9_cellOf rfl rfl (Nat.le_of_ble_eq_true rfl) (Nat.le_of_ble_eq_true rfl) (Nat.zero_le _) (Nat.zero_le _) (kr_rt ?_) kx_rt
      rw [hk.1]
      refine g_iload_n (i := 3) dX9_carryOutHeat_21 rfl rfl ?_
      refine g_callV (ev_heatRefused hl (k := cCell x y) hk.2) dX9_carryOutHeat_22 ml_X9_132 cvX9_isHeatRefused K_X9 rfl hC_6 rfl rfl (Nat.le_of_ble_eq_true rfl) (Nat.le_of_ble_eq_true rfl) (Nat.zero_le _) (Nat.zero_le _) (kr_rt ?_) kx_rt
      refine g_if_eq (tgt := 30) dX9_carryOutHeat_25 (by decide) (fun c25 => ?_) (fun c25 => ?_)
      · have hr := isSome_0 c25
        refine Go.heap (h' := (hC h A (M, N, c, q, H, L, R, t, l9, O))) (by rw [hr]; rfl) ?_
        refine g_aload_n (i := 0) dX9_carryOutHeat_30 rfl rfl ?_
        refine g_getf dX9_carryOutHeat_31 K_X9 (k := 0) fl_X9_10 (Nat.le_of_ble_eq_true rfl) hC_6 rfl ?_
        refine g_iload_n (i := 1) dX9_carryOutHeat_34 rfl rfl ?_
        refine g_iload_n (i := 2) dX9_carryOutHeat_35 rfl rfl ?_
        refine g_callS (ev_cellOf hl) dX9_carryOutHeat_36 ml_X9_106 csX9_cellOf rfl rfl (Nat.le_of_ble_eq_true rfl) (Nat.le_of_ble_eq_true rfl) (Nat.zero_le _) (Nat.zero_le _) (kr_rt ?_) kx_rt
        rw [hk.1]
        refine g_iload_n (i := 3) dX9_carryOutHeat_39 rfl rfl ?_
        refine g_callV (ev_addHeat hl (hC_map (g := 0) (by decide)) (c := cCell x y) hk.2 (x := a)) dX9_carryOutHeat_40 ml_X9_137 cvX3_addHeat K_X3 rfl (hC_map (g := 0) (by decide)).1 rfl rfl (Nat.le_of_ble_eq_true rfl) (Nat.le_of_ble_eq_true rfl) (Nat.zero_le _) (Nat.zero_le _) (kr_vd ?_) kx_rt
        refine Go.heap (hC_set (by decide)) ?_
        refine g_iconst (v := 1) dX9_carryOutHeat_43 (by decide) ?_
        refine g_iret dX9_carryOutHeat_44 rfl rfl ?_
        have e := cHeat_t (O := O) ⟨hc, ha⟩ hr
        exact ⟨by rw [e]; rfl, by rw [e]; rfl⟩
      · refine g_iconst (v := 0) dX9_carryOutHeat_28 (by decide) ?_
        refine g_iret dX9_carryOutHeat_29 rfl rfl ?_
        obtain ⟨r, hr⟩ := isSome_1 c25
        have e := cHeat_f (O := O) ⟨hc, ha⟩ hr
        exact ⟨by rw [e]; rfl, by rw [e, hr]; show _ = hC h A (va_up M 0 (M 0), _, _, _, _, _, _, _, _, _); rw [va_self]⟩

set_option maxRecDepth 100000 in
theorem ev_carryGround {l : Launch} {G : GG} (hl : l.stackTraces = false) {A : AD} {h : AH} {M : Nat → MS} {N : Nat × Nat} {c : Nat → Int32} {q : Nat → Nat} {H : HS} {L : LgS} {R : RS} {t l9 : SB} {O : OB} {x y a : Int32} :
    Ev l G 12 0 0 mX9_carryOutGround [.ref (A 6 0), .int x, .int y, .int a] (hC h A (M, N, c, q, H, L, R, t, l9, O)) (Rt (some (.int (if (cGround (M 0) O x y a).2 = true then 1 else 0))) (hC h A (va_up M 0 (cGround (M 0) O x y a).1.1, N, c, q, H, L, R, t, l9, (cGround (M 0) O x y a).1.2))) := by
  refine Ev.of hl (by decide) (Nat.le_of_ble_eq_true rfl) ?_
  refine g_iload_n (i := 1) dX9_carryOutGround_0 rfl rfl ?_
  refine g_iload_n (i := 2) dX9_carryOutGround_1 rfl rfl ?_
  refine g_callS (ev_isCell hl) dX9_carryOutGround_2 ml_X9_388 csX9_isCell rfl rfl (Nat.le_of_ble_eq_true rfl) (Nat.le_of_ble_eq_true rfl) (Nat.zero_le _) (Nat.zero_le _) (kr_rt ?_) kx_rt
  refine g_if_eq (tgt := 28) dX9_carryOutGround_5 (by decide) (fun c5 => ?_) (fun c5 => ?_)
  · refine g_iconst (v := 0) dX9_carryOutGround_28 (by decide) ?_
    refine g_iret dX9_carryOutGround_29 rfl rfl ?_
    have e := cGround_n (m := M 0) (O := O) (x := x) (y := y) (a := a) (fun z => ite_0 c5 z.1)
    exact ⟨by rw [e]; rfl, by rw [e]; show _ = hC h A (va_up M 0 (M 0), _, _, _, _, _, _, _, _, _); rw [va_self]⟩
  · have hc := ite_1 c5
    have hk := cCell_eq hc
    refine g_iload_n (i := 3) dX9_carryOutGround_8 rfl rfl ?_
    refine g_callS (ev_isGround hl) dX9_carryOutGround_9 ml_X9_95 csX9_isGround rfl rfl (Nat.le_of_ble_eq_true rfl) (Nat.le_of_ble_eq_true rfl) (Nat.zero_le _) (Nat.zero_le _) (kr_rt ?_) kx_rt
    refine g_if_eq (tgt := 28) dX9_carryOutGround_12 (by decide) (fun c12 => ?_) (fun c12 => ?_)
    · refine g_iconst (v := 0) dX9_carryOutGround_28 (by decide) ?_
      refine g_iret dX9_carryOutGround_29 rfl rfl ?_
      have e := cGround_n (m := M 0) (O := O) (x := x) (y := y) (a := a) (fun z => ite_0 c12 z.2)
      exact ⟨by rw [e]; rfl, by rw [e]; show _ = hC h A (va_up M 0 (M 0), _, _, _, _, _, _, _, _, _); rw [va_self]⟩
    · have ha := ite_1 c12
      refine g_aload_n (i := 0) dX9_carryOutGround_15 rfl rfl ?_
      refine g_iload_n (i := 1) dX9_carryOutGround_16 rfl rfl ?_
      refine g_iload_n (i := 2) dX9_carryOutGround_17 rfl rfl ?_
      refine g_callS (ev_cellOf hl) dX9_carryOutGround_18 ml_X9_106 csX9_cellOf rfl rfl (Nat.le_of_ble_eq_true rfl) (Nat.le_of_ble_eq_true rfl) (Nat.zero_le _) (Nat.zero_le _) (kr_rt ?_) kx_rt
      rw [hk.1]
      refine g_iload_n (i := 3) dX9_carryOutGround_21 rfl rfl ?_
      refine g_callV (ev_groundRefused hl (k := cCell x y) hk.2) dX9_carryOutGround_22 ml_X9_110 cvX9_isGroundRefused K_X9 rfl hC_6 rfl rfl (Nat.le_of_ble_eq_true rfl) (Nat.le_of_ble_eq_true rfl) (Nat.zero_le _) (Nat.zero_le _) (kr_rt ?_) kx_rt
      refine g_if_eq (tgt := 30) dX9_carryOutGround_25 (by decide) (fun c25 => ?_) (fun c25 => ?_)
      · have hr := isSome_0 c25
        refine Go.heap (h' := (hC h A (M, N, c, q, H, L, R, t, l9, O))) (by rw [hr]; rfl) ?_
        refine g_aload_n (i := 0) dX9_carryOutGround_30 rfl rfl ?_
        refine g_getf dX9_carryOutGround_31 K_X9 (k := 0) fl_X9_10 (Nat.le_of_ble_eq_true rfl) hC_6 rfl ?_
        refine g_getN dX9_carryOutGround_34 K_X3 (k := 0) fl_X9_119 (Nat.le_of_ble_eq_true rfl) (hC_map (g := 0) (by decide)).1 rfl ?_
        refine g_iload_n (i := 1) dX9_carryOutGround_37 rfl rfl ?_
        refine g_iload_n (i := 2) dX9_carryOutGround_38 rfl rfl ?_
        refine g_callS (ev_cellOf hl) dX9_carryOutGround_39 ml_X9_106 csX9_cellOf rfl rfl (Nat.le_of_ble_eq_true rfl) (Nat.le_of_ble_eq_true rfl) (Nat.zero_le _) (Nat.zero_le _) (kr_rt ?_) kx_rt
        rw [hk.1]
        refine g_iload_n (i := 3) dX9_carryOutGround_42 rfl rfl ?_
        refine g_i2c dX9_carryOutGround_43 (gnd_fits ha).2.2.2 ?_
        refine g_cast dX9_carryOutGround_44 (hC_map (g := 0) (by decide)).2.1 (ix_nI (j := cCell x y) (by omega)) hk.2 (gnd_fits ha).2.2.1 (Go.heap (hC_c (g := 0) (f := va_up (M 0).1 (cCell x y) a) (by decide)) ?_)
        refine g_iconst (v := 1) dX9_carryOutGround_45 (by decide) ?_
        refine g_iret dX9_carryOutGround_46 rfl rfl ?_
        have e := cGround_t (O := O) ⟨hc, ha⟩ hr
        exact ⟨by rw [e]; rfl, by rw [e]; rfl⟩
      · refine g_iconst (v := 0) dX9_carryOutGround_28 (by decide) ?_
        refine g_iret dX9_carryOutGround_29 rfl rfl ?_
        obtain ⟨r, hr⟩ := isSome_1 c25
        have e := cGround_f (O := O) ⟨hc, ha⟩ hr
        exact ⟨by rw [e]; rfl, by rw [e, hr]; show _ = hC h A (va_up M 0 (M 0), _, _, _, _, _, _, _, _, _); rw [va_self]⟩

set_option maxRecDepth 100000 in
theorem ev_carryBorder {l : Launch} {G : GG} (hl : l.stackTraces = false) {A : AD} {h : AH} {M : Nat → MS} {N : Nat × Nat} {c : Nat → Int32} {q : Nat → Nat} {H : HS} {L : LgS} {R : RS} {t l9 : SB} {O : OB} {x y : Int32} :
    Ev l G 11 0 0 mX9_carryOutBorder [.ref (A 6 0), .int x, .int y] (hC h A (M, N, c, q, H, L, R, t, l9, O)) (Rt (some (.int (if (cBorder (M 0) O x y).2 = true then 1 else 0))) (hC h A (va_up M 0 (cBorder (M 0) O x y).1.1, N, c, q, H, L, R, t, l9, (cBorder (M 0) O x y).1.2))) := by
  refine Ev.of hl (by decide) (Nat.le_of_ble_eq_true rfl) ?_
  refine g_iload_n (i := 1) dX9_carryOutBorder_0 rfl rfl ?_
  refine g_callS (ev_isSide hl) dX9_carryOutBorder_1 ml_X9_393 csX9_isSide rfl rfl (Nat.le_of_ble_eq_true rfl) (Nat.le_of_ble_eq_true rfl) (Nat.zero_le _) (Nat.zero_le _) (kr_rt ?_) kx_rt
  refine g_if_eq (tgt := 14) dX9_carryOutBorder_4 (by decide) (fun c4 => ?_) (fun c4 => ?_)
  · refine g_iconst (v := 0) dX9_carryOutBorder_14 (by decide) ?_
    refine g_iret dX9_carryOutBorder_15 rfl rfl ?_
    have e := (show cBorder (M 0) O x y = ((M 0, O), false) from if_neg (fun z => ite_0 c4 z.1))
    exact ⟨by rw [e]; rfl, by rw [e]; show _ = hC h A (va_up M 0 (M 0), _, _, _, _, _, _, _, _, _); rw [va_self]⟩
  · have hs := ite_1 c4
    refine g_iload_n (i := 2) dX9_carryOutBorder_7 rfl rfl ?_
    refine g_callS (ev_isTemperature hl) dX9_carryOutBorder_8 ml_X9_176 csX9_isTemperature rfl rfl (Nat.le_of_ble_eq_true rfl) (Nat.le_of_ble_eq_true rfl) (Nat.zero_le _) (Nat.zero_le _) (kr_rt ?_) kx_rt
    refine g_if_ne (tgt := 16) dX9_carryOutBorder_11 (by decide) (fun c11 => ?_) (fun c11 => ?_)
    · have ht := ite_1 c11
      have ex := nI_ofS hs.1
      have hs4 : x.toNatClampNeg < 4 := (nI_lt' (b := 4) rfl ex.2 (by decide)).mp (by rw [← ex.1]; exact hs.2)
      refine g_aload_n (i := 0) dX9_carryOutBorder_16 rfl rfl ?_
      refine g_getf dX9_carryOutBorder_17 K_X9 (k := 0) fl_X9_10 (Nat.le_of_ble_eq_true rfl) hC_6 rfl ?_
      refine g_getN dX9_carryOutBorder_20 K_X3 (k := 3) fl_X9_181 (Nat.le_of_ble_eq_true rfl) (hC_map (g := 0) (by decide)).1 rfl ?_
      refine g_iload_n (i := 1) dX9_carryOutBorder_23 rfl rfl ?_
      refine g_iload_n (i := 2) dX9_carryOutBorder_24 rfl rfl ?_
      rw [show (Value.int x) = (Value.int (nI x.toNatClampNeg)) from congrArg _ ex.1]
      refine g_iast dX9_carryOutBorder_25 (hC_map (g := 0) (by decide)).2.2.2.2.1 (ix_nI (j := x.toNatClampNeg) (by omega)) hs4 rfl (Go.heap (hC_t (g := 0) (f := va_up (M 0).2.2.2.1 x.toNatClampNeg y) (by decide)) ?_)
      refine g_iconst (v := 1) dX9_carryOutBorder_26 (by decide) ?_
      refine g_iret dX9_carryOutBorder_27 rfl rfl ?_
      have e := (show cBorder (M 0) O x y = ((boM (M 0) x.toNatClampNeg y, O), true) from if_pos ⟨hs, ht⟩)
      exact ⟨by rw [e]; rfl, by rw [e]; rfl⟩
    · refine g_iconst (v := 0) dX9_carryOutBorder_14 (by decide) ?_
      refine g_iret dX9_carryOutBorder_15 rfl rfl ?_
      have e := (show cBorder (M 0) O x y = ((M 0, O), false) from if_neg (fun z => ite_0 c11 z.2))
      exact ⟨by rw [e]; rfl, by rw [e]; show _ = hC h A (va_up M 0 (M 0), _, _, _, _, _, _, _, _, _); rw [va_self]⟩

set_option maxRecDepth 100000 in
theorem ev_carryPass {l : Launch} {G : GG} (hl : l.stackTraces = false) {A : AD} {h : AH} {M : Nat → MS} {N : Nat × Nat} {c : Nat → Int32} {q : Nat → Nat} {H : HS} {L : LgS} {R : RS} {t l9 : SB} {O : OB} {x : Int32} :
    Ev l G 14 0 0 mX9_carryOutPass [.ref (A 6 0), .int x] (hC h A (M, N, c, q, H, L, R, t, l9, O)) (RtX (some (.int (if (cPass (M 0) O x).2 = true then 1 else 0))) (fun c' => (hC h A (va_up M 0 (cPass (M 0) O x).1.1, N, c', q, H, L, R, t, l9, (cPass (M 0) O x).1.2)))) := by
  refine Ev.of hl (by decide) (Nat.le_of_ble_eq_true rfl) ?_
  refine g_iload_n (i := 1) dX9_carryOutPass_0 rfl rfl ?_
  refine g_callS (ev_isTickNumber hl) dX9_carryOutPass_1 ml_X9_187 csX9_isTickNumber rfl rfl (Nat.le_of_ble_eq_true rfl) (Nat.le_of_ble_eq_true rfl) (Nat.zero_le _) (Nat.zero_le _) (kr_rt ?_) kx_rt
  refine g_if_ne (tgt := 9) dX9_carryOutPass_4 (by decide) (fun c4 => ?_) (fun c4 => ?_)
  · have ht := ite_1 c4
    have ex := nI_ofS (x := x) (Int32.le_trans (show (0 : Int32) ≤ 1 by decide) ht.1)
    have hn : x.toNatClampNeg ≤ 20 := (nI_le' (b := 20) rfl ex.2 (by decide)).mp (by rw [← ex.1]; exact ht.2)
    refine g_aload_n (i := 0) dX9_carryOutPass_9 rfl rfl ?_
    refine g_getf dX9_carryOutPass_10 K_X9 (k := 5) fl_X9_35 (Nat.le_of_ble_eq_true rfl) hC_6 rfl ?_
    refine g_aload_n (i := 0) dX9_carryOutPass_13 rfl rfl ?_
    refine g_getf dX9_carryOutPass_14 K_X9 (k := 0) fl_X9_10 (Nat.le_of_ble_eq_true rfl) hC_6 rfl ?_
    refine g_iload_n (i := 1) dX9_carryOutPass_17 rfl rfl ?_
    rw [show (Value.int x) = (Value.int (nI x.toNatClampNeg)) from congrArg _ ex.1]
    refine g_callV (wr_ticks hl (g := 0) (by decide) (n := x.toNatClampNeg) hn) dX9_carryOutPass_18 ml_X9_192 cvX7_letTicksPass K_X7 rfl hC_9 rfl rfl (Nat.le_of_ble_eq_true rfl) (Nat.le_of_ble_eq_true rfl) (Nat.zero_le _) (Nat.zero_le _) (kr_x (fun x9 => ?_)) kx_x
    refine g_pop dX9_carryOutPass_21 rfl ?_
    refine g_iconst (v := 1) dX9_carryOutPass_22 (by decide) ?_
    refine g_iret dX9_carryOutPass_23 rfl rfl ?_
    have e : cPass (M 0) O x = ((tkM (M 0) x.toNatClampNeg, O), true) := if_pos ht
    exact ⟨by rw [e]; rfl, x9, by rw [e]; rfl⟩
  · refine g_iconst (v := 0) dX9_carryOutPass_7 (by decide) ?_
    refine g_iret dX9_carryOutPass_8 rfl rfl ?_
    have e : cPass (M 0) O x = ((M 0, O), false) := if_neg (ite_0 c4)
    exact ⟨by rw [e]; rfl, c, by rw [e]; show _ = hC h A (va_up M 0 (M 0), _, _, _, _, _, _, _, _, _); rw [va_self]⟩

