/-! run, forecasts, consistency (by wip/whole/gen/m20.py). -/
abbrev kindP (c : CM) : Prop := c.1 = 0 ∨ c.1 = 1 ∨ c.1 = 2 ∨ c.1 = 3
section CK
variable {m : MS} {O : OB} {c : CM}
theorem cCmd_0 (h : c.1 = 0) : cCmd m O c = cHeat m O c.2.1 c.2.2.1 c.2.2.2 := if_pos h
theorem cCmd_1 (h : c.1 = 1) : cCmd m O c = cGround m O c.2.1 c.2.2.1 c.2.2.2 := (if_neg (by rw [h]; decide)).trans (if_pos h)
theorem cCmd_2 (h : c.1 = 2) : cCmd m O c = cBorder m O c.2.1 c.2.2.1 := (if_neg (by rw [h]; decide)).trans ((if_neg (by rw [h]; decide)).trans (if_pos h))
theorem cCmd_3 (h : c.1 = 3) : cCmd m O c = cPass m O c.2.1 := (if_neg (by rw [h]; decide)).trans ((if_neg (by rw [h]; decide)).trans (if_neg (by rw [h]; decide)))
end CK
theorem va_back {M : Nat → MS} {m : MS} : va_up (va_up (va_up M 1 (M 0)) 0 m) 0 (M 0) = va_up M 1 (M 0) := by
  funext k
  unfold va_up
  by_cases e : k = 0
  · subst e; simp
  · simp [e]
theorem va_0_1 {M : Nat → MS} {m : MS} : va_up (va_up M 1 (M 0)) 0 m 1 = M 0 := by simp [va_up]

set_option maxRecDepth 100000 in
theorem ev_carryOut {l : Launch} {G : GG} (hl : l.stackTraces = false) {A : AD} {h : AH} {M : Nat → MS} {N : Nat × Nat} {c : Nat → Int32} {q : Nat → Nat} {H : HS} {L : LgS} {R : RS} {t l9 : SB} {O : OB} {i : Nat} (hi : i < 10) (hk : kindP (R.2.2 i)) :
    Ev l G 15 0 0 mX9_carryOut [.ref (A 6 0), .ref (A 25 i)] (hC h A (M, N, c, q, H, L, R, t, l9, O)) (RtX (some (.int (if (cCmd (M 0) O (R.2.2 i)).2 = true then 1 else 0))) (fun c' => (hC h A (va_up M 0 (cCmd (M 0) O (R.2.2 i)).1.1, N, c', q, H, L, R, t, l9, (cCmd (M 0) O (R.2.2 i)).1.2)))) := by
  refine Ev.of hl (by decide) (Nat.le_of_ble_eq_true rfl) ?_
  refine g_aload_n (i := 1) dX9_carryOut_0 rfl rfl ?_
  refine g_getN dX9_carryOut_1 K_X1 (k := 0) fl_X9_409 (Nat.le_of_ble_eq_true rfl) (hC_25 hi) rfl ?_
  rcases hk with hk | hk | hk | hk
  · rw [hk]
    refine g_tabIn (tgt := 36) dX9_carryOut_4 (by decide) (by decide) rfl (by decide) ?_
    refine g_aload_n (i := 0) dX9_carryOut_36 rfl rfl ?_
    refine g_aload_n (i := 1) dX9_carryOut_37 rfl rfl ?_
    refine g_getN dX9_carryOut_38 K_X1 (k := 1) fl_X9_414 (Nat.le_of_ble_eq_true rfl) (hC_25 hi) rfl ?_
    refine g_aload_n (i := 1) dX9_carryOut_41 rfl rfl ?_
    refine g_getN dX9_carryOut_42 K_X1 (k := 2) fl_X9_417 (Nat.le_of_ble_eq_true rfl) (hC_25 hi) rfl ?_
    refine g_aload_n (i := 1) dX9_carryOut_45 rfl rfl ?_
    refine g_getN dX9_carryOut_46 K_X1 (k := 3) fl_X9_420 (Nat.le_of_ble_eq_true rfl) (hC_25 hi) rfl ?_
    refine g_callV (ev_carryHeat hl) dX9_carryOut_49 ml_X9_423 cvX9_carryOutHeat K_X9 rfl hC_6 rfl rfl (Nat.le_of_ble_eq_true rfl) (Nat.le_of_ble_eq_true rfl) (Nat.zero_le _) (Nat.zero_le _) (kr_rt ?_) kx_rt
    refine g_iret dX9_carryOut_52 rfl (by split <;> rfl) ?_
    exact ⟨by rw [cCmd_0 hk], c, by rw [cCmd_0 hk]⟩
  · rw [hk]
    refine g_tabIn (tgt := 53) dX9_carryOut_4 (by decide) (by decide) rfl (by decide) ?_
    refine g_aload_n (i := 0) dX9_carryOut_53 rfl rfl ?_
    refine g_aload_n (i := 1) dX9_carryOut_54 rfl rfl ?_
    refine g_getN dX9_carryOut_55 K_X1 (k := 1) fl_X9_414 (Nat.le_of_ble_eq_true rfl) (hC_25 hi) rfl ?_
    refine g_aload_n (i := 1) dX9_carryOut_58 rfl rfl ?_
    refine g_getN dX9_carryOut_59 K_X1 (k := 2) fl_X9_417 (Nat.le_of_ble_eq_true rfl) (hC_25 hi) rfl ?_
    refine g_aload_n (i := 1) dX9_carryOut_62 rfl rfl ?_
    refine g_getN dX9_carryOut_63 K_X1 (k := 3) fl_X9_420 (Nat.le_of_ble_eq_true rfl) (hC_25 hi) rfl ?_
    refine g_callV (ev_carryGround hl) dX9_carryOut_66 ml_X9_427 cvX9_carryOutGround K_X9 rfl hC_6 rfl rfl (Nat.le_of_ble_eq_true rfl) (Nat.le_of_ble_eq_true rfl) (Nat.zero_le _) (Nat.zero_le _) (kr_rt ?_) kx_rt
    refine g_iret dX9_carryOut_69 rfl (by split <;> rfl) ?_
    exact ⟨by rw [cCmd_1 hk], c, by rw [cCmd_1 hk]⟩
  · rw [hk]
    refine g_tabIn (tgt := 70) dX9_carryOut_4 (by decide) (by decide) rfl (by decide) ?_
    refine g_aload_n (i := 0) dX9_carryOut_70 rfl rfl ?_
    refine g_aload_n (i := 1) dX9_carryOut_71 rfl rfl ?_
    refine g_getN dX9_carryOut_72 K_X1 (k := 1) fl_X9_414 (Nat.le_of_ble_eq_true rfl) (hC_25 hi) rfl ?_
    refine g_aload_n (i := 1) dX9_carryOut_75 rfl rfl ?_
    refine g_getN dX9_carryOut_76 K_X1 (k := 2) fl_X9_417 (Nat.le_of_ble_eq_true rfl) (hC_25 hi) rfl ?_
    refine g_callV (ev_carryBorder hl) dX9_carryOut_79 ml_X9_430 cvX9_carryOutBorder K_X9 rfl hC_6 rfl rfl (Nat.le_of_ble_eq_true rfl) (Nat.le_of_ble_eq_true rfl) (Nat.zero_le _) (Nat.zero_le _) (kr_rt ?_) kx_rt
    refine g_iret dX9_carryOut_82 rfl (by split <;> rfl) ?_
    exact ⟨by rw [cCmd_2 hk], c, by rw [cCmd_2 hk]⟩
  · rw [hk]
    refine g_tabIn (tgt := 83) dX9_carryOut_4 (by decide) (by decide) rfl (by decide) ?_
    refine g_aload_n (i := 0) dX9_carryOut_83 rfl rfl ?_
    refine g_aload_n (i := 1) dX9_carryOut_84 rfl rfl ?_
    refine g_getN dX9_carryOut_85 K_X1 (k := 1) fl_X9_414 (Nat.le_of_ble_eq_true rfl) (hC_25 hi) rfl ?_
    refine g_callV (ev_carryPass hl) dX9_carryOut_88 ml_X9_433 cvX9_carryOutPass K_X9 rfl hC_6 rfl rfl (Nat.le_of_ble_eq_true rfl) (Nat.le_of_ble_eq_true rfl) (Nat.zero_le _) (Nat.zero_le _) (kr_x (fun x9 => ?_)) kx_x
    refine g_iret dX9_carryOut_91 rfl (by split <;> rfl) ?_
    exact ⟨by rw [cCmd_3 hk], x9, by rw [cCmd_3 hk]⟩

theorem wr_carry {l : Launch} {G : GG} (hl : l.stackTraces = false) {A : AD} {h : AH} {M : Nat → MS} {N : Nat × Nat} {c : Nat → Int32} {q : Nat → Nat} {H : HS} {L : LgS} {R : RS} {t l9 : SB} {O : OB} {m : MS} {i : Nat} (hi : i < 10) (hk : kindP (R.2.2 i)) :
    Ev l G 15 0 0 mX9_carryOut [.ref (A 6 0), .ref (A 25 i)] (hC h A (va_up M 0 m, N, c, q, H, L, R, t, l9, O)) (RtX (some (.int (if (cCmd m O (R.2.2 i)).2 = true then 1 else 0))) (fun c' => (hC h A (va_up M 0 (cCmd m O (R.2.2 i)).1.1, N, c', q, H, L, R, t, l9, (cCmd m O (R.2.2 i)).1.2)))) := by
  have e := ev_carryOut hl (G := G) (A := A) (h := h) (M := va_up M 0 m) (N := N) (c := c) (q := q) (H := H) (L := L) (R := R) (t := t) (l9 := l9) (O := O) hi hk
  simp only [va_up_self, va_up2] at e
  exact e
theorem wr_fc {l : Launch} {G : GG} (hl : l.stackTraces = false) {A : AD} {h : AH} {M : Nat → MS} {N : Nat × Nat} {c : Nat → Int32} {q : Nat → Nat} {H : HS} {L : LgS} {R : RS} {t l9 : SB} {O : OB} {f : MS} :
    Ev l G 13 0 0 mX7_letTicksPass [.ref (A 9 0), .ref (A 0 3), .int (nI 1)] (hC h A (va_up M 3 f, N, c, q, H, L, R, t, l9, O)) (RtX (some (.int (ticksR 1 f))) (fun c' => (hC h A (va_up M 3 (tkM f 1), N, c', q, H, L, R, t, l9, O)))) := by
  have e := wr_ticks hl (G := G) (A := A) (h := h) (M := va_up M 3 f) (N := N) (c := c) (q := q) (H := H) (L := L) (R := R) (t := t) (l9 := l9) (O := O) (g := 3) (by decide) (n := 1) (by decide)
  simp only [va_up_self, va_up2] at e
  exact e

set_option maxRecDepth 100000 in
theorem ev_ticksUntil {l : Launch} {G : GG} (hl : l.stackTraces = false) {A : AD} {h : AH} {M : Nat → MS} {N : Nat × Nat} {c : Nat → Int32} {q : Nat → Nat} {H : HS} {L : LgS} {R : RS} {t l9 : SB} {O : OB} {v : Int32} (hv : levP v) (hG : gOk (M 0)) {n : Nat} (hn : tubN (M 0) v 21 0 = some n) :
    Ev l G 14 0 0 mX9_ticksUntilBelow [.ref (A 6 0), .int v] (hC h A (M, N, c, q, H, L, R, t, l9, O)) (RtX (some (.int (nI n))) (fun x : MS × (Nat → Int32) => (hC h A (va_up M 3 x.1, N, x.2, q, H, L, R, t, l9, O)))) := by
  refine Ev.of hl (by decide) (Nat.le_of_ble_eq_true rfl) ?_
  have loop : ∀ (j : Nat) (k : Nat) (c1 : Nat → Int32), k + j = 21 → tubN (M 0) v j k = some n → Go l G mX9_ticksUntilBelow 14 0 0 (RtX (some (.int (nI n))) (fun x : MS × (Nat → Int32) => (hC h A (va_up M 3 x.1, N, x.2, q, H, L, R, t, l9, O)))) 17 [some (.ref (A 6 0)), some (.int v), some (.int (nI k))] [] (hC h A (va_up M 3 (fcN (M 0) k), N, c1, q, H, L, R, t, l9, O)) := by
    intro j
    induction j with
    | zero =>
      intro k c1 hk ht
      cases ht
    | succ j ih =>
      intro k c1 hk ht
      refine g_iload_n (i := 2) dX9_ticksUntilBelow_17 rfl rfl ?_
      refine g_bipush (v := 20) dX9_ticksUntilBelow_18 (by decide) ?_
      refine g_icmp_gt (tgt := 57) dX9_ticksUntilBelow_20 (by decide) (fun c20 => ?_) (fun c20 => ?_)
      · exact absurd ((lt_nI (a := 20) (b := k) rfl (by omega) (by omega)).mp c20) (by omega)
      · refine g_aload_n (i := 0) dX9_ticksUntilBelow_23 rfl rfl ?_
        refine g_getf dX9_ticksUntilBelow_24 K_X9 (k := 3) fl_X9_22 (Nat.le_of_ble_eq_true rfl) hC_6 rfl ?_
        refine g_iload_n (i := 1) dX9_ticksUntilBelow_27 rfl rfl ?_
        refine g_callV (ev_cellsOfLevel hl (hC_mapU (g := 3) (m := fcN (M 0) k) (by decide))) dX9_ticksUntilBelow_28 ml_X9_208 cvX3_cellsOfLevel K_X3 rfl (hC_mapU (g := 3) (m := fcN (M 0) k) (by decide)).1 rfl rfl (Nat.le_of_ble_eq_true rfl) (Nat.le_of_ble_eq_true rfl) (Nat.zero_le _) (Nat.zero_le _) (kr_rt ?_) kx_rt
        refine g_lconst (v := 0) dX9_ticksUntilBelow_31 (by decide) ?_
        refine g_lcmp dX9_ticksUntilBelow_32 ?_
        refine g_if_ne (tgt := 38) dX9_ticksUntilBelow_33 (by decide) (fun c33 => ?_) (fun c33 => ?_)
        · refine g_aload_n (i := 0) dX9_ticksUntilBelow_38 rfl rfl ?_
          refine g_getf dX9_ticksUntilBelow_39 K_X9 (k := 5) fl_X9_35 (Nat.le_of_ble_eq_true rfl) hC_6 rfl ?_
          refine g_aload_n (i := 0) dX9_ticksUntilBelow_42 rfl rfl ?_
          refine g_getf dX9_ticksUntilBelow_43 K_X9 (k := 3) fl_X9_22 (Nat.le_of_ble_eq_true rfl) hC_6 rfl ?_
          refine g_iconst (v := 1) dX9_ticksUntilBelow_46 (by decide) ?_
          refine g_callV (wr_fc hl) dX9_ticksUntilBelow_47 ml_X9_192 cvX7_letTicksPass K_X7 rfl hC_9 rfl rfl (Nat.le_of_ble_eq_true rfl) (Nat.le_of_ble_eq_true rfl) (Nat.zero_le _) (Nat.zero_le _) (kr_x (fun x9 => ?_)) kx_x
          refine g_pop dX9_ticksUntilBelow_50 rfl ?_
          refine g_iinc (w := 1) dX9_ticksUntilBelow_51 (by decide) rfl (nI_succ k).symm (Nat.le_of_ble_eq_true rfl) ?_
          refine g_goto (tgt := 17) dX9_ticksUntilBelow_54 (by decide) ?_
          exact ih (k + 1) x9 (by omega) (by rw [← ht]; exact (if_neg (fun z => c33 (lgc0.mpr z))).symm)
        · refine g_iload_n (i := 2) dX9_ticksUntilBelow_36 rfl rfl ?_
          refine g_iret dX9_ticksUntilBelow_37 rfl rfl ?_
          exact ⟨by rw [show tubN (M 0) v (j + 1) k = some k from if_pos (lgc0.mp c33)] at ht; cases ht; rfl, (fcN (M 0) k, c1), rfl⟩
  refine g_iload_n (i := 1) dX9_ticksUntilBelow_0 rfl rfl ?_
  refine g_callS (ev_requireLevel_ok hl hv) dX9_ticksUntilBelow_1 ml_X9_202 csX9_requireLevel rfl rfl (Nat.le_of_ble_eq_true rfl) (Nat.le_of_ble_eq_true rfl) (Nat.zero_le _) (Nat.zero_le _) (kr_vd ?_) kx_rt
  refine g_aload_n (i := 0) dX9_ticksUntilBelow_4 rfl rfl ?_
  refine g_getf dX9_ticksUntilBelow_5 K_X9 (k := 3) fl_X9_22 (Nat.le_of_ble_eq_true rfl) hC_6 rfl ?_
  refine g_aload_n (i := 0) dX9_ticksUntilBelow_8 rfl rfl ?_
  refine g_getf dX9_ticksUntilBelow_9 K_X9 (k := 0) fl_X9_10 (Nat.le_of_ble_eq_true rfl) hC_6 rfl ?_
  refine g_callV (wr_copy hl (g := 3) (g2 := 0) (by decide) (by decide) (by decide) hG) dX9_ticksUntilBelow_12 ml_X9_205 cvX3_copyFrom K_X3 rfl (hC_map (g := 3) (by decide)).1 rfl rfl (Nat.le_of_ble_eq_true rfl) (Nat.le_of_ble_eq_true rfl) (Nat.zero_le _) (Nat.zero_le _) (kr_vd ?_) kx_rt
  refine g_iconst (v := 0) dX9_ticksUntilBelow_15 (by decide) ?_
  refine g_istore_n (i := 2) dX9_ticksUntilBelow_16 rfl (Nat.le_of_ble_eq_true rfl) ?_
  exact loop 21 0 c rfl hn

set_option maxRecDepth 100000 in
theorem ev_ticksUntil_no2 {l : Launch} {G : GG} (hl : l.stackTraces = false) {A : AD} {h : AH} {M : Nat → MS} {N : Nat × Nat} {c : Nat → Int32} {q : Nat → Nat} {H : HS} {L : LgS} {R : RS} {t l9 : SB} {O : OB} {v : Int32} (hv : levP v) (hG : gOk (M 0)) (hn : tubN (M 0) v 21 0 = none) :
    Ev l G 14 1 6 mX9_ticksUntilBelow [.ref (A 6 0), .int v] (hC h A (M, N, c, q, H, L, R, t, l9, O)) (TrX "java/util/NoSuchElementException" (fun x : MS × (Nat → Int32) => (hC h A (va_up M 3 x.1, N, x.2, q, H, L, R, t, l9, O)))) := by
  refine Ev.of hl (by decide) (Nat.le_of_ble_eq_true rfl) ?_
  have loop : ∀ (j : Nat) (k : Nat) (c1 : Nat → Int32), k + j = 21 → tubN (M 0) v j k = none → Go l G mX9_ticksUntilBelow 14 1 6 (TrX "java/util/NoSuchElementException" (fun x : MS × (Nat → Int32) => (hC h A (va_up M 3 x.1, N, x.2, q, H, L, R, t, l9, O)))) 17 [some (.ref (A 6 0)), some (.int v), some (.int (nI k))] [] (hC h A (va_up M 3 (fcN (M 0) k), N, c1, q, H, L, R, t, l9, O)) := by
    intro j
    induction j with
    | zero =>
      intro k c1 hk ht
      refine g_iload_n (i := 2) dX9_ticksUntilBelow_17 rfl rfl ?_
      refine g_bipush (v := 20) dX9_ticksUntilBelow_18 (by decide) ?_
      refine g_icmp_gt (tgt := 57) dX9_ticksUntilBelow_20 (by decide) (fun c20 => ?_) (fun c20 => ?_)
      · exact g_throwNn th_X9_164_212 dX9_ticksUntilBelow_57 dX9_ticksUntilBelow_60 dX9_ticksUntilBelow_61 dX9_ticksUntilBelow_63 dX9_ticksUntilBelow_66 rfl (by decide) (by decide) (Nat.le_of_ble_eq_true rfl) (Nat.le_of_ble_eq_true rfl) ⟨rfl, (fcN (M 0) k, c1), rfl⟩
      · exact absurd ((lt_nI (a := 20) (b := k) rfl (by omega) (by omega)).mpr (by omega)) c20
    | succ j ih =>
      intro k c1 hk ht
      refine g_iload_n (i := 2) dX9_ticksUntilBelow_17 rfl rfl ?_
      refine g_bipush (v := 20) dX9_ticksUntilBelow_18 (by decide) ?_
      refine g_icmp_gt (tgt := 57) dX9_ticksUntilBelow_20 (by decide) (fun c20 => ?_) (fun c20 => ?_)
      · exact absurd ((lt_nI (a := 20) (b := k) rfl (by omega) (by omega)).mp c20) (by omega)
      · refine g_aload_n (i := 0) dX9_ticksUntilBelow_23 rfl rfl ?_
        refine g_getf dX9_ticksUntilBelow_24 K_X9 (k := 3) fl_X9_22 (Nat.le_of_ble_eq_true rfl) hC_6 rfl ?_
        refine g_iload_n (i := 1) dX9_ticksUntilBelow_27 rfl rfl ?_
        refine g_callV (ev_cellsOfLevel hl (hC_mapU (g := 3) (m := fcN (M 0) k) (by decide))) dX9_ticksUntilBelow_28 ml_X9_208 cvX3_cellsOfLevel K_X3 rfl (hC_mapU (g := 3) (m := fcN (M 0) k) (by decide)).1 rfl rfl (Nat.le_of_ble_eq_true rfl) (Nat.le_of_ble_eq_true rfl) (Nat.zero_le _) (Nat.zero_le _) (kr_rt ?_) kx_rt
        refine g_lconst (v := 0) dX9_ticksUntilBelow_31 (by decide) ?_
        refine g_lcmp dX9_ticksUntilBelow_32 ?_
        refine g_if_ne (tgt := 38) dX9_ticksUntilBelow_33 (by decide) (fun c33 => ?_) (fun c33 => ?_)
        · refine g_aload_n (i := 0) dX9_ticksUntilBelow_38 rfl rfl ?_
          refine g_getf dX9_ticksUntilBelow_39 K_X9 (k := 5) fl_X9_35 (Nat.le_of_ble_eq_true rfl) hC_6 rfl ?_
          refine g_aload_n (i := 0) dX9_ticksUntilBelow_42 rfl rfl ?_
          refine g_getf dX9_ticksUntilBelow_43 K_X9 (k := 3) fl_X9_22 (Nat.le_of_ble_eq_true rfl) hC_6 rfl ?_
          refine g_iconst (v := 1) dX9_ticksUntilBelow_46 (by decide) ?_
          refine g_callV (wr_fc hl) dX9_ticksUntilBelow_47 ml_X9_192 cvX7_letTicksPass K_X7 rfl hC_9 rfl rfl (Nat.le_of_ble_eq_true rfl) (Nat.le_of_ble_eq_true rfl) (Nat.zero_le _) (Nat.zero_le _) (kr_x (fun x9 => ?_)) kx_x
          refine g_pop dX9_ticksUntilBelow_50 rfl ?_
          refine g_iinc (w := 1) dX9_ticksUntilBelow_51 (by decide) rfl (nI_succ k).symm (Nat.le_of_ble_eq_true rfl) ?_
          refine g_goto (tgt := 17) dX9_ticksUntilBelow_54 (by decide) ?_
          exact ih (k + 1) x9 (by omega) (by rw [← ht]; exact (if_neg (fun z => c33 (lgc0.mpr z))).symm)
        · exact absurd ht (by rw [show tubN (M 0) v (j + 1) k = some k from if_pos (lgc0.mp c33)]; intro z; cases z)
  refine g_iload_n (i := 1) dX9_ticksUntilBelow_0 rfl rfl ?_
  refine g_callS (ev_requireLevel_ok hl hv) dX9_ticksUntilBelow_1 ml_X9_202 csX9_requireLevel rfl rfl (Nat.le_of_ble_eq_true rfl) (Nat.le_of_ble_eq_true rfl) (Nat.zero_le _) (Nat.zero_le _) (kr_vd ?_) kx_rt
  refine g_aload_n (i := 0) dX9_ticksUntilBelow_4 rfl rfl ?_
  refine g_getf dX9_ticksUntilBelow_5 K_X9 (k := 3) fl_X9_22 (Nat.le_of_ble_eq_true rfl) hC_6 rfl ?_
  refine g_aload_n (i := 0) dX9_ticksUntilBelow_8 rfl rfl ?_
  refine g_getf dX9_ticksUntilBelow_9 K_X9 (k := 0) fl_X9_10 (Nat.le_of_ble_eq_true rfl) hC_6 rfl ?_
  refine g_callV (wr_copy hl (g := 3) (g2 := 0) (by decide) (by decide) (by decide) hG) dX9_ticksUntilBelow_12 ml_X9_205 cvX3_copyFrom K_X3 rfl (hC_map (g := 3) (by decide)).1 rfl rfl (Nat.le_of_ble_eq_true rfl) (Nat.le_of_ble_eq_true rfl) (Nat.zero_le _) (Nat.zero_le _) (kr_vd ?_) kx_rt
  refine g_iconst (v := 0) dX9_ticksUntilBelow_15 (by decide) ?_
  refine g_istore_n (i := 2) dX9_ticksUntilBelow_16 rfl (Nat.le_of_ble_eq_true rfl) ?_
  exact loop 21 0 c rfl hn

set_option maxRecDepth 100000 in
theorem ev_ticksUntil_no1 {l : Launch} {G : GG} (hl : l.stackTraces = false) {A : AD} {h : AH} {M : Nat → MS} {N : Nat × Nat} {c : Nat → Int32} {q : Nat → Nat} {H : HS} {L : LgS} {R : RS} {t l9 : SB} {O : OB} {v : Int32} (hv : ¬ levP v) :
    Ev l G 14 1 6 mX9_ticksUntilBelow [.ref (A 6 0), .int v] (hC h A (M, N, c, q, H, L, R, t, l9, O)) (Tr "java/lang/IllegalArgumentException" (hC h A (M, N, c, q, H, L, R, t, l9, O))) := by
  refine Ev.of hl (by decide) (Nat.le_of_ble_eq_true rfl) ?_
  refine g_iload_n (i := 1) dX9_ticksUntilBelow_0 rfl rfl ?_
  refine g_callS (ev_requireLevel_no hl hv) dX9_ticksUntilBelow_1 ml_X9_202 csX9_requireLevel rfl rfl (Nat.le_of_ble_eq_true rfl) (Nat.le_of_ble_eq_true rfl) (Nat.le_refl _) (Nat.le_refl _) kr_tr (kx_tr rfl ⟨rfl, rfl⟩)

set_option maxRecDepth 100000 in
theorem ev_run_no1 {l : Launch} {G : GG} (hl : l.stackTraces = false) {A : AD} {h : AH} {M : Nat → MS} {N : Nat × Nat} {c : Nat → Int32} {q : Nat → Nat} {H : HS} {L : LgS} {R : RS} {t l9 : SB} {O : OB} {T : TX} (hT : tOk T) (hB : isTx t T.1 T.2) (hr : (rTxt T 10 0 0 R.2.2).1 = false) :
    Ev l G 33 2 148 mX9_run [.ref (A 6 0)] (hC h A (M, N, c, q, H, L, R, t, l9, O)) (TrX "java/lang/IllegalArgumentException" (fun x : {B' : SB // isTx B' T.1 0} => (hC h A (M, N, c, q, H, L, (rTxt T 10 0 0 R.2.2).2, x.1, l9, (O.1, O.2.1, O.2.2.1, nI (rTxt T 10 0 0 R.2.2).2.2.1, O.2.2.2.2))))) := by
  refine Ev.of hl (by decide) (Nat.le_of_ble_eq_true rfl) ?_
  refine g_aload_n (i := 0) dX9_run_0 rfl rfl ?_
  refine g_getf dX9_run_1 K_X9 (k := 9) fl_X9_63 (Nat.le_of_ble_eq_true rfl) hC_6 rfl ?_
  refine g_callV (wr_readText hl hT hB) dX9_run_4 ml_X9_295 cvX2_readText K_X2 rfl hC_21 rfl rfl (Nat.le_of_ble_eq_true rfl) (Nat.le_of_ble_eq_true rfl) (Nat.zero_le _) (Nat.zero_le _) (kr_rt ?_) kx_rt
  rw [hr]
  refine g_istore_n (i := 1) dX9_run_7 rfl (Nat.le_of_ble_eq_true rfl) ?_
  refine g_aload_n (i := 0) dX9_run_8 rfl rfl ?_
  refine g_getf dX9_run_9 K_X9 (k := 9) fl_X9_63 (Nat.le_of_ble_eq_true rfl) hC_6 rfl ?_
  refine g_callV (wr_clear hl hB) dX9_run_12 ml_X9_298 cvX2_clear K_X2 rfl hC_21 rfl rfl (Nat.le_of_ble_eq_true rfl) (Nat.le_of_ble_eq_true rfl) (by decide) (by decide) (kr_xvm (fun x9 => ?_)) kx_x
  refine g_iload_n (i := 1) dX9_run_15 rfl rfl ?_
  refine g_if_ne (tgt := 41) dX9_run_16 (by decide) (fun c16 => ?_) (fun c16 => ?_)
  · exact absurd rfl c16
  · refine g_aload_n (i := 0) dX9_run_19 rfl rfl ?_
    refine g_aload_n (i := 0) dX9_run_20 rfl rfl ?_
    refine g_getf dX9_run_21 K_X9 (k := 9) fl_X9_63 (Nat.le_of_ble_eq_true rfl) hC_6 rfl ?_
    refine g_callV (wr_pos hl) dX9_run_24 ml_X9_301 cvX2_position K_X2 rfl hC_21 rfl rfl (Nat.le_of_ble_eq_true rfl) (Nat.le_of_ble_eq_true rfl) (Nat.zero_le _) (Nat.zero_le _) (kr_rt ?_) kx_rt
    refine g_putf dX9_run_27 K_X9 (k := 14) fl_X9_85 (Nat.le_of_ble_eq_true rfl) rfl hC_6 (Nat.le_of_ble_eq_true rfl) rfl rfl (Go.heap (hC_o (O' := (O.1, O.2.1, O.2.2.1, nI (rTxt T 10 0 0 R.2.2).2.2.1, O.2.2.2.2))) ?_)
    exact g_throwSW th_X9_99_304 dX9_run_30 dX9_run_33 dX9_run_34 dX9_run_37 dX9_run_40 rfl (by decide) (by decide) (Nat.le_of_ble_eq_true rfl) (Nat.le_of_ble_eq_true rfl) ⟨rfl, x9, rfl⟩

set_option maxRecDepth 100000 in
theorem run_loop {l : Launch} {G : GG} (hl : l.stackTraces = false) {A : AD} {h : AH} {M : Nat → MS} {N : Nat × Nat} {c : Nat → Int32} {q : Nat → Nat} {H : HS} {L : LgS} {R : RS} {t l9 : SB} {O : OB} (hN : N.1 < 8) (hN2 : N.2 < 9) (hG : gOk (M 0)) (hR : R.1 ≤ 10) (hkd : ∀ k, k < R.1 → kindP (R.2.2 k)) {m9 : MS} {O9 : OB} {P0 : Post} (hP : ∀ c', P0 (.inl (some (.int (nI R.1)))) (hC h A (va_up (va_up (va_up M 1 (M 0)) 0 m9) (4 + N.1) (M 0), kpN N, c', q, H, L, R, t, l9, O9))) : ∀ (j : Nat) (k : Nat) (m1 : MS) (O1 : OB) (c1 : Nat → Int32), k + j = R.1 → cRun R.2.2 j k m1 O1 = ((m9, O9), none) → Go l G mX9_run 33 0 0 P0 54 [some (.ref (A 6 0)), some (.int 1), some (.int (nI k))] [] (hC h A (va_up (va_up M 1 (M 0)) 0 m1, N, c1, q, H, L, R, t, l9, O1)) := by
  have loop : ∀ (j : Nat) (k : Nat) (m1 : MS) (O1 : OB) (c1 : Nat → Int32), k + j = R.1 → cRun R.2.2 j k m1 O1 = ((m9, O9), none) → Go l G mX9_run 33 0 0 P0 54 [some (.ref (A 6 0)), some (.int 1), some (.int (nI k))] [] (hC h A (va_up (va_up M 1 (M 0)) 0 m1, N, c1, q, H, L, R, t, l9, O1)) := by
    intro j
    induction j with
    | zero =>
      intro k m1 O1 c1 hk hr
      refine g_iload_n (i := 2) dX9_run_54 rfl rfl ?_
      refine g_aload_n (i := 0) dX9_run_55 rfl rfl ?_
      refine g_getf dX9_run_56 K_X9 (k := 9) fl_X9_63 (Nat.le_of_ble_eq_true rfl) hC_6 rfl ?_
      refine g_callV (wr_cnt hl) dX9_run_59 ml_X9_306 cvX2_commandCount K_X2 rfl hC_21 rfl rfl (Nat.le_of_ble_eq_true rfl) (Nat.le_of_ble_eq_true rfl) (Nat.zero_le _) (Nat.zero_le _) (kr_rt ?_) kx_rt
      refine g_icmp_ge (tgt := 113) dX9_run_62 (by decide) (fun c62 => ?_) (fun c62 => ?_)
      · refine g_aload_n (i := 0) dX9_run_113 rfl rfl ?_
        refine g_getf dX9_run_114 K_X9 (k := 4) fl_X9_28 (Nat.le_of_ble_eq_true rfl) hC_6 rfl ?_
        refine g_aload_n (i := 0) dX9_run_117 rfl rfl ?_
        refine g_getf dX9_run_118 K_X9 (k := 1) fl_X9_16 (Nat.le_of_ble_eq_true rfl) hC_6 rfl ?_
        refine g_callV (wr_keep hl (M := va_up (va_up M 1 (M 0)) 0  m1) (g := 1) (by decide) hN hN2 (by rw [va_0_1]; exact hG)) dX9_run_121 ml_X9_123 cvX4_keep K_X4 rfl hC_7 rfl rfl (Nat.le_of_ble_eq_true rfl) (Nat.le_of_ble_eq_true rfl) (Nat.zero_le _) (Nat.zero_le _) (kr_vd ?_) kx_rt
        refine g_aload_n (i := 0) dX9_run_124 rfl rfl ?_
        refine g_getf dX9_run_125 K_X9 (k := 9) fl_X9_63 (Nat.le_of_ble_eq_true rfl) hC_6 rfl ?_
        refine g_callV (wr_cnt hl) dX9_run_128 ml_X9_306 cvX2_commandCount K_X2 rfl hC_21 rfl rfl (Nat.le_of_ble_eq_true rfl) (Nat.le_of_ble_eq_true rfl) (Nat.zero_le _) (Nat.zero_le _) (kr_rt ?_) kx_rt
        refine g_iret dX9_run_131 rfl rfl ?_
        have e1 : m1 = m9 := congrArg (fun z => z.1.1) hr
        have e2 : O1 = O9 := congrArg (fun z => z.1.2) hr
        have z := hP c1
        rw [← e1, ← e2] at z
        show P0 _ (hC h A (va_up (va_up (va_up M 1 (M 0)) 0 m1) (4 + N.1) (va_up (va_up M 1 (M 0)) 0 m1 1), _, _, _, _, _, _, _, _, _))
        rw [va_0_1]
        exact z
      · exact absurd ((le_nI (a := R.1) (b := k) rfl (by omega) (by omega)).mpr (by omega)) c62
    | succ j ih =>
      intro k m1 O1 c1 hk hr
      refine g_iload_n (i := 2) dX9_run_54 rfl rfl ?_
      refine g_aload_n (i := 0) dX9_run_55 rfl rfl ?_
      refine g_getf dX9_run_56 K_X9 (k := 9) fl_X9_63 (Nat.le_of_ble_eq_true rfl) hC_6 rfl ?_
      refine g_callV (wr_cnt hl) dX9_run_59 ml_X9_306 cvX2_commandCount K_X2 rfl hC_21 rfl rfl (Nat.le_of_ble_eq_true rfl) (Nat.le_of_ble_eq_true rfl) (Nat.zero_le _) (Nat.zero_le _) (kr_rt ?_) kx_rt
      refine g_icmp_ge (tgt := 113) dX9_run_62 (by decide) (fun c62 => ?_) (fun c62 => ?_)
      · exact absurd ((le_nI (a := R.1) (b := k) rfl (by omega) (by omega)).mp c62) (by omega)
      · refine g_aload_n (i := 0) dX9_run_65 rfl rfl ?_
        refine g_aload_n (i := 0) dX9_run_66 rfl rfl ?_
        refine g_getf dX9_run_67 K_X9 (k := 9) fl_X9_63 (Nat.le_of_ble_eq_true rfl) hC_6 rfl ?_
        refine g_iload_n (i := 2) dX9_run_70 rfl rfl ?_
        refine g_callV (wr_cmdAt hl (i := k) (by omega)) dX9_run_71 ml_X9_309 cvX2_commandAt K_X2 rfl hC_21 rfl rfl (Nat.le_of_ble_eq_true rfl) (Nat.le_of_ble_eq_true rfl) (Nat.zero_le _) (Nat.zero_le _) (kr_rt ?_) kx_rt
        refine g_callV (wr_carry hl (M := va_up M 1 (M 0)) (m := m1) (O := O1) (c := c1) (i := k) (by omega) (hkd k (by omega))) dX9_run_74 ml_X9_313 cvX9_carryOut K_X9 rfl hC_6 rfl rfl (Nat.le_of_ble_eq_true rfl) (Nat.le_of_ble_eq_true rfl) (Nat.zero_le _) (Nat.zero_le _) (kr_x (fun x9 => ?_)) kx_x
        refine g_if_ne (tgt := 107) dX9_run_77 (by decide) (fun c77 => ?_) (fun c77 => ?_)
        · refine g_iinc (w := 1) dX9_run_107 (by decide) rfl (nI_succ k).symm (Nat.le_of_ble_eq_true rfl) ?_
          refine g_goto (tgt := 54) dX9_run_110 (by decide) ?_
          exact ih (k + 1) _ _ _ (by omega) (by rw [← hr]; exact (if_pos (ite_1 c77)).symm)
        · exact absurd hr (by rw [show cRun R.2.2 (j + 1) k m1 O1 = _ from if_neg (ite_0 c77)]; intro z; exact absurd (congrArg Prod.snd z) (fun y => by cases y))
  exact loop

set_option maxRecDepth 100000 in
theorem run_loopN {l : Launch} {G : GG} (hl : l.stackTraces = false) {A : AD} {h : AH} {M : Nat → MS} {N : Nat × Nat} {c : Nat → Int32} {q : Nat → Nat} {H : HS} {L : LgS} {R : RS} {t l9 : SB} {O : OB} (hG : gOk (M 0)) (hR : R.1 ≤ 10) (hkd : ∀ k, k < R.1 → kindP (R.2.2 k)) {m9 : MS} {O9 : OB} {f9 : Nat} {P0 : Post} (hP : ∀ c', P0 (.inr "java/lang/IllegalStateException") (hC h A (va_up M 1 (M 0), N, c', q, H, L, R, t, l9, (O9.1, O9.2.1, O9.2.2.1, O9.2.2.2.1, nI f9)))) : ∀ (j : Nat) (k : Nat) (m1 : MS) (O1 : OB) (c1 : Nat → Int32), k + j = R.1 → cRun R.2.2 j k m1 O1 = ((m9, O9), some f9) → Go l G mX9_run 33 1 6 P0 54 [some (.ref (A 6 0)), some (.int 1), some (.int (nI k))] [] (hC h A (va_up (va_up M 1 (M 0)) 0 m1, N, c1, q, H, L, R, t, l9, O1)) := by
  have loop : ∀ (j : Nat) (k : Nat) (m1 : MS) (O1 : OB) (c1 : Nat → Int32), k + j = R.1 → cRun R.2.2 j k m1 O1 = ((m9, O9), some f9) → Go l G mX9_run 33 1 6 P0 54 [some (.ref (A 6 0)), some (.int 1), some (.int (nI k))] [] (hC h A (va_up (va_up M 1 (M 0)) 0 m1, N, c1, q, H, L, R, t, l9, O1)) := by
    intro j
    induction j with
    | zero =>
      intro k m1 O1 c1 hk hr
      cases hr
    | succ j ih =>
      intro k m1 O1 c1 hk hr
      refine g_iload_n (i := 2) dX9_run_54 rfl rfl ?_
      refine g_aload_n (i := 0) dX9_run_55 rfl rfl ?_
      refine g_getf dX9_run_56 K_X9 (k := 9) fl_X9_63 (Nat.le_of_ble_eq_true rfl) hC_6 rfl ?_
      refine g_callV (wr_cnt hl) dX9_run_59 ml_X9_306 cvX2_commandCount K_X2 rfl hC_21 rfl rfl (Nat.le_of_ble_eq_true rfl) (Nat.le_of_ble_eq_true rfl) (Nat.zero_le _) (Nat.zero_le _) (kr_rt ?_) kx_rt
      refine g_icmp_ge (tgt := 113) dX9_run_62 (by decide) (fun c62 => ?_) (fun c62 => ?_)
      · exact absurd ((le_nI (a := R.1) (b := k) rfl (by omega) (by omega)).mp c62) (by omega)
      · refine g_aload_n (i := 0) dX9_run_65 rfl rfl ?_
        refine g_aload_n (i := 0) dX9_run_66 rfl rfl ?_
        refine g_getf dX9_run_67 K_X9 (k := 9) fl_X9_63 (Nat.le_of_ble_eq_true rfl) hC_6 rfl ?_
        refine g_iload_n (i := 2) dX9_run_70 rfl rfl ?_
        refine g_callV (wr_cmdAt hl (i := k) (by omega)) dX9_run_71 ml_X9_309 cvX2_commandAt K_X2 rfl hC_21 rfl rfl (Nat.le_of_ble_eq_true rfl) (Nat.le_of_ble_eq_true rfl) (Nat.zero_le _) (Nat.zero_le _) (kr_rt ?_) kx_rt
        refine g_callV (wr_carry hl (M := va_up M 1 (M 0)) (m := m1) (O := O1) (c := c1) (i := k) (by omega) (hkd k (by omega))) dX9_run_74 ml_X9_313 cvX9_carryOut K_X9 rfl hC_6 rfl rfl (Nat.le_of_ble_eq_true rfl) (Nat.le_of_ble_eq_true rfl) (Nat.zero_le _) (Nat.zero_le _) (kr_x (fun x9 => ?_)) kx_x
        refine g_if_ne (tgt := 107) dX9_run_77 (by decide) (fun c77 => ?_) (fun c77 => ?_)
        · refine g_iinc (w := 1) dX9_run_107 (by decide) rfl (nI_succ k).symm (Nat.le_of_ble_eq_true rfl) ?_
          refine g_goto (tgt := 54) dX9_run_110 (by decide) ?_
          exact ih (k + 1) _ _ _ (by omega) (by rw [← hr]; exact (if_pos (ite_1 c77)).symm)
        · have hr2 : cRun R.2.2 (j + 1) k m1 O1 = ((cCmd m1 O1 (R.2.2 k)).1, some k) := if_neg (ite_0 c77)
          rw [hr2] at hr
          obtain ⟨e1, e2⟩ := Prod.mk.inj hr
          have e3 : k = f9 := Option.some.inj e2
          refine g_aload_n (i := 0) dX9_run_80 rfl rfl ?_
          refine g_getf dX9_run_81 K_X9 (k := 0) fl_X9_10 (Nat.le_of_ble_eq_true rfl) hC_6 rfl ?_
          refine g_aload_n (i := 0) dX9_run_84 rfl rfl ?_
          refine g_getf dX9_run_85 K_X9 (k := 1) fl_X9_16 (Nat.le_of_ble_eq_true rfl) hC_6 rfl ?_
          refine g_callV (wr_copy hl (M := va_up (va_up M 1 (M 0)) 0  (cCmd m1 O1 (R.2.2 k)).1.1) (g := 0) (g2 := 1) (by decide) (by decide) (by decide) (by rw [va_0_1]; exact hG)) dX9_run_88 ml_X9_205 cvX3_copyFrom K_X3 rfl (hC_map (g := 0) (by decide)).1 rfl rfl (Nat.le_of_ble_eq_true rfl) (Nat.le_of_ble_eq_true rfl) (Nat.zero_le _) (Nat.zero_le _) (kr_vd ?_) kx_rt
          refine Go.heap (h' := (hC h A (va_up M 1 (M 0), N, x9, q, H, L, R, t, l9, O9))) (by rw [va_0_1, va_back]; show hC h A (_, _, _, _, _, _, _, _, _, (cCmd m1 O1 (R.2.2 k)).1.2) = _; rw [e1]) ?_
          refine g_aload_n (i := 0) dX9_run_91 rfl rfl ?_
          refine g_iload_n (i := 2) dX9_run_92 rfl rfl ?_
          rw [e3]
          refine g_putf dX9_run_93 K_X9 (k := 15) fl_X9_88 (Nat.le_of_ble_eq_true rfl) rfl hC_6 (Nat.le_of_ble_eq_true rfl) rfl rfl (Go.heap (hC_o (O' := (O9.1, O9.2.1, O9.2.2.1, O9.2.2.2.1, nI f9))) ?_)
          exact g_throwSW th_X9_286_317 dX9_run_96 dX9_run_99 dX9_run_100 dX9_run_103 dX9_run_106 rfl (by decide) (by decide) (Nat.le_of_ble_eq_true rfl) (Nat.le_of_ble_eq_true rfl) (hP x9)
  exact loop

theorem va_01 {M : Nat → MS} : va_up (va_up M 1 (M 0)) 0 (M 0) = va_up M 1 (M 0) := by
  funext k
  unfold va_up
  by_cases e : k = 0
  · subst e; simp
  · simp [e]

set_option maxRecDepth 100000 in
theorem ev_run {l : Launch} {G : GG} (hl : l.stackTraces = false) {A : AD} {h : AH} {M : Nat → MS} {N : Nat × Nat} {c : Nat → Int32} {q : Nat → Nat} {H : HS} {L : LgS} {R : RS} {t l9 : SB} {O : OB} {T : TX} (hT : tOk T) (hB : isTx t T.1 T.2) (hN : N.1 < 8) (hN2 : N.2 < 9) (hr : (rTxt T 10 0 0 R.2.2).1 = true) (hG : gOk (M 0)) (hR : (rTxt T 10 0 0 R.2.2).2.1 ≤ 10) (hkd : ∀ k, k < (rTxt T 10 0 0 R.2.2).2.1 → kindP ((rTxt T 10 0 0 R.2.2).2.2.2 k)) {m9 : MS} {O9 : OB} (hc : cRun (rTxt T 10 0 0 R.2.2).2.2.2 (rTxt T 10 0 0 R.2.2).2.1 0 (M 0) O = ((m9, O9), none)) :
    Ev l G 33 1 142 mX9_run [.ref (A 6 0)] (hC h A (M, N, c, q, H, L, R, t, l9, O)) (RtX (some (.int (nI (rTxt T 10 0 0 R.2.2).2.1))) (fun x : {B' : SB // isTx B' T.1 0} × (Nat → Int32) => (hC h A (va_up (va_up (va_up M 1 (M 0)) 0 m9) (4 + N.1) (M 0), kpN N, x.2, q, H, L, (rTxt T 10 0 0 R.2.2).2, x.1.1, l9, O9)))) := by
  refine Ev.of hl (by decide) (Nat.le_of_ble_eq_true rfl) ?_
  refine g_aload_n (i := 0) dX9_run_0 rfl rfl ?_
  refine g_getf dX9_run_1 K_X9 (k := 9) fl_X9_63 (Nat.le_of_ble_eq_true rfl) hC_6 rfl ?_
  refine g_callV (wr_readText hl hT hB) dX9_run_4 ml_X9_295 cvX2_readText K_X2 rfl hC_21 rfl rfl (Nat.le_of_ble_eq_true rfl) (Nat.le_of_ble_eq_true rfl) (Nat.zero_le _) (Nat.zero_le _) (kr_rt ?_) kx_rt
  rw [hr]
  refine g_istore_n (i := 1) dX9_run_7 rfl (Nat.le_of_ble_eq_true rfl) ?_
  refine g_aload_n (i := 0) dX9_run_8 rfl rfl ?_
  refine g_getf dX9_run_9 K_X9 (k := 9) fl_X9_63 (Nat.le_of_ble_eq_true rfl) hC_6 rfl ?_
  refine g_callV (wr_clear hl hB) dX9_run_12 ml_X9_298 cvX2_clear K_X2 rfl hC_21 rfl rfl (Nat.le_of_ble_eq_true rfl) (Nat.le_of_ble_eq_true rfl) (by decide) (by decide) (kr_xvm (fun x9 => ?_)) kx_x
  refine g_iload_n (i := 1) dX9_run_15 rfl rfl ?_
  refine g_if_ne (tgt := 41) dX9_run_16 (by decide) (fun c16 => ?_) (fun c16 => ?_)
  · refine g_aload_n (i := 0) dX9_run_41 rfl rfl ?_
    refine g_getf dX9_run_42 K_X9 (k := 1) fl_X9_16 (Nat.le_of_ble_eq_true rfl) hC_6 rfl ?_
    refine g_aload_n (i := 0) dX9_run_45 rfl rfl ?_
    refine g_getf dX9_run_46 K_X9 (k := 0) fl_X9_10 (Nat.le_of_ble_eq_true rfl) hC_6 rfl ?_
    refine g_callV (wr_copy hl (g := 1) (g2 := 0) (by decide) (by decide) (by decide) hG) dX9_run_49 ml_X9_205 cvX3_copyFrom K_X3 rfl (hC_map (g := 1) (by decide)).1 rfl rfl (Nat.le_of_ble_eq_true rfl) (Nat.le_of_ble_eq_true rfl) (Nat.zero_le _) (Nat.zero_le _) (kr_vd ?_) kx_rt
    refine g_iconst (v := 0) dX9_run_52 (by decide) ?_
    refine g_istore_n (i := 2) dX9_run_53 rfl (Nat.le_of_ble_eq_true rfl) ?_
    refine Go.heap (h' := (hC h A (va_up (va_up M 1 (M 0)) 0 (M 0), N, c, q, H, L, (rTxt T 10 0 0 R.2.2).2, x9.1, l9, O))) (by rw [va_01]) ?_
    exact Go.wid (Nat.zero_le _) (Nat.zero_le _) (run_loop hl (R := (rTxt T 10 0 0 R.2.2).2) (O := O) (c := c) hN hN2 hG hR hkd (fun c' => ⟨rfl, (x9, c'), rfl⟩) (rTxt T 10 0 0 R.2.2).2.1 0 (M 0) O c (Nat.zero_add _) hc)
  · exact absurd c16 (by decide)

set_option maxRecDepth 100000 in
theorem ev_run_no2 {l : Launch} {G : GG} (hl : l.stackTraces = false) {A : AD} {h : AH} {M : Nat → MS} {N : Nat × Nat} {c : Nat → Int32} {q : Nat → Nat} {H : HS} {L : LgS} {R : RS} {t l9 : SB} {O : OB} {T : TX} (hT : tOk T) (hB : isTx t T.1 T.2) (hr : (rTxt T 10 0 0 R.2.2).1 = true) (hG : gOk (M 0)) (hR : (rTxt T 10 0 0 R.2.2).2.1 ≤ 10) (hkd : ∀ k, k < (rTxt T 10 0 0 R.2.2).2.1 → kindP ((rTxt T 10 0 0 R.2.2).2.2.2 k)) {m9 : MS} {O9 : OB} {f9 : Nat} (hc : cRun (rTxt T 10 0 0 R.2.2).2.2.2 (rTxt T 10 0 0 R.2.2).2.1 0 (M 0) O = ((m9, O9), some f9)) :
    Ev l G 33 2 148 mX9_run [.ref (A 6 0)] (hC h A (M, N, c, q, H, L, R, t, l9, O)) (TrX "java/lang/IllegalStateException" (fun x : {B' : SB // isTx B' T.1 0} × (Nat → Int32) => (hC h A (va_up M 1 (M 0), N, x.2, q, H, L, (rTxt T 10 0 0 R.2.2).2, x.1.1, l9, (O9.1, O9.2.1, O9.2.2.1, O9.2.2.2.1, nI f9))))) := by
  refine Ev.of hl (by decide) (Nat.le_of_ble_eq_true rfl) ?_
  refine g_aload_n (i := 0) dX9_run_0 rfl rfl ?_
  refine g_getf dX9_run_1 K_X9 (k := 9) fl_X9_63 (Nat.le_of_ble_eq_true rfl) hC_6 rfl ?_
  refine g_callV (wr_readText hl hT hB) dX9_run_4 ml_X9_295 cvX2_readText K_X2 rfl hC_21 rfl rfl (Nat.le_of_ble_eq_true rfl) (Nat.le_of_ble_eq_true rfl) (Nat.zero_le _) (Nat.zero_le _) (kr_rt ?_) kx_rt
  rw [hr]
  refine g_istore_n (i := 1) dX9_run_7 rfl (Nat.le_of_ble_eq_true rfl) ?_
  refine g_aload_n (i := 0) dX9_run_8 rfl rfl ?_
  refine g_getf dX9_run_9 K_X9 (k := 9) fl_X9_63 (Nat.le_of_ble_eq_true rfl) hC_6 rfl ?_
  refine g_callV (wr_clear hl hB) dX9_run_12 ml_X9_298 cvX2_clear K_X2 rfl hC_21 rfl rfl (Nat.le_of_ble_eq_true rfl) (Nat.le_of_ble_eq_true rfl) (by decide) (by decide) (kr_xvm (fun x9 => ?_)) kx_x
  refine g_iload_n (i := 1) dX9_run_15 rfl rfl ?_
  refine g_if_ne (tgt := 41) dX9_run_16 (by decide) (fun c16 => ?_) (fun c16 => ?_)
  · refine g_aload_n (i := 0) dX9_run_41 rfl rfl ?_
    refine g_getf dX9_run_42 K_X9 (k := 1) fl_X9_16 (Nat.le_of_ble_eq_true rfl) hC_6 rfl ?_
    refine g_aload_n (i := 0) dX9_run_45 rfl rfl ?_
    refine g_getf dX9_run_46 K_X9 (k := 0) fl_X9_10 (Nat.le_of_ble_eq_true rfl) hC_6 rfl ?_
    refine g_callV (wr_copy hl (g := 1) (g2 := 0) (by decide) (by decide) (by decide) hG) dX9_run_49 ml_X9_205 cvX3_copyFrom K_X3 rfl (hC_map (g := 1) (by decide)).1 rfl rfl (Nat.le_of_ble_eq_true rfl) (Nat.le_of_ble_eq_true rfl) (Nat.zero_le _) (Nat.zero_le _) (kr_vd ?_) kx_rt
    refine g_iconst (v := 0) dX9_run_52 (by decide) ?_
    refine g_istore_n (i := 2) dX9_run_53 rfl (Nat.le_of_ble_eq_true rfl) ?_
    refine Go.heap (h' := (hC h A (va_up (va_up M 1 (M 0)) 0 (M 0), N, c, q, H, L, (rTxt T 10 0 0 R.2.2).2, x9.1, l9, O))) (by rw [va_01]) ?_
    exact Go.wid (by decide) (by decide) (run_loopN hl (R := (rTxt T 10 0 0 R.2.2).2) (O := O) (c := c) hG hR hkd (fun c' => ⟨rfl, (x9, c'), rfl⟩) (rTxt T 10 0 0 R.2.2).2.1 0 (M 0) O c (Nat.zero_add _) hc)
  · exact absurd c16 (by decide)

/-- the shapes of a level agree -/
def shpP (m : MS) (v : Int32) : Prop := (regN 64 0 (levN m.2.1 v 64) 0 = unAN (levN m.2.1 v 64) 64 ∧ holN 64 0 (levN m.2.1 v 64 ^^^ (-1)) 0 = unAN (levN m.2.1 v 64) 64 - sqAll (levN m.2.1 v 64) 9 (-1) 0 / 4 ∧ conN (levN m.2.1 v 64) 64 = 4 * pcJ (levN m.2.1 v 64) - 2 * (pcJ (levN m.2.1 v 64 &&& srl (levN m.2.1 v 64) 1 &&& 9187201950435737471) + pcJ (levN m.2.1 v 64 &&& srl (levN m.2.1 v 64) 8)))

set_option maxRecDepth 100000 in
theorem ev_shapesAgree {l : Launch} {G : GG} (hl : l.stackTraces = false) {A : AD} {h : AH} {M : Nat → MS} {N : Nat × Nat} {c : Nat → Int32} {q : Nat → Nat} {H : HS} {L : LgS} {R : RS} {t l9 : SB} {O : OB} {v : Int32} (hs : shpP (M 0) v) :
    Ev l G 15 0 0 mX9_shapesAgree [.ref (A 6 0), .int v] (hC h A (M, N, c, q, H, L, R, t, l9, O)) (RtX (some (.int 1)) (fun q' => (hC h A (M, N, c, q', H, L, R, t, l9, O)))) := by
  refine Ev.of hl (by decide) (Nat.le_of_ble_eq_true rfl) ?_
  refine g_aload_n (i := 0) dX9_shapesAgree_0 rfl rfl ?_
  refine g_getf dX9_shapesAgree_1 K_X9 (k := 0) fl_X9_10 (Nat.le_of_ble_eq_true rfl) hC_6 rfl ?_
  refine g_iload_n (i := 1) dX9_shapesAgree_4 rfl rfl ?_
  refine g_callV (ev_cellsOfLevel hl (hC_map (g := 0) (by decide))) dX9_shapesAgree_5 ml_X9_208 cvX3_cellsOfLevel K_X3 rfl (hC_map (g := 0) (by decide)).1 rfl rfl (Nat.le_of_ble_eq_true rfl) (Nat.le_of_ble_eq_true rfl) (Nat.zero_le _) (Nat.zero_le _) (kr_rt ?_) kx_rt
  refine g_lstore_n (i := 2) dX9_shapesAgree_8 rfl (Nat.le_of_ble_eq_true rfl) ?_
  refine g_lload_n (i := 2) dX9_shapesAgree_9 rfl rfl ?_
  refine g_callS (ev_countRegions hl) dX9_shapesAgree_10 ml_X9_214 csX6_countRegions rfl rfl (Nat.le_of_ble_eq_true rfl) (Nat.le_of_ble_eq_true rfl) (Nat.zero_le _) (Nat.zero_le _) (kr_rt ?_) kx_rt
  refine g_aload_n (i := 0) dX9_shapesAgree_13 rfl rfl ?_
  refine g_getf dX9_shapesAgree_14 K_X9 (k := 6) fl_X9_42 (Nat.le_of_ble_eq_true rfl) hC_6 rfl ?_
  refine g_lload_n (i := 2) dX9_shapesAgree_17 rfl rfl ?_
  refine g_callV (wr_unions hl) dX9_shapesAgree_18 ml_X9_220 cvX8_countRegions K_X8 rfl hC_11 rfl rfl (Nat.le_of_ble_eq_true rfl) (Nat.le_of_ble_eq_true rfl) (Nat.zero_le _) (Nat.zero_le _) (kr_x (fun y1 => ?_)) kx_x
  refine g_icmp_ne (tgt := 51) dX9_shapesAgree_21 (by decide) (fun c21 => ?_) (fun c21 => ?_)
  · exact absurd hs.1 c21
  · refine g_lload_n (i := 2) dX9_shapesAgree_24 rfl rfl ?_
    refine g_callS (ev_countHoles hl) dX9_shapesAgree_25 ml_X9_221 csX6_countHoles rfl rfl (Nat.le_of_ble_eq_true rfl) (Nat.le_of_ble_eq_true rfl) (Nat.zero_le _) (Nat.zero_le _) (kr_rt ?_) kx_rt
    refine g_aload_n (i := 0) dX9_shapesAgree_28 rfl rfl ?_
    refine g_lload_n (i := 2) dX9_shapesAgree_29 rfl rfl ?_
    refine g_callV (ev_holesSq hl) dX9_shapesAgree_30 ml_X9_224 cvX9_countHolesBySquares K_X9 rfl hC_6 rfl rfl (Nat.le_of_ble_eq_true rfl) (Nat.le_of_ble_eq_true rfl) (Nat.zero_le _) (Nat.zero_le _) (kr_x (fun y2 => ?_)) kx_x
    refine g_icmp_ne (tgt := 51) dX9_shapesAgree_33 (by decide) (fun c33 => ?_) (fun c33 => ?_)
    · exact absurd hs.2.1 c33
    · refine g_lload_n (i := 2) dX9_shapesAgree_36 rfl rfl ?_
      refine g_callS (ev_measureContour hl) dX9_shapesAgree_37 ml_X9_227 csX6_measureContour rfl rfl (Nat.le_of_ble_eq_true rfl) (Nat.le_of_ble_eq_true rfl) (Nat.zero_le _) (Nat.zero_le _) (kr_rt ?_) kx_rt
      refine g_lload_n (i := 2) dX9_shapesAgree_40 rfl rfl ?_
      refine g_callS (ev_contourByPairs hl) dX9_shapesAgree_41 ml_X9_230 csX6_measureContourByPairs rfl rfl (Nat.le_of_ble_eq_true rfl) (Nat.le_of_ble_eq_true rfl) (Nat.zero_le _) (Nat.zero_le _) (kr_rt ?_) kx_rt
      refine g_icmp_ne (tgt := 51) dX9_shapesAgree_44 (by decide) (fun c44 => ?_) (fun c44 => ?_)
      · exact absurd hs.2.2 c44
      · refine g_iconst (v := 1) dX9_shapesAgree_47 (by decide) ?_
        refine g_goto (tgt := 52) dX9_shapesAgree_48 (by decide) ?_
        refine g_iret dX9_shapesAgree_52 rfl rfl ?_
        exact ⟨rfl, y2, rfl⟩

set_option maxRecDepth 100000 in
theorem ev_waysAgree {l : Launch} {G : GG} (hl : l.stackTraces = false) {A : AD} {h : AH} {M : Nat → MS} {N : Nat × Nat} {c : Nat → Int32} {q : Nat → Nat} {H : HS} {L : LgS} {R : RS} {t l9 : SB} {O : OB} (hw : ∀ f w, w < 64 → fpJ (M 0) 0 w f = (tryN (M 0) 0 w 64).2) :
    Ev l G 14 0 0 mX9_waysAgree [.ref (A 6 0)] (hC h A (M, N, c, q, H, L, R, t, l9, O)) (RtX (some (.int 1)) (fun H' => (hC h A (M, N, c, q, H', L, R, t, l9, O)))) := by
  refine Ev.of hl (by decide) (Nat.le_of_ble_eq_true rfl) ?_
  have loop : ∀ (j : Nat) (k : Nat) (H : HS), k + j = 8 → Go l G mX9_waysAgree 14 0 0 (RtX (some (.int 1)) (fun H' => (hC h A (M, N, c, q, H', L, R, t, l9, O)))) 3 [some (.ref (A 6 0)), some (.int (nI (56 + k)))] [] (hC h A (M, N, c, q, H, L, R, t, l9, O)) := by
    intro j
    induction j with
    | zero =>
      intro k H hk
      refine g_iload_n (i := 1) dX9_waysAgree_3 rfl rfl ?_
      refine g_bipush (v := 64) dX9_waysAgree_4 (by decide) ?_
      refine g_icmp_ge (tgt := 39) dX9_waysAgree_6 (by decide) (fun c6 => ?_) (fun c6 => ?_)
      · refine g_iconst (v := 1) dX9_waysAgree_39 (by decide) ?_
        refine g_iret dX9_waysAgree_40 rfl rfl ?_
        exact ⟨rfl, H, rfl⟩
      · exact absurd ((le_nI (a := 64) (b := 56 + k) rfl (by omega) (by omega)).mpr (by omega)) c6
    | succ j ih =>
      intro k H hk
      refine g_iload_n (i := 1) dX9_waysAgree_3 rfl rfl ?_
      refine g_bipush (v := 64) dX9_waysAgree_4 (by decide) ?_
      refine g_icmp_ge (tgt := 39) dX9_waysAgree_6 (by decide) (fun c6 => ?_) (fun c6 => ?_)
      · exact absurd ((le_nI (a := 64) (b := 56 + k) rfl (by omega) (by omega)).mp c6) (by omega)
      · refine g_aload_n (i := 0) dX9_waysAgree_9 rfl rfl ?_
        refine g_getf dX9_waysAgree_10 K_X9 (k := 7) fl_X9_49 (Nat.le_of_ble_eq_true rfl) hC_6 rfl ?_
        refine g_aload_n (i := 0) dX9_waysAgree_13 rfl rfl ?_
        refine g_getf dX9_waysAgree_14 K_X9 (k := 0) fl_X9_10 (Nat.le_of_ble_eq_true rfl) hC_6 rfl ?_
        refine g_iconst (v := 0) dX9_waysAgree_17 (by decide) ?_
        refine g_iload_n (i := 1) dX9_waysAgree_18 rfl rfl ?_
        refine g_callV (wr_peak hl (fm := 0) (to := 56 + k) (by decide) (by omega)) dX9_waysAgree_19 ml_X9_245 cvX0_findPeak K_X0 rfl hC_13 rfl rfl (Nat.le_of_ble_eq_true rfl) (Nat.le_of_ble_eq_true rfl) (Nat.zero_le _) (Nat.zero_le _) (kr_x (fun x9 => ?_)) kx_x
        refine g_aload_n (i := 0) dX9_waysAgree_22 rfl rfl ?_
        refine g_iconst (v := 0) dX9_waysAgree_23 (by decide) ?_
        refine g_iload_n (i := 1) dX9_waysAgree_24 rfl rfl ?_
        refine g_callV (ev_findPeakT hl (f := 0) (w := 56 + k)) dX9_waysAgree_25 ml_X9_251 cvX9_findPeakByTrying K_X9 rfl hC_6 rfl rfl (Nat.le_of_ble_eq_true rfl) (Nat.le_of_ble_eq_true rfl) (Nat.zero_le _) (Nat.zero_le _) (kr_rt ?_) kx_rt
        refine g_icmp_eq (tgt := 33) dX9_waysAgree_28 (by decide) (fun c28 => ?_) (fun c28 => ?_)
        · refine g_iinc (w := 1) dX9_waysAgree_33 (by decide) rfl (nI_succ (56 + k)).symm (Nat.le_of_ble_eq_true rfl) ?_
          refine g_goto (tgt := 3) dX9_waysAgree_36 (by decide) ?_
          exact ih (k + 1) _ (by omega)
        · exact absurd (hw H.2 (56 + k) (by omega)) c28
  refine g_bipush (v := 56) dX9_waysAgree_0 (by decide) ?_
  refine g_istore_n (i := 1) dX9_waysAgree_2 rfl (Nat.le_of_ble_eq_true rfl) ?_
  exact loop 8 0 H rfl

set_option maxRecDepth 100000 in
theorem ev_spreadsFor {l : Launch} {G : GG} (hl : l.stackTraces = false) {A : AD} {h : AH} {M : Nat → MS} {N : Nat × Nat} {c : Nat → Int32} {q : Nat → Nat} {H : HS} {L : LgS} {R : RS} {t l9 : SB} {O : OB} {k : Nat} (hk1 : 1 ≤ k) (hk : k ≤ 6) (hs : (∀ L, spN (drwS (M 0) k L) (drwS (M 0) k L).2.2.2.2.2 = tabT (rdS (M 0) (drwS (M 0) k L) 64) k k (rdS (M 0) (drwS (M 0) k L) 64).2.2.2.2.1)) :
    Ev l G 13 0 0 mX9_spreadsAgreeFor [.ref (A 6 0), .int (nI k)] (hC h A (M, N, c, q, H, L, R, t, l9, O)) (RtX (some (.int 1)) (fun L' => (hC h A (M, N, c, q, H, L', R, t, l9, O)))) := by
  refine Ev.of hl (by decide) (Nat.le_of_ble_eq_true rfl) ?_
  refine g_aload_n (i := 0) dX9_spreadsAgreeFor_0 rfl rfl ?_
  refine g_getf dX9_spreadsAgreeFor_1 K_X9 (k := 8) fl_X9_56 (Nat.le_of_ble_eq_true rfl) hC_6 rfl ?_
  refine g_aload_n (i := 0) dX9_spreadsAgreeFor_4 rfl rfl ?_
  refine g_getf dX9_spreadsAgreeFor_5 K_X9 (k := 0) fl_X9_10 (Nat.le_of_ble_eq_true rfl) hC_6 rfl ?_
  refine g_iload_n (i := 1) dX9_spreadsAgreeFor_8 rfl rfl ?_
  refine g_callV (wr_draw hl hk1 (by omega)) dX9_spreadsAgreeFor_9 ml_X9_257 cvX5_draw K_X5 rfl hC_15 rfl rfl (Nat.le_of_ble_eq_true rfl) (Nat.le_of_ble_eq_true rfl) (Nat.zero_le _) (Nat.zero_le _) (kr_vd ?_) kx_rt
  refine g_aload_n (i := 0) dX9_spreadsAgreeFor_12 rfl rfl ?_
  refine g_getf dX9_spreadsAgreeFor_13 K_X9 (k := 8) fl_X9_56 (Nat.le_of_ble_eq_true rfl) hC_6 rfl ?_
  refine g_callV (wr_spread hl (drw_ok _ _ _)) dX9_spreadsAgreeFor_16 ml_X9_261 cvX5_spread K_X5 rfl hC_15 rfl rfl (Nat.le_of_ble_eq_true rfl) (Nat.le_of_ble_eq_true rfl) (Nat.zero_le _) (Nat.zero_le _) (kr_rt ?_) kx_rt
  refine g_aload_n (i := 0) dX9_spreadsAgreeFor_19 rfl rfl ?_
  refine g_getf dX9_spreadsAgreeFor_20 K_X9 (k := 8) fl_X9_56 (Nat.le_of_ble_eq_true rfl) hC_6 rfl ?_
  refine g_aload_n (i := 0) dX9_spreadsAgreeFor_23 rfl rfl ?_
  refine g_getf dX9_spreadsAgreeFor_24 K_X9 (k := 0) fl_X9_10 (Nat.le_of_ble_eq_true rfl) hC_6 rfl ?_
  refine g_iload_n (i := 1) dX9_spreadsAgreeFor_27 rfl rfl ?_
  refine g_callV (wr_table hl hk1 hk) dX9_spreadsAgreeFor_28 ml_X9_264 cvX5_findSpreadByTable K_X5 rfl hC_15 rfl rfl (Nat.le_of_ble_eq_true rfl) (Nat.le_of_ble_eq_true rfl) (Nat.zero_le _) (Nat.zero_le _) (kr_rt ?_) kx_rt
  refine g_icmp_ne (tgt := 38) dX9_spreadsAgreeFor_31 (by decide) (fun c31 => ?_) (fun c31 => ?_)
  · exact absurd (hs L) c31
  · refine g_iconst (v := 1) dX9_spreadsAgreeFor_34 (by decide) ?_
    refine g_goto (tgt := 39) dX9_spreadsAgreeFor_35 (by decide) ?_
    refine g_iret dX9_spreadsAgreeFor_39 rfl rfl ?_
    exact ⟨rfl, _, rfl⟩

set_option maxRecDepth 100000 in
theorem ev_spreadsAgree {l : Launch} {G : GG} (hl : l.stackTraces = false) {A : AD} {h : AH} {M : Nat → MS} {N : Nat × Nat} {c : Nat → Int32} {q : Nat → Nat} {H : HS} {L : LgS} {R : RS} {t l9 : SB} {O : OB} (h2 : (∀ L, spN (drwS (M 0) 2 L) (drwS (M 0) 2 L).2.2.2.2.2 = tabT (rdS (M 0) (drwS (M 0) 2 L) 64) 2 2 (rdS (M 0) (drwS (M 0) 2 L) 64).2.2.2.2.1)) (h4 : (∀ L, spN (drwS (M 0) 4 L) (drwS (M 0) 4 L).2.2.2.2.2 = tabT (rdS (M 0) (drwS (M 0) 4 L) 64) 4 4 (rdS (M 0) (drwS (M 0) 4 L) 64).2.2.2.2.1)) :
    Ev l G 14 0 0 mX9_spreadsAgree [.ref (A 6 0)] (hC h A (M, N, c, q, H, L, R, t, l9, O)) (RtX (some (.int 1)) (fun L' => (hC h A (M, N, c, q, H, L', R, t, l9, O)))) := by
  refine Ev.of hl (by decide) (Nat.le_of_ble_eq_true rfl) ?_
  refine g_aload_n (i := 0) dX9_spreadsAgree_0 rfl rfl ?_
  refine g_getf dX9_spreadsAgree_1 K_X9 (k := 0) fl_X9_10 (Nat.le_of_ble_eq_true rfl) hC_6 rfl ?_
  refine g_callV (ev_countOpen hl (hC_map (g := 0) (by decide))) dX9_spreadsAgree_4 ml_X9_351 cvX3_countOpenCells K_X3 rfl (hC_map (g := 0) (by decide)).1 rfl rfl (Nat.le_of_ble_eq_true rfl) (Nat.le_of_ble_eq_true rfl) (Nat.zero_le _) (Nat.zero_le _) (kr_rt ?_) kx_rt
  refine g_iconst (v := 4) dX9_spreadsAgree_7 (by decide) ?_
  refine g_icmp_lt (tgt := 27) dX9_spreadsAgree_8 (by decide) (fun c8 => ?_) (fun c8 => ?_)
  · refine g_iconst (v := 1) dX9_spreadsAgree_27 (by decide) ?_
    refine g_goto (tgt := 32) dX9_spreadsAgree_28 (by decide) ?_
    refine g_iret dX9_spreadsAgree_32 rfl rfl ?_
    exact ⟨rfl, L, rfl⟩
  · refine g_aload_n (i := 0) dX9_spreadsAgree_11 rfl rfl ?_
    refine g_iconst (v := 2) dX9_spreadsAgree_12 (by decide) ?_
    refine g_callV (ev_spreadsFor hl (k := 2) (by decide) (by decide) h2) dX9_spreadsAgree_13 ml_X9_449 cvX9_spreadsAgreeFor K_X9 rfl hC_6 rfl rfl (Nat.le_of_ble_eq_true rfl) (Nat.le_of_ble_eq_true rfl) (Nat.zero_le _) (Nat.zero_le _) (kr_x (fun y1 => ?_)) kx_x
    refine g_if_eq (tgt := 31) dX9_spreadsAgree_16 (by decide) (fun c16 => ?_) (fun c16 => ?_)
    · exact absurd c16 (by decide)
    · refine g_aload_n (i := 0) dX9_spreadsAgree_19 rfl rfl ?_
      refine g_iconst (v := 4) dX9_spreadsAgree_20 (by decide) ?_
      refine g_callV (ev_spreadsFor hl (k := 4) (by decide) (by decide) h4) dX9_spreadsAgree_21 ml_X9_449 cvX9_spreadsAgreeFor K_X9 rfl hC_6 rfl rfl (Nat.le_of_ble_eq_true rfl) (Nat.le_of_ble_eq_true rfl) (Nat.zero_le _) (Nat.zero_le _) (kr_x (fun y2 => ?_)) kx_x
      refine g_if_eq (tgt := 31) dX9_spreadsAgree_24 (by decide) (fun c24 => ?_) (fun c24 => ?_)
      · exact absurd c24 (by decide)
      · refine g_iconst (v := 1) dX9_spreadsAgree_27 (by decide) ?_
        refine g_goto (tgt := 32) dX9_spreadsAgree_28 (by decide) ?_
        refine g_iret dX9_spreadsAgree_32 rfl rfl ?_
        exact ⟨rfl, y2, rfl⟩

set_option maxRecDepth 100000 in
theorem ev_isConsistent {l : Launch} {G : GG} (hl : l.stackTraces = false) {A : AD} {h : AH} {M : Nat → MS} {N : Nat × Nat} {c : Nat → Int32} {q : Nat → Nat} {H : HS} {L : LgS} {R : RS} {t l9 : SB} {O : OB} (ha : sumN (M 0).2.1 64 + sumN (M 0).2.2.1 64 = (M 0).2.2.2.2.2.2.2 - sumN (M 0).2.2.2.2.1 4) (h1 : shpP (M 0) 1) (h100 : shpP (M 0) 100) (h300 : shpP (M 0) 300) (h500 : shpP (M 0) 500) (h700 : shpP (M 0) 700) (hw : ∀ f w, w < 64 → fpJ (M 0) 0 w f = (tryN (M 0) 0 w 64).2) (h2 : (∀ L, spN (drwS (M 0) 2 L) (drwS (M 0) 2 L).2.2.2.2.2 = tabT (rdS (M 0) (drwS (M 0) 2 L) 64) 2 2 (rdS (M 0) (drwS (M 0) 2 L) 64).2.2.2.2.1)) (h4 : (∀ L, spN (drwS (M 0) 4 L) (drwS (M 0) 4 L).2.2.2.2.2 = tabT (rdS (M 0) (drwS (M 0) 4 L) 64) 4 4 (rdS (M 0) (drwS (M 0) 4 L) 64).2.2.2.2.1)) :
    Ev l G 16 0 0 mX9_isConsistent [.ref (A 6 0)] (hC h A (M, N, c, q, H, L, R, t, l9, O)) (RtX (some (.int 1)) (fun x : (Nat → Nat) × HS × LgS => (hC h A (M, N, c, x.1, x.2.1, x.2.2, R, t, l9, O)))) := by
  refine Ev.of hl (by decide) (Nat.le_of_ble_eq_true rfl) ?_
  refine g_aload_n (i := 0) dX9_isConsistent_0 rfl rfl ?_
  refine g_callV (ev_allHeat hl) dX9_isConsistent_1 ml_X9_360 cvX9_allHeat K_X9 rfl hC_6 rfl rfl (Nat.le_of_ble_eq_true rfl) (Nat.le_of_ble_eq_true rfl) (Nat.zero_le _) (Nat.zero_le _) (kr_rt ?_) kx_rt
  refine g_aload_n (i := 0) dX9_isConsistent_4 rfl rfl ?_
  refine g_callV (ev_byAccounts hl) dX9_isConsistent_5 ml_X9_363 cvX9_allHeatByAccounts K_X9 rfl hC_6 rfl rfl (Nat.le_of_ble_eq_true rfl) (Nat.le_of_ble_eq_true rfl) (Nat.zero_le _) (Nat.zero_le _) (kr_rt ?_) kx_rt
  refine g_icmp_ne (tgt := 76) dX9_isConsistent_8 (by decide) (fun c8 => ?_) (fun c8 => ?_)
  · exact absurd ha c8
  · refine g_aload_n (i := 0) dX9_isConsistent_11 rfl rfl ?_
    refine g_iconst (v := 1) dX9_isConsistent_12 (by decide) ?_
    refine g_callV (ev_shapesAgree hl h1) dX9_isConsistent_13 ml_X9_366 cvX9_shapesAgree K_X9 rfl hC_6 rfl rfl (Nat.le_of_ble_eq_true rfl) (Nat.le_of_ble_eq_true rfl) (Nat.zero_le _) (Nat.zero_le _) (kr_x (fun y0 => ?_)) kx_x
    refine g_if_eq (tgt := 76) dX9_isConsistent_16 (by decide) (fun c16 => ?_) (fun c16 => ?_)
    · exact absurd c16 (by decide)
    · refine g_aload_n (i := 0) dX9_isConsistent_19 rfl rfl ?_
      refine g_bipush (v := 100) dX9_isConsistent_20 (by decide) ?_
      refine g_callV (ev_shapesAgree hl h100) dX9_isConsistent_22 ml_X9_366 cvX9_shapesAgree K_X9 rfl hC_6 rfl rfl (Nat.le_of_ble_eq_true rfl) (Nat.le_of_ble_eq_true rfl) (Nat.zero_le _) (Nat.zero_le _) (kr_x (fun y1 => ?_)) kx_x
      refine g_if_eq (tgt := 76) dX9_isConsistent_25 (by decide) (fun c25 => ?_) (fun c25 => ?_)
      · exact absurd c25 (by decide)
      · refine g_aload_n (i := 0) dX9_isConsistent_28 rfl rfl ?_
        refine g_sipush (v := 300) dX9_isConsistent_29 (by decide) ?_
        refine g_callV (ev_shapesAgree hl h300) dX9_isConsistent_32 ml_X9_366 cvX9_shapesAgree K_X9 rfl hC_6 rfl rfl (Nat.le_of_ble_eq_true rfl) (Nat.le_of_ble_eq_true rfl) (Nat.zero_le _) (Nat.zero_le _) (kr_x (fun y2 => ?_)) kx_x
        refine g_if_eq (tgt := 76) dX9_isConsistent_35 (by decide) (fun c35 => ?_) (fun c35 => ?_)
        · exact absurd c35 (by decide)
        · refine g_aload_n (i := 0) dX9_isConsistent_38 rfl rfl ?_
          refine g_sipush (v := 500) dX9_isConsistent_39 (by decide) ?_
          refine g_callV (ev_shapesAgree hl h500) dX9_isConsistent_42 ml_X9_366 cvX9_shapesAgree K_X9 rfl hC_6 rfl rfl (Nat.le_of_ble_eq_true rfl) (Nat.le_of_ble_eq_true rfl) (Nat.zero_le _) (Nat.zero_le _) (kr_x (fun y3 => ?_)) kx_x
          refine g_if_eq (tgt := 76) dX9_isConsistent_45 (by decide) (fun c45 => ?_) (fun c45 => ?_)
          · exact absurd c45 (by decide)
          · refine g_aload_n (i := 0) dX9_isConsistent_48 rfl rfl ?_
            refine g_sipush (v := 700) dX9_isConsistent_49 (by decide) ?_
            refine g_callV (ev_shapesAgree hl h700) dX9_isConsistent_52 ml_X9_366 cvX9_shapesAgree K_X9 rfl hC_6 rfl rfl (Nat.le_of_ble_eq_true rfl) (Nat.le_of_ble_eq_true rfl) (Nat.zero_le _) (Nat.zero_le _) (kr_x (fun y4 => ?_)) kx_x
            refine g_if_eq (tgt := 76) dX9_isConsistent_55 (by decide) (fun c55 => ?_) (fun c55 => ?_)
            · exact absurd c55 (by decide)
            · refine g_aload_n (i := 0) dX9_isConsistent_58 rfl rfl ?_
              refine g_callV (ev_waysAgree hl hw) dX9_isConsistent_59 ml_X9_369 cvX9_waysAgree K_X9 rfl hC_6 rfl rfl (Nat.le_of_ble_eq_true rfl) (Nat.le_of_ble_eq_true rfl) (Nat.zero_le _) (Nat.zero_le _) (kr_x (fun y6 => ?_)) kx_x
              refine g_if_eq (tgt := 76) dX9_isConsistent_62 (by decide) (fun c62 => ?_) (fun c62 => ?_)
              · exact absurd c62 (by decide)
              · refine g_aload_n (i := 0) dX9_isConsistent_65 rfl rfl ?_
                refine g_callV (ev_spreadsAgree hl h2 h4) dX9_isConsistent_66 ml_X9_372 cvX9_spreadsAgree K_X9 rfl hC_6 rfl rfl (Nat.le_of_ble_eq_true rfl) (Nat.le_of_ble_eq_true rfl) (Nat.zero_le _) (Nat.zero_le _) (kr_x (fun y7 => ?_)) kx_x
                refine g_if_eq (tgt := 76) dX9_isConsistent_69 (by decide) (fun c69 => ?_) (fun c69 => ?_)
                · exact absurd c69 (by decide)
                · refine g_iconst (v := 1) dX9_isConsistent_72 (by decide) ?_
                  refine g_goto (tgt := 77) dX9_isConsistent_73 (by decide) ?_
                  refine g_iret dX9_isConsistent_77 rfl rfl ?_
                  exact ⟨rfl, (y4, y6, y7), rfl⟩

