/-! The class's methods that change (by wip/whole/gen/m18.py). -/
/-- why heat is refused -/
def hrf (m : MS) (k : Nat) (a : Int32) : Option (Int32 × Int32) := if m.1 k = 35 then some (1, nI k) else if 0 < m.2.1 k + a - 9999 then some (3, m.2.1 k + a - 9999) else none
/-- why a ground is refused -/
def grf (m : MS) (k : Nat) (x : Int32) : Option (Int32 × Int32) := if x = 35 ∧ ¬ m.2.1 k + m.2.2.1 k = 0 then some (2, m.2.1 k + m.2.2.1 k) else none
def oRef (O : OB) : Option (Int32 × Int32) → OB
  | none => O
  | some r => (O.1, r.1, r.2, O.2.2.2)
/-- heat put into a cell -/
def adM (m : MS) (k : Nat) (a : Int32) : MS := (m.1, va_up m.2.1 k (m.2.1 k + a), m.2.2.1, m.2.2.2.1, m.2.2.2.2.1, m.2.2.2.2.2.1, m.2.2.2.2.2.2.1, m.2.2.2.2.2.2.2 + a)
def grM (m : MS) (k : Nat) (x : Int32) : MS := (va_up m.1 k x, m.2)
def boM (m : MS) (s : Nat) (x : Int32) : MS := (m.1, m.2.1, m.2.2.1, va_up m.2.2.2.1 s x, m.2.2.2.2)
def tkM (m : MS) (n : Nat) : MS := endM (ticksM n m) (nI n) (ticksR n m)
/-- history with the map kept -/
def kpM (M : Nat → MS) (N : Nat × Nat) (g : Nat) : Nat → MS := va_up M (4 + N.1) (M g)
def kpN (N : Nat × Nat) : Nat × Nat := ((N.1 + 1) % 8, min (N.2 + 1) 8)
theorem kpM_lo {M : Nat → MS} {N : Nat × Nat} {g k : Nat} (hk : k < 4) : kpM M N g k = M k := va_up_ne _ _ (by omega)
theorem va_up3 {M : Nat → MS} {N : Nat × Nat} {x : MS} : va_up (kpM M N 0) 0 x = va_up (va_up M 0 x) (4 + N.1) (M 0) := by
  funext k
  unfold kpM va_up
  by_cases e : k = 0
  · subst e
    rw [if_pos rfl, if_neg (by omega), if_pos rfl]
  · simp [e]
theorem rock_fits {x : Int32} (h : groundP x) : fits .char (.int x) = true := (gnd_fits h).1
/-- what a command does: the map and the numbers, or a refusal -/
def cCell (x y : Int32) : Nat := (8 * y + x).toNatClampNeg

set_option maxRecDepth 100000 in
theorem ev_keepRefusal {l : Launch} {G : GG} (hl : l.stackTraces = false) {A : AD} {h : AH} {M : Nat → MS} {N : Nat × Nat} {c : Nat → Int32} {q : Nat → Nat} {H : HS} {L : LgS} {R : RS} {t l9 : SB} {O : OB} {r x : Int32} :
    Ev l G 10 0 0 mX9_keepRefusal [.ref (A 6 0), .int r, .int x] (hC h A (M, N, c, q, H, L, R, t, l9, O)) (Rt none (hC h A (M, N, c, q, H, L, R, t, l9, (O.1, r, x, O.2.2.2)))) := by
  refine Ev.of hl (by decide) (Nat.le_of_ble_eq_true rfl) ?_
  refine g_aload_n (i := 0) dX9_keepRefusal_0 rfl rfl ?_
  refine g_iload_n (i := 1) dX9_keepRefusal_1 rfl rfl ?_
  refine g_putf dX9_keepRefusal_2 K_X9 (k := 12) fl_X9_78 (Nat.le_of_ble_eq_true rfl) rfl hC_6 (Nat.le_of_ble_eq_true rfl) rfl rfl (Go.heap (hC_o (O := O) (O' := (O.1, r, O.2.2))) ?_)
  refine g_aload_n (i := 0) dX9_keepRefusal_5 rfl rfl ?_
  refine g_iload_n (i := 2) dX9_keepRefusal_6 rfl rfl ?_
  refine g_putf dX9_keepRefusal_7 K_X9 (k := 13) fl_X9_82 (Nat.le_of_ble_eq_true rfl) rfl hC_6 (Nat.le_of_ble_eq_true rfl) rfl rfl (Go.heap (hC_o (O := (O.1, r, O.2.2)) (O' := (O.1, r, x, O.2.2.2))) ?_)
  refine g_vret dX9_keepRefusal_10 rfl ?_
  exact ⟨rfl, rfl⟩

set_option maxRecDepth 100000 in
theorem ev_groundRefused {l : Launch} {G : GG} (hl : l.stackTraces = false) {A : AD} {h : AH} {M : Nat → MS} {N : Nat × Nat} {c : Nat → Int32} {q : Nat → Nat} {H : HS} {L : LgS} {R : RS} {t l9 : SB} {O : OB} {k : Nat} (hk : k < 64) {x : Int32} :
    Ev l G 11 0 0 mX9_isGroundRefused [.ref (A 6 0), .int (nI k), .int x] (hC h A (M, N, c, q, H, L, R, t, l9, O)) (Rt (some (.int (if (grf (M 0) k x).isSome = true then 1 else 0))) (hC h A (M, N, c, q, H, L, R, t, l9, oRef O (grf (M 0) k x)))) := by
  refine Ev.of hl (by decide) (Nat.le_of_ble_eq_true rfl) ?_
  refine g_aload_n (i := 0) dX9_isGroundRefused_0 rfl rfl ?_
  refine g_getf dX9_isGroundRefused_1 K_X9 (k := 0) fl_X9_10 (Nat.le_of_ble_eq_true rfl) hC_6 rfl ?_
  refine g_getN dX9_isGroundRefused_4 K_X3 (k := 1) fl_X9_140 (Nat.le_of_ble_eq_true rfl) (hC_map (g := 0) (by decide)).1 rfl ?_
  refine g_iload_n (i := 1) dX9_isGroundRefused_7 rfl rfl ?_
  refine g_iald dX9_isGroundRefused_8 (hC_map (g := 0) (by decide)).2.2.1 (ix_nI (by omega)) hk ?_
  refine g_aload_n (i := 0) dX9_isGroundRefused_9 rfl rfl ?_
  refine g_getf dX9_isGroundRefused_10 K_X9 (k := 0) fl_X9_10 (Nat.le_of_ble_eq_true rfl) hC_6 rfl ?_
  refine g_getN dX9_isGroundRefused_13 K_X3 (k := 2) fl_X9_144 (Nat.le_of_ble_eq_true rfl) (hC_map (g := 0) (by decide)).1 rfl ?_
  refine g_iload_n (i := 1) dX9_isGroundRefused_16 rfl rfl ?_
  refine g_iald dX9_isGroundRefused_17 (hC_map (g := 0) (by decide)).2.2.2.1 (ix_nI (by omega)) hk ?_
  refine g_iadd dX9_isGroundRefused_18 ?_
  refine g_istore_n (i := 3) dX9_isGroundRefused_19 rfl (Nat.le_of_ble_eq_true rfl) ?_
  refine g_iload_n (i := 2) dX9_isGroundRefused_20 rfl rfl ?_
  refine g_bipush (v := 35) dX9_isGroundRefused_21 (by decide) ?_
  refine g_icmp_ne (tgt := 30) dX9_isGroundRefused_23 (by decide) (fun c23 => ?_) (fun c23 => ?_)
  · refine g_iconst (v := 0) dX9_isGroundRefused_30 (by decide) ?_
    refine g_iret dX9_isGroundRefused_31 rfl rfl ?_
    exact ⟨by rw [show grf (M 0) k x = none from if_neg (fun z => c23 z.1)]; rfl, by rw [show grf (M 0) k x = none from if_neg (fun z => c23 z.1)]; rfl⟩
  · refine g_iload_n (i := 3) dX9_isGroundRefused_26 rfl rfl ?_
    refine g_if_ne (tgt := 32) dX9_isGroundRefused_27 (by decide) (fun c27 => ?_) (fun c27 => ?_)
    · refine g_aload_n (i := 0) dX9_isGroundRefused_32 rfl rfl ?_
      refine g_iconst (v := 2) dX9_isGroundRefused_33 (by decide) ?_
      refine g_iload_n (i := 3) dX9_isGroundRefused_34 rfl rfl ?_
      refine g_callV (ev_keepRefusal hl) dX9_isGroundRefused_35 ml_X9_406 cvX9_keepRefusal K_X9 rfl hC_6 rfl rfl (Nat.le_of_ble_eq_true rfl) (Nat.le_of_ble_eq_true rfl) (Nat.zero_le _) (Nat.zero_le _) (kr_vd ?_) kx_rt
      refine g_iconst (v := 1) dX9_isGroundRefused_38 (by decide) ?_
      refine g_iret dX9_isGroundRefused_39 rfl rfl ?_
      exact ⟨by rw [show grf (M 0) k x = some _ from if_pos ⟨c23, c27⟩]; rfl, by rw [show grf (M 0) k x = some _ from if_pos ⟨c23, c27⟩]; rfl⟩
    · refine g_iconst (v := 0) dX9_isGroundRefused_30 (by decide) ?_
      refine g_iret dX9_isGroundRefused_31 rfl rfl ?_
      exact ⟨by rw [show grf (M 0) k x = none from if_neg (fun z => z.2 c27)]; rfl, by rw [show grf (M 0) k x = none from if_neg (fun z => z.2 c27)]; rfl⟩

set_option maxRecDepth 100000 in
theorem ev_heatRefused {l : Launch} {G : GG} (hl : l.stackTraces = false) {A : AD} {h : AH} {M : Nat → MS} {N : Nat × Nat} {c : Nat → Int32} {q : Nat → Nat} {H : HS} {L : LgS} {R : RS} {t l9 : SB} {O : OB} {k : Nat} (hk : k < 64) {a : Int32} :
    Ev l G 11 0 0 mX9_isHeatRefused [.ref (A 6 0), .int (nI k), .int a] (hC h A (M, N, c, q, H, L, R, t, l9, O)) (Rt (some (.int (if (hrf (M 0) k a).isSome = true then 1 else 0))) (hC h A (M, N, c, q, H, L, R, t, l9, oRef O (hrf (M 0) k a)))) := by
  refine Ev.of hl (by decide) (Nat.le_of_ble_eq_true rfl) ?_
  refine g_aload_n (i := 0) dX9_isHeatRefused_0 rfl rfl ?_
  refine g_getf dX9_isHeatRefused_1 K_X9 (k := 0) fl_X9_10 (Nat.le_of_ble_eq_true rfl) hC_6 rfl ?_
  refine g_iload_n (i := 1) dX9_isHeatRefused_4 rfl rfl ?_
  refine g_callV (ev_isRock hl (hC_map (g := 0) (by decide)) (ix_nI (j := k) (by omega)) hk) dX9_isHeatRefused_5 ml_X9_272 cvX3_isRock K_X3 rfl (hC_map (g := 0) (by decide)).1 rfl rfl (Nat.le_of_ble_eq_true rfl) (Nat.le_of_ble_eq_true rfl) (Nat.zero_le _) (Nat.zero_le _) (kr_rt ?_) kx_rt
  refine g_if_eq (tgt := 19) dX9_isHeatRefused_8 (by decide) (fun c8 => ?_) (fun c8 => ?_)
  · refine g_aload_n (i := 0) dX9_isHeatRefused_19 rfl rfl ?_
    refine g_getf dX9_isHeatRefused_20 K_X9 (k := 0) fl_X9_10 (Nat.le_of_ble_eq_true rfl) hC_6 rfl ?_
    refine g_getN dX9_isHeatRefused_23 K_X3 (k := 1) fl_X9_140 (Nat.le_of_ble_eq_true rfl) (hC_map (g := 0) (by decide)).1 rfl ?_
    refine g_iload_n (i := 1) dX9_isHeatRefused_26 rfl rfl ?_
    refine g_iald dX9_isHeatRefused_27 (hC_map (g := 0) (by decide)).2.2.1 (ix_nI (by omega)) hk ?_
    refine g_iload_n (i := 2) dX9_isHeatRefused_28 rfl rfl ?_
    refine g_iadd dX9_isHeatRefused_29 ?_
    refine g_sipush (v := 9999) dX9_isHeatRefused_30 (by decide) ?_
    refine g_isub dX9_isHeatRefused_33 ?_
    refine g_istore_n (i := 3) dX9_isHeatRefused_34 rfl (Nat.le_of_ble_eq_true rfl) ?_
    refine g_iload_n (i := 3) dX9_isHeatRefused_35 rfl rfl ?_
    refine g_if_gt (tgt := 41) dX9_isHeatRefused_36 (by decide) (fun c36 => ?_) (fun c36 => ?_)
    · refine g_aload_n (i := 0) dX9_isHeatRefused_41 rfl rfl ?_
      refine g_iconst (v := 3) dX9_isHeatRefused_42 (by decide) ?_
      refine g_iload_n (i := 3) dX9_isHeatRefused_43 rfl rfl ?_
      refine g_callV (ev_keepRefusal hl) dX9_isHeatRefused_44 ml_X9_406 cvX9_keepRefusal K_X9 rfl hC_6 rfl rfl (Nat.le_of_ble_eq_true rfl) (Nat.le_of_ble_eq_true rfl) (Nat.zero_le _) (Nat.zero_le _) (kr_vd ?_) kx_rt
      refine g_iconst (v := 1) dX9_isHeatRefused_47 (by decide) ?_
      refine g_iret dX9_isHeatRefused_48 rfl rfl ?_
      exact ⟨by rw [show hrf (M 0) k a = some _ from (if_neg (ite_0 c8)).trans (if_pos c36)]; rfl, by rw [show hrf (M 0) k a = some _ from (if_neg (ite_0 c8)).trans (if_pos c36)]; rfl⟩
    · refine g_iconst (v := 0) dX9_isHeatRefused_39 (by decide) ?_
      refine g_iret dX9_isHeatRefused_40 rfl rfl ?_
      exact ⟨by rw [show hrf (M 0) k a = none from (if_neg (ite_0 c8)).trans (if_neg c36)]; rfl, by rw [show hrf (M 0) k a = none from (if_neg (ite_0 c8)).trans (if_neg c36)]; rfl⟩
  · refine g_aload_n (i := 0) dX9_isHeatRefused_11 rfl rfl ?_
    refine g_iconst (v := 1) dX9_isHeatRefused_12 (by decide) ?_
    refine g_iload_n (i := 1) dX9_isHeatRefused_13 rfl rfl ?_
    refine g_callV (ev_keepRefusal hl) dX9_isHeatRefused_14 ml_X9_406 cvX9_keepRefusal K_X9 rfl hC_6 rfl rfl (Nat.le_of_ble_eq_true rfl) (Nat.le_of_ble_eq_true rfl) (Nat.zero_le _) (Nat.zero_le _) (kr_vd ?_) kx_rt
    refine g_iconst (v := 1) dX9_isHeatRefused_17 (by decide) ?_
    refine g_iret dX9_isHeatRefused_18 rfl rfl ?_
    exact ⟨by rw [show hrf (M 0) k a = some _ from if_pos (ite_1 c8)]; rfl, by rw [show hrf (M 0) k a = some _ from if_pos (ite_1 c8)]; rfl⟩

set_option maxRecDepth 100000 in
theorem ev_setGround {l : Launch} {G : GG} (hl : l.stackTraces = false) {A : AD} {h : AH} {M : Nat → MS} {N : Nat × Nat} {c : Nat → Int32} {q : Nat → Nat} {H : HS} {L : LgS} {R : RS} {t l9 : SB} {O : OB} {i j : Nat} (hi : i < 8) (hj : j < 8) (hN : N.1 < 8) (hN2 : N.2 < 9) (hG : gOk (M 0)) {x : Int32} (hx : groundP x) (hr : grf (M 0) (8 * j + i) x = none) :
    Ev l G 12 0 0 mX9_setGround [.ref (A 6 0), .int (nI i), .int (nI j), .int x] (hC h A (M, N, c, q, H, L, R, t, l9, O)) (Rt (some (.int ((M 0).1 (8 * j + i)))) (hC h A (va_up (kpM M N 0) 0 (grM (M 0) (8 * j + i) x), kpN N, c, q, H, L, R, t, l9, O))) := by
  refine Ev.of hl (by decide) (Nat.le_of_ble_eq_true rfl) ?_
  refine g_iload_n (i := 1) dX9_setGround_0 rfl rfl ?_
  refine g_iload_n (i := 2) dX9_setGround_1 rfl rfl ?_
  refine g_callS (ev_requireCell_ok hl (cellB_nI hi hj)) dX9_setGround_2 ml_X9_91 csX9_requireCell rfl rfl (Nat.le_of_ble_eq_true rfl) (Nat.le_of_ble_eq_true rfl) (Nat.zero_le _) (Nat.zero_le _) (kr_vd ?_) kx_rt
  refine g_iload_n (i := 3) dX9_setGround_5 rfl rfl ?_
  refine g_callS (ev_isGround hl) dX9_setGround_6 ml_X9_95 csX9_isGround rfl rfl (Nat.le_of_ble_eq_true rfl) (Nat.le_of_ble_eq_true rfl) (Nat.zero_le _) (Nat.zero_le _) (kr_rt ?_) kx_rt
  refine g_if_ne (tgt := 22) dX9_setGround_9 (by decide) (fun c9 => ?_) (fun c9 => ?_)
  · refine g_iload_n (i := 1) dX9_setGround_22 rfl rfl ?_
    refine g_iload_n (i := 2) dX9_setGround_23 rfl rfl ?_
    refine g_callS (ev_cellOf hl) dX9_setGround_24 ml_X9_106 csX9_cellOf rfl rfl (Nat.le_of_ble_eq_true rfl) (Nat.le_of_ble_eq_true rfl) (Nat.zero_le _) (Nat.zero_le _) (kr_rt ?_) kx_rt
    rw [cel]
    refine g_istore dX9_setGround_27 (Nat.le_of_ble_eq_true rfl) ?_
    refine g_aload_n (i := 0) dX9_setGround_29 rfl rfl ?_
    refine g_iload dX9_setGround_30 rfl ?_
    refine g_iload_n (i := 3) dX9_setGround_32 rfl rfl ?_
    refine g_callV (ev_groundRefused hl (k := 8 * j + i) (by omega)) dX9_setGround_33 ml_X9_110 cvX9_isGroundRefused K_X9 rfl hC_6 rfl rfl (Nat.le_of_ble_eq_true rfl) (Nat.le_of_ble_eq_true rfl) (Nat.zero_le _) (Nat.zero_le _) (kr_rt ?_) kx_rt
    refine g_if_eq (tgt := 49) dX9_setGround_36 (by decide) (fun c36 => ?_) (fun c36 => ?_)
    · refine Go.heap (h' := (hC h A (M, N, c, q, H, L, R, t, l9, O))) (by rw [hr]; rfl) ?_
      refine g_aload_n (i := 0) dX9_setGround_49 rfl rfl ?_
      refine g_getf dX9_setGround_50 K_X9 (k := 0) fl_X9_10 (Nat.le_of_ble_eq_true rfl) hC_6 rfl ?_
      refine g_getN dX9_setGround_53 K_X3 (k := 0) fl_X9_119 (Nat.le_of_ble_eq_true rfl) (hC_map (g := 0) (by decide)).1 rfl ?_
      refine g_iload dX9_setGround_56 rfl ?_
      refine g_cald dX9_setGround_58 (hC_map (g := 0) (by decide)).2.1 (ix_nI (j := 8 * j + i) (by omega)) (by omega) ?_
      refine g_istore dX9_setGround_59 (Nat.le_of_ble_eq_true rfl) ?_
      refine g_aload_n (i := 0) dX9_setGround_61 rfl rfl ?_
      refine g_getf dX9_setGround_62 K_X9 (k := 4) fl_X9_28 (Nat.le_of_ble_eq_true rfl) hC_6 rfl ?_
      refine g_aload_n (i := 0) dX9_setGround_65 rfl rfl ?_
      refine g_getf dX9_setGround_66 K_X9 (k := 0) fl_X9_10 (Nat.le_of_ble_eq_true rfl) hC_6 rfl ?_
      refine g_callV (wr_keep hl (g := 0) (by decide) hN hN2 hG) dX9_setGround_69 ml_X9_123 cvX4_keep K_X4 rfl hC_7 rfl rfl (Nat.le_of_ble_eq_true rfl) (Nat.le_of_ble_eq_true rfl) (Nat.zero_le _) (Nat.zero_le _) (kr_vd ?_) kx_rt
      refine Go.heap (h' := (hC h A (kpM M N 0, kpN N, c, q, H, L, R, t, l9, O))) rfl ?_
      refine g_aload_n (i := 0) dX9_setGround_72 rfl rfl ?_
      refine g_getf dX9_setGround_73 K_X9 (k := 0) fl_X9_10 (Nat.le_of_ble_eq_true rfl) hC_6 rfl ?_
      refine g_getN dX9_setGround_76 K_X3 (k := 0) fl_X9_119 (Nat.le_of_ble_eq_true rfl) (hC_map (g := 0) (by decide)).1 rfl ?_
      refine g_iload dX9_setGround_79 rfl ?_
      refine g_iload_n (i := 3) dX9_setGround_81 rfl rfl ?_
      refine g_cast dX9_setGround_82 (hC_map (g := 0) (by decide)).2.1 (ix_nI (j := 8 * j + i) (by omega)) (by omega) (gnd_fits hx).2.2.1 (Go.heap (hC_c (M := kpM M N 0) (g := 0) (f := va_up (kpM M N 0 0).1 (8 * j + i) x) (by decide)) ?_)
      refine g_iload dX9_setGround_83 rfl ?_
      refine g_iret dX9_setGround_85 rfl (gnd_fits (hG _ (by omega))).2.1 ?_
      exact ⟨rfl, by rw [kpM_lo (by decide)]; rfl⟩
    · exact absurd c36 (by rw [hr]; decide)
  · exact absurd c9 (by rw [if_pos hx]; decide)

set_option maxRecDepth 100000 in
theorem ev_setGround_no1 {l : Launch} {G : GG} (hl : l.stackTraces = false) {A : AD} {h : AH} {M : Nat → MS} {N : Nat × Nat} {c : Nat → Int32} {q : Nat → Nat} {H : HS} {L : LgS} {R : RS} {t l9 : SB} {O : OB} {x y z : Int32} (hc : ¬ cellB x y) :
    Ev l G 12 1 6 mX9_setGround [.ref (A 6 0), .int x, .int y, .int z] (hC h A (M, N, c, q, H, L, R, t, l9, O)) (Tr "java/lang/IndexOutOfBoundsException" (hC h A (M, N, c, q, H, L, R, t, l9, O))) := by
  refine Ev.of hl (by decide) (Nat.le_of_ble_eq_true rfl) ?_
  refine g_iload_n (i := 1) dX9_setGround_0 rfl rfl ?_
  refine g_iload_n (i := 2) dX9_setGround_1 rfl rfl ?_
  refine g_callS (ev_requireCell_no hl hc) dX9_setGround_2 ml_X9_91 csX9_requireCell rfl rfl (Nat.le_of_ble_eq_true rfl) (Nat.le_of_ble_eq_true rfl) (Nat.le_refl _) (Nat.le_refl _) kr_tr (kx_tr rfl ⟨rfl, rfl⟩)

set_option maxRecDepth 100000 in
theorem ev_setGround_no2 {l : Launch} {G : GG} (hl : l.stackTraces = false) {A : AD} {h : AH} {M : Nat → MS} {N : Nat × Nat} {c : Nat → Int32} {q : Nat → Nat} {H : HS} {L : LgS} {R : RS} {t l9 : SB} {O : OB} {x y z : Int32} (hc : cellB x y) (hx : ¬ groundP z) :
    Ev l G 12 1 6 mX9_setGround [.ref (A 6 0), .int x, .int y, .int z] (hC h A (M, N, c, q, H, L, R, t, l9, O)) (Tr "java/lang/IllegalArgumentException" (hC h A (M, N, c, q, H, L, R, t, l9, O))) := by
  refine Ev.of hl (by decide) (Nat.le_of_ble_eq_true rfl) ?_
  refine g_iload_n (i := 1) dX9_setGround_0 rfl rfl ?_
  refine g_iload_n (i := 2) dX9_setGround_1 rfl rfl ?_
  refine g_callS (ev_requireCell_ok hl hc) dX9_setGround_2 ml_X9_91 csX9_requireCell rfl rfl (Nat.le_of_ble_eq_true rfl) (Nat.le_of_ble_eq_true rfl) (Nat.zero_le _) (Nat.zero_le _) (kr_vd ?_) kx_rt
  refine g_iload_n (i := 3) dX9_setGround_5 rfl rfl ?_
  refine g_callS (ev_isGround hl) dX9_setGround_6 ml_X9_95 csX9_isGround rfl rfl (Nat.le_of_ble_eq_true rfl) (Nat.le_of_ble_eq_true rfl) (Nat.zero_le _) (Nat.zero_le _) (kr_rt ?_) kx_rt
  refine g_if_ne (tgt := 22) dX9_setGround_9 (by decide) (fun c9 => ?_) (fun c9 => ?_)
  · exact absurd (if_neg hx) c9
  · exact g_throwS th_X9_99_101 dX9_setGround_12 dX9_setGround_15 dX9_setGround_16 dX9_setGround_18 dX9_setGround_21 rfl (by decide) (by decide) (Nat.le_of_ble_eq_true rfl) (Nat.le_of_ble_eq_true rfl) ⟨rfl, rfl⟩

set_option maxRecDepth 100000 in
theorem ev_setGround_no3 {l : Launch} {G : GG} (hl : l.stackTraces = false) {A : AD} {h : AH} {M : Nat → MS} {N : Nat × Nat} {c : Nat → Int32} {q : Nat → Nat} {H : HS} {L : LgS} {R : RS} {t l9 : SB} {O : OB} {i j : Nat} (hi : i < 8) (hj : j < 8) {x : Int32} (hx : groundP x) {r : Int32 × Int32} (hr : grf (M 0) (8 * j + i) x = some r) :
    Ev l G 12 1 6 mX9_setGround [.ref (A 6 0), .int (nI i), .int (nI j), .int x] (hC h A (M, N, c, q, H, L, R, t, l9, O)) (Tr "java/lang/UnsupportedOperationException" (hC h A (M, N, c, q, H, L, R, t, l9, (O.1, r.1, r.2, O.2.2.2)))) := by
  refine Ev.of hl (by decide) (Nat.le_of_ble_eq_true rfl) ?_
  refine g_iload_n (i := 1) dX9_setGround_0 rfl rfl ?_
  refine g_iload_n (i := 2) dX9_setGround_1 rfl rfl ?_
  refine g_callS (ev_requireCell_ok hl (cellB_nI hi hj)) dX9_setGround_2 ml_X9_91 csX9_requireCell rfl rfl (Nat.le_of_ble_eq_true rfl) (Nat.le_of_ble_eq_true rfl) (Nat.zero_le _) (Nat.zero_le _) (kr_vd ?_) kx_rt
  refine g_iload_n (i := 3) dX9_setGround_5 rfl rfl ?_
  refine g_callS (ev_isGround hl) dX9_setGround_6 ml_X9_95 csX9_isGround rfl rfl (Nat.le_of_ble_eq_true rfl) (Nat.le_of_ble_eq_true rfl) (Nat.zero_le _) (Nat.zero_le _) (kr_rt ?_) kx_rt
  refine g_if_ne (tgt := 22) dX9_setGround_9 (by decide) (fun c9 => ?_) (fun c9 => ?_)
  · refine g_iload_n (i := 1) dX9_setGround_22 rfl rfl ?_
    refine g_iload_n (i := 2) dX9_setGround_23 rfl rfl ?_
    refine g_callS (ev_cellOf hl) dX9_setGround_24 ml_X9_106 csX9_cellOf rfl rfl (Nat.le_of_ble_eq_true rfl) (Nat.le_of_ble_eq_true rfl) (Nat.zero_le _) (Nat.zero_le _) (kr_rt ?_) kx_rt
    rw [cel]
    refine g_istore dX9_setGround_27 (Nat.le_of_ble_eq_true rfl) ?_
    refine g_aload_n (i := 0) dX9_setGround_29 rfl rfl ?_
    refine g_iload dX9_setGround_30 rfl ?_
    refine g_iload_n (i := 3) dX9_setGround_32 rfl rfl ?_
    refine g_callV (ev_groundRefused hl (k := 8 * j + i) (by omega)) dX9_setGround_33 ml_X9_110 cvX9_isGroundRefused K_X9 rfl hC_6 rfl rfl (Nat.le_of_ble_eq_true rfl) (Nat.le_of_ble_eq_true rfl) (Nat.zero_le _) (Nat.zero_le _) (kr_rt ?_) kx_rt
    refine g_if_eq (tgt := 49) dX9_setGround_36 (by decide) (fun c36 => ?_) (fun c36 => ?_)
    · exact absurd c36 (by rw [hr]; exact (show ¬ (1 : Int32) = 0 by decide))
    · exact g_throwS th_X9_114_116 dX9_setGround_39 dX9_setGround_42 dX9_setGround_43 dX9_setGround_45 dX9_setGround_48 rfl (by decide) (by decide) (Nat.le_of_ble_eq_true rfl) (Nat.le_of_ble_eq_true rfl) ⟨rfl, by rw [hr]; rfl⟩
  · exact absurd c9 (by rw [if_pos hx]; decide)

set_option maxRecDepth 100000 in
theorem ev_heatUp {l : Launch} {G : GG} (hl : l.stackTraces = false) {A : AD} {h : AH} {M : Nat → MS} {N : Nat × Nat} {c : Nat → Int32} {q : Nat → Nat} {H : HS} {L : LgS} {R : RS} {t l9 : SB} {O : OB} {i j : Nat} (hi : i < 8) (hj : j < 8) (hN : N.1 < 8) (hN2 : N.2 < 9) (hG : gOk (M 0)) {a : Int32} (ha : amountP a) (hr : hrf (M 0) (8 * j + i) a = none) :
    Ev l G 12 0 0 mX9_heatUp [.ref (A 6 0), .int (nI i), .int (nI j), .int a] (hC h A (M, N, c, q, H, L, R, t, l9, O)) (Rt (some (.int ((M 0).2.1 (8 * j + i) + a))) (hC h A (va_up (kpM M N 0) 0 (adM (M 0) (8 * j + i) a), kpN N, c, q, H, L, R, t, l9, O))) := by
  refine Ev.of hl (by decide) (Nat.le_of_ble_eq_true rfl) ?_
  refine g_iload_n (i := 1) dX9_heatUp_0 rfl rfl ?_
  refine g_iload_n (i := 2) dX9_heatUp_1 rfl rfl ?_
  refine g_callS (ev_requireCell_ok hl (cellB_nI hi hj)) dX9_heatUp_2 ml_X9_91 csX9_requireCell rfl rfl (Nat.le_of_ble_eq_true rfl) (Nat.le_of_ble_eq_true rfl) (Nat.zero_le _) (Nat.zero_le _) (kr_vd ?_) kx_rt
  refine g_iload_n (i := 3) dX9_heatUp_5 rfl rfl ?_
  refine g_callS (ev_isAmount hl) dX9_heatUp_6 ml_X9_127 csX9_isAmount rfl rfl (Nat.le_of_ble_eq_true rfl) (Nat.le_of_ble_eq_true rfl) (Nat.zero_le _) (Nat.zero_le _) (kr_rt ?_) kx_rt
  refine g_if_ne (tgt := 22) dX9_heatUp_9 (by decide) (fun c9 => ?_) (fun c9 => ?_)
  · refine g_iload_n (i := 1) dX9_heatUp_22 rfl rfl ?_
    refine g_iload_n (i := 2) dX9_heatUp_23 rfl rfl ?_
    refine g_callS (ev_cellOf hl) dX9_heatUp_24 ml_X9_106 csX9_cellOf rfl rfl (Nat.le_of_ble_eq_true rfl) (Nat.le_of_ble_eq_true rfl) (Nat.zero_le _) (Nat.zero_le _) (kr_rt ?_) kx_rt
    rw [cel]
    refine g_istore dX9_heatUp_27 (Nat.le_of_ble_eq_true rfl) ?_
    refine g_aload_n (i := 0) dX9_heatUp_29 rfl rfl ?_
    refine g_iload dX9_heatUp_30 rfl ?_
    refine g_iload_n (i := 3) dX9_heatUp_32 rfl rfl ?_
    refine g_callV (ev_heatRefused hl (k := 8 * j + i) (by omega)) dX9_heatUp_33 ml_X9_132 cvX9_isHeatRefused K_X9 rfl hC_6 rfl rfl (Nat.le_of_ble_eq_true rfl) (Nat.le_of_ble_eq_true rfl) (Nat.zero_le _) (Nat.zero_le _) (kr_rt ?_) kx_rt
    refine g_if_eq (tgt := 49) dX9_heatUp_36 (by decide) (fun c36 => ?_) (fun c36 => ?_)
    · refine Go.heap (h' := (hC h A (M, N, c, q, H, L, R, t, l9, O))) (by rw [hr]; rfl) ?_
      refine g_aload_n (i := 0) dX9_heatUp_49 rfl rfl ?_
      refine g_getf dX9_heatUp_50 K_X9 (k := 4) fl_X9_28 (Nat.le_of_ble_eq_true rfl) hC_6 rfl ?_
      refine g_aload_n (i := 0) dX9_heatUp_53 rfl rfl ?_
      refine g_getf dX9_heatUp_54 K_X9 (k := 0) fl_X9_10 (Nat.le_of_ble_eq_true rfl) hC_6 rfl ?_
      refine g_callV (wr_keep hl (g := 0) (by decide) hN hN2 hG) dX9_heatUp_57 ml_X9_123 cvX4_keep K_X4 rfl hC_7 rfl rfl (Nat.le_of_ble_eq_true rfl) (Nat.le_of_ble_eq_true rfl) (Nat.zero_le _) (Nat.zero_le _) (kr_vd ?_) kx_rt
      refine Go.heap (h' := (hC h A (kpM M N 0, kpN N, c, q, H, L, R, t, l9, O))) rfl ?_
      refine g_aload_n (i := 0) dX9_heatUp_60 rfl rfl ?_
      refine g_getf dX9_heatUp_61 K_X9 (k := 0) fl_X9_10 (Nat.le_of_ble_eq_true rfl) hC_6 rfl ?_
      refine g_iload dX9_heatUp_64 rfl ?_
      refine g_iload_n (i := 3) dX9_heatUp_66 rfl rfl ?_
      refine g_callV (ev_addHeat hl (hC_map (g := 0) (by decide)) (c := 8 * j + i) (by omega) (x := a)) dX9_heatUp_67 ml_X9_137 cvX3_addHeat K_X3 rfl (hC_map (g := 0) (by decide)).1 rfl rfl (Nat.le_of_ble_eq_true rfl) (Nat.le_of_ble_eq_true rfl) (Nat.zero_le _) (Nat.zero_le _) (kr_vd ?_) kx_rt
      refine Go.heap (h' := (hC h A (va_up (kpM M N 0) 0 (adM (kpM M N 0 0) (8 * j + i) a), kpN N, c, q, H, L, R, t, l9, O))) (hC_set (by decide)) ?_
      rw [kpM_lo (show 0 < 4 by decide)]
      refine g_aload_n (i := 0) dX9_heatUp_70 rfl rfl ?_
      refine g_getf dX9_heatUp_71 K_X9 (k := 0) fl_X9_10 (Nat.le_of_ble_eq_true rfl) hC_6 rfl ?_
      refine g_getN dX9_heatUp_74 K_X3 (k := 1) fl_X9_140 (Nat.le_of_ble_eq_true rfl) (hC_map (g := 0) (by decide)).1 rfl ?_
      refine g_iload dX9_heatUp_77 rfl ?_
      refine g_iald dX9_heatUp_79 (hC_map (g := 0) (by decide)).2.2.1 (ix_nI (j := 8 * j + i) (by omega)) (by omega) ?_
      refine g_iret dX9_heatUp_80 rfl rfl ?_
      exact ⟨by show Sum.inl (some (Value.int ((va_up (kpM M N 0) 0 (adM (M 0) (8 * j + i) a) 0).2.1 (8 * j + i)))) = _; rw [va_up_self]; show Sum.inl (some (Value.int (va_up (M 0).2.1 (8 * j + i) ((M 0).2.1 (8 * j + i) + a) (8 * j + i)))) = _; rw [va_up_self], rfl⟩
    · exact absurd c36 (by rw [hr]; decide)
  · exact absurd c9 (by rw [if_pos ha]; decide)

set_option maxRecDepth 100000 in
theorem ev_heatUp_no1 {l : Launch} {G : GG} (hl : l.stackTraces = false) {A : AD} {h : AH} {M : Nat → MS} {N : Nat × Nat} {c : Nat → Int32} {q : Nat → Nat} {H : HS} {L : LgS} {R : RS} {t l9 : SB} {O : OB} {x y z : Int32} (hc : ¬ cellB x y) :
    Ev l G 12 1 6 mX9_heatUp [.ref (A 6 0), .int x, .int y, .int z] (hC h A (M, N, c, q, H, L, R, t, l9, O)) (Tr "java/lang/IndexOutOfBoundsException" (hC h A (M, N, c, q, H, L, R, t, l9, O))) := by
  refine Ev.of hl (by decide) (Nat.le_of_ble_eq_true rfl) ?_
  refine g_iload_n (i := 1) dX9_heatUp_0 rfl rfl ?_
  refine g_iload_n (i := 2) dX9_heatUp_1 rfl rfl ?_
  refine g_callS (ev_requireCell_no hl hc) dX9_heatUp_2 ml_X9_91 csX9_requireCell rfl rfl (Nat.le_of_ble_eq_true rfl) (Nat.le_of_ble_eq_true rfl) (Nat.le_refl _) (Nat.le_refl _) kr_tr (kx_tr rfl ⟨rfl, rfl⟩)

set_option maxRecDepth 100000 in
theorem ev_heatUp_no2 {l : Launch} {G : GG} (hl : l.stackTraces = false) {A : AD} {h : AH} {M : Nat → MS} {N : Nat × Nat} {c : Nat → Int32} {q : Nat → Nat} {H : HS} {L : LgS} {R : RS} {t l9 : SB} {O : OB} {x y z : Int32} (hc : cellB x y) (hx : ¬ amountP z) :
    Ev l G 12 1 6 mX9_heatUp [.ref (A 6 0), .int x, .int y, .int z] (hC h A (M, N, c, q, H, L, R, t, l9, O)) (Tr "java/lang/IllegalArgumentException" (hC h A (M, N, c, q, H, L, R, t, l9, O))) := by
  refine Ev.of hl (by decide) (Nat.le_of_ble_eq_true rfl) ?_
  refine g_iload_n (i := 1) dX9_heatUp_0 rfl rfl ?_
  refine g_iload_n (i := 2) dX9_heatUp_1 rfl rfl ?_
  refine g_callS (ev_requireCell_ok hl hc) dX9_heatUp_2 ml_X9_91 csX9_requireCell rfl rfl (Nat.le_of_ble_eq_true rfl) (Nat.le_of_ble_eq_true rfl) (Nat.zero_le _) (Nat.zero_le _) (kr_vd ?_) kx_rt
  refine g_iload_n (i := 3) dX9_heatUp_5 rfl rfl ?_
  refine g_callS (ev_isAmount hl) dX9_heatUp_6 ml_X9_127 csX9_isAmount rfl rfl (Nat.le_of_ble_eq_true rfl) (Nat.le_of_ble_eq_true rfl) (Nat.zero_le _) (Nat.zero_le _) (kr_rt ?_) kx_rt
  refine g_if_ne (tgt := 22) dX9_heatUp_9 (by decide) (fun c9 => ?_) (fun c9 => ?_)
  · exact absurd (if_neg hx) c9
  · exact g_throwS th_X9_99_130 dX9_heatUp_12 dX9_heatUp_15 dX9_heatUp_16 dX9_heatUp_18 dX9_heatUp_21 rfl (by decide) (by decide) (Nat.le_of_ble_eq_true rfl) (Nat.le_of_ble_eq_true rfl) ⟨rfl, rfl⟩

set_option maxRecDepth 100000 in
theorem ev_heatUp_no3 {l : Launch} {G : GG} (hl : l.stackTraces = false) {A : AD} {h : AH} {M : Nat → MS} {N : Nat × Nat} {c : Nat → Int32} {q : Nat → Nat} {H : HS} {L : LgS} {R : RS} {t l9 : SB} {O : OB} {i j : Nat} (hi : i < 8) (hj : j < 8) {a : Int32} (ha : amountP a) {r : Int32 × Int32} (hr : hrf (M 0) (8 * j + i) a = some r) :
    Ev l G 12 1 6 mX9_heatUp [.ref (A 6 0), .int (nI i), .int (nI j), .int a] (hC h A (M, N, c, q, H, L, R, t, l9, O)) (Tr "java/lang/UnsupportedOperationException" (hC h A (M, N, c, q, H, L, R, t, l9, (O.1, r.1, r.2, O.2.2.2)))) := by
  refine Ev.of hl (by decide) (Nat.le_of_ble_eq_true rfl) ?_
  refine g_iload_n (i := 1) dX9_heatUp_0 rfl rfl ?_
  refine g_iload_n (i := 2) dX9_heatUp_1 rfl rfl ?_
  refine g_callS (ev_requireCell_ok hl (cellB_nI hi hj)) dX9_heatUp_2 ml_X9_91 csX9_requireCell rfl rfl (Nat.le_of_ble_eq_true rfl) (Nat.le_of_ble_eq_true rfl) (Nat.zero_le _) (Nat.zero_le _) (kr_vd ?_) kx_rt
  refine g_iload_n (i := 3) dX9_heatUp_5 rfl rfl ?_
  refine g_callS (ev_isAmount hl) dX9_heatUp_6 ml_X9_127 csX9_isAmount rfl rfl (Nat.le_of_ble_eq_true rfl) (Nat.le_of_ble_eq_true rfl) (Nat.zero_le _) (Nat.zero_le _) (kr_rt ?_) kx_rt
  refine g_if_ne (tgt := 22) dX9_heatUp_9 (by decide) (fun c9 => ?_) (fun c9 => ?_)
  · refine g_iload_n (i := 1) dX9_heatUp_22 rfl rfl ?_
    refine g_iload_n (i := 2) dX9_heatUp_23 rfl rfl ?_
    refine g_callS (ev_cellOf hl) dX9_heatUp_24 ml_X9_106 csX9_cellOf rfl rfl (Nat.le_of_ble_eq_true rfl) (Nat.le_of_ble_eq_true rfl) (Nat.zero_le _) (Nat.zero_le _) (kr_rt ?_) kx_rt
    rw [cel]
    refine g_istore dX9_heatUp_27 (Nat.le_of_ble_eq_true rfl) ?_
    refine g_aload_n (i := 0) dX9_heatUp_29 rfl rfl ?_
    refine g_iload dX9_heatUp_30 rfl ?_
    refine g_iload_n (i := 3) dX9_heatUp_32 rfl rfl ?_
    refine g_callV (ev_heatRefused hl (k := 8 * j + i) (by omega)) dX9_heatUp_33 ml_X9_132 cvX9_isHeatRefused K_X9 rfl hC_6 rfl rfl (Nat.le_of_ble_eq_true rfl) (Nat.le_of_ble_eq_true rfl) (Nat.zero_le _) (Nat.zero_le _) (kr_rt ?_) kx_rt
    refine g_if_eq (tgt := 49) dX9_heatUp_36 (by decide) (fun c36 => ?_) (fun c36 => ?_)
    · exact absurd c36 (by rw [hr]; exact (show ¬ (1 : Int32) = 0 by decide))
    · exact g_throwS th_X9_114_135 dX9_heatUp_39 dX9_heatUp_42 dX9_heatUp_43 dX9_heatUp_45 dX9_heatUp_48 rfl (by decide) (by decide) (Nat.le_of_ble_eq_true rfl) (Nat.le_of_ble_eq_true rfl) ⟨rfl, by rw [hr]; rfl⟩
  · exact absurd c9 (by rw [if_pos ha]; decide)

set_option maxRecDepth 100000 in
theorem ev_setBorder {l : Launch} {G : GG} (hl : l.stackTraces = false) {A : AD} {h : AH} {M : Nat → MS} {N : Nat × Nat} {c : Nat → Int32} {q : Nat → Nat} {H : HS} {L : LgS} {R : RS} {t l9 : SB} {O : OB} {s : Nat} (hs : s < 4) (hN : N.1 < 8) (hN2 : N.2 < 9) (hG : gOk (M 0)) {x : Int32} (hx : tempP x) :
    Ev l G 12 0 0 mX9_setBorder [.ref (A 6 0), .int (nI s), .int x] (hC h A (M, N, c, q, H, L, R, t, l9, O)) (Rt (some (.int ((M 0).2.2.2.1 s))) (hC h A (va_up (kpM M N 0) 0 (boM (M 0) s x), kpN N, c, q, H, L, R, t, l9, O))) := by
  refine Ev.of hl (by decide) (Nat.le_of_ble_eq_true rfl) ?_
  refine g_iload_n (i := 1) dX9_setBorder_0 rfl rfl ?_
  refine g_callS (ev_requireSide_ok hl ⟨nI_pos' (by omega), (nI_lt' rfl (by omega) (by decide)).mpr hs⟩) dX9_setBorder_1 ml_X9_172 csX9_requireSide rfl rfl (Nat.le_of_ble_eq_true rfl) (Nat.le_of_ble_eq_true rfl) (Nat.zero_le _) (Nat.zero_le _) (kr_vd ?_) kx_rt
  refine g_iload_n (i := 2) dX9_setBorder_4 rfl rfl ?_
  refine g_callS (ev_isTemperature hl) dX9_setBorder_5 ml_X9_176 csX9_isTemperature rfl rfl (Nat.le_of_ble_eq_true rfl) (Nat.le_of_ble_eq_true rfl) (Nat.zero_le _) (Nat.zero_le _) (kr_rt ?_) kx_rt
  refine g_if_ne (tgt := 21) dX9_setBorder_8 (by decide) (fun c8 => ?_) (fun c8 => ?_)
  · refine g_aload_n (i := 0) dX9_setBorder_21 rfl rfl ?_
    refine g_getf dX9_setBorder_22 K_X9 (k := 0) fl_X9_10 (Nat.le_of_ble_eq_true rfl) hC_6 rfl ?_
    refine g_getN dX9_setBorder_25 K_X3 (k := 3) fl_X9_181 (Nat.le_of_ble_eq_true rfl) (hC_map (g := 0) (by decide)).1 rfl ?_
    refine g_iload_n (i := 1) dX9_setBorder_28 rfl rfl ?_
    refine g_iald dX9_setBorder_29 (hC_map (g := 0) (by decide)).2.2.2.2.1 (ix_nI (by omega)) hs ?_
    refine g_istore_n (i := 3) dX9_setBorder_30 rfl (Nat.le_of_ble_eq_true rfl) ?_
    refine g_aload_n (i := 0) dX9_setBorder_31 rfl rfl ?_
    refine g_getf dX9_setBorder_32 K_X9 (k := 4) fl_X9_28 (Nat.le_of_ble_eq_true rfl) hC_6 rfl ?_
    refine g_aload_n (i := 0) dX9_setBorder_35 rfl rfl ?_
    refine g_getf dX9_setBorder_36 K_X9 (k := 0) fl_X9_10 (Nat.le_of_ble_eq_true rfl) hC_6 rfl ?_
    refine g_callV (wr_keep hl (g := 0) (by decide) hN hN2 hG) dX9_setBorder_39 ml_X9_123 cvX4_keep K_X4 rfl hC_7 rfl rfl (Nat.le_of_ble_eq_true rfl) (Nat.le_of_ble_eq_true rfl) (Nat.zero_le _) (Nat.zero_le _) (kr_vd ?_) kx_rt
    refine Go.heap (h' := (hC h A (kpM M N 0, kpN N, c, q, H, L, R, t, l9, O))) rfl ?_
    refine g_aload_n (i := 0) dX9_setBorder_42 rfl rfl ?_
    refine g_getf dX9_setBorder_43 K_X9 (k := 0) fl_X9_10 (Nat.le_of_ble_eq_true rfl) hC_6 rfl ?_
    refine g_getN dX9_setBorder_46 K_X3 (k := 3) fl_X9_181 (Nat.le_of_ble_eq_true rfl) (hC_map (g := 0) (by decide)).1 rfl ?_
    refine g_iload_n (i := 1) dX9_setBorder_49 rfl rfl ?_
    refine g_iload_n (i := 2) dX9_setBorder_50 rfl rfl ?_
    refine g_iast dX9_setBorder_51 (hC_map (g := 0) (by decide)).2.2.2.2.1 (ix_nI (by omega)) hs rfl (Go.heap (hC_t (M := kpM M N 0) (g := 0) (f := va_up (kpM M N 0 0).2.2.2.1 s x) (by decide)) ?_)
    refine g_iload_n (i := 3) dX9_setBorder_52 rfl rfl ?_
    refine g_iret dX9_setBorder_53 rfl rfl ?_
    exact ⟨rfl, by rw [kpM_lo (by decide)]; rfl⟩
  · exact absurd c8 (by rw [if_pos hx]; decide)

set_option maxRecDepth 100000 in
theorem ev_setBorder_no1 {l : Launch} {G : GG} (hl : l.stackTraces = false) {A : AD} {h : AH} {M : Nat → MS} {N : Nat × Nat} {c : Nat → Int32} {q : Nat → Nat} {H : HS} {L : LgS} {R : RS} {t l9 : SB} {O : OB} {x z : Int32} (hs : ¬ sideP x) :
    Ev l G 12 1 6 mX9_setBorder [.ref (A 6 0), .int x, .int z] (hC h A (M, N, c, q, H, L, R, t, l9, O)) (Tr "java/lang/IndexOutOfBoundsException" (hC h A (M, N, c, q, H, L, R, t, l9, O))) := by
  refine Ev.of hl (by decide) (Nat.le_of_ble_eq_true rfl) ?_
  refine g_iload_n (i := 1) dX9_setBorder_0 rfl rfl ?_
  refine g_callS (ev_requireSide_no hl hs) dX9_setBorder_1 ml_X9_172 csX9_requireSide rfl rfl (Nat.le_of_ble_eq_true rfl) (Nat.le_of_ble_eq_true rfl) (Nat.le_refl _) (Nat.le_refl _) kr_tr (kx_tr rfl ⟨rfl, rfl⟩)

set_option maxRecDepth 100000 in
theorem ev_setBorder_no2 {l : Launch} {G : GG} (hl : l.stackTraces = false) {A : AD} {h : AH} {M : Nat → MS} {N : Nat × Nat} {c : Nat → Int32} {q : Nat → Nat} {H : HS} {L : LgS} {R : RS} {t l9 : SB} {O : OB} {x z : Int32} (hs : sideP x) (hx : ¬ tempP z) :
    Ev l G 12 1 6 mX9_setBorder [.ref (A 6 0), .int x, .int z] (hC h A (M, N, c, q, H, L, R, t, l9, O)) (Tr "java/lang/IllegalArgumentException" (hC h A (M, N, c, q, H, L, R, t, l9, O))) := by
  refine Ev.of hl (by decide) (Nat.le_of_ble_eq_true rfl) ?_
  refine g_iload_n (i := 1) dX9_setBorder_0 rfl rfl ?_
  refine g_callS (ev_requireSide_ok hl hs) dX9_setBorder_1 ml_X9_172 csX9_requireSide rfl rfl (Nat.le_of_ble_eq_true rfl) (Nat.le_of_ble_eq_true rfl) (Nat.zero_le _) (Nat.zero_le _) (kr_vd ?_) kx_rt
  refine g_iload_n (i := 2) dX9_setBorder_4 rfl rfl ?_
  refine g_callS (ev_isTemperature hl) dX9_setBorder_5 ml_X9_176 csX9_isTemperature rfl rfl (Nat.le_of_ble_eq_true rfl) (Nat.le_of_ble_eq_true rfl) (Nat.zero_le _) (Nat.zero_le _) (kr_rt ?_) kx_rt
  refine g_if_ne (tgt := 21) dX9_setBorder_8 (by decide) (fun c8 => ?_) (fun c8 => ?_)
  · exact absurd (if_neg hx) c8
  · exact g_throwS th_X9_99_179 dX9_setBorder_11 dX9_setBorder_14 dX9_setBorder_15 dX9_setBorder_17 dX9_setBorder_20 rfl (by decide) (by decide) (Nat.le_of_ble_eq_true rfl) (Nat.le_of_ble_eq_true rfl) ⟨rfl, rfl⟩

set_option maxRecDepth 100000 in
theorem ev_pass {l : Launch} {G : GG} (hl : l.stackTraces = false) {A : AD} {h : AH} {M : Nat → MS} {N : Nat × Nat} {c : Nat → Int32} {q : Nat → Nat} {H : HS} {L : LgS} {R : RS} {t l9 : SB} {O : OB} (hN : N.1 < 8) (hN2 : N.2 < 9) (hG : gOk (M 0)) {n : Nat} (hn1 : 1 ≤ n) (hn : n ≤ 20) :
    Ev l G 14 0 0 mX9_pass [.ref (A 6 0), .int (nI n)] (hC h A (M, N, c, q, H, L, R, t, l9, O)) (RtX (some (.int (ticksR n (M 0)))) (fun c' => (hC h A (va_up (kpM M N 0) 0 (tkM (M 0) n), kpN N, c', q, H, L, R, t, l9, O)))) := by
  refine Ev.of hl (by decide) (Nat.le_of_ble_eq_true rfl) ?_
  refine g_iload_n (i := 1) dX9_pass_0 rfl rfl ?_
  refine g_callS (ev_isTickNumber hl) dX9_pass_1 ml_X9_187 csX9_isTickNumber rfl rfl (Nat.le_of_ble_eq_true rfl) (Nat.le_of_ble_eq_true rfl) (Nat.zero_le _) (Nat.zero_le _) (kr_rt ?_) kx_rt
  refine g_if_ne (tgt := 17) dX9_pass_4 (by decide) (fun c4 => ?_) (fun c4 => ?_)
  · refine g_aload_n (i := 0) dX9_pass_17 rfl rfl ?_
    refine g_getf dX9_pass_18 K_X9 (k := 4) fl_X9_28 (Nat.le_of_ble_eq_true rfl) hC_6 rfl ?_
    refine g_aload_n (i := 0) dX9_pass_21 rfl rfl ?_
    refine g_getf dX9_pass_22 K_X9 (k := 0) fl_X9_10 (Nat.le_of_ble_eq_true rfl) hC_6 rfl ?_
    refine g_callV (wr_keep hl (g := 0) (by decide) hN hN2 hG) dX9_pass_25 ml_X9_123 cvX4_keep K_X4 rfl hC_7 rfl rfl (Nat.le_of_ble_eq_true rfl) (Nat.le_of_ble_eq_true rfl) (Nat.zero_le _) (Nat.zero_le _) (kr_vd ?_) kx_rt
    refine Go.heap (h' := (hC h A (kpM M N 0, kpN N, c, q, H, L, R, t, l9, O))) rfl ?_
    refine g_aload_n (i := 0) dX9_pass_28 rfl rfl ?_
    refine g_getf dX9_pass_29 K_X9 (k := 5) fl_X9_35 (Nat.le_of_ble_eq_true rfl) hC_6 rfl ?_
    refine g_aload_n (i := 0) dX9_pass_32 rfl rfl ?_
    refine g_getf dX9_pass_33 K_X9 (k := 0) fl_X9_10 (Nat.le_of_ble_eq_true rfl) hC_6 rfl ?_
    refine g_iload_n (i := 1) dX9_pass_36 rfl rfl ?_
    have e0 : kpM M N 0 0 = M 0 := kpM_lo (by decide)
    refine g_callV (wr_ticks hl (M := kpM M N 0) (g := 0) (by decide) hn) dX9_pass_37 ml_X9_192 cvX7_letTicksPass K_X7 rfl hC_9 rfl rfl (Nat.le_of_ble_eq_true rfl) (Nat.le_of_ble_eq_true rfl) (Nat.zero_le _) (Nat.zero_le _) (kr_x (fun x9 => ?_)) kx_x
    rw [e0]
    refine g_iret dX9_pass_40 rfl rfl ?_
    exact ⟨rfl, x9, rfl⟩
  · exact absurd c4 (by rw [if_pos (show tickP (nI n) from ⟨(le_nI (a := 1) rfl (by decide) (by omega)).mpr hn1, (nI_le' (b := 20) rfl (by omega) (by decide)).mpr hn⟩)]; decide)

set_option maxRecDepth 100000 in
theorem ev_pass_no {l : Launch} {G : GG} (hl : l.stackTraces = false) {A : AD} {h : AH} {M : Nat → MS} {N : Nat × Nat} {c : Nat → Int32} {q : Nat → Nat} {H : HS} {L : LgS} {R : RS} {t l9 : SB} {O : OB} {x : Int32} (hx : ¬ tickP x) :
    Ev l G 14 1 6 mX9_pass [.ref (A 6 0), .int x] (hC h A (M, N, c, q, H, L, R, t, l9, O)) (Tr "java/lang/IllegalArgumentException" (hC h A (M, N, c, q, H, L, R, t, l9, O))) := by
  refine Ev.of hl (by decide) (Nat.le_of_ble_eq_true rfl) ?_
  refine g_iload_n (i := 1) dX9_pass_0 rfl rfl ?_
  refine g_callS (ev_isTickNumber hl) dX9_pass_1 ml_X9_187 csX9_isTickNumber rfl rfl (Nat.le_of_ble_eq_true rfl) (Nat.le_of_ble_eq_true rfl) (Nat.zero_le _) (Nat.zero_le _) (kr_rt ?_) kx_rt
  refine g_if_ne (tgt := 17) dX9_pass_4 (by decide) (fun c4 => ?_) (fun c4 => ?_)
  · exact absurd (if_neg hx) c4
  · exact g_throwS th_X9_99_190 dX9_pass_7 dX9_pass_10 dX9_pass_11 dX9_pass_13 dX9_pass_16 rfl (by decide) (by decide) (Nat.le_of_ble_eq_true rfl) (Nat.le_of_ble_eq_true rfl) ⟨rfl, rfl⟩

set_option maxRecDepth 100000 in
theorem ev_save {l : Launch} {G : GG} (hl : l.stackTraces = false) {A : AD} {h : AH} {M : Nat → MS} {N : Nat × Nat} {c : Nat → Int32} {q : Nat → Nat} {H : HS} {L : LgS} {R : RS} {t l9 : SB} {O : OB} (hG : gOk (M 0)) :
    Ev l G 11 0 0 mX9_save [.ref (A 6 0)] (hC h A (M, N, c, q, H, L, R, t, l9, O)) (Rt (some (.int ((M 0).2.2.2.2.2.1))) (hC h A (va_up M 2 (M 0), N, c, q, H, L, R, t, l9, (1, O.2)))) := by
  refine Ev.of hl (by decide) (Nat.le_of_ble_eq_true rfl) ?_
  refine g_aload_n (i := 0) dX9_save_0 rfl rfl ?_
  refine g_getf dX9_save_1 K_X9 (k := 2) fl_X9_19 (Nat.le_of_ble_eq_true rfl) hC_6 rfl ?_
  refine g_aload_n (i := 0) dX9_save_4 rfl rfl ?_
  refine g_getf dX9_save_5 K_X9 (k := 0) fl_X9_10 (Nat.le_of_ble_eq_true rfl) hC_6 rfl ?_
  refine g_callV (wr_copy hl (g := 2) (g2 := 0) (by decide) (by decide) (by decide) hG) dX9_save_8 ml_X9_205 cvX3_copyFrom K_X3 rfl (hC_map (g := 2) (by decide)).1 rfl rfl (Nat.le_of_ble_eq_true rfl) (Nat.le_of_ble_eq_true rfl) (Nat.zero_le _) (Nat.zero_le _) (kr_vd ?_) kx_rt
  refine g_aload_n (i := 0) dX9_save_11 rfl rfl ?_
  refine g_iconst (v := 1) dX9_save_12 (by decide) ?_
  refine g_putf dX9_save_13 K_X9 (k := 11) fl_X9_74 (Nat.le_of_ble_eq_true rfl) rfl hC_6 (Nat.le_of_ble_eq_true rfl) rfl rfl (Go.heap (hC_o (O' := (1, O.2))) ?_)
  refine g_aload_n (i := 0) dX9_save_16 rfl rfl ?_
  refine g_getf dX9_save_17 K_X9 (k := 0) fl_X9_10 (Nat.le_of_ble_eq_true rfl) hC_6 rfl ?_
  refine g_getN dX9_save_20 K_X3 (k := 5) fl_X9_196 (Nat.le_of_ble_eq_true rfl) (hC_map (g := 0) (by decide)).1 rfl ?_
  refine g_iret dX9_save_23 rfl rfl ?_
  exact ⟨rfl, rfl⟩

set_option maxRecDepth 100000 in
theorem ev_restore {l : Launch} {G : GG} (hl : l.stackTraces = false) {A : AD} {h : AH} {M : Nat → MS} {N : Nat × Nat} {c : Nat → Int32} {q : Nat → Nat} {H : HS} {L : LgS} {R : RS} {t l9 : SB} {O : OB} (hO : ¬ O.1 = 0) (hG : gOk (M 2)) :
    Ev l G 11 0 0 mX9_restore [.ref (A 6 0)] (hC h A (M, N, c, q, H, L, R, t, l9, O)) (Rt (some (.int ((M 2).2.2.2.2.2.1))) (hC h A (va_up M 0 (M 2), (N.1, 0), c, q, H, L, R, t, l9, O))) := by
  refine Ev.of hl (by decide) (Nat.le_of_ble_eq_true rfl) ?_
  refine g_aload_n (i := 0) dX9_restore_0 rfl rfl ?_
  refine g_getf dX9_restore_1 K_X9 (k := 11) fl_X9_74 (Nat.le_of_ble_eq_true rfl) hC_6 rfl ?_
  refine g_if_ne (tgt := 18) dX9_restore_4 (by decide) (fun c4 => ?_) (fun c4 => ?_)
  · refine g_aload_n (i := 0) dX9_restore_18 rfl rfl ?_
    refine g_getf dX9_restore_19 K_X9 (k := 0) fl_X9_10 (Nat.le_of_ble_eq_true rfl) hC_6 rfl ?_
    refine g_aload_n (i := 0) dX9_restore_22 rfl rfl ?_
    refine g_getf dX9_restore_23 K_X9 (k := 2) fl_X9_19 (Nat.le_of_ble_eq_true rfl) hC_6 rfl ?_
    refine g_callV (wr_copy hl (g := 0) (g2 := 2) (by decide) (by decide) (by decide) hG) dX9_restore_26 ml_X9_205 cvX3_copyFrom K_X3 rfl (hC_map (g := 0) (by decide)).1 rfl rfl (Nat.le_of_ble_eq_true rfl) (Nat.le_of_ble_eq_true rfl) (Nat.zero_le _) (Nat.zero_le _) (kr_vd ?_) kx_rt
    refine g_aload_n (i := 0) dX9_restore_29 rfl rfl ?_
    refine g_getf dX9_restore_30 K_X9 (k := 4) fl_X9_28 (Nat.le_of_ble_eq_true rfl) hC_6 rfl ?_
    refine g_callV (wr_forget hl) dX9_restore_33 ml_X9_385 cvX4_forget K_X4 rfl hC_7 rfl rfl (Nat.le_of_ble_eq_true rfl) (Nat.le_of_ble_eq_true rfl) (Nat.zero_le _) (Nat.zero_le _) (kr_vd ?_) kx_rt
    refine g_aload_n (i := 0) dX9_restore_36 rfl rfl ?_
    refine g_getf dX9_restore_37 K_X9 (k := 0) fl_X9_10 (Nat.le_of_ble_eq_true rfl) hC_6 rfl ?_
    refine g_getN dX9_restore_40 K_X3 (k := 5) fl_X9_196 (Nat.le_of_ble_eq_true rfl) (hC_map (g := 0) (by decide)).1 rfl ?_
    refine g_iret dX9_restore_43 rfl rfl ?_
    exact ⟨rfl, rfl⟩
  · exact absurd c4 hO

set_option maxRecDepth 100000 in
theorem ev_restore_no {l : Launch} {G : GG} (hl : l.stackTraces = false) {A : AD} {h : AH} {M : Nat → MS} {N : Nat × Nat} {c : Nat → Int32} {q : Nat → Nat} {H : HS} {L : LgS} {R : RS} {t l9 : SB} {O : OB} (hO : O.1 = 0) :
    Ev l G 11 1 6 mX9_restore [.ref (A 6 0)] (hC h A (M, N, c, q, H, L, R, t, l9, O)) (Tr "java/lang/IllegalStateException" (hC h A (M, N, c, q, H, L, R, t, l9, O))) := by
  refine Ev.of hl (by decide) (Nat.le_of_ble_eq_true rfl) ?_
  refine g_aload_n (i := 0) dX9_restore_0 rfl rfl ?_
  refine g_getf dX9_restore_1 K_X9 (k := 11) fl_X9_74 (Nat.le_of_ble_eq_true rfl) hC_6 rfl ?_
  refine g_if_ne (tgt := 18) dX9_restore_4 (by decide) (fun c4 => ?_) (fun c4 => ?_)
  · exact absurd hO c4
  · exact g_throwSW th_X9_286_383 dX9_restore_7 dX9_restore_10 dX9_restore_11 dX9_restore_14 dX9_restore_17 rfl (by decide) (by decide) (Nat.le_of_ble_eq_true rfl) (Nat.le_of_ble_eq_true rfl) ⟨rfl, rfl⟩

set_option maxRecDepth 100000 in
theorem ev_undo {l : Launch} {G : GG} (hl : l.stackTraces = false) {A : AD} {h : AH} {M : Nat → MS} {N : Nat × Nat} {c : Nat → Int32} {q : Nat → Nat} {H : HS} {L : LgS} {R : RS} {t l9 : SB} {O : OB} {k : Nat} (hk9 : N.2 = k + 1) (hn : N.1 < 8) (hk : k < 8) (hG : gOk (M (4 + (N.1 + 7) % 8))) :
    Ev l G 12 0 0 mX9_undo [.ref (A 6 0)] (hC h A (M, N, c, q, H, L, R, t, l9, O)) (Rt (some (.int (nI k))) (hC h A (va_up M 0 (M (4 + (N.1 + 7) % 8)), ((N.1 + 7) % 8, k), c, q, H, L, R, t, l9, O))) := by
  refine Ev.of hl (by decide) (Nat.le_of_ble_eq_true rfl) ?_
  refine g_aload_n (i := 0) dX9_undo_0 rfl rfl ?_
  refine g_getf dX9_undo_1 K_X9 (k := 4) fl_X9_28 (Nat.le_of_ble_eq_true rfl) hC_6 rfl ?_
  refine g_callV (ev_size hl hC_7 hC_8) dX9_undo_4 ml_X9_375 cvX4_size K_X4 rfl hC_7 rfl rfl (Nat.le_of_ble_eq_true rfl) (Nat.le_of_ble_eq_true rfl) (Nat.zero_le _) (Nat.zero_le _) (kr_rt ?_) kx_rt
  refine g_if_ne (tgt := 21) dX9_undo_7 (by decide) (fun c7 => ?_) (fun c7 => ?_)
  · refine g_aload_n (i := 0) dX9_undo_21 rfl rfl ?_
    refine g_getf dX9_undo_22 K_X9 (k := 4) fl_X9_28 (Nat.le_of_ble_eq_true rfl) hC_6 rfl ?_
    refine g_aload_n (i := 0) dX9_undo_25 rfl rfl ?_
    refine g_getf dX9_undo_26 K_X9 (k := 0) fl_X9_10 (Nat.le_of_ble_eq_true rfl) hC_6 rfl ?_
    refine g_callV (wr_takeBack hl hk9 hn hk hG) dX9_undo_29 ml_X9_380 cvX4_takeBack K_X4 rfl hC_7 rfl rfl (Nat.le_of_ble_eq_true rfl) (Nat.le_of_ble_eq_true rfl) (Nat.zero_le _) (Nat.zero_le _) (kr_vd ?_) kx_rt
    refine g_aload_n (i := 0) dX9_undo_32 rfl rfl ?_
    refine g_getf dX9_undo_33 K_X9 (k := 4) fl_X9_28 (Nat.le_of_ble_eq_true rfl) hC_6 rfl ?_
    refine g_callV (ev_size hl hC_7 hC_8) dX9_undo_36 ml_X9_375 cvX4_size K_X4 rfl hC_7 rfl rfl (Nat.le_of_ble_eq_true rfl) (Nat.le_of_ble_eq_true rfl) (Nat.zero_le _) (Nat.zero_le _) (kr_rt ?_) kx_rt
    refine g_iret dX9_undo_39 rfl rfl ?_
    exact ⟨rfl, rfl⟩
  · exact absurd ((nI_inj (a := N.2) (b := 0) (by omega) (by omega)).mp c7) (by omega)

set_option maxRecDepth 100000 in
theorem ev_undo_no {l : Launch} {G : GG} (hl : l.stackTraces = false) {A : AD} {h : AH} {M : Nat → MS} {N : Nat × Nat} {c : Nat → Int32} {q : Nat → Nat} {H : HS} {L : LgS} {R : RS} {t l9 : SB} {O : OB} (hN : N.2 = 0) :
    Ev l G 12 1 6 mX9_undo [.ref (A 6 0)] (hC h A (M, N, c, q, H, L, R, t, l9, O)) (Tr "java/lang/IllegalStateException" (hC h A (M, N, c, q, H, L, R, t, l9, O))) := by
  refine Ev.of hl (by decide) (Nat.le_of_ble_eq_true rfl) ?_
  refine g_aload_n (i := 0) dX9_undo_0 rfl rfl ?_
  refine g_getf dX9_undo_1 K_X9 (k := 4) fl_X9_28 (Nat.le_of_ble_eq_true rfl) hC_6 rfl ?_
  refine g_callV (ev_size hl hC_7 hC_8) dX9_undo_4 ml_X9_375 cvX4_size K_X4 rfl hC_7 rfl rfl (Nat.le_of_ble_eq_true rfl) (Nat.le_of_ble_eq_true rfl) (Nat.zero_le _) (Nat.zero_le _) (kr_rt ?_) kx_rt
  refine g_if_ne (tgt := 21) dX9_undo_7 (by decide) (fun c7 => ?_) (fun c7 => ?_)
  · exact absurd (by rw [hN]; rfl) c7
  · exact g_throwSW th_X9_286_378 dX9_undo_10 dX9_undo_13 dX9_undo_14 dX9_undo_17 dX9_undo_20 rfl (by decide) (by decide) (Nat.le_of_ble_eq_true rfl) (Nat.le_of_ble_eq_true rfl) ⟨rfl, rfl⟩

set_option maxRecDepth 100000 in
theorem ev_append {l : Launch} {G : GG} (hl : l.stackTraces = false) {A : AD} {h : AH} {M : Nat → MS} {N : Nat × Nat} {c : Nat → Int32} {q : Nat → Nat} {H : HS} {L : LgS} {R : RS} {t l9 : SB} {O : OB} {T : TX} (hB : isTx t T.1 T.2) {w : Nat} (hw : 32 ≤ w) (hw2 : w ≤ 126) (hn : T.2 < 60) :
    Ev l G 19 1 142 mX9_append [.ref (A 6 0), .int (nI w)] (hC h A (M, N, c, q, H, L, R, t, l9, O)) (RtX (some (.int (nI (T.2 + 1)))) (fun x : {B' : SB // isTx B' (sb_cat T.1 T.2 (fun _ => w)) (T.2 + 1)} => (hC h A (M, N, c, q, H, L, R, x.1, l9, O)))) := by
  refine Ev.of hl (by decide) (Nat.le_of_ble_eq_true rfl) ?_
  refine g_iload_n (i := 1) dX9_append_0 rfl rfl ?_
  refine g_bipush (v := 32) dX9_append_1 (by decide) ?_
  refine g_icmp_lt (tgt := 12) dX9_append_3 (by decide) (fun c3 => ?_) (fun c3 => ?_)
  · exact absurd ((nI_lt' (a := w) (b := 32) rfl (by omega) (by omega)).mp c3) (by omega)
  · refine g_iload_n (i := 1) dX9_append_6 rfl rfl ?_
    refine g_bipush (v := 126) dX9_append_7 (by decide) ?_
    refine g_icmp_le (tgt := 23) dX9_append_9 (by decide) (fun c9 => ?_) (fun c9 => ?_)
    · refine g_aload_n (i := 0) dX9_append_23 rfl rfl ?_
      refine g_getf dX9_append_24 K_X9 (k := 9) fl_X9_63 (Nat.le_of_ble_eq_true rfl) hC_6 rfl ?_
      refine g_callV (wr_isFull hl hB) dX9_append_27 ml_X9_282 cvX2_isFull K_X2 rfl hC_21 rfl rfl (Nat.le_of_ble_eq_true rfl) (Nat.le_of_ble_eq_true rfl) (Nat.zero_le _) (Nat.zero_le _) (kr_rt ?_) kx_rt
      refine g_if_eq (tgt := 44) dX9_append_30 (by decide) (fun c30 => ?_) (fun c30 => ?_)
      · refine g_aload_n (i := 0) dX9_append_44 rfl rfl ?_
        refine g_getf dX9_append_45 K_X9 (k := 9) fl_X9_63 (Nat.le_of_ble_eq_true rfl) hC_6 rfl ?_
        refine g_iload_n (i := 1) dX9_append_48 rfl rfl ?_
        refine g_callV (wr_addC hl hB (by omega) (by omega)) dX9_append_49 ml_X9_291 cvX2_addCharacter K_X2 rfl hC_21 rfl rfl (Nat.le_of_ble_eq_true rfl) (Nat.le_of_ble_eq_true rfl) (Nat.le_refl _) (Nat.le_refl _) (kr_xm (fun x9 => ?_)) kx_x
        refine g_iret dX9_append_52 rfl rfl ?_
        exact ⟨rfl, x9, rfl⟩
      · exact absurd (ite_1 c30) (by omega)
    · exact absurd ((nI_le' (a := w) (b := 126) rfl (by omega) (by omega)).mpr hw2) c9

set_option maxRecDepth 100000 in
theorem ev_append_no1 {l : Launch} {G : GG} (hl : l.stackTraces = false) {A : AD} {h : AH} {M : Nat → MS} {N : Nat × Nat} {c : Nat → Int32} {q : Nat → Nat} {H : HS} {L : LgS} {R : RS} {t l9 : SB} {O : OB} {x : Int32} (hx : ¬ (32 ≤ x ∧ x ≤ 126)) :
    Ev l G 19 1 6 mX9_append [.ref (A 6 0), .int x] (hC h A (M, N, c, q, H, L, R, t, l9, O)) (Tr "java/lang/IllegalArgumentException" (hC h A (M, N, c, q, H, L, R, t, l9, O))) := by
  refine Ev.of hl (by decide) (Nat.le_of_ble_eq_true rfl) ?_
  refine g_iload_n (i := 1) dX9_append_0 rfl rfl ?_
  refine g_bipush (v := 32) dX9_append_1 (by decide) ?_
  refine g_icmp_lt (tgt := 12) dX9_append_3 (by decide) (fun c3 => ?_) (fun c3 => ?_)
  · exact g_throwSW th_X9_99_280 dX9_append_12 dX9_append_15 dX9_append_16 dX9_append_19 dX9_append_22 rfl (by decide) (by decide) (Nat.le_of_ble_eq_true rfl) (Nat.le_of_ble_eq_true rfl) ⟨rfl, rfl⟩
  · refine g_iload_n (i := 1) dX9_append_6 rfl rfl ?_
    refine g_bipush (v := 126) dX9_append_7 (by decide) ?_
    refine g_icmp_le (tgt := 23) dX9_append_9 (by decide) (fun c9 => ?_) (fun c9 => ?_)
    · exact absurd ⟨ltn' c3, c9⟩ hx
    · exact g_throwSW th_X9_99_280 dX9_append_12 dX9_append_15 dX9_append_16 dX9_append_19 dX9_append_22 rfl (by decide) (by decide) (Nat.le_of_ble_eq_true rfl) (Nat.le_of_ble_eq_true rfl) ⟨rfl, rfl⟩

set_option maxRecDepth 100000 in
theorem ev_append_no2 {l : Launch} {G : GG} (hl : l.stackTraces = false) {A : AD} {h : AH} {M : Nat → MS} {N : Nat × Nat} {c : Nat → Int32} {q : Nat → Nat} {H : HS} {L : LgS} {R : RS} {t l9 : SB} {O : OB} {T : TX} (hB : isTx t T.1 T.2) {x : Int32} (hx : 32 ≤ x ∧ x ≤ 126) (hn : 60 ≤ T.2) :
    Ev l G 19 1 6 mX9_append [.ref (A 6 0), .int x] (hC h A (M, N, c, q, H, L, R, t, l9, O)) (Tr "java/lang/IllegalStateException" (hC h A (M, N, c, q, H, L, R, t, l9, O))) := by
  refine Ev.of hl (by decide) (Nat.le_of_ble_eq_true rfl) ?_
  refine g_iload_n (i := 1) dX9_append_0 rfl rfl ?_
  refine g_bipush (v := 32) dX9_append_1 (by decide) ?_
  refine g_icmp_lt (tgt := 12) dX9_append_3 (by decide) (fun c3 => ?_) (fun c3 => ?_)
  · exact absurd c3 (nlt hx.1)
  · refine g_iload_n (i := 1) dX9_append_6 rfl rfl ?_
    refine g_bipush (v := 126) dX9_append_7 (by decide) ?_
    refine g_icmp_le (tgt := 23) dX9_append_9 (by decide) (fun c9 => ?_) (fun c9 => ?_)
    · refine g_aload_n (i := 0) dX9_append_23 rfl rfl ?_
      refine g_getf dX9_append_24 K_X9 (k := 9) fl_X9_63 (Nat.le_of_ble_eq_true rfl) hC_6 rfl ?_
      refine g_callV (wr_isFull hl hB) dX9_append_27 ml_X9_282 cvX2_isFull K_X2 rfl hC_21 rfl rfl (Nat.le_of_ble_eq_true rfl) (Nat.le_of_ble_eq_true rfl) (Nat.zero_le _) (Nat.zero_le _) (kr_rt ?_) kx_rt
      refine g_if_eq (tgt := 44) dX9_append_30 (by decide) (fun c30 => ?_) (fun c30 => ?_)
      · exact absurd hn (ite_0 c30)
      · exact g_throwSW th_X9_286_288 dX9_append_33 dX9_append_36 dX9_append_37 dX9_append_40 dX9_append_43 rfl (by decide) (by decide) (Nat.le_of_ble_eq_true rfl) (Nat.le_of_ble_eq_true rfl) ⟨rfl, rfl⟩
    · exact absurd hx.2 c9

