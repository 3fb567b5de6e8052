/-! History, Long.bitCount, Unions (by wip/whole/gen/m6.py). -/
def hObj (A : AD) (nx kp : Nat) : Nat × AC := (A 7 0, .inr (4, [.ref (A 8 0), .int (nI nx), .int (nI kp)]))
def hArr (A : AD) : Nat × AC := (A 8 0, .inl (7, 8, .inr (.inr (.inr (.inr (fun i => some (A 0 (4 + i))))))))
theorem hNext : ∀ n, n < 8 → (nI n + 1) - (nI n + 1) / 8 * 8 = nI ((n + 1) % 8) ∧ (nI n + 8 - 1) - (nI n + 8 - 1) / 8 * 8 = nI ((n + 7) % 8) := by decide +kernel
theorem hKept : ∀ n, n < 9 → (if (8 : Int32) < nI n + 1 then 8 else nI n + 1) = nI (min (n + 1) 8) ∧ nI (n + 1) - 1 = nI n := by decide +kernel

set_option maxRecDepth 100000 in
theorem ev_size {l : Launch} {G : GG} (hl : l.stackTraces = false) {A : AD} {nx kp : Nat} {h : AH} (hH : h 7 0 = some (hObj A nx kp)) (hB : h 8 0 = some (hArr A)) :
    Ev l G 10 0 0 mX4_size [.ref (A 7 0)] h (Rt (some (.int (nI kp))) h) := by
  refine Ev.of hl (by decide) (Nat.le_of_ble_eq_true rfl) ?_
  refine g_aload_n (i := 0) dX4_size_0 rfl rfl ?_
  refine g_getf dX4_size_1 K_X4 (k := 2) fl_X4_21 (Nat.le_of_ble_eq_true rfl) hH rfl ?_
  refine g_iret dX4_size_4 rfl rfl ?_
  exact ⟨rfl, rfl⟩

set_option maxRecDepth 100000 in
theorem ev_forget {l : Launch} {G : GG} (hl : l.stackTraces = false) {A : AD} {nx kp : Nat} {h : AH} (hH : h 7 0 = some (hObj A nx kp)) (hB : h 8 0 = some (hArr A)) :
    Ev l G 10 0 0 mX4_forget [.ref (A 7 0)] h (Rt none (up h 7 0 (hObj A nx 0))) := by
  refine Ev.of hl (by decide) (Nat.le_of_ble_eq_true rfl) ?_
  refine g_aload_n (i := 0) dX4_forget_0 rfl rfl ?_
  refine g_iconst (v := 0) dX4_forget_1 (by decide) ?_
  refine g_putf dX4_forget_2 K_X4 (k := 2) fl_X4_21 (Nat.le_of_ble_eq_true rfl) rfl hH (Nat.le_of_ble_eq_true rfl) rfl rfl ?_
  refine g_vret dX4_forget_5 rfl ?_
  exact ⟨rfl, rfl⟩

set_option maxRecDepth 100000 in
theorem ev_keep {l : Launch} {G : GG} (hl : l.stackTraces = false) {A : AD} {nx kp : Nat} {h : AH} (hH : h 7 0 = some (hObj A nx kp)) (hB : h 8 0 = some (hArr A)) {gb : Nat} {m0 mb : MS} (hg : gb < 4) (hn : nx < 8) (hk : kp < 9) (H0 : isMap h A (4 + nx) m0) (Hb : isMap h A gb mb) (hc : ∀ i, i < 64 → fits .char (.int (mb.1 i)) = true) :
    Ev l G 11 0 0 mX4_keep [.ref (A 7 0), .ref (A 0 gb)] h (Rt none (up (setMap h A (4 + nx) mb) 7 0 (hObj A ((nx + 1) % 8) (min (kp + 1) 8)))) := by
  refine Ev.of hl (by decide) (Nat.le_of_ble_eq_true rfl) ?_
  refine g_aload_n (i := 0) dX4_keep_0 rfl rfl ?_
  refine g_getf dX4_keep_1 K_X4 (k := 0) fl_X4_11 (Nat.le_of_ble_eq_true rfl) hH rfl ?_
  refine g_aload_n (i := 0) dX4_keep_4 rfl rfl ?_
  refine g_getf dX4_keep_5 K_X4 (k := 1) fl_X4_17 (Nat.le_of_ble_eq_true rfl) hH rfl ?_
  refine g_aald dX4_keep_8 hB (by decide) rfl (ix_nI (by omega)) hn rfl ?_
  refine g_aload_n (i := 1) dX4_keep_9 rfl rfl ?_
  refine g_callV (ev_copyFrom hl (show gb ≠ 4 + nx by omega) H0 Hb hc) dX4_keep_10 ml_X4_25 cvX3_copyFrom K_X3 rfl H0.1 rfl rfl (Nat.le_of_ble_eq_true rfl) (Nat.le_of_ble_eq_true rfl) (Nat.zero_le _) (Nat.zero_le _) (kr_vd ?_) kx_rt
  refine g_aload_n (i := 0) dX4_keep_13 rfl rfl ?_
  refine g_aload_n (i := 0) dX4_keep_14 rfl rfl ?_
  refine g_getf dX4_keep_15 K_X4 (k := 1) fl_X4_17 (Nat.le_of_ble_eq_true rfl) ((setMap_role _ _ _ _ 0 (by decide)).trans hH) rfl ?_
  refine g_iconst (v := 1) dX4_keep_18 (by decide) ?_
  refine g_iadd dX4_keep_19 ?_
  refine g_bipush (v := 8) dX4_keep_20 (by decide) ?_
  refine g_irem dX4_keep_22 (by decide) ?_
  rw [(hNext nx hn).1]
  refine g_putf dX4_keep_23 K_X4 (k := 1) fl_X4_17 (Nat.le_of_ble_eq_true rfl) rfl ((setMap_role _ _ _ _ 0 (by decide)).trans hH) (Nat.le_of_ble_eq_true rfl) rfl rfl ?_
  refine g_aload_n (i := 0) dX4_keep_26 rfl rfl ?_
  refine g_aload_n (i := 0) dX4_keep_27 rfl rfl ?_
  refine g_getf dX4_keep_28 K_X4 (k := 2) fl_X4_21 (Nat.le_of_ble_eq_true rfl) (up_same _ _ _ _) rfl ?_
  refine g_iconst (v := 1) dX4_keep_31 (by decide) ?_
  refine g_iadd dX4_keep_32 ?_
  refine g_bipush (v := 8) dX4_keep_33 (by decide) ?_
  refine g_min dX4_keep_35 ml_X4_29 w_static_yJ9_min_7cf53 w_init_java_lang_Math w_code_Math_min (Nat.le_of_ble_eq_true rfl) (Nat.le_of_ble_eq_true rfl) ?_
  rw [(hKept kp hk).1]
  refine g_putf dX4_keep_38 K_X4 (k := 2) fl_X4_21 (Nat.le_of_ble_eq_true rfl) rfl (up_same _ _ _ _) (Nat.le_of_ble_eq_true rfl) rfl rfl (Go.heap (up_up _ _ _ _ _) ?_)
  refine g_vret dX4_keep_41 rfl ?_
  exact ⟨rfl, rfl⟩

set_option maxRecDepth 100000 in
theorem ev_takeBack {l : Launch} {G : GG} (hl : l.stackTraces = false) {A : AD} {nx kp : Nat} {h : AH} (hH : h 7 0 = some (hObj A nx kp)) (hB : h 8 0 = some (hArr A)) {g : Nat} {m0 mb : MS} (hg : g < 4) (hn : nx < 8) {k9 : Nat} (hk9 : kp = k9 + 1) (hk : k9 < 8) (H0 : isMap h A g m0) (Hb : isMap h A (4 + (nx + 7) % 8) mb) (hc : ∀ i, i < 64 → fits .char (.int (mb.1 i)) = true) :
    Ev l G 11 0 0 mX4_takeBack [.ref (A 7 0), .ref (A 0 g)] h (Rt none (setMap (up h 7 0 (hObj A ((nx + 7) % 8) k9)) A g mb)) := by
  refine Ev.of hl (by decide) (Nat.le_of_ble_eq_true rfl) ?_
  refine g_aload_n (i := 0) dX4_takeBack_0 rfl rfl ?_
  refine g_aload_n (i := 0) dX4_takeBack_1 rfl rfl ?_
  refine g_getf dX4_takeBack_2 K_X4 (k := 1) fl_X4_17 (Nat.le_of_ble_eq_true rfl) hH rfl ?_
  refine g_bipush (v := 8) dX4_takeBack_5 (by decide) ?_
  refine g_iadd dX4_takeBack_7 ?_
  refine g_iconst (v := 1) dX4_takeBack_8 (by decide) ?_
  refine g_isub dX4_takeBack_9 ?_
  refine g_bipush (v := 8) dX4_takeBack_10 (by decide) ?_
  refine g_irem dX4_takeBack_12 (by decide) ?_
  rw [(hNext nx hn).2]
  refine g_putf dX4_takeBack_13 K_X4 (k := 1) fl_X4_17 (Nat.le_of_ble_eq_true rfl) rfl hH (Nat.le_of_ble_eq_true rfl) rfl rfl ?_
  refine g_aload_n (i := 0) dX4_takeBack_16 rfl rfl ?_
  refine g_dup dX4_takeBack_17 rfl ?_
  refine g_getf dX4_takeBack_18 K_X4 (k := 2) fl_X4_21 (Nat.le_of_ble_eq_true rfl) (up_same _ _ _ _) rfl ?_
  refine g_iconst (v := 1) dX4_takeBack_21 (by decide) ?_
  refine g_isub dX4_takeBack_22 ?_
  subst hk9
  rw [(hKept k9 (by omega)).2]
  refine g_putf dX4_takeBack_23 K_X4 (k := 2) fl_X4_21 (Nat.le_of_ble_eq_true rfl) rfl (up_same _ _ _ _) (Nat.le_of_ble_eq_true rfl) rfl rfl (Go.heap ((up_up _ _ _ _ _).trans (show _ = up h 7 0 (hObj A ((nx + 7) % 8) k9) from rfl)) ?_)
  refine g_aload_n (i := 1) dX4_takeBack_26 rfl rfl ?_
  refine g_aload_n (i := 0) dX4_takeBack_27 rfl rfl ?_
  refine g_getf dX4_takeBack_28 K_X4 (k := 0) fl_X4_11 (Nat.le_of_ble_eq_true rfl) (up_same _ _ _ _) rfl ?_
  refine g_aload_n (i := 0) dX4_takeBack_31 rfl rfl ?_
  refine g_getf dX4_takeBack_32 K_X4 (k := 1) fl_X4_17 (Nat.le_of_ble_eq_true rfl) (up_same _ _ _ _) rfl ?_
  refine g_aald dX4_takeBack_35 ((up_role _ _ _ _ (by decide)).trans hB) (by decide) rfl (ix_nI (by omega)) (by omega) rfl ?_
  refine g_callV (ev_copyFrom hl (show 4 + (nx + 7) % 8 ≠ g by omega) (H0.role (by decide)) (Hb.role (by decide)) hc) dX4_takeBack_36 ml_X4_25 cvX3_copyFrom K_X3 rfl (H0.role (by decide)).1 rfl rfl (Nat.le_of_ble_eq_true rfl) (Nat.le_of_ble_eq_true rfl) (Nat.zero_le _) (Nat.zero_le _) (kr_vd ?_) kx_rt
  refine g_vret dX4_takeBack_39 rfl ?_
  exact ⟨rfl, rfl⟩

def srl (x : Int64) (k : Int32) : Int64 := (x.toUInt64 >>> (k.toInt64.toUInt64 &&& Int64.toUInt64 63)).toInt64
def pc1 (x : Int64) : Int64 := x - (srl x 1 &&& 6148914691236517205)
def pc2 (x : Int64) : Int64 := (x &&& 3689348814741910323) + (srl x 2 &&& 3689348814741910323)
def pc3 (x : Int64) : Int64 := (x + srl x 4) &&& 1085102592571150095
def pc4 (k : Int32) (x : Int64) : Int64 := x + srl x k
def pcJ (x : Int64) : Int32 := (pc4 32 (pc4 16 (pc4 8 (pc3 (pc2 (pc1 x)))))).toInt32 &&& 127

set_option maxRecDepth 100000 in
theorem ev_bitCount {l : Launch} {G : GG} (hl : l.stackTraces = false) {x : Int64} {h : AH} :
    Ev l G 10 0 0 mJ13_bitCount_95d88 [.long x] h (Rt (some (.int (pcJ x))) h) := by
  refine Ev.of hl (by decide) (Nat.le_of_ble_eq_true rfl) ?_
  refine g_lload_n (i := 0) dJ13_bitCount_95d88_0 rfl rfl ?_
  refine g_lload_n (i := 0) dJ13_bitCount_95d88_1 rfl rfl ?_
  refine g_iconst (v := 1) dJ13_bitCount_95d88_2 (by decide) ?_
  refine g_lushr dJ13_bitCount_95d88_3 ?_
  refine g_ldc2 dJ13_bitCount_95d88_4 co_J13_314 ?_
  refine g_land dJ13_bitCount_95d88_7 ?_
  refine g_lsub dJ13_bitCount_95d88_8 ?_
  refine (show Go l G mJ13_bitCount_95d88 10 0 0 _ _ _ [.long (pc1 x)] h from ?_)
  refine g_lstore_n (i := 0) dJ13_bitCount_95d88_9 rfl (Nat.le_of_ble_eq_true rfl) ?_
  refine g_lload_n (i := 0) dJ13_bitCount_95d88_10 rfl rfl ?_
  refine g_ldc2 dJ13_bitCount_95d88_11 co_J13_316 ?_
  refine g_land dJ13_bitCount_95d88_14 ?_
  refine g_lload_n (i := 0) dJ13_bitCount_95d88_15 rfl rfl ?_
  refine g_iconst (v := 2) dJ13_bitCount_95d88_16 (by decide) ?_
  refine g_lushr dJ13_bitCount_95d88_17 ?_
  refine g_ldc2 dJ13_bitCount_95d88_18 co_J13_316 ?_
  refine g_land dJ13_bitCount_95d88_21 ?_
  refine g_ladd dJ13_bitCount_95d88_22 ?_
  refine (show Go l G mJ13_bitCount_95d88 10 0 0 _ _ _ [.long (pc2 (pc1 x))] h from ?_)
  refine g_lstore_n (i := 0) dJ13_bitCount_95d88_23 rfl (Nat.le_of_ble_eq_true rfl) ?_
  refine g_lload_n (i := 0) dJ13_bitCount_95d88_24 rfl rfl ?_
  refine g_lload_n (i := 0) dJ13_bitCount_95d88_25 rfl rfl ?_
  refine g_iconst (v := 4) dJ13_bitCount_95d88_26 (by decide) ?_
  refine g_lushr dJ13_bitCount_95d88_27 ?_
  refine g_ladd dJ13_bitCount_95d88_28 ?_
  refine g_ldc2 dJ13_bitCount_95d88_29 co_J13_318 ?_
  refine g_land dJ13_bitCount_95d88_32 ?_
  refine (show Go l G mJ13_bitCount_95d88 10 0 0 _ _ _ [.long (pc3 (pc2 (pc1 x)))] h from ?_)
  refine g_lstore_n (i := 0) dJ13_bitCount_95d88_33 rfl (Nat.le_of_ble_eq_true rfl) ?_
  refine g_lload_n (i := 0) dJ13_bitCount_95d88_34 rfl rfl ?_
  refine g_lload_n (i := 0) dJ13_bitCount_95d88_35 rfl rfl ?_
  refine g_bipush (v := 8) dJ13_bitCount_95d88_36 (by decide) ?_
  refine g_lushr dJ13_bitCount_95d88_38 ?_
  refine g_ladd dJ13_bitCount_95d88_39 ?_
  refine (show Go l G mJ13_bitCount_95d88 10 0 0 _ _ _ [.long (pc4 8 (pc3 (pc2 (pc1 x))))] h from ?_)
  refine g_lstore_n (i := 0) dJ13_bitCount_95d88_40 rfl (Nat.le_of_ble_eq_true rfl) ?_
  refine g_lload_n (i := 0) dJ13_bitCount_95d88_41 rfl rfl ?_
  refine g_lload_n (i := 0) dJ13_bitCount_95d88_42 rfl rfl ?_
  refine g_bipush (v := 16) dJ13_bitCount_95d88_43 (by decide) ?_
  refine g_lushr dJ13_bitCount_95d88_45 ?_
  refine g_ladd dJ13_bitCount_95d88_46 ?_
  refine (show Go l G mJ13_bitCount_95d88 10 0 0 _ _ _ [.long (pc4 16 (pc4 8 (pc3 (pc2 (pc1 x)))))] h from ?_)
  refine g_lstore_n (i := 0) dJ13_bitCount_95d88_47 rfl (Nat.le_of_ble_eq_true rfl) ?_
  refine g_lload_n (i := 0) dJ13_bitCount_95d88_48 rfl rfl ?_
  refine g_lload_n (i := 0) dJ13_bitCount_95d88_49 rfl rfl ?_
  refine g_bipush (v := 32) dJ13_bitCount_95d88_50 (by decide) ?_
  refine g_lushr dJ13_bitCount_95d88_52 ?_
  refine g_ladd dJ13_bitCount_95d88_53 ?_
  refine (show Go l G mJ13_bitCount_95d88 10 0 0 _ _ _ [.long (pc4 32 (pc4 16 (pc4 8 (pc3 (pc2 (pc1 x))))))] h from ?_)
  refine g_lstore_n (i := 0) dJ13_bitCount_95d88_54 rfl (Nat.le_of_ble_eq_true rfl) ?_
  refine g_lload_n (i := 0) dJ13_bitCount_95d88_55 rfl rfl ?_
  refine g_l2i dJ13_bitCount_95d88_56 ?_
  refine g_bipush (v := 127) dJ13_bitCount_95d88_57 (by decide) ?_
  refine g_iand dJ13_bitCount_95d88_59 ?_
  refine g_iret dJ13_bitCount_95d88_60 rfl rfl ?_
  exact ⟨rfl, rfl⟩

set_option maxRecDepth 100000 in
theorem ev_contourByPairs {l : Launch} {G : GG} (hl : l.stackTraces = false) {b : Int64} {h : AH} :
    Ev l G 11 0 0 mX6_measureContourByPairs [.long b] h (Rt (some (.int (4 * pcJ b - 2 * (pcJ (b &&& srl b 1 &&& 9187201950435737471) + pcJ (b &&& srl b 8))))) h) := by
  refine Ev.of hl (by decide) (Nat.le_of_ble_eq_true rfl) ?_
  refine g_lload_n (i := 0) dX6_measureContourByPairs_0 rfl rfl ?_
  refine g_lload_n (i := 0) dX6_measureContourByPairs_1 rfl rfl ?_
  refine g_iconst (v := 1) dX6_measureContourByPairs_2 (by decide) ?_
  refine g_lushr dX6_measureContourByPairs_3 ?_
  refine g_land dX6_measureContourByPairs_4 ?_
  refine g_ldc2 dX6_measureContourByPairs_5 co_X6_18 ?_
  refine g_land dX6_measureContourByPairs_8 ?_
  refine g_callS (ev_bitCount hl) dX6_measureContourByPairs_9 ml_X6_63 csJ13_bitCount_95d88 rfl rfl (Nat.le_of_ble_eq_true rfl) (Nat.le_of_ble_eq_true rfl) (Nat.zero_le _) (Nat.zero_le _) (kr_rt ?_) kx_rt
  refine g_istore_n (i := 2) dX6_measureContourByPairs_12 rfl (Nat.le_of_ble_eq_true rfl) ?_
  refine g_lload_n (i := 0) dX6_measureContourByPairs_13 rfl rfl ?_
  refine g_lload_n (i := 0) dX6_measureContourByPairs_14 rfl rfl ?_
  refine g_bipush (v := 8) dX6_measureContourByPairs_15 (by decide) ?_
  refine g_lushr dX6_measureContourByPairs_17 ?_
  refine g_land dX6_measureContourByPairs_18 ?_
  refine g_callS (ev_bitCount hl) dX6_measureContourByPairs_19 ml_X6_63 csJ13_bitCount_95d88 rfl rfl (Nat.le_of_ble_eq_true rfl) (Nat.le_of_ble_eq_true rfl) (Nat.zero_le _) (Nat.zero_le _) (kr_rt ?_) kx_rt
  refine g_istore_n (i := 3) dX6_measureContourByPairs_22 rfl (Nat.le_of_ble_eq_true rfl) ?_
  refine g_iconst (v := 4) dX6_measureContourByPairs_23 (by decide) ?_
  refine g_lload_n (i := 0) dX6_measureContourByPairs_24 rfl rfl ?_
  refine g_callS (ev_bitCount hl) dX6_measureContourByPairs_25 ml_X6_63 csJ13_bitCount_95d88 rfl rfl (Nat.le_of_ble_eq_true rfl) (Nat.le_of_ble_eq_true rfl) (Nat.zero_le _) (Nat.zero_le _) (kr_rt ?_) kx_rt
  refine g_imul dX6_measureContourByPairs_28 ?_
  refine g_iconst (v := 2) dX6_measureContourByPairs_29 (by decide) ?_
  refine g_iload_n (i := 2) dX6_measureContourByPairs_30 rfl rfl ?_
  refine g_iload_n (i := 3) dX6_measureContourByPairs_31 rfl rfl ?_
  refine g_iadd dX6_measureContourByPairs_32 ?_
  refine g_imul dX6_measureContourByPairs_33 ?_
  refine g_isub dX6_measureContourByPairs_34 ?_
  refine g_iret dX6_measureContourByPairs_35 rfl rfl ?_
  exact ⟨rfl, rfl⟩

theorem sqX : ∀ j, j < 10 → ((8 : Int32) ≤ 8 - nI j → j = 0) ∧ (¬ (8 : Int32) ≤ 8 - nI j → 0 < j) ∧ ((8 : Int32) - nI (j + 1) + 1 = 8 - nI j) := by decide +kernel
set_option maxRecDepth 100000 in
theorem ev_countSquares {l : Launch} {G : GG} (hl : l.stackTraces = false) {b : Int64} {h : AH} :
    Ev l G 13 0 0 mX6_countSquares [.long b] h (Rt (some (.int (sqAll b 9 (-1) 0))) h) := by
  refine Ev.of hl (by decide) (Nat.le_of_ble_eq_true rfl) ?_
  have outer : ∀ (jy : Nat) (y n : Int32) (X : Option Value), y = 8 - nI jy → jy < 10 → Go l G mX6_countSquares 13 0 0 (Rt (some (.int (sqAll b jy y n))) h) 4 [some (.long b), none, some (.int n), some (.int y), X] [] h := by
    intro jy
    induction jy with
    | zero =>
      intro y n X hy hj0
      subst hy
      refine g_iload_n (i := 3) dX6_countSquares_4 rfl rfl ?_
      refine g_bipush (v := 8) dX6_countSquares_5 (by decide) ?_
      refine g_icmp_ge (tgt := 42) dX6_countSquares_7 (by decide) (fun c7 => ?_) (fun c7 => ?_)
      · refine g_iload_n (i := 2) dX6_countSquares_42 rfl rfl ?_
        refine g_iret dX6_countSquares_43 rfl rfl ?_
        exact ⟨rfl, rfl⟩
      · exact absurd ((sqX 0 (by decide)).2.1 c7) (by decide)
    | succ jy ihy =>
      intro y n X hy hj0
      have inner : ∀ (j : Nat) (x n : Int32), x = 8 - nI j → j < 10 → Go l G mX6_countSquares 13 0 0 (Rt (some (.int (sqAll b jy (y + 1) (sqRow b y j x n)))) h) 13 [some (.long b), none, some (.int n), some (.int y), some (.int x)] [] h := by
        intro j
        induction j with
        | zero =>
          intro x n hx hj
          subst hx
          refine g_iload dX6_countSquares_13 rfl ?_
          refine g_bipush (v := 8) dX6_countSquares_15 (by decide) ?_
          refine g_icmp_ge (tgt := 36) dX6_countSquares_17 (by decide) (fun c17 => ?_) (fun c17 => ?_)
          · refine g_iinc (w := 1) dX6_countSquares_36 (by decide) rfl rfl (Nat.le_of_ble_eq_true rfl) ?_
            refine g_goto (tgt := 4) dX6_countSquares_39 (by decide) ?_
            exact ihy (y + 1) _ _ (by rw [hy]; exact (sqX jy (by omega)).2.2) (by omega)
          · exact absurd ((sqX 0 (by decide)).2.1 c17) (by decide)
        | succ j ih =>
          intro x n hx hj
          refine g_iload dX6_countSquares_13 rfl ?_
          refine g_bipush (v := 8) dX6_countSquares_15 (by decide) ?_
          refine g_icmp_ge (tgt := 36) dX6_countSquares_17 (by decide) (fun c17 => ?_) (fun c17 => ?_)
          · exact absurd ((sqX (j + 1) (by omega)).1 (by rw [← hx]; exact c17)) (by omega)
          · refine g_iload_n (i := 2) dX6_countSquares_20 rfl rfl ?_
            refine g_lload_n (i := 0) dX6_countSquares_21 rfl rfl ?_
            refine g_iload dX6_countSquares_22 rfl ?_
            refine g_iload_n (i := 3) dX6_countSquares_24 rfl rfl ?_
            refine g_callS (ev_cornersOfSquare hl) dX6_countSquares_25 ml_X6_41 csX6_cornersOfSquare rfl rfl (Nat.le_of_ble_eq_true rfl) (Nat.le_of_ble_eq_true rfl) (Nat.zero_le _) (Nat.zero_le _) (kr_rt ?_) kx_rt
            refine g_iadd dX6_countSquares_28 ?_
            refine g_istore_n (i := 2) dX6_countSquares_29 rfl (Nat.le_of_ble_eq_true rfl) ?_
            refine g_iinc (w := 1) dX6_countSquares_30 (by decide) rfl rfl (Nat.le_of_ble_eq_true rfl) ?_
            refine g_goto (tgt := 13) dX6_countSquares_33 (by decide) ?_
            exact ih (x + 1) _ (by rw [hx]; exact (sqX j (by omega)).2.2) (by omega)
      refine g_iload_n (i := 3) dX6_countSquares_4 rfl rfl ?_
      refine g_bipush (v := 8) dX6_countSquares_5 (by decide) ?_
      refine g_icmp_ge (tgt := 42) dX6_countSquares_7 (by decide) (fun c7 => ?_) (fun c7 => ?_)
      · exact absurd ((sqX (jy + 1) (by omega)).1 (by rw [← hy]; exact c7)) (by omega)
      · refine g_iconst (v := (-1)) dX6_countSquares_10 (by decide) ?_
        refine g_istore dX6_countSquares_11 (Nat.le_of_ble_eq_true rfl) ?_
        exact inner 9 (-1) n rfl (by decide)
  refine g_iconst (v := 0) dX6_countSquares_0 (by decide) ?_
  refine g_istore_n (i := 2) dX6_countSquares_1 rfl (Nat.le_of_ble_eq_true rfl) ?_
  refine g_iconst (v := (-1)) dX6_countSquares_2 (by decide) ?_
  refine g_istore_n (i := 3) dX6_countSquares_3 rfl (Nat.le_of_ble_eq_true rfl) ?_
  exact outer 9 (-1) 0 _ rfl (by decide)

def un (h : AH) (A : AD) (q : Nat → Nat) : AH := up h 12 0 (iArr (A 12 0) 64 (fun i => nI (q i)))
theorem un_12 (h : AH) (A : AD) (q : Nat → Nat) : un h A q 12 0 = some (iArr (A 12 0) 64 (fun i => nI (q i))) := up_same _ _ _ _
theorem un_11 {h : AH} {A : AD} {x : Option (Nat × AC)} (H : h 11 0 = x) (q : Nat → Nat) : un h A q 11 0 = x := (up_role _ _ _ _ (by decide)).trans H
theorem un_up (h : AH) (A : AD) (q : Nat → Nat) (r x : Nat) : up (un h A q) 12 0 (iArr (A 12 0) 64 (va_up (fun i => nI (q i)) r (nI x))) = un h A (va_up q r x) := by
  have e : va_up (fun i => nI (q i)) r (nI x) = fun i => nI (va_up q r x i) := by
    funext i
    by_cases e : i = r
    · subst e; simp [va_up]
    · simp [va_up, e]
  unfold un
  rw [up_up, e]
def rootN (q : Nat → Nat) : Nat → Nat → Nat
  | 0, r => r
  | j + 1, r => if q r = r then r else rootN q j (q r)
theorem rootN_lt {q : Nat → Nat} (hq : ∀ i, i < 64 → q i < 64) : ∀ j r, r < 64 → rootN q j r < 64
  | 0, r, h => h
  | j + 1, r, h => by
    rw [rootN]
    split
    · exact h
    · exact rootN_lt hq j _ (hq r h)
abbrev unP (b : Int64) (c n : Nat) : Prop := inJ b (nI c) ∧ inJ b (nI n)
def unQ (b : Int64) (c : Nat) (q : Nat → Nat) : Option Nat → Nat → Nat
  | none => q
  | some n => if unP b c n then va_up q (rootN q 64 n) (rootN q 64 c) else q
def unB (b : Int64) (c : Nat) (q : Nat → Nat) : Option Nat → Prop
  | none => False
  | some n => unP b c n ∧ rootN q 64 c ≠ rootN q 64 n
theorem unQ_lt {b : Int64} {c : Nat} {q : Nat → Nat} (hc : c < 64) (hq : ∀ i, i < 64 → q i < 64) (o : Option Nat) : ∀ i, i < 64 → unQ b c q o i < 64 := by
  intro i hi
  cases o with
  | none => exact hq i hi
  | some n =>
    rw [unQ]
    split
    · unfold va_up
      split
      · exact rootN_lt hq _ _ hc
      · exact hq i hi
    · exact hq i hi
def unV (b : Int64) (c : Nat) (q : Nat → Nat) : Option Nat → Int32
  | none => 0
  | some n => if unP b c n ∧ rootN q 64 c ≠ rootN q 64 n then 1 else 0
def unAQ (b : Int64) : Nat → Nat → Nat
  | 0 => id
  | k + 1 => unQ b k (unQ b k (unAQ b k) (nb k 1)) (nb k 2)
def unAN (b : Int64) : Nat → Int32
  | 0 => pcJ b
  | k + 1 => (if unV b k (unAQ b k) (nb k 1) = 0 then unAN b k else unAN b k + -1) + (if unV b k (unQ b k (unAQ b k) (nb k 1)) (nb k 2) = 0 then 0 else -1)
theorem unAQ_lt (b : Int64) : ∀ k, k ≤ 64 → ∀ i, i < 64 → unAQ b k i < 64
  | 0, _ => fun i hi => hi
  | k + 1, hk => unQ_lt (by omega) (unQ_lt (by omega) (unAQ_lt b k (by omega)) _) _

set_option maxRecDepth 100000 in
theorem ev_rootOf {l : Launch} {G : GG} (hl : l.stackTraces = false) {A : AD} {h : AH} (hU : h 11 0 = some (A 11 0, .inr (8, [.ref (A 12 0)]))) {q : Nat → Nat} (hq : ∀ i, i < 64 → q i < 64) {c : Nat} (hc : c < 64) :
    Ev l G 10 0 0 mX8_rootOf [.ref (A 11 0), .int (nI c)] (un h A q) (Rt (some (.int (nI (rootN q 64 c)))) (un h A q)) := by
  refine Ev.of hl (by decide) (Nat.le_of_ble_eq_true rfl) ?_
  have loop : ∀ (j : Nat) (k r : Nat), r < 64 → k + j = 64 → Go l G mX8_rootOf 10 0 0 (Rt (some (.int (nI (rootN q j r)))) (un h A q)) 4 [some (.ref (A 11 0)), some (.int (nI c)), some (.int (nI r)), some (.int (nI k))] [] (un h A q) := by
    intro j
    induction j with
    | zero =>
      intro k r hr hk
      refine g_iload_n (i := 3) dX8_rootOf_4 rfl rfl ?_
      refine g_bipush (v := 64) dX8_rootOf_5 (by decide) ?_
      refine g_icmp_ge (tgt := 33) dX8_rootOf_7 (by decide) (fun c7 => ?_) (fun c7 => ?_)
      · refine g_iload_n (i := 2) dX8_rootOf_33 rfl rfl ?_
        refine g_iret dX8_rootOf_34 rfl rfl ?_
        exact ⟨rfl, rfl⟩
      · exact absurd ((le_nI (a := 64) (b := k) rfl (by omega) (by omega)).mpr (by omega)) c7
    | succ j ih =>
      intro k r hr hk
      refine g_iload_n (i := 3) dX8_rootOf_4 rfl rfl ?_
      refine g_bipush (v := 64) dX8_rootOf_5 (by decide) ?_
      refine g_icmp_ge (tgt := 33) dX8_rootOf_7 (by decide) (fun c7 => ?_) (fun c7 => ?_)
      · exact absurd ((le_nI (a := 64) (b := k) rfl (by omega) (by omega)).mp c7) (by omega)
      · refine g_aload_n (i := 0) dX8_rootOf_10 rfl rfl ?_
        refine g_getf dX8_rootOf_11 K_X8 (k := 0) fl_X8_9 (Nat.le_of_ble_eq_true rfl) (un_11 hU _) rfl ?_
        refine g_iload_n (i := 2) dX8_rootOf_14 rfl rfl ?_
        refine g_iald dX8_rootOf_15 (un_12 _ _ _) (ix_nI (by omega)) hr ?_
        refine g_iload_n (i := 2) dX8_rootOf_16 rfl rfl ?_
        refine g_icmp_eq (tgt := 33) dX8_rootOf_17 (by decide) (fun c17 => ?_) (fun c17 => ?_)
        · refine g_iload_n (i := 2) dX8_rootOf_33 rfl rfl ?_
          refine g_iret dX8_rootOf_34 rfl rfl ?_
          exact ⟨by rw [rootN, if_pos ((nI_inj (by have := hq r hr; omega) (by omega)).mp c17)], rfl⟩
        · refine g_aload_n (i := 0) dX8_rootOf_20 rfl rfl ?_
          refine g_getf dX8_rootOf_21 K_X8 (k := 0) fl_X8_9 (Nat.le_of_ble_eq_true rfl) (un_11 hU _) rfl ?_
          refine g_iload_n (i := 2) dX8_rootOf_24 rfl rfl ?_
          refine g_iald dX8_rootOf_25 (un_12 _ _ _) (ix_nI (by omega)) hr ?_
          refine g_istore_n (i := 2) dX8_rootOf_26 rfl (Nat.le_of_ble_eq_true rfl) ?_
          refine g_iinc (w := 1) dX8_rootOf_27 (by decide) rfl (nI_succ k).symm (Nat.le_of_ble_eq_true rfl) ?_
          refine g_goto (tgt := 4) dX8_rootOf_30 (by decide) ?_
          have z := ih (k + 1) (q r) (hq r hr) (by omega)
          rw [← show rootN q (j + 1) r = _ from if_neg (fun z => c17 (by rw [z]))] at z
          exact z
  refine g_iload_n (i := 1) dX8_rootOf_0 rfl rfl ?_
  refine g_istore_n (i := 2) dX8_rootOf_1 rfl (Nat.le_of_ble_eq_true rfl) ?_
  refine g_iconst (v := 0) dX8_rootOf_2 (by decide) ?_
  refine g_istore_n (i := 3) dX8_rootOf_3 rfl (Nat.le_of_ble_eq_true rfl) ?_
  exact loop 64 0 c hc rfl

set_option maxRecDepth 100000 in
theorem ev_unite_n {l : Launch} {G : GG} (hl : l.stackTraces = false) {A : AD} {h : AH} (hU : h 11 0 = some (A 11 0, .inr (8, [.ref (A 12 0)]))) {q : Nat → Nat} {b : Int64} {c : Nat} :
    Ev l G 11 0 0 mX8_unite [.ref (A 11 0), .long b, .int (nI c), .int (-1)] (un h A q) (Rt (some (.int (unV b c q none))) (un h A (unQ b c q none))) := by
  refine Ev.of hl (by decide) (Nat.le_of_ble_eq_true rfl) ?_
  refine g_iload dX8_unite_0 rfl ?_
  refine g_iconst (v := (-1)) dX8_unite_2 (by decide) ?_
  refine g_icmp_eq (tgt := 23) dX8_unite_3 (by decide) (fun c3 => ?_) (fun c3 => ?_)
  · refine g_iconst (v := 0) dX8_unite_23 (by decide) ?_
    refine g_iret dX8_unite_24 rfl rfl ?_
    exact ⟨rfl, rfl⟩
  · exact absurd rfl c3

set_option maxRecDepth 100000 in
theorem ev_unite_s {l : Launch} {G : GG} (hl : l.stackTraces = false) {A : AD} {h : AH} (hU : h 11 0 = some (A 11 0, .inr (8, [.ref (A 12 0)]))) {q : Nat → Nat} (hq : ∀ i, i < 64 → q i < 64) {b : Int64} {c n : Nat} (hc : c < 64) (hn : n < 64) :
    Ev l G 11 0 0 mX8_unite [.ref (A 11 0), .long b, .int (nI c), .int (nI n)] (un h A q) (Rt (some (.int (unV b c q (some n)))) (un h A (unQ b c q (some n)))) := by
  refine Ev.of hl (by decide) (Nat.le_of_ble_eq_true rfl) ?_
  refine g_iload dX8_unite_0 rfl ?_
  refine g_iconst (v := (-1)) dX8_unite_2 (by decide) ?_
  refine g_icmp_eq (tgt := 23) dX8_unite_3 (by decide) (fun c3 => ?_) (fun c3 => ?_)
  · exact absurd c3 (nI_m1 hn)
  · refine g_lload_n (i := 1) dX8_unite_6 rfl rfl ?_
    refine g_iload_n (i := 3) dX8_unite_7 rfl rfl ?_
    refine g_callS (ev_isIn hl) dX8_unite_8 ml_X8_29 csX6_isIn rfl rfl (Nat.le_of_ble_eq_true rfl) (Nat.le_of_ble_eq_true rfl) (Nat.zero_le _) (Nat.zero_le _) (kr_rt ?_) kx_rt
    refine g_if_eq (tgt := 23) dX8_unite_11 (by decide) (fun c11 => ?_) (fun c11 => ?_)
    · refine g_iconst (v := 0) dX8_unite_23 (by decide) ?_
      refine g_iret dX8_unite_24 rfl rfl ?_
      exact ⟨by rw [unV, if_neg (fun z => ite_0 c11 z.1.1)], by rw [unQ, if_neg (fun z => ite_0 c11 z.1)]⟩
    · refine g_lload_n (i := 1) dX8_unite_14 rfl rfl ?_
      refine g_iload dX8_unite_15 rfl ?_
      refine g_callS (ev_isIn hl) dX8_unite_17 ml_X8_29 csX6_isIn rfl rfl (Nat.le_of_ble_eq_true rfl) (Nat.le_of_ble_eq_true rfl) (Nat.zero_le _) (Nat.zero_le _) (kr_rt ?_) kx_rt
      refine g_if_ne (tgt := 25) dX8_unite_20 (by decide) (fun c20 => ?_) (fun c20 => ?_)
      · refine g_aload_n (i := 0) dX8_unite_25 rfl rfl ?_
        refine g_iload_n (i := 3) dX8_unite_26 rfl rfl ?_
        refine g_callV (ev_rootOf hl hU hq hc) dX8_unite_27 ml_X8_35 cvX8_rootOf K_X8 rfl (un_11 hU _) rfl rfl (Nat.le_of_ble_eq_true rfl) (Nat.le_of_ble_eq_true rfl) (Nat.zero_le _) (Nat.zero_le _) (kr_rt ?_) kx_rt
        refine g_istore dX8_unite_30 (Nat.le_of_ble_eq_true rfl) ?_
        refine g_aload_n (i := 0) dX8_unite_32 rfl rfl ?_
        refine g_iload dX8_unite_33 rfl ?_
        refine g_callV (ev_rootOf hl hU hq hn) dX8_unite_35 ml_X8_35 cvX8_rootOf K_X8 rfl (un_11 hU _) rfl rfl (Nat.le_of_ble_eq_true rfl) (Nat.le_of_ble_eq_true rfl) (Nat.zero_le _) (Nat.zero_le _) (kr_rt ?_) kx_rt
        refine g_istore dX8_unite_38 (Nat.le_of_ble_eq_true rfl) ?_
        refine g_aload_n (i := 0) dX8_unite_40 rfl rfl ?_
        refine g_getf dX8_unite_41 K_X8 (k := 0) fl_X8_9 (Nat.le_of_ble_eq_true rfl) (un_11 hU _) rfl ?_
        refine g_iload dX8_unite_44 rfl ?_
        refine g_iload dX8_unite_46 rfl ?_
        refine g_iast dX8_unite_48 (un_12 _ _ _) (ix_nI (by have := rootN_lt hq 64 n hn; omega)) (rootN_lt hq 64 n hn) rfl (Go.heap (un_up _ _ _ _ _) ?_)
        refine g_iload dX8_unite_49 rfl ?_
        refine g_iload dX8_unite_51 rfl ?_
        refine g_icmp_eq (tgt := 60) dX8_unite_53 (by decide) (fun c53 => ?_) (fun c53 => ?_)
        · refine g_iconst (v := 0) dX8_unite_60 (by decide) ?_
          refine g_iret dX8_unite_61 rfl rfl ?_
          exact ⟨by rw [unV, if_neg (fun z => z.2 ((nI_inj (by have := rootN_lt hq 64 c hc; omega) (by have := rootN_lt hq 64 n hn; omega)).mp c53))], by rw [unQ, if_pos ⟨ite_1 c11, ite_1 c20⟩]⟩
        · refine g_iconst (v := 1) dX8_unite_56 (by decide) ?_
          refine g_goto (tgt := 61) dX8_unite_57 (by decide) ?_
          refine g_iret dX8_unite_61 rfl rfl ?_
          exact ⟨by rw [unV, if_pos ⟨⟨ite_1 c11, ite_1 c20⟩, fun z => c53 (by rw [z])⟩], by rw [unQ, if_pos ⟨ite_1 c11, ite_1 c20⟩]⟩
      · refine g_iconst (v := 0) dX8_unite_23 (by decide) ?_
        refine g_iret dX8_unite_24 rfl rfl ?_
        exact ⟨by rw [unV, if_neg (fun z => ite_0 c20 z.1.2)], by rw [unQ, if_neg (fun z => ite_0 c20 z.2)]⟩

theorem ev_unite {l : Launch} {G : GG} (hl : l.stackTraces = false) {A : AD} {h : AH} (hU : h 11 0 = some (A 11 0, .inr (8, [.ref (A 12 0)]))) {q : Nat → Nat} (hq : ∀ i, i < 64 → q i < 64) {b : Int64} {c : Nat} (hc : c < 64) {o : Option Nat} (ho : ∀ n, o = some n → n < 64) : Ev l G 11 0 0 mX8_unite [.ref (A 11 0), .long b, .int (nI c), .int (oI o)] (un h A q) (Rt (some (.int (unV b c q o))) (un h A (unQ b c q o))) := by
  cases o with
  | none => exact ev_unite_n hl hU
  | some n => exact ev_unite_s hl hU hq hc (ho n rfl)

theorem stepV {q : Nat → Nat} {k : Nat} : va_up (fun i => if i < k then i else q i) k k = fun i => if i < k + 1 then i else q i := by
  funext i
  by_cases e : i = k
  · subst e; simp [va_up]
  · by_cases e2 : i < k
    · simp [va_up, e, e2, Nat.lt_succ_of_lt e2]
    · simp [va_up, e, e2, show ¬ i < k + 1 by omega]

set_option maxRecDepth 100000 in
theorem ev_countByUnions {l : Launch} {G : GG} (hl : l.stackTraces = false) {A : AD} {h : AH} (hU : h 11 0 = some (A 11 0, .inr (8, [.ref (A 12 0)]))) {q : Nat → Nat} {b : Int64} :
    Ev l G 12 0 0 mX8_countRegions [.ref (A 11 0), .long b] (un h A q) (RtX (some (.int (unAN b 64))) (fun q => un h A q)) := by
  refine Ev.of hl (by decide) (Nat.le_of_ble_eq_true rfl) ?_
  have loop2 : ∀ (n9 : Nat) (k : Nat), 64 - k < n9 → k ≤ 64 → Go l G mX8_countRegions 12 0 0 (RtX (some (.int (unAN b 64))) (fun q => un h A q)) 29 [some (.ref (A 11 0)), some (.long b), none, some (.int (unAN b k)), some (.int (nI k))] [] (un h A (unAQ b k)) := by
    intro n9
    induction n9 with
    | zero => intros; omega
    | succ n9 ih =>
      intro k hf hk
      refine g_iload dX8_countRegions_29 rfl ?_
      refine g_bipush (v := 64) dX8_countRegions_31 (by decide) ?_
      refine g_icmp_ge (tgt := 80) dX8_countRegions_33 (by decide) (fun c33 => ?_) (fun c33 => ?_)
      · have hke : k = 64 := by have := (le_nI (a := 64) rfl (by omega) (by omega)).mp c33; omega
        subst hke
        refine g_iload_n (i := 3) dX8_countRegions_80 rfl rfl ?_
        refine g_iret dX8_countRegions_81 rfl rfl ?_
        exact ⟨rfl, _, rfl⟩
      · have hk2 : k < 64 := by have := mt (le_nI (a := 64) (b := k) rfl (by omega) (by omega)).mpr c33; omega
        refine g_aload_n (i := 0) dX8_countRegions_36 rfl rfl ?_
        refine g_lload_n (i := 1) dX8_countRegions_37 rfl rfl ?_
        refine g_iload dX8_countRegions_38 rfl ?_
        refine g_iload dX8_countRegions_40 rfl ?_
        refine g_iconst (v := 1) dX8_countRegions_42 (by decide) ?_
        refine g_callSN (ev_neighbourOf (s := 1) hl hk2 (by decide)) dX8_countRegions_43 ml_X8_21 csX9_neighbourOf rfl rfl rfl (Nat.le_of_ble_eq_true rfl) (Nat.le_of_ble_eq_true rfl) (Nat.zero_le _) (Nat.zero_le _) (kr_rt ?_) kx_rt
        refine g_callV (ev_unite hl hU (unAQ_lt b k (by omega)) hk2 (fun n hn => nb_lt hk2 hn)) dX8_countRegions_46 ml_X8_25 cvX8_unite K_X8 rfl (un_11 hU _) rfl rfl (Nat.le_of_ble_eq_true rfl) (Nat.le_of_ble_eq_true rfl) (Nat.zero_le _) (Nat.zero_le _) (kr_rt ?_) kx_rt
        refine g_if_eq (tgt := 55) dX8_countRegions_49 (by decide) (fun c49 => ?_) (fun c49 => ?_)
        · refine g_aload_n (i := 0) dX8_countRegions_55 rfl rfl ?_
          refine g_lload_n (i := 1) dX8_countRegions_56 rfl rfl ?_
          refine g_iload dX8_countRegions_57 rfl ?_
          refine g_iload dX8_countRegions_59 rfl ?_
          refine g_iconst (v := 2) dX8_countRegions_61 (by decide) ?_
          refine g_callSN (ev_neighbourOf (s := 2) hl hk2 (by decide)) dX8_countRegions_62 ml_X8_21 csX9_neighbourOf rfl rfl rfl (Nat.le_of_ble_eq_true rfl) (Nat.le_of_ble_eq_true rfl) (Nat.zero_le _) (Nat.zero_le _) (kr_rt ?_) kx_rt
          refine g_callV (ev_unite hl hU (unQ_lt hk2 (unAQ_lt b k (by omega)) _) hk2 (fun n hn => nb_lt hk2 hn)) dX8_countRegions_65 ml_X8_25 cvX8_unite K_X8 rfl (un_11 hU _) rfl rfl (Nat.le_of_ble_eq_true rfl) (Nat.le_of_ble_eq_true rfl) (Nat.zero_le _) (Nat.zero_le _) (kr_rt ?_) kx_rt
          refine g_if_eq (tgt := 74) dX8_countRegions_68 (by decide) (fun c68 => ?_) (fun c68 => ?_)
          · refine g_iinc (w := 1) dX8_countRegions_74 (by decide) rfl (nI_succ k).symm (Nat.le_of_ble_eq_true rfl) ?_
            refine g_goto (tgt := 29) dX8_countRegions_77 (by decide) ?_
            have z := ih (k + 1) (by omega) (by omega)
            rw [show unAN b (k + 1) = unAN b k by rw [unAN, if_pos c49, if_pos c68, Int32.add_zero]] at z
            exact z
          · refine g_iinc (w := (-1)) dX8_countRegions_71 (by decide) rfl rfl (Nat.le_of_ble_eq_true rfl) ?_
            refine g_iinc (w := 1) dX8_countRegions_74 (by decide) rfl (nI_succ k).symm (Nat.le_of_ble_eq_true rfl) ?_
            refine g_goto (tgt := 29) dX8_countRegions_77 (by decide) ?_
            have z := ih (k + 1) (by omega) (by omega)
            rw [show unAN b (k + 1) = unAN b k + -1 by rw [unAN, if_pos c49, if_neg c68]] at z
            exact z
        · refine g_iinc (w := (-1)) dX8_countRegions_52 (by decide) rfl rfl (Nat.le_of_ble_eq_true rfl) ?_
          refine g_aload_n (i := 0) dX8_countRegions_55 rfl rfl ?_
          refine g_lload_n (i := 1) dX8_countRegions_56 rfl rfl ?_
          refine g_iload dX8_countRegions_57 rfl ?_
          refine g_iload dX8_countRegions_59 rfl ?_
          refine g_iconst (v := 2) dX8_countRegions_61 (by decide) ?_
          refine g_callSN (ev_neighbourOf (s := 2) hl hk2 (by decide)) dX8_countRegions_62 ml_X8_21 csX9_neighbourOf rfl rfl rfl (Nat.le_of_ble_eq_true rfl) (Nat.le_of_ble_eq_true rfl) (Nat.zero_le _) (Nat.zero_le _) (kr_rt ?_) kx_rt
          refine g_callV (ev_unite hl hU (unQ_lt hk2 (unAQ_lt b k (by omega)) _) hk2 (fun n hn => nb_lt hk2 hn)) dX8_countRegions_65 ml_X8_25 cvX8_unite K_X8 rfl (un_11 hU _) rfl rfl (Nat.le_of_ble_eq_true rfl) (Nat.le_of_ble_eq_true rfl) (Nat.zero_le _) (Nat.zero_le _) (kr_rt ?_) kx_rt
          refine g_if_eq (tgt := 74) dX8_countRegions_68 (by decide) (fun c68 => ?_) (fun c68 => ?_)
          · refine g_iinc (w := 1) dX8_countRegions_74 (by decide) rfl (nI_succ k).symm (Nat.le_of_ble_eq_true rfl) ?_
            refine g_goto (tgt := 29) dX8_countRegions_77 (by decide) ?_
            have z := ih (k + 1) (by omega) (by omega)
            rw [show unAN b (k + 1) = unAN b k + -1 by rw [unAN, if_neg c49, if_pos c68, Int32.add_zero]] at z
            exact z
          · refine g_iinc (w := (-1)) dX8_countRegions_71 (by decide) rfl rfl (Nat.le_of_ble_eq_true rfl) ?_
            refine g_iinc (w := 1) dX8_countRegions_74 (by decide) rfl (nI_succ k).symm (Nat.le_of_ble_eq_true rfl) ?_
            refine g_goto (tgt := 29) dX8_countRegions_77 (by decide) ?_
            have z := ih (k + 1) (by omega) (by omega)
            rw [show unAN b (k + 1) = unAN b k + -1 + -1 by rw [unAN, if_neg c49, if_neg c68]] at z
            exact z
  have loop1 : ∀ (n9 : Nat) (k : Nat), 64 - k < n9 → k ≤ 64 → Go l G mX8_countRegions 12 0 0 (RtX (some (.int (unAN b 64))) (fun q => un h A q)) 2 [some (.ref (A 11 0)), some (.long b), none, some (.int (nI k)), none] [] (un h A (fun i => if i < k then i else q i)) := by
    intro n9
    induction n9 with
    | zero => intros; omega
    | succ n9 ih =>
      intro k hf hk
      refine g_iload_n (i := 3) dX8_countRegions_2 rfl rfl ?_
      refine g_bipush (v := 64) dX8_countRegions_3 (by decide) ?_
      refine g_icmp_ge (tgt := 21) dX8_countRegions_5 (by decide) (fun c5 => ?_) (fun c5 => ?_)
      · have hke : k = 64 := by have := (le_nI (a := 64) rfl (by omega) (by omega)).mp c5; omega
        subst hke
        refine Go.arr (f' := fun i => nI i) (fun k hk => congrArg nI (if_pos hk)) ?_
        refine g_lload_n (i := 1) dX8_countRegions_21 rfl rfl ?_
        refine g_callS (ev_bitCount hl) dX8_countRegions_22 ml_X8_15 csJ13_bitCount_95d88 rfl rfl (Nat.le_of_ble_eq_true rfl) (Nat.le_of_ble_eq_true rfl) (Nat.zero_le _) (Nat.zero_le _) (kr_rt ?_) kx_rt
        refine g_istore_n (i := 3) dX8_countRegions_25 rfl (Nat.le_of_ble_eq_true rfl) ?_
        refine g_iconst (v := 0) dX8_countRegions_26 (by decide) ?_
        refine g_istore dX8_countRegions_27 (Nat.le_of_ble_eq_true rfl) ?_
        exact loop2 65 0 (by omega) (by omega)
      · have hk2 : k < 64 := by have := mt (le_nI (a := 64) (b := k) rfl (by omega) (by omega)).mpr c5; omega
        refine g_aload_n (i := 0) dX8_countRegions_8 rfl rfl ?_
        refine g_getf dX8_countRegions_9 K_X8 (k := 0) fl_X8_9 (Nat.le_of_ble_eq_true rfl) (un_11 hU _) rfl ?_
        refine g_iload_n (i := 3) dX8_countRegions_12 rfl rfl ?_
        refine g_iload_n (i := 3) dX8_countRegions_13 rfl rfl ?_
        refine g_iast dX8_countRegions_14 (un_12 _ _ _) (ix_nI (by omega)) (by omega) rfl (Go.heap ((un_up _ _ _ _ _).trans (by rw [stepV])) ?_)
        refine g_iinc (w := 1) dX8_countRegions_15 (by decide) rfl (nI_succ k).symm (Nat.le_of_ble_eq_true rfl) ?_
        refine g_goto (tgt := 2) dX8_countRegions_18 (by decide) ?_
        exact ih (k + 1) (by omega) (by omega)
  refine g_iconst (v := 0) dX8_countRegions_0 (by decide) ?_
  refine g_istore_n (i := 3) dX8_countRegions_1 rfl (Nat.le_of_ble_eq_true rfl) ?_
  exact loop1 65 0 (by omega) (by omega)

