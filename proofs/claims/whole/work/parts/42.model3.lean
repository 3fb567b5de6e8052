/-! Model: questions (by wip/whole/gen/m32.py). -/
theorem cel3 (b i j : Nat) : nI b + 8 * nI j + nI i = nI (b + (8 * j + i)) := by
  rw [show (8 : Int32) * nI j = nI (8 * j) from (Int32.ofNat_mul 8 j).symm, nI_add, nI_add, Nat.add_assoc]
def hsN (m : Nat → Int32) : Nat → Int32
  | 0 => 0
  | k + 1 => hsN m k + (m k + m (64 + k))
/-- before c among the first k -/
abbrev bfP (m : Nat → Int32) (c k : Nat) : Prop := 0 < m k - m c ∨ (m k - m c = 0 ∧ k < c)
def bfN (m : Nat → Int32) (c : Nat) : Nat → Int32
  | 0 => 0
  | k + 1 => bfN m c k + (if bfP m c k then 1 else 0)
def rkM (m : Nat → Int32) (r : Int32) : Nat → Nat → Option Nat
  | 0, _ => none
  | j + 1, k => if bfN m k 64 = r then some k else rkM m r j (k + 1)
def blN (m : Nat → Int32) (v : Int32) : Nat → Bool
  | 0 => true
  | k + 1 => blN m v k && decide (m k < v)
theorem bl_0 {m : Nat → Int32} {v : Int32} {k : Nat} (h : ¬ blN m v k = true) : ¬ blN m v (k + 1) = true := by rw [blN, Bool.eq_false_iff.mpr h, Bool.false_and]; decide
theorem bl_1 {m : Nat → Int32} {v : Int32} {k : Nat} (h : ¬ m k < v) : ¬ blN m v (k + 1) = true := by rw [blN, decide_eq_false h, Bool.and_false]; decide
theorem bl_2 {m : Nat → Int32} {v : Int32} {k : Nat} (h : blN m v k = true) (h2 : m k < v) : blN m v (k + 1) = true := by rw [blN, h, decide_eq_true h2]; rfl
def cbN (m : Nat → Int32) (v : Int32) : Nat → Int64
  | 0 => 0
  | k + 1 => cbN m v k ||| (if v ≤ m k then bitJ (nI k) else 0)

set_option maxRecDepth 100000 in
theorem ev_ofCell {l : Launch} {G : GG} (hl : l.stackTraces = false) {A : AD} {h : AH} {a : Nat → Nat → Int32} {f : Nat → Int32} {i j : Nat} (hi : i < 8) (hj : j < 8) {b : Nat} (hb : b ≤ 128) {B : Int32} (hB : B = nI b) :
    Ev l G 12 0 0 mX10_ofCell [.ref (A 30 0), .int (nI i), .int (nI j), .int B] (mo h A (a, f)) (Rt (some (.int (a 0 (b + (8 * j + i))))) (mo h A (a, va_up f 11 0))) := by
  refine Ev.of hl (by decide) (Nat.le_of_ble_eq_true rfl) ?_
  subst hB
  refine g_aload_n (i := 0) dX10_ofCell_0 rfl rfl ?_
  refine g_iconst (v := 0) dX10_ofCell_1 (by decide) ?_
  refine g_putf dX10_ofCell_2 K_X10 (k := 11) fl_X10_67 (Nat.le_of_ble_eq_true rfl) rfl mo_30 (Nat.le_of_ble_eq_true rfl) rfl rfl (Go.heap (mo_f11) ?_)
  refine g_iload_n (i := 1) dX10_ofCell_5 rfl rfl ?_
  refine g_iload_n (i := 2) dX10_ofCell_6 rfl rfl ?_
  refine g_callS (ev_mIsCell hl) dX10_ofCell_7 ml_X10_108 csX10_isCell rfl rfl (Nat.le_of_ble_eq_true rfl) (Nat.le_of_ble_eq_true rfl) (Nat.zero_le _) (Nat.zero_le _) (kr_rt ?_) kx_rt
  refine g_if_eq (tgt := 29) dX10_ofCell_10 (by decide) (fun c10 => ?_) (fun c10 => ?_)
  · exact absurd c10 (by rw [if_pos (cellB_nI hi hj)]; decide)
  · refine g_aload_n (i := 0) dX10_ofCell_13 rfl rfl ?_
    refine g_getf dX10_ofCell_14 K_X10 (k := 0) fl_X10_9 (Nat.le_of_ble_eq_true rfl) mo_30 rfl ?_
    refine g_iload_n (i := 3) dX10_ofCell_17 rfl rfl ?_
    refine g_bipush (v := 8) dX10_ofCell_18 (by decide) ?_
    refine g_iload_n (i := 2) dX10_ofCell_20 rfl rfl ?_
    refine g_imul dX10_ofCell_21 ?_
    refine g_iadd dX10_ofCell_22 ?_
    refine g_iload_n (i := 1) dX10_ofCell_23 rfl rfl ?_
    refine g_iadd dX10_ofCell_24 ?_
    rw [cel3]
    refine g_iald dX10_ofCell_25 mo_31 (ix_nI (j := b + (8 * j + i)) (by omega)) (by omega) ?_
    refine g_goto (tgt := 34) dX10_ofCell_26 (by decide) ?_
    refine g_iret dX10_ofCell_34 rfl rfl ?_
    exact ⟨rfl, rfl⟩

set_option maxRecDepth 100000 in
theorem ev_ofCell_no {l : Launch} {G : GG} (hl : l.stackTraces = false) {A : AD} {h : AH} {a : Nat → Nat → Int32} {f : Nat → Int32} {x y z : Int32} (hc : ¬ cellB x y) :
    Ev l G 12 0 0 mX10_ofCell [.ref (A 30 0), .int x, .int y, .int z] (mo h A (a, f)) (Rt (some (.int (-1))) (mo h A (a, va_up f 11 1))) := by
  refine Ev.of hl (by decide) (Nat.le_of_ble_eq_true rfl) ?_
  refine g_aload_n (i := 0) dX10_ofCell_0 rfl rfl ?_
  refine g_iconst (v := 0) dX10_ofCell_1 (by decide) ?_
  refine g_putf dX10_ofCell_2 K_X10 (k := 11) fl_X10_67 (Nat.le_of_ble_eq_true rfl) rfl mo_30 (Nat.le_of_ble_eq_true rfl) rfl rfl (Go.heap (mo_f11) ?_)
  refine g_iload_n (i := 1) dX10_ofCell_5 rfl rfl ?_
  refine g_iload_n (i := 2) dX10_ofCell_6 rfl rfl ?_
  refine g_callS (ev_mIsCell hl) dX10_ofCell_7 ml_X10_108 csX10_isCell rfl rfl (Nat.le_of_ble_eq_true rfl) (Nat.le_of_ble_eq_true rfl) (Nat.zero_le _) (Nat.zero_le _) (kr_rt ?_) kx_rt
  refine g_if_eq (tgt := 29) dX10_ofCell_10 (by decide) (fun c10 => ?_) (fun c10 => ?_)
  · refine g_aload_n (i := 0) dX10_ofCell_29 rfl rfl ?_
    refine g_iconst (v := 1) dX10_ofCell_30 (by decide) ?_
    refine g_callV (ev_throwing hl (x := 1)) dX10_ofCell_31 ml_X10_76 cvX10_throwing K_X10 rfl mo_30 rfl rfl (Nat.le_of_ble_eq_true rfl) (Nat.le_of_ble_eq_true rfl) (Nat.zero_le _) (Nat.zero_le _) (kr_rt ?_) kx_rt
    refine g_iret dX10_ofCell_34 rfl rfl ?_
    exact ⟨rfl, by rw [va_up2]⟩
  · exact absurd (if_neg hc) c10

set_option maxRecDepth 100000 in
theorem ev_mgroundAt {l : Launch} {G : GG} (hl : l.stackTraces = false) {A : AD} {h : AH} {a : Nat → Nat → Int32} {f : Nat → Int32} {i j : Nat} (hi : i < 8) (hj : j < 8) (hg : groundP (a 0 (128 + (8 * j + i)))) :
    Ev l G 13 0 0 mX10_groundAt [.ref (A 30 0), .int (nI i), .int (nI j)] (mo h A (a, f)) (Rt (some (.int (a 0 (128 + (8 * j + i))))) (mo h A (a, va_up f 11 0))) := by
  refine Ev.of hl (by decide) (Nat.le_of_ble_eq_true rfl) ?_
  refine g_aload_n (i := 0) dX10_groundAt_0 rfl rfl ?_
  refine g_iload_n (i := 1) dX10_groundAt_1 rfl rfl ?_
  refine g_iload_n (i := 2) dX10_groundAt_2 rfl rfl ?_
  refine g_sipush (v := 128) dX10_groundAt_3 (by decide) ?_
  refine g_callV (ev_ofCell hl hi hj (b := 128) (by decide) (B := 128) rfl) dX10_groundAt_6 ml_X10_149 cvX10_ofCell K_X10 rfl mo_30 rfl rfl (Nat.le_of_ble_eq_true rfl) (Nat.le_of_ble_eq_true rfl) (Nat.zero_le _) (Nat.zero_le _) (kr_rt ?_) kx_rt
  refine g_i2c dX10_groundAt_9 (gnd_fits hg).2.2.2 ?_
  refine g_iret dX10_groundAt_10 rfl (gnd_fits hg).2.1 ?_
  exact ⟨rfl, rfl⟩

set_option maxRecDepth 100000 in
theorem ev_mgroundAt_no {l : Launch} {G : GG} (hl : l.stackTraces = false) {A : AD} {h : AH} {a : Nat → Nat → Int32} {f : Nat → Int32} {x y : Int32} (hc : ¬ cellB x y) :
    Ev l G 13 0 0 mX10_groundAt [.ref (A 30 0), .int x, .int y] (mo h A (a, f)) (Rt (some (.int (65535))) (mo h A (a, va_up f 11 1))) := by
  refine Ev.of hl (by decide) (Nat.le_of_ble_eq_true rfl) ?_
  refine g_aload_n (i := 0) dX10_groundAt_0 rfl rfl ?_
  refine g_iload_n (i := 1) dX10_groundAt_1 rfl rfl ?_
  refine g_iload_n (i := 2) dX10_groundAt_2 rfl rfl ?_
  refine g_sipush (v := 128) dX10_groundAt_3 (by decide) ?_
  refine g_callV (ev_ofCell_no hl hc) dX10_groundAt_6 ml_X10_149 cvX10_ofCell K_X10 rfl mo_30 rfl rfl (Nat.le_of_ble_eq_true rfl) (Nat.le_of_ble_eq_true rfl) (Nat.zero_le _) (Nat.zero_le _) (kr_rt ?_) kx_rt
  refine g_i2c dX10_groundAt_9 rfl ?_
  refine g_iret dX10_groundAt_10 rfl rfl ?_
  exact ⟨rfl, rfl⟩

set_option maxRecDepth 100000 in
theorem ev_mheatAt {l : Launch} {G : GG} (hl : l.stackTraces = false) {A : AD} {h : AH} {a : Nat → Nat → Int32} {f : Nat → Int32} {i j : Nat} (hi : i < 8) (hj : j < 8) :
    Ev l G 13 0 0 mX10_heatAt [.ref (A 30 0), .int (nI i), .int (nI j)] (mo h A (a, f)) (Rt (some (.int (a 0 (0 + (8 * j + i))))) (mo h A (a, va_up f 11 0))) := by
  refine Ev.of hl (by decide) (Nat.le_of_ble_eq_true rfl) ?_
  refine g_aload_n (i := 0) dX10_heatAt_0 rfl rfl ?_
  refine g_iload_n (i := 1) dX10_heatAt_1 rfl rfl ?_
  refine g_iload_n (i := 2) dX10_heatAt_2 rfl rfl ?_
  refine g_iconst (v := 0) dX10_heatAt_3 (by decide) ?_
  refine g_callV (ev_ofCell hl hi hj (b := 0) (by decide) (B := 0) rfl) dX10_heatAt_4 ml_X10_149 cvX10_ofCell K_X10 rfl mo_30 rfl rfl (Nat.le_of_ble_eq_true rfl) (Nat.le_of_ble_eq_true rfl) (Nat.zero_le _) (Nat.zero_le _) (kr_rt ?_) kx_rt
  refine g_iret dX10_heatAt_7 rfl rfl ?_
  exact ⟨rfl, rfl⟩

set_option maxRecDepth 100000 in
theorem ev_mheatAt_no {l : Launch} {G : GG} (hl : l.stackTraces = false) {A : AD} {h : AH} {a : Nat → Nat → Int32} {f : Nat → Int32} {x y : Int32} (hc : ¬ cellB x y) :
    Ev l G 13 0 0 mX10_heatAt [.ref (A 30 0), .int x, .int y] (mo h A (a, f)) (Rt (some (.int (-1))) (mo h A (a, va_up f 11 1))) := by
  refine Ev.of hl (by decide) (Nat.le_of_ble_eq_true rfl) ?_
  refine g_aload_n (i := 0) dX10_heatAt_0 rfl rfl ?_
  refine g_iload_n (i := 1) dX10_heatAt_1 rfl rfl ?_
  refine g_iload_n (i := 2) dX10_heatAt_2 rfl rfl ?_
  refine g_iconst (v := 0) dX10_heatAt_3 (by decide) ?_
  refine g_callV (ev_ofCell_no hl hc) dX10_heatAt_4 ml_X10_149 cvX10_ofCell K_X10 rfl mo_30 rfl rfl (Nat.le_of_ble_eq_true rfl) (Nat.le_of_ble_eq_true rfl) (Nat.zero_le _) (Nat.zero_le _) (kr_rt ?_) kx_rt
  refine g_iret dX10_heatAt_7 rfl rfl ?_
  exact ⟨rfl, rfl⟩

set_option maxRecDepth 100000 in
theorem ev_membersAt {l : Launch} {G : GG} (hl : l.stackTraces = false) {A : AD} {h : AH} {a : Nat → Nat → Int32} {f : Nat → Int32} {i j : Nat} (hi : i < 8) (hj : j < 8) :
    Ev l G 13 0 0 mX10_embersAt [.ref (A 30 0), .int (nI i), .int (nI j)] (mo h A (a, f)) (Rt (some (.int (a 0 (64 + (8 * j + i))))) (mo h A (a, va_up f 11 0))) := by
  refine Ev.of hl (by decide) (Nat.le_of_ble_eq_true rfl) ?_
  refine g_aload_n (i := 0) dX10_embersAt_0 rfl rfl ?_
  refine g_iload_n (i := 1) dX10_embersAt_1 rfl rfl ?_
  refine g_iload_n (i := 2) dX10_embersAt_2 rfl rfl ?_
  refine g_bipush (v := 64) dX10_embersAt_3 (by decide) ?_
  refine g_callV (ev_ofCell hl hi hj (b := 64) (by decide) (B := 64) rfl) dX10_embersAt_5 ml_X10_149 cvX10_ofCell K_X10 rfl mo_30 rfl rfl (Nat.le_of_ble_eq_true rfl) (Nat.le_of_ble_eq_true rfl) (Nat.zero_le _) (Nat.zero_le _) (kr_rt ?_) kx_rt
  refine g_iret dX10_embersAt_8 rfl rfl ?_
  exact ⟨rfl, rfl⟩

set_option maxRecDepth 100000 in
theorem ev_membersAt_no {l : Launch} {G : GG} (hl : l.stackTraces = false) {A : AD} {h : AH} {a : Nat → Nat → Int32} {f : Nat → Int32} {x y : Int32} (hc : ¬ cellB x y) :
    Ev l G 13 0 0 mX10_embersAt [.ref (A 30 0), .int x, .int y] (mo h A (a, f)) (Rt (some (.int (-1))) (mo h A (a, va_up f 11 1))) := by
  refine Ev.of hl (by decide) (Nat.le_of_ble_eq_true rfl) ?_
  refine g_aload_n (i := 0) dX10_embersAt_0 rfl rfl ?_
  refine g_iload_n (i := 1) dX10_embersAt_1 rfl rfl ?_
  refine g_iload_n (i := 2) dX10_embersAt_2 rfl rfl ?_
  refine g_bipush (v := 64) dX10_embersAt_3 (by decide) ?_
  refine g_callV (ev_ofCell_no hl hc) dX10_embersAt_5 ml_X10_149 cvX10_ofCell K_X10 rfl mo_30 rfl rfl (Nat.le_of_ble_eq_true rfl) (Nat.le_of_ble_eq_true rfl) (Nat.zero_le _) (Nat.zero_le _) (kr_rt ?_) kx_rt
  refine g_iret dX10_embersAt_8 rfl rfl ?_
  exact ⟨rfl, rfl⟩

set_option maxRecDepth 100000 in
theorem ev_mAllHeat {l : Launch} {G : GG} (hl : l.stackTraces = false) {A : AD} {h : AH} {a : Nat → Nat → Int32} {f : Nat → Int32} :
    Ev l G 10 0 0 mX10_allHeat [.ref (A 30 0)] (mo h A (a, f)) (Rt (some (.int (hsN (a 0) 64))) (mo h A (a, va_up f 11 0))) := by
  refine Ev.of hl (by decide) (Nat.le_of_ble_eq_true rfl) ?_
  have loop : ∀ (j : Nat) (k : Nat), k + j = 64 → Go l G mX10_allHeat 10 0 0 (Rt (some (.int (hsN (a 0) 64))) (mo h A (a, va_up f 11 0))) 9 [some (.ref (A 30 0)), some (.int (hsN (a 0) k)), some (.int (nI k))] [] (mo h A (a, va_up f 11 0)) := by
    intro j
    induction j with
    | zero =>
      intro k hk
      refine g_iload_n (i := 2) dX10_allHeat_9 rfl rfl ?_
      refine g_bipush (v := 64) dX10_allHeat_10 (by decide) ?_
      refine g_icmp_ge (tgt := 42) dX10_allHeat_12 (by decide) (fun c12 => ?_) (fun c12 => ?_)
      · obtain rfl : k = 64 := by omega
        refine g_iload_n (i := 1) dX10_allHeat_42 rfl rfl ?_
        refine g_iret dX10_allHeat_43 rfl rfl ?_
        exact ⟨rfl, rfl⟩
      · exact absurd ((le_nI (a := 64) (b := k) rfl (by omega) (by omega)).mpr (by omega)) c12
    | succ j ih =>
      intro k hk
      refine g_iload_n (i := 2) dX10_allHeat_9 rfl rfl ?_
      refine g_bipush (v := 64) dX10_allHeat_10 (by decide) ?_
      refine g_icmp_ge (tgt := 42) dX10_allHeat_12 (by decide) (fun c12 => ?_) (fun c12 => ?_)
      · exact absurd ((le_nI (a := 64) (b := k) rfl (by omega) (by omega)).mp c12) (by omega)
      · refine g_iload_n (i := 1) dX10_allHeat_15 rfl rfl ?_
        refine g_aload_n (i := 0) dX10_allHeat_16 rfl rfl ?_
        refine g_getf dX10_allHeat_17 K_X10 (k := 0) fl_X10_9 (Nat.le_of_ble_eq_true rfl) mo_30 rfl ?_
        refine g_iconst (v := 0) dX10_allHeat_20 (by decide) ?_
        refine g_iload_n (i := 2) dX10_allHeat_21 rfl rfl ?_
        refine g_iadd dX10_allHeat_22 ?_
        refine g_iald dX10_allHeat_23 mo_31 (ix0 (k := k) (by omega)) (by omega) ?_
        refine g_aload_n (i := 0) dX10_allHeat_24 rfl rfl ?_
        refine g_getf dX10_allHeat_25 K_X10 (k := 0) fl_X10_9 (Nat.le_of_ble_eq_true rfl) mo_30 rfl ?_
        refine g_bipush (v := 64) dX10_allHeat_28 (by decide) ?_
        refine g_iload_n (i := 2) dX10_allHeat_30 rfl rfl ?_
        refine g_iadd dX10_allHeat_31 ?_
        refine g_iald dX10_allHeat_32 mo_31 (ixA (b := 64) (k := k) rfl (by omega)) (by omega) ?_
        refine g_iadd dX10_allHeat_33 ?_
        refine g_iadd dX10_allHeat_34 ?_
        refine g_istore_n (i := 1) dX10_allHeat_35 rfl (Nat.le_of_ble_eq_true rfl) ?_
        refine g_iinc (w := 1) dX10_allHeat_36 (by decide) rfl (nI_succ k).symm (Nat.le_of_ble_eq_true rfl) ?_
        refine g_goto (tgt := 9) dX10_allHeat_39 (by decide) ?_
        exact ih (k + 1) (by omega)
  refine g_aload_n (i := 0) dX10_allHeat_0 rfl rfl ?_
  refine g_iconst (v := 0) dX10_allHeat_1 (by decide) ?_
  refine g_putf dX10_allHeat_2 K_X10 (k := 11) fl_X10_67 (Nat.le_of_ble_eq_true rfl) rfl mo_30 (Nat.le_of_ble_eq_true rfl) rfl rfl (Go.heap (mo_f11) ?_)
  refine g_iconst (v := 0) dX10_allHeat_5 (by decide) ?_
  refine g_istore_n (i := 1) dX10_allHeat_6 rfl (Nat.le_of_ble_eq_true rfl) ?_
  refine g_iconst (v := 0) dX10_allHeat_7 (by decide) ?_
  refine g_istore_n (i := 2) dX10_allHeat_8 rfl (Nat.le_of_ble_eq_true rfl) ?_
  exact loop 64 0 rfl

set_option maxRecDepth 100000 in
theorem ev_mByAccounts {l : Launch} {G : GG} (hl : l.stackTraces = false) {A : AD} {h : AH} {a : Nat → Nat → Int32} {f : Nat → Int32} :
    Ev l G 11 0 0 mX10_allHeatByAccounts [.ref (A 30 0)] (mo h A (a, f)) (Rt (some (.int (hsN (a 0) 64))) (mo h A (a, va_up f 11 0))) := by
  refine Ev.of hl (by decide) (Nat.le_of_ble_eq_true rfl) ?_
  refine g_aload_n (i := 0) dX10_allHeatByAccounts_0 rfl rfl ?_
  refine g_callV (ev_mAllHeat hl) dX10_allHeatByAccounts_1 ml_X10_152 cvX10_allHeat K_X10 rfl mo_30 rfl rfl (Nat.le_of_ble_eq_true rfl) (Nat.le_of_ble_eq_true rfl) (Nat.zero_le _) (Nat.zero_le _) (kr_rt ?_) kx_rt
  refine g_iret dX10_allHeatByAccounts_4 rfl rfl ?_
  exact ⟨rfl, rfl⟩

set_option maxRecDepth 100000 in
theorem ev_mRank {l : Launch} {G : GG} (hl : l.stackTraces = false) {A : AD} {h : AH} {a : Nat → Nat → Int32} {f : Nat → Int32} {r : Int32} (hr : 0 ≤ r ∧ r ≤ 63) {n : Nat} (hn : rkM (a 0) r 64 0 = some n) :
    Ev l G 11 0 0 mX10_cellAtRank [.ref (A 30 0), .int r] (mo h A (a, f)) (Rt (some (.int (nI n))) (mo h A (a, va_up f 11 0))) := by
  refine Ev.of hl (by decide) (Nat.le_of_ble_eq_true rfl) ?_
  have innr : ∀ (P9 : Post) (k : Nat), k < 64 → (∀ X Y, Go l G mX10_cellAtRank 11 0 0 P9 87 [some (.ref (A 30 0)), some (.int r), some (.int (nI k)), some (.int (bfN (a 0) k 64)), X, Y] [] (mo h A (a, va_up f 11 0))) → ∀ (j : Nat) (q : Nat) (X : Option Value), q + j = 64 → Go l G mX10_cellAtRank 11 0 0 P9 30 [some (.ref (A 30 0)), some (.int r), some (.int (nI k)), some (.int (bfN (a 0) k q)), some (.int (nI q)), X] [] (mo h A (a, va_up f 11 0)) := by
    intro P9 k hk hout
    have inner : ∀ (j : Nat) (q : Nat) (X : Option Value), q + j = 64 → Go l G mX10_cellAtRank 11 0 0 P9 30 [some (.ref (A 30 0)), some (.int r), some (.int (nI k)), some (.int (bfN (a 0) k q)), some (.int (nI q)), X] [] (mo h A (a, va_up f 11 0)) := by
      intro j
      induction j with
      | zero =>
        intro q X hq
        refine g_iload dX10_cellAtRank_30 rfl ?_
        refine g_bipush (v := 64) dX10_cellAtRank_32 (by decide) ?_
        refine g_icmp_ge (tgt := 87) dX10_cellAtRank_34 (by decide) (fun c34 => ?_) (fun c34 => ?_)
        · obtain rfl : q = 64 := by omega
          exact hout _ _
        · exact absurd ((le_nI (a := 64) (b := q) rfl (by omega) (by omega)).mpr (by omega)) c34
      | succ j ih =>
        intro q X hq
        refine g_iload dX10_cellAtRank_30 rfl ?_
        refine g_bipush (v := 64) dX10_cellAtRank_32 (by decide) ?_
        refine g_icmp_ge (tgt := 87) dX10_cellAtRank_34 (by decide) (fun c34 => ?_) (fun c34 => ?_)
        · exact absurd ((le_nI (a := 64) (b := q) rfl (by omega) (by omega)).mp c34) (by omega)
        · refine g_aload_n (i := 0) dX10_cellAtRank_37 rfl rfl ?_
          refine g_getf dX10_cellAtRank_38 K_X10 (k := 0) fl_X10_9 (Nat.le_of_ble_eq_true rfl) mo_30 rfl ?_
          refine g_iconst (v := 0) dX10_cellAtRank_41 (by decide) ?_
          refine g_iload dX10_cellAtRank_42 rfl ?_
          refine g_iadd dX10_cellAtRank_44 ?_
          refine g_iald dX10_cellAtRank_45 mo_31 (ix0 (k := q) (by omega)) (by omega) ?_
          refine g_aload_n (i := 0) dX10_cellAtRank_46 rfl rfl ?_
          refine g_getf dX10_cellAtRank_47 K_X10 (k := 0) fl_X10_9 (Nat.le_of_ble_eq_true rfl) mo_30 rfl ?_
          refine g_iconst (v := 0) dX10_cellAtRank_50 (by decide) ?_
          refine g_iload_n (i := 2) dX10_cellAtRank_51 rfl rfl ?_
          refine g_iadd dX10_cellAtRank_52 ?_
          refine g_iald dX10_cellAtRank_53 mo_31 (ix0 (k := k) (by omega)) (by omega) ?_
          refine g_isub dX10_cellAtRank_54 ?_
          refine g_istore dX10_cellAtRank_55 (Nat.le_of_ble_eq_true rfl) ?_
          refine g_iload_n (i := 3) dX10_cellAtRank_57 rfl rfl ?_
          refine g_iload dX10_cellAtRank_58 rfl ?_
          refine g_if_gt (tgt := 74) dX10_cellAtRank_60 (by decide) (fun c60 => ?_) (fun c60 => ?_)
          · refine g_iconst (v := 1) dX10_cellAtRank_74 (by decide) ?_
            refine g_goto (tgt := 79) dX10_cellAtRank_75 (by decide) ?_
            refine g_iadd dX10_cellAtRank_79 ?_
            refine g_istore_n (i := 3) dX10_cellAtRank_80 rfl (Nat.le_of_ble_eq_true rfl) ?_
            refine g_iinc (w := 1) dX10_cellAtRank_81 (by decide) rfl (nI_succ q).symm (Nat.le_of_ble_eq_true rfl) ?_
            refine g_goto (tgt := 30) dX10_cellAtRank_84 (by decide) ?_
            rw [show bfN (a 0) k q + 1 = bfN (a 0) k (q + 1) from by rw [bfN, if_pos (Or.inl c60)]]
            exact ih (q + 1) _ (by omega)
          · refine g_iload dX10_cellAtRank_63 rfl ?_
            refine g_if_ne (tgt := 78) dX10_cellAtRank_65 (by decide) (fun c65 => ?_) (fun c65 => ?_)
            · refine g_iconst (v := 0) dX10_cellAtRank_78 (by decide) ?_
              refine g_iadd dX10_cellAtRank_79 ?_
              refine g_istore_n (i := 3) dX10_cellAtRank_80 rfl (Nat.le_of_ble_eq_true rfl) ?_
              refine g_iinc (w := 1) dX10_cellAtRank_81 (by decide) rfl (nI_succ q).symm (Nat.le_of_ble_eq_true rfl) ?_
              refine g_goto (tgt := 30) dX10_cellAtRank_84 (by decide) ?_
              rw [show bfN (a 0) k q + 0 = bfN (a 0) k (q + 1) from by rw [bfN, if_neg (fun z => z.elim c60 (fun y => c65 y.1))]]
              exact ih (q + 1) _ (by omega)
            · refine g_iload dX10_cellAtRank_68 rfl ?_
              refine g_iload_n (i := 2) dX10_cellAtRank_70 rfl rfl ?_
              refine g_icmp_ge (tgt := 78) dX10_cellAtRank_71 (by decide) (fun c71 => ?_) (fun c71 => ?_)
              · refine g_iconst (v := 0) dX10_cellAtRank_78 (by decide) ?_
                refine g_iadd dX10_cellAtRank_79 ?_
                refine g_istore_n (i := 3) dX10_cellAtRank_80 rfl (Nat.le_of_ble_eq_true rfl) ?_
                refine g_iinc (w := 1) dX10_cellAtRank_81 (by decide) rfl (nI_succ q).symm (Nat.le_of_ble_eq_true rfl) ?_
                refine g_goto (tgt := 30) dX10_cellAtRank_84 (by decide) ?_
                rw [show bfN (a 0) k q + 0 = bfN (a 0) k (q + 1) from by rw [bfN, if_neg (fun z => z.elim c60 (fun y => absurd ((le_nI (a := k) (b := q) rfl (by omega) (by omega)).mp c71) (by omega)))]]
                exact ih (q + 1) _ (by omega)
              · refine g_iconst (v := 1) dX10_cellAtRank_74 (by decide) ?_
                refine g_goto (tgt := 79) dX10_cellAtRank_75 (by decide) ?_
                refine g_iadd dX10_cellAtRank_79 ?_
                refine g_istore_n (i := 3) dX10_cellAtRank_80 rfl (Nat.le_of_ble_eq_true rfl) ?_
                refine g_iinc (w := 1) dX10_cellAtRank_81 (by decide) rfl (nI_succ q).symm (Nat.le_of_ble_eq_true rfl) ?_
                refine g_goto (tgt := 30) dX10_cellAtRank_84 (by decide) ?_
                rw [show bfN (a 0) k q + 1 = bfN (a 0) k (q + 1) from by rw [bfN, if_pos (Or.inr ⟨c65, by have := mt (le_nI (a := k) (b := q) rfl (by omega) (by omega)).mpr c71; omega⟩)]]
                exact ih (q + 1) _ (by omega)
    exact inner
  have loop : ∀ (j : Nat) (k : Nat) (X Y Z : Option Value), k + j = 64 → rkM (a 0) r j k = some n → Go l G mX10_cellAtRank 11 0 0 (Rt (some (.int (nI n))) (mo h A (a, va_up f 11 0))) 7 [some (.ref (A 30 0)), some (.int r), some (.int (nI k)), X, Y, Z] [] (mo h A (a, va_up f 11 0)) := by
    intro j
    induction j with
    | zero =>
      intro k X Y Z hk hh
      cases hh
    | succ j ih =>
      intro k X Y Z hk hh
      refine g_iload_n (i := 2) dX10_cellAtRank_7 rfl rfl ?_
      refine g_bipush (v := 64) dX10_cellAtRank_8 (by decide) ?_
      refine g_icmp_ge (tgt := 100) dX10_cellAtRank_10 (by decide) (fun c10 => ?_) (fun c10 => ?_)
      · exact absurd ((le_nI (a := 64) (b := k) rfl (by omega) (by omega)).mp c10) (by omega)
      · refine g_iload_n (i := 1) dX10_cellAtRank_13 rfl rfl ?_
        refine g_i2l dX10_cellAtRank_14 ?_
        refine g_lconst (v := 0) dX10_cellAtRank_15 (by decide) ?_
        refine g_ldc2 dX10_cellAtRank_16 co_X10_155 ?_
        refine g_callS (ev_in hl (lo := 0) (hi := 63) (by decide) (by decide)) dX10_cellAtRank_19 ml_X10_85 csX10_in rfl rfl (Nat.le_of_ble_eq_true rfl) (Nat.le_of_ble_eq_true rfl) (Nat.zero_le _) (Nat.zero_le _) (kr_rt ?_) kx_rt
        refine g_if_eq (tgt := 100) dX10_cellAtRank_22 (by decide) (fun c22 => ?_) (fun c22 => ?_)
        · exact absurd c22 (by rw [if_pos hr]; decide)
        · refine g_iconst (v := 0) dX10_cellAtRank_25 (by decide) ?_
          refine g_istore_n (i := 3) dX10_cellAtRank_26 rfl (Nat.le_of_ble_eq_true rfl) ?_
          refine g_iconst (v := 0) dX10_cellAtRank_27 (by decide) ?_
          refine g_istore dX10_cellAtRank_28 (Nat.le_of_ble_eq_true rfl) ?_
          refine innr _ k (by omega) (fun X Y => ?_) 64 0 _ rfl
          refine g_iload_n (i := 3) dX10_cellAtRank_87 rfl rfl ?_
          refine g_iload_n (i := 1) dX10_cellAtRank_88 rfl rfl ?_
          refine g_icmp_ne (tgt := 94) dX10_cellAtRank_89 (by decide) (fun c89 => ?_) (fun c89 => ?_)
          · refine g_iinc (w := 1) dX10_cellAtRank_94 (by decide) rfl (nI_succ k).symm (Nat.le_of_ble_eq_true rfl) ?_
            refine g_goto (tgt := 7) dX10_cellAtRank_97 (by decide) ?_
            exact ih (k + 1) _ _ _ (by omega) (by rw [← hh]; exact (if_neg c89).symm)
          · refine g_iload_n (i := 2) dX10_cellAtRank_92 rfl rfl ?_
            refine g_iret dX10_cellAtRank_93 rfl rfl ?_
            exact ⟨by rw [show rkM (a 0) r (j + 1) k = some k from if_pos c89] at hh; cases hh; rfl, rfl⟩
  refine g_aload_n (i := 0) dX10_cellAtRank_0 rfl rfl ?_
  refine g_iconst (v := 0) dX10_cellAtRank_1 (by decide) ?_
  refine g_putf dX10_cellAtRank_2 K_X10 (k := 11) fl_X10_67 (Nat.le_of_ble_eq_true rfl) rfl mo_30 (Nat.le_of_ble_eq_true rfl) rfl rfl (Go.heap (mo_f11) ?_)
  refine g_iconst (v := 0) dX10_cellAtRank_5 (by decide) ?_
  refine g_istore_n (i := 2) dX10_cellAtRank_6 rfl (Nat.le_of_ble_eq_true rfl) ?_
  exact loop 64 0 _ _ _ rfl hn

set_option maxRecDepth 100000 in
theorem ev_mRank_no {l : Launch} {G : GG} (hl : l.stackTraces = false) {A : AD} {h : AH} {a : Nat → Nat → Int32} {f : Nat → Int32} {r : Int32} (hr : 0 ≤ r ∧ r ≤ 63) (hn : rkM (a 0) r 64 0 = none) :
    Ev l G 11 0 0 mX10_cellAtRank [.ref (A 30 0), .int r] (mo h A (a, f)) (Rt (some (.int (-1))) (mo h A (a, va_up f 11 1))) := by
  refine Ev.of hl (by decide) (Nat.le_of_ble_eq_true rfl) ?_
  have innr : ∀ (P9 : Post) (k : Nat), k < 64 → (∀ X Y, Go l G mX10_cellAtRank 11 0 0 P9 87 [some (.ref (A 30 0)), some (.int r), some (.int (nI k)), some (.int (bfN (a 0) k 64)), X, Y] [] (mo h A (a, va_up f 11 0))) → ∀ (j : Nat) (q : Nat) (X : Option Value), q + j = 64 → Go l G mX10_cellAtRank 11 0 0 P9 30 [some (.ref (A 30 0)), some (.int r), some (.int (nI k)), some (.int (bfN (a 0) k q)), some (.int (nI q)), X] [] (mo h A (a, va_up f 11 0)) := by
    intro P9 k hk hout
    have inner : ∀ (j : Nat) (q : Nat) (X : Option Value), q + j = 64 → Go l G mX10_cellAtRank 11 0 0 P9 30 [some (.ref (A 30 0)), some (.int r), some (.int (nI k)), some (.int (bfN (a 0) k q)), some (.int (nI q)), X] [] (mo h A (a, va_up f 11 0)) := by
      intro j
      induction j with
      | zero =>
        intro q X hq
        refine g_iload dX10_cellAtRank_30 rfl ?_
        refine g_bipush (v := 64) dX10_cellAtRank_32 (by decide) ?_
        refine g_icmp_ge (tgt := 87) dX10_cellAtRank_34 (by decide) (fun c34 => ?_) (fun c34 => ?_)
        · obtain rfl : q = 64 := by omega
          exact hout _ _
        · exact absurd ((le_nI (a := 64) (b := q) rfl (by omega) (by omega)).mpr (by omega)) c34
      | succ j ih =>
        intro q X hq
        refine g_iload dX10_cellAtRank_30 rfl ?_
        refine g_bipush (v := 64) dX10_cellAtRank_32 (by decide) ?_
        refine g_icmp_ge (tgt := 87) dX10_cellAtRank_34 (by decide) (fun c34 => ?_) (fun c34 => ?_)
        · exact absurd ((le_nI (a := 64) (b := q) rfl (by omega) (by omega)).mp c34) (by omega)
        · refine g_aload_n (i := 0) dX10_cellAtRank_37 rfl rfl ?_
          refine g_getf dX10_cellAtRank_38 K_X10 (k := 0) fl_X10_9 (Nat.le_of_ble_eq_true rfl) mo_30 rfl ?_
          refine g_iconst (v := 0) dX10_cellAtRank_41 (by decide) ?_
          refine g_iload dX10_cellAtRank_42 rfl ?_
          refine g_iadd dX10_cellAtRank_44 ?_
          refine g_iald dX10_cellAtRank_45 mo_31 (ix0 (k := q) (by omega)) (by omega) ?_
          refine g_aload_n (i := 0) dX10_cellAtRank_46 rfl rfl ?_
          refine g_getf dX10_cellAtRank_47 K_X10 (k := 0) fl_X10_9 (Nat.le_of_ble_eq_true rfl) mo_30 rfl ?_
          refine g_iconst (v := 0) dX10_cellAtRank_50 (by decide) ?_
          refine g_iload_n (i := 2) dX10_cellAtRank_51 rfl rfl ?_
          refine g_iadd dX10_cellAtRank_52 ?_
          refine g_iald dX10_cellAtRank_53 mo_31 (ix0 (k := k) (by omega)) (by omega) ?_
          refine g_isub dX10_cellAtRank_54 ?_
          refine g_istore dX10_cellAtRank_55 (Nat.le_of_ble_eq_true rfl) ?_
          refine g_iload_n (i := 3) dX10_cellAtRank_57 rfl rfl ?_
          refine g_iload dX10_cellAtRank_58 rfl ?_
          refine g_if_gt (tgt := 74) dX10_cellAtRank_60 (by decide) (fun c60 => ?_) (fun c60 => ?_)
          · refine g_iconst (v := 1) dX10_cellAtRank_74 (by decide) ?_
            refine g_goto (tgt := 79) dX10_cellAtRank_75 (by decide) ?_
            refine g_iadd dX10_cellAtRank_79 ?_
            refine g_istore_n (i := 3) dX10_cellAtRank_80 rfl (Nat.le_of_ble_eq_true rfl) ?_
            refine g_iinc (w := 1) dX10_cellAtRank_81 (by decide) rfl (nI_succ q).symm (Nat.le_of_ble_eq_true rfl) ?_
            refine g_goto (tgt := 30) dX10_cellAtRank_84 (by decide) ?_
            rw [show bfN (a 0) k q + 1 = bfN (a 0) k (q + 1) from by rw [bfN, if_pos (Or.inl c60)]]
            exact ih (q + 1) _ (by omega)
          · refine g_iload dX10_cellAtRank_63 rfl ?_
            refine g_if_ne (tgt := 78) dX10_cellAtRank_65 (by decide) (fun c65 => ?_) (fun c65 => ?_)
            · refine g_iconst (v := 0) dX10_cellAtRank_78 (by decide) ?_
              refine g_iadd dX10_cellAtRank_79 ?_
              refine g_istore_n (i := 3) dX10_cellAtRank_80 rfl (Nat.le_of_ble_eq_true rfl) ?_
              refine g_iinc (w := 1) dX10_cellAtRank_81 (by decide) rfl (nI_succ q).symm (Nat.le_of_ble_eq_true rfl) ?_
              refine g_goto (tgt := 30) dX10_cellAtRank_84 (by decide) ?_
              rw [show bfN (a 0) k q + 0 = bfN (a 0) k (q + 1) from by rw [bfN, if_neg (fun z => z.elim c60 (fun y => c65 y.1))]]
              exact ih (q + 1) _ (by omega)
            · refine g_iload dX10_cellAtRank_68 rfl ?_
              refine g_iload_n (i := 2) dX10_cellAtRank_70 rfl rfl ?_
              refine g_icmp_ge (tgt := 78) dX10_cellAtRank_71 (by decide) (fun c71 => ?_) (fun c71 => ?_)
              · refine g_iconst (v := 0) dX10_cellAtRank_78 (by decide) ?_
                refine g_iadd dX10_cellAtRank_79 ?_
                refine g_istore_n (i := 3) dX10_cellAtRank_80 rfl (Nat.le_of_ble_eq_true rfl) ?_
                refine g_iinc (w := 1) dX10_cellAtRank_81 (by decide) rfl (nI_succ q).symm (Nat.le_of_ble_eq_true rfl) ?_
                refine g_goto (tgt := 30) dX10_cellAtRank_84 (by decide) ?_
                rw [show bfN (a 0) k q + 0 = bfN (a 0) k (q + 1) from by rw [bfN, if_neg (fun z => z.elim c60 (fun y => absurd ((le_nI (a := k) (b := q) rfl (by omega) (by omega)).mp c71) (by omega)))]]
                exact ih (q + 1) _ (by omega)
              · refine g_iconst (v := 1) dX10_cellAtRank_74 (by decide) ?_
                refine g_goto (tgt := 79) dX10_cellAtRank_75 (by decide) ?_
                refine g_iadd dX10_cellAtRank_79 ?_
                refine g_istore_n (i := 3) dX10_cellAtRank_80 rfl (Nat.le_of_ble_eq_true rfl) ?_
                refine g_iinc (w := 1) dX10_cellAtRank_81 (by decide) rfl (nI_succ q).symm (Nat.le_of_ble_eq_true rfl) ?_
                refine g_goto (tgt := 30) dX10_cellAtRank_84 (by decide) ?_
                rw [show bfN (a 0) k q + 1 = bfN (a 0) k (q + 1) from by rw [bfN, if_pos (Or.inr ⟨c65, by have := mt (le_nI (a := k) (b := q) rfl (by omega) (by omega)).mpr c71; omega⟩)]]
                exact ih (q + 1) _ (by omega)
    exact inner
  have loop : ∀ (j : Nat) (k : Nat) (X Y Z : Option Value), k + j = 64 → rkM (a 0) r j k = none → Go l G mX10_cellAtRank 11 0 0 (Rt (some (.int (-1))) (mo h A (a, va_up f 11 1))) 7 [some (.ref (A 30 0)), some (.int r), some (.int (nI k)), X, Y, Z] [] (mo h A (a, va_up f 11 0)) := by
    intro j
    induction j with
    | zero =>
      intro k X Y Z hk hh
      refine g_iload_n (i := 2) dX10_cellAtRank_7 rfl rfl ?_
      refine g_bipush (v := 64) dX10_cellAtRank_8 (by decide) ?_
      refine g_icmp_ge (tgt := 100) dX10_cellAtRank_10 (by decide) (fun c10 => ?_) (fun c10 => ?_)
      · refine g_aload_n (i := 0) dX10_cellAtRank_100 rfl rfl ?_
        refine g_iconst (v := 1) dX10_cellAtRank_101 (by decide) ?_
        refine g_callV (ev_throwing hl (x := 1)) dX10_cellAtRank_102 ml_X10_76 cvX10_throwing K_X10 rfl mo_30 rfl rfl (Nat.le_of_ble_eq_true rfl) (Nat.le_of_ble_eq_true rfl) (Nat.zero_le _) (Nat.zero_le _) (kr_rt ?_) kx_rt
        refine g_iret dX10_cellAtRank_105 rfl rfl ?_
        exact ⟨rfl, by rw [va_up2]⟩
      · exact absurd ((le_nI (a := 64) (b := k) rfl (by omega) (by omega)).mpr (by omega)) c10
    | succ j ih =>
      intro k X Y Z hk hh
      refine g_iload_n (i := 2) dX10_cellAtRank_7 rfl rfl ?_
      refine g_bipush (v := 64) dX10_cellAtRank_8 (by decide) ?_
      refine g_icmp_ge (tgt := 100) dX10_cellAtRank_10 (by decide) (fun c10 => ?_) (fun c10 => ?_)
      · exact absurd ((le_nI (a := 64) (b := k) rfl (by omega) (by omega)).mp c10) (by omega)
      · refine g_iload_n (i := 1) dX10_cellAtRank_13 rfl rfl ?_
        refine g_i2l dX10_cellAtRank_14 ?_
        refine g_lconst (v := 0) dX10_cellAtRank_15 (by decide) ?_
        refine g_ldc2 dX10_cellAtRank_16 co_X10_155 ?_
        refine g_callS (ev_in hl (lo := 0) (hi := 63) (by decide) (by decide)) dX10_cellAtRank_19 ml_X10_85 csX10_in rfl rfl (Nat.le_of_ble_eq_true rfl) (Nat.le_of_ble_eq_true rfl) (Nat.zero_le _) (Nat.zero_le _) (kr_rt ?_) kx_rt
        refine g_if_eq (tgt := 100) dX10_cellAtRank_22 (by decide) (fun c22 => ?_) (fun c22 => ?_)
        · exact absurd c22 (by rw [if_pos hr]; decide)
        · refine g_iconst (v := 0) dX10_cellAtRank_25 (by decide) ?_
          refine g_istore_n (i := 3) dX10_cellAtRank_26 rfl (Nat.le_of_ble_eq_true rfl) ?_
          refine g_iconst (v := 0) dX10_cellAtRank_27 (by decide) ?_
          refine g_istore dX10_cellAtRank_28 (Nat.le_of_ble_eq_true rfl) ?_
          refine innr _ k (by omega) (fun X Y => ?_) 64 0 _ rfl
          refine g_iload_n (i := 3) dX10_cellAtRank_87 rfl rfl ?_
          refine g_iload_n (i := 1) dX10_cellAtRank_88 rfl rfl ?_
          refine g_icmp_ne (tgt := 94) dX10_cellAtRank_89 (by decide) (fun c89 => ?_) (fun c89 => ?_)
          · refine g_iinc (w := 1) dX10_cellAtRank_94 (by decide) rfl (nI_succ k).symm (Nat.le_of_ble_eq_true rfl) ?_
            refine g_goto (tgt := 7) dX10_cellAtRank_97 (by decide) ?_
            exact ih (k + 1) _ _ _ (by omega) (by rw [← hh]; exact (if_neg c89).symm)
          · exact absurd hh (by rw [show rkM (a 0) r (j + 1) k = some k from if_pos c89]; intro z; cases z)
  refine g_aload_n (i := 0) dX10_cellAtRank_0 rfl rfl ?_
  refine g_iconst (v := 0) dX10_cellAtRank_1 (by decide) ?_
  refine g_putf dX10_cellAtRank_2 K_X10 (k := 11) fl_X10_67 (Nat.le_of_ble_eq_true rfl) rfl mo_30 (Nat.le_of_ble_eq_true rfl) rfl rfl (Go.heap (mo_f11) ?_)
  refine g_iconst (v := 0) dX10_cellAtRank_5 (by decide) ?_
  refine g_istore_n (i := 2) dX10_cellAtRank_6 rfl (Nat.le_of_ble_eq_true rfl) ?_
  exact loop 64 0 _ _ _ rfl hn

set_option maxRecDepth 100000 in
theorem ev_mRank_no2 {l : Launch} {G : GG} (hl : l.stackTraces = false) {A : AD} {h : AH} {a : Nat → Nat → Int32} {f : Nat → Int32} {r : Int32} (hr : ¬ (0 ≤ r ∧ r ≤ 63)) :
    Ev l G 11 0 0 mX10_cellAtRank [.ref (A 30 0), .int r] (mo h A (a, f)) (Rt (some (.int (-1))) (mo h A (a, va_up f 11 1))) := by
  refine Ev.of hl (by decide) (Nat.le_of_ble_eq_true rfl) ?_
  refine g_aload_n (i := 0) dX10_cellAtRank_0 rfl rfl ?_
  refine g_iconst (v := 0) dX10_cellAtRank_1 (by decide) ?_
  refine g_putf dX10_cellAtRank_2 K_X10 (k := 11) fl_X10_67 (Nat.le_of_ble_eq_true rfl) rfl mo_30 (Nat.le_of_ble_eq_true rfl) rfl rfl (Go.heap (mo_f11) ?_)
  refine g_iconst (v := 0) dX10_cellAtRank_5 (by decide) ?_
  refine g_istore_n (i := 2) dX10_cellAtRank_6 rfl (Nat.le_of_ble_eq_true rfl) ?_
  refine g_iload_n (i := 2) dX10_cellAtRank_7 rfl rfl ?_
  refine g_bipush (v := 64) dX10_cellAtRank_8 (by decide) ?_
  refine g_icmp_ge (tgt := 100) dX10_cellAtRank_10 (by decide) (fun c10 => ?_) (fun c10 => ?_)
  · exact absurd c10 (by decide)
  · refine g_iload_n (i := 1) dX10_cellAtRank_13 rfl rfl ?_
    refine g_i2l dX10_cellAtRank_14 ?_
    refine g_lconst (v := 0) dX10_cellAtRank_15 (by decide) ?_
    refine g_ldc2 dX10_cellAtRank_16 co_X10_155 ?_
    refine g_callS (ev_in hl (lo := 0) (hi := 63) (by decide) (by decide)) dX10_cellAtRank_19 ml_X10_85 csX10_in rfl rfl (Nat.le_of_ble_eq_true rfl) (Nat.le_of_ble_eq_true rfl) (Nat.zero_le _) (Nat.zero_le _) (kr_rt ?_) kx_rt
    refine g_if_eq (tgt := 100) dX10_cellAtRank_22 (by decide) (fun c22 => ?_) (fun c22 => ?_)
    · refine g_aload_n (i := 0) dX10_cellAtRank_100 rfl rfl ?_
      refine g_iconst (v := 1) dX10_cellAtRank_101 (by decide) ?_
      refine g_callV (ev_throwing hl (x := 1)) dX10_cellAtRank_102 ml_X10_76 cvX10_throwing K_X10 rfl mo_30 rfl rfl (Nat.le_of_ble_eq_true rfl) (Nat.le_of_ble_eq_true rfl) (Nat.zero_le _) (Nat.zero_le _) (kr_rt ?_) kx_rt
      refine g_iret dX10_cellAtRank_105 rfl rfl ?_
      exact ⟨rfl, by rw [va_up2]⟩
    · exact absurd (if_neg hr) c22

set_option maxRecDepth 100000 in
theorem ev_mrefusalReason {l : Launch} {G : GG} (hl : l.stackTraces = false) {A : AD} {h : AH} {a : Nat → Nat → Int32} {f : Nat → Int32} (hr : ¬ f 9 = 0) :
    Ev l G 11 0 0 mX10_refusalReason [.ref (A 30 0)] (mo h A (a, f)) (Rt (some (.int (f 9))) (mo h A (a, va_up f 11 0))) := by
  refine Ev.of hl (by decide) (Nat.le_of_ble_eq_true rfl) ?_
  refine g_aload_n (i := 0) dX10_refusalReason_0 rfl rfl ?_
  refine g_iconst (v := 0) dX10_refusalReason_1 (by decide) ?_
  refine g_putf dX10_refusalReason_2 K_X10 (k := 11) fl_X10_67 (Nat.le_of_ble_eq_true rfl) rfl mo_30 (Nat.le_of_ble_eq_true rfl) rfl rfl (Go.heap (mo_f11) ?_)
  refine g_aload_n (i := 0) dX10_refusalReason_5 rfl rfl ?_
  refine g_getf dX10_refusalReason_6 K_X10 (k := 9) fl_X10_70 (Nat.le_of_ble_eq_true rfl) mo_30 rfl ?_
  refine g_if_ne (tgt := 20) dX10_refusalReason_9 (by decide) (fun c9 => ?_) (fun c9 => ?_)
  · refine g_aload_n (i := 0) dX10_refusalReason_20 rfl rfl ?_
    refine g_getf dX10_refusalReason_21 K_X10 (k := 9) fl_X10_70 (Nat.le_of_ble_eq_true rfl) mo_30 rfl ?_
    refine g_iret dX10_refusalReason_24 rfl rfl ?_
    exact ⟨rfl, rfl⟩
  · exact absurd c9 hr

set_option maxRecDepth 100000 in
theorem ev_mrefusalReason_no {l : Launch} {G : GG} (hl : l.stackTraces = false) {A : AD} {h : AH} {a : Nat → Nat → Int32} {f : Nat → Int32} (hr : f 9 = 0) :
    Ev l G 11 0 0 mX10_refusalReason [.ref (A 30 0)] (mo h A (a, f)) (Rt (some (.int (-1))) (mo h A (a, va_up f 11 1))) := by
  refine Ev.of hl (by decide) (Nat.le_of_ble_eq_true rfl) ?_
  refine g_aload_n (i := 0) dX10_refusalReason_0 rfl rfl ?_
  refine g_iconst (v := 0) dX10_refusalReason_1 (by decide) ?_
  refine g_putf dX10_refusalReason_2 K_X10 (k := 11) fl_X10_67 (Nat.le_of_ble_eq_true rfl) rfl mo_30 (Nat.le_of_ble_eq_true rfl) rfl rfl (Go.heap (mo_f11) ?_)
  refine g_aload_n (i := 0) dX10_refusalReason_5 rfl rfl ?_
  refine g_getf dX10_refusalReason_6 K_X10 (k := 9) fl_X10_70 (Nat.le_of_ble_eq_true rfl) mo_30 rfl ?_
  refine g_if_ne (tgt := 20) dX10_refusalReason_9 (by decide) (fun c9 => ?_) (fun c9 => ?_)
  · exact absurd hr c9
  · refine g_aload_n (i := 0) dX10_refusalReason_12 rfl rfl ?_
    refine g_iconst (v := 1) dX10_refusalReason_13 (by decide) ?_
    refine g_callV (ev_throwing hl (x := 1)) dX10_refusalReason_14 ml_X10_76 cvX10_throwing K_X10 rfl mo_30 rfl rfl (Nat.le_of_ble_eq_true rfl) (Nat.le_of_ble_eq_true rfl) (Nat.zero_le _) (Nat.zero_le _) (kr_rt ?_) kx_rt
    refine g_goto (tgt := 24) dX10_refusalReason_17 (by decide) ?_
    refine g_iret dX10_refusalReason_24 rfl rfl ?_
    exact ⟨rfl, by rw [va_up2]⟩

set_option maxRecDepth 100000 in
theorem ev_mrefusalDetail {l : Launch} {G : GG} (hl : l.stackTraces = false) {A : AD} {h : AH} {a : Nat → Nat → Int32} {f : Nat → Int32} (hr : ¬ f 9 = 0) :
    Ev l G 11 0 0 mX10_refusalDetail [.ref (A 30 0)] (mo h A (a, f)) (Rt (some (.int (f 10))) (mo h A (a, va_up f 11 0))) := by
  refine Ev.of hl (by decide) (Nat.le_of_ble_eq_true rfl) ?_
  refine g_aload_n (i := 0) dX10_refusalDetail_0 rfl rfl ?_
  refine g_iconst (v := 0) dX10_refusalDetail_1 (by decide) ?_
  refine g_putf dX10_refusalDetail_2 K_X10 (k := 11) fl_X10_67 (Nat.le_of_ble_eq_true rfl) rfl mo_30 (Nat.le_of_ble_eq_true rfl) rfl rfl (Go.heap (mo_f11) ?_)
  refine g_aload_n (i := 0) dX10_refusalDetail_5 rfl rfl ?_
  refine g_getf dX10_refusalDetail_6 K_X10 (k := 9) fl_X10_70 (Nat.le_of_ble_eq_true rfl) mo_30 rfl ?_
  refine g_if_ne (tgt := 20) dX10_refusalDetail_9 (by decide) (fun c9 => ?_) (fun c9 => ?_)
  · refine g_aload_n (i := 0) dX10_refusalDetail_20 rfl rfl ?_
    refine g_getf dX10_refusalDetail_21 K_X10 (k := 10) fl_X10_73 (Nat.le_of_ble_eq_true rfl) mo_30 rfl ?_
    refine g_iret dX10_refusalDetail_24 rfl rfl ?_
    exact ⟨rfl, rfl⟩
  · exact absurd c9 hr

set_option maxRecDepth 100000 in
theorem ev_mrefusalDetail_no {l : Launch} {G : GG} (hl : l.stackTraces = false) {A : AD} {h : AH} {a : Nat → Nat → Int32} {f : Nat → Int32} (hr : f 9 = 0) :
    Ev l G 11 0 0 mX10_refusalDetail [.ref (A 30 0)] (mo h A (a, f)) (Rt (some (.int (-1))) (mo h A (a, va_up f 11 1))) := by
  refine Ev.of hl (by decide) (Nat.le_of_ble_eq_true rfl) ?_
  refine g_aload_n (i := 0) dX10_refusalDetail_0 rfl rfl ?_
  refine g_iconst (v := 0) dX10_refusalDetail_1 (by decide) ?_
  refine g_putf dX10_refusalDetail_2 K_X10 (k := 11) fl_X10_67 (Nat.le_of_ble_eq_true rfl) rfl mo_30 (Nat.le_of_ble_eq_true rfl) rfl rfl (Go.heap (mo_f11) ?_)
  refine g_aload_n (i := 0) dX10_refusalDetail_5 rfl rfl ?_
  refine g_getf dX10_refusalDetail_6 K_X10 (k := 9) fl_X10_70 (Nat.le_of_ble_eq_true rfl) mo_30 rfl ?_
  refine g_if_ne (tgt := 20) dX10_refusalDetail_9 (by decide) (fun c9 => ?_) (fun c9 => ?_)
  · exact absurd hr c9
  · refine g_aload_n (i := 0) dX10_refusalDetail_12 rfl rfl ?_
    refine g_iconst (v := 1) dX10_refusalDetail_13 (by decide) ?_
    refine g_callV (ev_throwing hl (x := 1)) dX10_refusalDetail_14 ml_X10_76 cvX10_throwing K_X10 rfl mo_30 rfl rfl (Nat.le_of_ble_eq_true rfl) (Nat.le_of_ble_eq_true rfl) (Nat.zero_le _) (Nat.zero_le _) (kr_rt ?_) kx_rt
    refine g_goto (tgt := 24) dX10_refusalDetail_17 (by decide) ?_
    refine g_iret dX10_refusalDetail_24 rfl rfl ?_
    exact ⟨rfl, by rw [va_up2]⟩

set_option maxRecDepth 100000 in
theorem ev_merrorPosition {l : Launch} {G : GG} (hl : l.stackTraces = false) {A : AD} {h : AH} {a : Nat → Nat → Int32} {f : Nat → Int32} (hr : ¬ f 7 = -1) :
    Ev l G 11 0 0 mX10_errorPosition [.ref (A 30 0)] (mo h A (a, f)) (Rt (some (.int (f 7))) (mo h A (a, va_up f 11 0))) := by
  refine Ev.of hl (by decide) (Nat.le_of_ble_eq_true rfl) ?_
  refine g_aload_n (i := 0) dX10_errorPosition_0 rfl rfl ?_
  refine g_iconst (v := 0) dX10_errorPosition_1 (by decide) ?_
  refine g_putf dX10_errorPosition_2 K_X10 (k := 11) fl_X10_67 (Nat.le_of_ble_eq_true rfl) rfl mo_30 (Nat.le_of_ble_eq_true rfl) rfl rfl (Go.heap (mo_f11) ?_)
  refine g_aload_n (i := 0) dX10_errorPosition_5 rfl rfl ?_
  refine g_getf dX10_errorPosition_6 K_X10 (k := 7) fl_X10_25 (Nat.le_of_ble_eq_true rfl) mo_30 rfl ?_
  refine g_iconst (v := (-1)) dX10_errorPosition_9 (by decide) ?_
  refine g_icmp_ne (tgt := 21) dX10_errorPosition_10 (by decide) (fun c10 => ?_) (fun c10 => ?_)
  · refine g_aload_n (i := 0) dX10_errorPosition_21 rfl rfl ?_
    refine g_getf dX10_errorPosition_22 K_X10 (k := 7) fl_X10_25 (Nat.le_of_ble_eq_true rfl) mo_30 rfl ?_
    refine g_iret dX10_errorPosition_25 rfl rfl ?_
    exact ⟨rfl, rfl⟩
  · exact absurd c10 hr

set_option maxRecDepth 100000 in
theorem ev_merrorPosition_no {l : Launch} {G : GG} (hl : l.stackTraces = false) {A : AD} {h : AH} {a : Nat → Nat → Int32} {f : Nat → Int32} (hr : f 7 = -1) :
    Ev l G 11 0 0 mX10_errorPosition [.ref (A 30 0)] (mo h A (a, f)) (Rt (some (.int (-1))) (mo h A (a, va_up f 11 1))) := by
  refine Ev.of hl (by decide) (Nat.le_of_ble_eq_true rfl) ?_
  refine g_aload_n (i := 0) dX10_errorPosition_0 rfl rfl ?_
  refine g_iconst (v := 0) dX10_errorPosition_1 (by decide) ?_
  refine g_putf dX10_errorPosition_2 K_X10 (k := 11) fl_X10_67 (Nat.le_of_ble_eq_true rfl) rfl mo_30 (Nat.le_of_ble_eq_true rfl) rfl rfl (Go.heap (mo_f11) ?_)
  refine g_aload_n (i := 0) dX10_errorPosition_5 rfl rfl ?_
  refine g_getf dX10_errorPosition_6 K_X10 (k := 7) fl_X10_25 (Nat.le_of_ble_eq_true rfl) mo_30 rfl ?_
  refine g_iconst (v := (-1)) dX10_errorPosition_9 (by decide) ?_
  refine g_icmp_ne (tgt := 21) dX10_errorPosition_10 (by decide) (fun c10 => ?_) (fun c10 => ?_)
  · exact absurd hr c10
  · refine g_aload_n (i := 0) dX10_errorPosition_13 rfl rfl ?_
    refine g_iconst (v := 1) dX10_errorPosition_14 (by decide) ?_
    refine g_callV (ev_throwing hl (x := 1)) dX10_errorPosition_15 ml_X10_76 cvX10_throwing K_X10 rfl mo_30 rfl rfl (Nat.le_of_ble_eq_true rfl) (Nat.le_of_ble_eq_true rfl) (Nat.zero_le _) (Nat.zero_le _) (kr_rt ?_) kx_rt
    refine g_goto (tgt := 25) dX10_errorPosition_18 (by decide) ?_
    refine g_iret dX10_errorPosition_25 rfl rfl ?_
    exact ⟨rfl, by rw [va_up2]⟩

set_option maxRecDepth 100000 in
theorem ev_mfailedCommand {l : Launch} {G : GG} (hl : l.stackTraces = false) {A : AD} {h : AH} {a : Nat → Nat → Int32} {f : Nat → Int32} (hr : ¬ f 8 = -1) :
    Ev l G 11 0 0 mX10_failedCommand [.ref (A 30 0)] (mo h A (a, f)) (Rt (some (.int (f 8))) (mo h A (a, va_up f 11 0))) := by
  refine Ev.of hl (by decide) (Nat.le_of_ble_eq_true rfl) ?_
  refine g_aload_n (i := 0) dX10_failedCommand_0 rfl rfl ?_
  refine g_iconst (v := 0) dX10_failedCommand_1 (by decide) ?_
  refine g_putf dX10_failedCommand_2 K_X10 (k := 11) fl_X10_67 (Nat.le_of_ble_eq_true rfl) rfl mo_30 (Nat.le_of_ble_eq_true rfl) rfl rfl (Go.heap (mo_f11) ?_)
  refine g_aload_n (i := 0) dX10_failedCommand_5 rfl rfl ?_
  refine g_getf dX10_failedCommand_6 K_X10 (k := 8) fl_X10_29 (Nat.le_of_ble_eq_true rfl) mo_30 rfl ?_
  refine g_iconst (v := (-1)) dX10_failedCommand_9 (by decide) ?_
  refine g_icmp_ne (tgt := 21) dX10_failedCommand_10 (by decide) (fun c10 => ?_) (fun c10 => ?_)
  · refine g_aload_n (i := 0) dX10_failedCommand_21 rfl rfl ?_
    refine g_getf dX10_failedCommand_22 K_X10 (k := 8) fl_X10_29 (Nat.le_of_ble_eq_true rfl) mo_30 rfl ?_
    refine g_iret dX10_failedCommand_25 rfl rfl ?_
    exact ⟨rfl, rfl⟩
  · exact absurd c10 hr

set_option maxRecDepth 100000 in
theorem ev_mfailedCommand_no {l : Launch} {G : GG} (hl : l.stackTraces = false) {A : AD} {h : AH} {a : Nat → Nat → Int32} {f : Nat → Int32} (hr : f 8 = -1) :
    Ev l G 11 0 0 mX10_failedCommand [.ref (A 30 0)] (mo h A (a, f)) (Rt (some (.int (-1))) (mo h A (a, va_up f 11 1))) := by
  refine Ev.of hl (by decide) (Nat.le_of_ble_eq_true rfl) ?_
  refine g_aload_n (i := 0) dX10_failedCommand_0 rfl rfl ?_
  refine g_iconst (v := 0) dX10_failedCommand_1 (by decide) ?_
  refine g_putf dX10_failedCommand_2 K_X10 (k := 11) fl_X10_67 (Nat.le_of_ble_eq_true rfl) rfl mo_30 (Nat.le_of_ble_eq_true rfl) rfl rfl (Go.heap (mo_f11) ?_)
  refine g_aload_n (i := 0) dX10_failedCommand_5 rfl rfl ?_
  refine g_getf dX10_failedCommand_6 K_X10 (k := 8) fl_X10_29 (Nat.le_of_ble_eq_true rfl) mo_30 rfl ?_
  refine g_iconst (v := (-1)) dX10_failedCommand_9 (by decide) ?_
  refine g_icmp_ne (tgt := 21) dX10_failedCommand_10 (by decide) (fun c10 => ?_) (fun c10 => ?_)
  · exact absurd hr c10
  · refine g_aload_n (i := 0) dX10_failedCommand_13 rfl rfl ?_
    refine g_iconst (v := 1) dX10_failedCommand_14 (by decide) ?_
    refine g_callV (ev_throwing hl (x := 1)) dX10_failedCommand_15 ml_X10_76 cvX10_throwing K_X10 rfl mo_30 rfl rfl (Nat.le_of_ble_eq_true rfl) (Nat.le_of_ble_eq_true rfl) (Nat.zero_le _) (Nat.zero_le _) (kr_rt ?_) kx_rt
    refine g_goto (tgt := 25) dX10_failedCommand_18 (by decide) ?_
    refine g_iret dX10_failedCommand_25 rfl rfl ?_
    exact ⟨rfl, by rw [va_up2]⟩

set_option maxRecDepth 100000 in
theorem ev_mborder {l : Launch} {G : GG} (hl : l.stackTraces = false) {A : AD} {h : AH} {a : Nat → Nat → Int32} {f : Nat → Int32} {s : Nat} (hs : s < 4) :
    Ev l G 11 0 0 mX10_border [.ref (A 30 0), .int (nI s)] (mo h A (a, f)) (Rt (some (.int (a 0 (192 + s)))) (mo h A (a, va_up f 11 0))) := by
  refine Ev.of hl (by decide) (Nat.le_of_ble_eq_true rfl) ?_
  refine g_aload_n (i := 0) dX10_border_0 rfl rfl ?_
  refine g_iconst (v := 0) dX10_border_1 (by decide) ?_
  refine g_putf dX10_border_2 K_X10 (k := 11) fl_X10_67 (Nat.le_of_ble_eq_true rfl) rfl mo_30 (Nat.le_of_ble_eq_true rfl) rfl rfl (Go.heap (mo_f11) ?_)
  refine g_iload_n (i := 1) dX10_border_5 rfl rfl ?_
  refine g_i2l dX10_border_6 ?_
  refine g_lconst (v := 0) dX10_border_7 (by decide) ?_
  refine g_ldc2 dX10_border_8 co_X10_133 ?_
  refine g_callS (ev_in hl (lo := 0) (hi := 3) (by decide) (by decide)) dX10_border_11 ml_X10_85 csX10_in rfl rfl (Nat.le_of_ble_eq_true rfl) (Nat.le_of_ble_eq_true rfl) (Nat.zero_le _) (Nat.zero_le _) (kr_rt ?_) kx_rt
  refine g_if_eq (tgt := 30) dX10_border_14 (by decide) (fun c14 => ?_) (fun c14 => ?_)
  · exact absurd c14 (by rw [if_pos ⟨nI_pos' (by omega), (nI_le' (b := 3) rfl (by omega) (by decide)).mpr (by omega)⟩]; decide)
  · refine g_aload_n (i := 0) dX10_border_17 rfl rfl ?_
    refine g_getf dX10_border_18 K_X10 (k := 0) fl_X10_9 (Nat.le_of_ble_eq_true rfl) mo_30 rfl ?_
    refine g_sipush (v := 192) dX10_border_21 (by decide) ?_
    refine g_iload_n (i := 1) dX10_border_24 rfl rfl ?_
    refine g_iadd dX10_border_25 ?_
    refine g_iald dX10_border_26 mo_31 (ixA (b := 192) (k := s) rfl (by omega)) (by omega) ?_
    refine g_goto (tgt := 35) dX10_border_27 (by decide) ?_
    refine g_iret dX10_border_35 rfl rfl ?_
    exact ⟨rfl, rfl⟩

set_option maxRecDepth 100000 in
theorem ev_mborder_no {l : Launch} {G : GG} (hl : l.stackTraces = false) {A : AD} {h : AH} {a : Nat → Nat → Int32} {f : Nat → Int32} {x : Int32} (hs : ¬ (0 ≤ x ∧ x ≤ 3)) :
    Ev l G 11 0 0 mX10_border [.ref (A 30 0), .int x] (mo h A (a, f)) (Rt (some (.int (-1))) (mo h A (a, va_up f 11 1))) := by
  refine Ev.of hl (by decide) (Nat.le_of_ble_eq_true rfl) ?_
  refine g_aload_n (i := 0) dX10_border_0 rfl rfl ?_
  refine g_iconst (v := 0) dX10_border_1 (by decide) ?_
  refine g_putf dX10_border_2 K_X10 (k := 11) fl_X10_67 (Nat.le_of_ble_eq_true rfl) rfl mo_30 (Nat.le_of_ble_eq_true rfl) rfl rfl (Go.heap (mo_f11) ?_)
  refine g_iload_n (i := 1) dX10_border_5 rfl rfl ?_
  refine g_i2l dX10_border_6 ?_
  refine g_lconst (v := 0) dX10_border_7 (by decide) ?_
  refine g_ldc2 dX10_border_8 co_X10_133 ?_
  refine g_callS (ev_in hl (lo := 0) (hi := 3) (by decide) (by decide)) dX10_border_11 ml_X10_85 csX10_in rfl rfl (Nat.le_of_ble_eq_true rfl) (Nat.le_of_ble_eq_true rfl) (Nat.zero_le _) (Nat.zero_le _) (kr_rt ?_) kx_rt
  refine g_if_eq (tgt := 30) dX10_border_14 (by decide) (fun c14 => ?_) (fun c14 => ?_)
  · refine g_aload_n (i := 0) dX10_border_30 rfl rfl ?_
    refine g_iconst (v := 1) dX10_border_31 (by decide) ?_
    refine g_callV (ev_throwing hl (x := 1)) dX10_border_32 ml_X10_76 cvX10_throwing K_X10 rfl mo_30 rfl rfl (Nat.le_of_ble_eq_true rfl) (Nat.le_of_ble_eq_true rfl) (Nat.zero_le _) (Nat.zero_le _) (kr_rt ?_) kx_rt
    refine g_iret dX10_border_35 rfl rfl ?_
    exact ⟨rfl, by rw [va_up2]⟩
  · exact absurd (if_neg hs) c14

set_option maxRecDepth 100000 in
theorem ev_mlostBy {l : Launch} {G : GG} (hl : l.stackTraces = false) {A : AD} {h : AH} {a : Nat → Nat → Int32} {f : Nat → Int32} {s : Nat} (hs : s < 4) :
    Ev l G 11 0 0 mX10_lostBy [.ref (A 30 0), .int (nI s)] (mo h A (a, f)) (Rt (some (.int (a 0 (196 + s)))) (mo h A (a, va_up f 11 0))) := by
  refine Ev.of hl (by decide) (Nat.le_of_ble_eq_true rfl) ?_
  refine g_aload_n (i := 0) dX10_lostBy_0 rfl rfl ?_
  refine g_iconst (v := 0) dX10_lostBy_1 (by decide) ?_
  refine g_putf dX10_lostBy_2 K_X10 (k := 11) fl_X10_67 (Nat.le_of_ble_eq_true rfl) rfl mo_30 (Nat.le_of_ble_eq_true rfl) rfl rfl (Go.heap (mo_f11) ?_)
  refine g_iload_n (i := 1) dX10_lostBy_5 rfl rfl ?_
  refine g_i2l dX10_lostBy_6 ?_
  refine g_lconst (v := 0) dX10_lostBy_7 (by decide) ?_
  refine g_ldc2 dX10_lostBy_8 co_X10_133 ?_
  refine g_callS (ev_in hl (lo := 0) (hi := 3) (by decide) (by decide)) dX10_lostBy_11 ml_X10_85 csX10_in rfl rfl (Nat.le_of_ble_eq_true rfl) (Nat.le_of_ble_eq_true rfl) (Nat.zero_le _) (Nat.zero_le _) (kr_rt ?_) kx_rt
  refine g_if_eq (tgt := 30) dX10_lostBy_14 (by decide) (fun c14 => ?_) (fun c14 => ?_)
  · exact absurd c14 (by rw [if_pos ⟨nI_pos' (by omega), (nI_le' (b := 3) rfl (by omega) (by decide)).mpr (by omega)⟩]; decide)
  · refine g_aload_n (i := 0) dX10_lostBy_17 rfl rfl ?_
    refine g_getf dX10_lostBy_18 K_X10 (k := 0) fl_X10_9 (Nat.le_of_ble_eq_true rfl) mo_30 rfl ?_
    refine g_sipush (v := 196) dX10_lostBy_21 (by decide) ?_
    refine g_iload_n (i := 1) dX10_lostBy_24 rfl rfl ?_
    refine g_iadd dX10_lostBy_25 ?_
    refine g_iald dX10_lostBy_26 mo_31 (ixA (b := 196) (k := s) rfl (by omega)) (by omega) ?_
    refine g_goto (tgt := 35) dX10_lostBy_27 (by decide) ?_
    refine g_iret dX10_lostBy_35 rfl rfl ?_
    exact ⟨rfl, rfl⟩

set_option maxRecDepth 100000 in
theorem ev_mlostBy_no {l : Launch} {G : GG} (hl : l.stackTraces = false) {A : AD} {h : AH} {a : Nat → Nat → Int32} {f : Nat → Int32} {x : Int32} (hs : ¬ (0 ≤ x ∧ x ≤ 3)) :
    Ev l G 11 0 0 mX10_lostBy [.ref (A 30 0), .int x] (mo h A (a, f)) (Rt (some (.int (-1))) (mo h A (a, va_up f 11 1))) := by
  refine Ev.of hl (by decide) (Nat.le_of_ble_eq_true rfl) ?_
  refine g_aload_n (i := 0) dX10_lostBy_0 rfl rfl ?_
  refine g_iconst (v := 0) dX10_lostBy_1 (by decide) ?_
  refine g_putf dX10_lostBy_2 K_X10 (k := 11) fl_X10_67 (Nat.le_of_ble_eq_true rfl) rfl mo_30 (Nat.le_of_ble_eq_true rfl) rfl rfl (Go.heap (mo_f11) ?_)
  refine g_iload_n (i := 1) dX10_lostBy_5 rfl rfl ?_
  refine g_i2l dX10_lostBy_6 ?_
  refine g_lconst (v := 0) dX10_lostBy_7 (by decide) ?_
  refine g_ldc2 dX10_lostBy_8 co_X10_133 ?_
  refine g_callS (ev_in hl (lo := 0) (hi := 3) (by decide) (by decide)) dX10_lostBy_11 ml_X10_85 csX10_in rfl rfl (Nat.le_of_ble_eq_true rfl) (Nat.le_of_ble_eq_true rfl) (Nat.zero_le _) (Nat.zero_le _) (kr_rt ?_) kx_rt
  refine g_if_eq (tgt := 30) dX10_lostBy_14 (by decide) (fun c14 => ?_) (fun c14 => ?_)
  · refine g_aload_n (i := 0) dX10_lostBy_30 rfl rfl ?_
    refine g_iconst (v := 1) dX10_lostBy_31 (by decide) ?_
    refine g_callV (ev_throwing hl (x := 1)) dX10_lostBy_32 ml_X10_76 cvX10_throwing K_X10 rfl mo_30 rfl rfl (Nat.le_of_ble_eq_true rfl) (Nat.le_of_ble_eq_true rfl) (Nat.zero_le _) (Nat.zero_le _) (kr_rt ?_) kx_rt
    refine g_iret dX10_lostBy_35 rfl rfl ?_
    exact ⟨rfl, by rw [va_up2]⟩
  · exact absurd (if_neg hs) c14

set_option maxRecDepth 100000 in
theorem ev_mticks {l : Launch} {G : GG} (hl : l.stackTraces = false) {A : AD} {h : AH} {a : Nat → Nat → Int32} {f : Nat → Int32} :
    Ev l G 10 0 0 mX10_ticks [.ref (A 30 0)] (mo h A (a, f)) (Rt (some (.int (a 0 200))) (mo h A (a, va_up f 11 0))) := by
  refine Ev.of hl (by decide) (Nat.le_of_ble_eq_true rfl) ?_
  refine g_aload_n (i := 0) dX10_ticks_0 rfl rfl ?_
  refine g_iconst (v := 0) dX10_ticks_1 (by decide) ?_
  refine g_putf dX10_ticks_2 K_X10 (k := 11) fl_X10_67 (Nat.le_of_ble_eq_true rfl) rfl mo_30 (Nat.le_of_ble_eq_true rfl) rfl rfl (Go.heap (mo_f11) ?_)
  refine g_aload_n (i := 0) dX10_ticks_5 rfl rfl ?_
  refine g_getf dX10_ticks_6 K_X10 (k := 0) fl_X10_9 (Nat.le_of_ble_eq_true rfl) mo_30 rfl ?_
  refine g_sipush (v := 200) dX10_ticks_9 (by decide) ?_
  refine g_iald dX10_ticks_12 mo_31 (ix_nI (j := 200) (by decide)) (by decide) ?_
  refine g_iret dX10_ticks_13 rfl rfl ?_
  exact ⟨rfl, rfl⟩

set_option maxRecDepth 100000 in
theorem ev_mrelapses {l : Launch} {G : GG} (hl : l.stackTraces = false) {A : AD} {h : AH} {a : Nat → Nat → Int32} {f : Nat → Int32} :
    Ev l G 10 0 0 mX10_relapses [.ref (A 30 0)] (mo h A (a, f)) (Rt (some (.int (a 0 201))) (mo h A (a, va_up f 11 0))) := by
  refine Ev.of hl (by decide) (Nat.le_of_ble_eq_true rfl) ?_
  refine g_aload_n (i := 0) dX10_relapses_0 rfl rfl ?_
  refine g_iconst (v := 0) dX10_relapses_1 (by decide) ?_
  refine g_putf dX10_relapses_2 K_X10 (k := 11) fl_X10_67 (Nat.le_of_ble_eq_true rfl) rfl mo_30 (Nat.le_of_ble_eq_true rfl) rfl rfl (Go.heap (mo_f11) ?_)
  refine g_aload_n (i := 0) dX10_relapses_5 rfl rfl ?_
  refine g_getf dX10_relapses_6 K_X10 (k := 0) fl_X10_9 (Nat.le_of_ble_eq_true rfl) mo_30 rfl ?_
  refine g_sipush (v := 201) dX10_relapses_9 (by decide) ?_
  refine g_iald dX10_relapses_12 mo_31 (ix_nI (j := 201) (by decide)) (by decide) ?_
  refine g_iret dX10_relapses_13 rfl rfl ?_
  exact ⟨rfl, rfl⟩

set_option maxRecDepth 100000 in
theorem ev_mConsistent {l : Launch} {G : GG} (hl : l.stackTraces = false) {A : AD} {h : AH} {a : Nat → Nat → Int32} {f : Nat → Int32} :
    Ev l G 10 0 0 mX10_isConsistent [.ref (A 30 0)] (mo h A (a, f)) (Rt (some (.int (1))) (mo h A (a, va_up f 11 0))) := by
  refine Ev.of hl (by decide) (Nat.le_of_ble_eq_true rfl) ?_
  refine g_aload_n (i := 0) dX10_isConsistent_0 rfl rfl ?_
  refine g_iconst (v := 0) dX10_isConsistent_1 (by decide) ?_
  refine g_putf dX10_isConsistent_2 K_X10 (k := 11) fl_X10_67 (Nat.le_of_ble_eq_true rfl) rfl mo_30 (Nat.le_of_ble_eq_true rfl) rfl rfl (Go.heap (mo_f11) ?_)
  refine g_iconst (v := 1) dX10_isConsistent_5 (by decide) ?_
  refine g_iret dX10_isConsistent_6 rfl rfl ?_
  exact ⟨rfl, rfl⟩

set_option maxRecDepth 100000 in
theorem ev_isBelow {l : Launch} {G : GG} (hl : l.stackTraces = false) {A : AD} {h : AH} {a : Nat → Nat → Int32} {f : Nat → Int32} {v : Int32} :
    Ev l G 10 0 0 mX10_isBelow [.ref (A 30 0), .int v] (mo h A (a, f)) (Rt (some (.int (if blN (a 0) v 64 = true then 1 else 0))) (mo h A (a, f))) := by
  refine Ev.of hl (by decide) (Nat.le_of_ble_eq_true rfl) ?_
  have loop : ∀ (j : Nat) (k : Nat), k + j = 64 → Go l G mX10_isBelow 10 0 0 (Rt (some (.int (if blN (a 0) v 64 = true then 1 else 0))) (mo h A (a, f))) 4 [some (.ref (A 30 0)), some (.int v), some (.int (if blN (a 0) v k = true then 1 else 0)), some (.int (nI k))] [] (mo h A (a, f)) := by
    intro j
    induction j with
    | zero =>
      intro k hk
      refine g_iload_n (i := 3) dX10_isBelow_4 rfl rfl ?_
      refine g_bipush (v := 64) dX10_isBelow_5 (by decide) ?_
      refine g_icmp_ge (tgt := 38) dX10_isBelow_7 (by decide) (fun c7 => ?_) (fun c7 => ?_)
      · obtain rfl : k = 64 := by omega
        refine g_iload_n (i := 2) dX10_isBelow_38 rfl rfl ?_
        refine g_iret dX10_isBelow_39 rfl (by split <;> rfl) ?_
        exact ⟨rfl, rfl⟩
      · exact absurd ((le_nI (a := 64) (b := k) rfl (by omega) (by omega)).mpr (by omega)) c7
    | succ j ih =>
      intro k hk
      refine g_iload_n (i := 3) dX10_isBelow_4 rfl rfl ?_
      refine g_bipush (v := 64) dX10_isBelow_5 (by decide) ?_
      refine g_icmp_ge (tgt := 38) dX10_isBelow_7 (by decide) (fun c7 => ?_) (fun c7 => ?_)
      · exact absurd ((le_nI (a := 64) (b := k) rfl (by omega) (by omega)).mp c7) (by omega)
      · refine g_iload_n (i := 2) dX10_isBelow_10 rfl rfl ?_
        refine g_if_eq (tgt := 30) dX10_isBelow_11 (by decide) (fun c11 => ?_) (fun c11 => ?_)
        · refine g_iconst (v := 0) dX10_isBelow_30 (by decide) ?_
          refine g_istore_n (i := 2) dX10_isBelow_31 rfl (Nat.le_of_ble_eq_true rfl) ?_
          refine g_iinc (w := 1) dX10_isBelow_32 (by decide) rfl (nI_succ k).symm (Nat.le_of_ble_eq_true rfl) ?_
          refine g_goto (tgt := 4) dX10_isBelow_35 (by decide) ?_
          have z := ih (k + 1) (by omega)
          rw [show (if blN (a 0) v (k + 1) = true then (1 : Int32) else 0) = 0 from if_neg (bl_0 (ite_0 c11))] at z
          exact z
        · refine g_aload_n (i := 0) dX10_isBelow_14 rfl rfl ?_
          refine g_getf dX10_isBelow_15 K_X10 (k := 0) fl_X10_9 (Nat.le_of_ble_eq_true rfl) mo_30 rfl ?_
          refine g_iconst (v := 0) dX10_isBelow_18 (by decide) ?_
          refine g_iload_n (i := 3) dX10_isBelow_19 rfl rfl ?_
          refine g_iadd dX10_isBelow_20 ?_
          refine g_iald dX10_isBelow_21 mo_31 (ix0 (k := k) (by omega)) (by omega) ?_
          refine g_iload_n (i := 1) dX10_isBelow_22 rfl rfl ?_
          refine g_icmp_ge (tgt := 30) dX10_isBelow_23 (by decide) (fun c23 => ?_) (fun c23 => ?_)
          · refine g_iconst (v := 0) dX10_isBelow_30 (by decide) ?_
            refine g_istore_n (i := 2) dX10_isBelow_31 rfl (Nat.le_of_ble_eq_true rfl) ?_
            refine g_iinc (w := 1) dX10_isBelow_32 (by decide) rfl (nI_succ k).symm (Nat.le_of_ble_eq_true rfl) ?_
            refine g_goto (tgt := 4) dX10_isBelow_35 (by decide) ?_
            have z := ih (k + 1) (by omega)
            rw [show (if blN (a 0) v (k + 1) = true then (1 : Int32) else 0) = 0 from if_neg (bl_1 (nlt c23))] at z
            exact z
          · refine g_iconst (v := 1) dX10_isBelow_26 (by decide) ?_
            refine g_goto (tgt := 31) dX10_isBelow_27 (by decide) ?_
            refine g_istore_n (i := 2) dX10_isBelow_31 rfl (Nat.le_of_ble_eq_true rfl) ?_
            refine g_iinc (w := 1) dX10_isBelow_32 (by decide) rfl (nI_succ k).symm (Nat.le_of_ble_eq_true rfl) ?_
            refine g_goto (tgt := 4) dX10_isBelow_35 (by decide) ?_
            have z := ih (k + 1) (by omega)
            rw [show (if blN (a 0) v (k + 1) = true then (1 : Int32) else 0) = 1 from if_pos (bl_2 (ite_1 c11) (ltn c23))] at z
            exact z
  refine g_iconst (v := 1) dX10_isBelow_0 (by decide) ?_
  refine g_istore_n (i := 2) dX10_isBelow_1 rfl (Nat.le_of_ble_eq_true rfl) ?_
  refine g_iconst (v := 0) dX10_isBelow_2 (by decide) ?_
  refine g_istore_n (i := 3) dX10_isBelow_3 rfl (Nat.le_of_ble_eq_true rfl) ?_
  exact loop 64 0 rfl

set_option maxRecDepth 100000 in
theorem ev_mCellBits {l : Launch} {G : GG} (hl : l.stackTraces = false) {A : AD} {h : AH} {a : Nat → Nat → Int32} {f : Nat → Int32} {v : Int32} (hv : levP v) :
    Ev l G 11 0 0 mX10_cellBits [.ref (A 30 0), .int v] (mo h A (a, f)) (Rt (some (.long (cbN (a 0) v 64))) (mo h A (a, va_up f 11 0))) := by
  refine Ev.of hl (by decide) (Nat.le_of_ble_eq_true rfl) ?_
  have loop : ∀ (j : Nat) (k : Nat), k + j = 64 → Go l G mX10_cellBits 11 0 0 (Rt (some (.long (cbN (a 0) v 64))) (mo h A (a, va_up f 11 0))) 29 [some (.ref (A 30 0)), some (.int v), some (.long (cbN (a 0) v k)), none, some (.int (nI k))] [] (mo h A (a, va_up f 11 0)) := by
    intro j
    induction j with
    | zero =>
      intro k hk
      refine g_iload dX10_cellBits_29 rfl ?_
      refine g_bipush (v := 64) dX10_cellBits_31 (by decide) ?_
      refine g_icmp_ge (tgt := 63) dX10_cellBits_33 (by decide) (fun c33 => ?_) (fun c33 => ?_)
      · obtain rfl : k = 64 := by omega
        refine g_lload_n (i := 2) dX10_cellBits_63 rfl rfl ?_
        refine g_lret dX10_cellBits_64 rfl ?_
        exact ⟨rfl, rfl⟩
      · exact absurd ((le_nI (a := 64) (b := k) rfl (by omega) (by omega)).mpr (by omega)) c33
    | succ j ih =>
      intro k hk
      refine g_iload dX10_cellBits_29 rfl ?_
      refine g_bipush (v := 64) dX10_cellBits_31 (by decide) ?_
      refine g_icmp_ge (tgt := 63) dX10_cellBits_33 (by decide) (fun c33 => ?_) (fun c33 => ?_)
      · exact absurd ((le_nI (a := 64) (b := k) rfl (by omega) (by omega)).mp c33) (by omega)
      · refine g_lload_n (i := 2) dX10_cellBits_36 rfl rfl ?_
        refine g_aload_n (i := 0) dX10_cellBits_37 rfl rfl ?_
        refine g_iload dX10_cellBits_38 rfl ?_
        refine g_iload_n (i := 1) dX10_cellBits_40 rfl rfl ?_
        refine g_callV (ev_mIsOf hl (by omega)) dX10_cellBits_41 ml_X10_163 cvX10_isOf K_X10 rfl mo_30 rfl rfl (Nat.le_of_ble_eq_true rfl) (Nat.le_of_ble_eq_true rfl) (Nat.zero_le _) (Nat.zero_le _) (kr_rt ?_) kx_rt
        refine g_if_eq (tgt := 54) dX10_cellBits_44 (by decide) (fun c44 => ?_) (fun c44 => ?_)
        · refine g_lconst (v := 0) dX10_cellBits_54 (by decide) ?_
          refine g_lor dX10_cellBits_55 ?_
          refine g_lstore_n (i := 2) dX10_cellBits_56 rfl (Nat.le_of_ble_eq_true rfl) ?_
          refine g_iinc (w := 1) dX10_cellBits_57 (by decide) rfl (nI_succ k).symm (Nat.le_of_ble_eq_true rfl) ?_
          refine g_goto (tgt := 29) dX10_cellBits_60 (by decide) ?_
          rw [show cbN (a 0) v k ||| 0 = cbN (a 0) v (k + 1) from by rw [cbN, if_neg (ite_0 c44)]]
          exact ih (k + 1) (by omega)
        · refine g_lconst (v := 1) dX10_cellBits_47 (by decide) ?_
          refine g_iload dX10_cellBits_48 rfl ?_
          refine g_lshl dX10_cellBits_50 ?_
          refine g_goto (tgt := 55) dX10_cellBits_51 (by decide) ?_
          refine g_lor dX10_cellBits_55 ?_
          refine g_lstore_n (i := 2) dX10_cellBits_56 rfl (Nat.le_of_ble_eq_true rfl) ?_
          refine g_iinc (w := 1) dX10_cellBits_57 (by decide) rfl (nI_succ k).symm (Nat.le_of_ble_eq_true rfl) ?_
          refine g_goto (tgt := 29) dX10_cellBits_60 (by decide) ?_
          have z := ih (k + 1) (by omega)
          rw [show cbN (a 0) v (k + 1) = _ from by rw [cbN, if_pos (ite_1 c44)]] at z
          exact z
  refine g_aload_n (i := 0) dX10_cellBits_0 rfl rfl ?_
  refine g_iconst (v := 0) dX10_cellBits_1 (by decide) ?_
  refine g_putf dX10_cellBits_2 K_X10 (k := 11) fl_X10_67 (Nat.le_of_ble_eq_true rfl) rfl mo_30 (Nat.le_of_ble_eq_true rfl) rfl rfl (Go.heap (mo_f11) ?_)
  refine g_iload_n (i := 1) dX10_cellBits_5 rfl rfl ?_
  refine g_i2l dX10_cellBits_6 ?_
  refine g_lconst (v := 1) dX10_cellBits_7 (by decide) ?_
  refine g_ldc2 dX10_cellBits_8 co_X10_135 ?_
  refine g_callS (ev_in hl (lo := 1) (hi := 9999) (by decide) (by decide)) dX10_cellBits_11 ml_X10_85 csX10_in rfl rfl (Nat.le_of_ble_eq_true rfl) (Nat.le_of_ble_eq_true rfl) (Nat.zero_le _) (Nat.zero_le _) (kr_rt ?_) kx_rt
  refine g_if_ne (tgt := 24) dX10_cellBits_14 (by decide) (fun c14 => ?_) (fun c14 => ?_)
  · refine g_lconst (v := 0) dX10_cellBits_24 (by decide) ?_
    refine g_lstore_n (i := 2) dX10_cellBits_25 rfl (Nat.le_of_ble_eq_true rfl) ?_
    refine g_iconst (v := 0) dX10_cellBits_26 (by decide) ?_
    refine g_istore dX10_cellBits_27 (Nat.le_of_ble_eq_true rfl) ?_
    exact loop 64 0 rfl
  · exact absurd c14 (by rw [if_pos hv]; decide)

set_option maxRecDepth 100000 in
theorem ev_mCellBits_no {l : Launch} {G : GG} (hl : l.stackTraces = false) {A : AD} {h : AH} {a : Nat → Nat → Int32} {f : Nat → Int32} {v : Int32} (hv : ¬ levP v) :
    Ev l G 11 0 0 mX10_cellBits [.ref (A 30 0), .int v] (mo h A (a, f)) (Rt (some (.long (-1))) (mo h A (a, va_up f 11 1))) := by
  refine Ev.of hl (by decide) (Nat.le_of_ble_eq_true rfl) ?_
  refine g_aload_n (i := 0) dX10_cellBits_0 rfl rfl ?_
  refine g_iconst (v := 0) dX10_cellBits_1 (by decide) ?_
  refine g_putf dX10_cellBits_2 K_X10 (k := 11) fl_X10_67 (Nat.le_of_ble_eq_true rfl) rfl mo_30 (Nat.le_of_ble_eq_true rfl) rfl rfl (Go.heap (mo_f11) ?_)
  refine g_iload_n (i := 1) dX10_cellBits_5 rfl rfl ?_
  refine g_i2l dX10_cellBits_6 ?_
  refine g_lconst (v := 1) dX10_cellBits_7 (by decide) ?_
  refine g_ldc2 dX10_cellBits_8 co_X10_135 ?_
  refine g_callS (ev_in hl (lo := 1) (hi := 9999) (by decide) (by decide)) dX10_cellBits_11 ml_X10_85 csX10_in rfl rfl (Nat.le_of_ble_eq_true rfl) (Nat.le_of_ble_eq_true rfl) (Nat.zero_le _) (Nat.zero_le _) (kr_rt ?_) kx_rt
  refine g_if_ne (tgt := 24) dX10_cellBits_14 (by decide) (fun c14 => ?_) (fun c14 => ?_)
  · exact absurd (if_neg hv) c14
  · refine g_aload_n (i := 0) dX10_cellBits_17 rfl rfl ?_
    refine g_iconst (v := 1) dX10_cellBits_18 (by decide) ?_
    refine g_callV (ev_throwing hl (x := 1)) dX10_cellBits_19 ml_X10_76 cvX10_throwing K_X10 rfl mo_30 rfl rfl (Nat.le_of_ble_eq_true rfl) (Nat.le_of_ble_eq_true rfl) (Nat.zero_le _) (Nat.zero_le _) (kr_rt ?_) kx_rt
    refine g_i2l dX10_cellBits_22 ?_
    refine g_lret dX10_cellBits_23 rfl ?_
    exact ⟨rfl, by rw [va_up2]⟩

set_option maxRecDepth 100000 in
theorem ev_mSave {l : Launch} {G : GG} (hl : l.stackTraces = false) {A : AD} {h : AH} {a : Nat → Nat → Int32} {f : Nat → Int32} :
    Ev l G 10 0 0 mX10_save [.ref (A 30 0)] (mo h A (a, f)) (Rt (some (.int (a 0 200))) (mo h A (va_up a 3 (a 0), va_up (va_up f 11 0) 4 1))) := by
  refine Ev.of hl (by decide) (Nat.le_of_ble_eq_true rfl) ?_
  have loop : ∀ (j : Nat) (k : Nat), k + j = 202 → Go l G mX10_save 10 0 0 (Rt (some (.int (a 0 200))) (mo h A (va_up a 3 (a 0), va_up (va_up f 11 0) 4 1))) 7 [some (.ref (A 30 0)), some (.int (nI k))] [] (mo h A (va_up (a) 3 (fun i => if i < k then (a 0) i else a 3 i), va_up f 11 0)) := by
    intro j
    induction j with
    | zero =>
      intro k hk
      refine g_iload_n (i := 1) dX10_save_7 rfl rfl ?_
      refine g_sipush (v := 202) dX10_save_8 (by decide) ?_
      refine g_icmp_ge (tgt := 32) dX10_save_11 (by decide) (fun c11 => ?_) (fun c11 => ?_)
      · refine Go.heap (mo_a3 (a := a) (f := va_up f 11 0) (x := (fun i => if i < k then (a 0) i else a 3 i))).symm ?_
        refine Go.arr (f' := a 0) (fun i hi => if_pos (by omega)) ?_
        refine Go.heap (mo_a3 (a := a) (f := va_up f 11 0)) ?_
        refine g_aload_n (i := 0) dX10_save_32 rfl rfl ?_
        refine g_iconst (v := 1) dX10_save_33 (by decide) ?_
        refine g_putf dX10_save_34 K_X10 (k := 4) fl_X10_276 (Nat.le_of_ble_eq_true rfl) rfl mo_30 (Nat.le_of_ble_eq_true rfl) rfl rfl (Go.heap (mo_f4) ?_)
        refine g_aload_n (i := 0) dX10_save_37 rfl rfl ?_
        refine g_getf dX10_save_38 K_X10 (k := 0) fl_X10_9 (Nat.le_of_ble_eq_true rfl) mo_30 rfl ?_
        refine g_sipush (v := 200) dX10_save_41 (by decide) ?_
        refine g_iald dX10_save_44 mo_31 (ix_nI (j := 200) (by decide)) (by decide) ?_
        refine g_iret dX10_save_45 rfl rfl ?_
        exact ⟨rfl, rfl⟩
      · exact absurd ((le_nI (a := 202) (b := k) rfl (by omega) (by omega)).mpr (by omega)) c11
    | succ j ih =>
      intro k hk
      refine g_iload_n (i := 1) dX10_save_7 rfl rfl ?_
      refine g_sipush (v := 202) dX10_save_8 (by decide) ?_
      refine g_icmp_ge (tgt := 32) dX10_save_11 (by decide) (fun c11 => ?_) (fun c11 => ?_)
      · exact absurd ((le_nI (a := 202) (b := k) rfl (by omega) (by omega)).mp c11) (by omega)
      · refine g_aload_n (i := 0) dX10_save_14 rfl rfl ?_
        refine g_getf dX10_save_15 K_X10 (k := 3) fl_X10_19 (Nat.le_of_ble_eq_true rfl) mo_30 rfl ?_
        refine g_iload_n (i := 1) dX10_save_18 rfl rfl ?_
        refine g_aload_n (i := 0) dX10_save_19 rfl rfl ?_
        refine g_getf dX10_save_20 K_X10 (k := 0) fl_X10_9 (Nat.le_of_ble_eq_true rfl) mo_30 rfl ?_
        refine g_iload_n (i := 1) dX10_save_23 rfl rfl ?_
        refine g_iald dX10_save_24 mo_31 (ix_nI (j := k) (by omega)) (by omega) ?_
        refine g_iast dX10_save_25 mo_34 (ix_nI (j := k) (by omega)) (by omega) rfl (Go.heap mo_a3 ?_)
        refine g_iinc (w := 1) dX10_save_26 (by decide) rfl (nI_succ k).symm (Nat.le_of_ble_eq_true rfl) ?_
        refine g_goto (tgt := 7) dX10_save_29 (by decide) ?_
        refine Go.heap (h' := (mo h A (va_up (a) 3 (fun i => if i < (k + 1) then (a 0) i else a 3 i), va_up f 11 0))) (by rw [va_up2, va_up_self, va_up_ne _ _ (show (0 : Nat) ≠ 3 by decide), cpS]) ?_
        exact ih (k + 1) (by omega)
  refine g_aload_n (i := 0) dX10_save_0 rfl rfl ?_
  refine g_iconst (v := 0) dX10_save_1 (by decide) ?_
  refine g_putf dX10_save_2 K_X10 (k := 11) fl_X10_67 (Nat.le_of_ble_eq_true rfl) rfl mo_30 (Nat.le_of_ble_eq_true rfl) rfl rfl (Go.heap (mo_f11) ?_)
  refine g_iconst (v := 0) dX10_save_5 (by decide) ?_
  refine g_istore_n (i := 1) dX10_save_6 rfl (Nat.le_of_ble_eq_true rfl) ?_
  refine Go.heap (h' := (mo h A (va_up (a) 3 (fun i => if i < 0 then (a 0) i else a 3 i), va_up f 11 0))) ?_ (loop 202 0 rfl)
  congr 2; exact (va_self (a) 3).symm

set_option maxRecDepth 100000 in
theorem ev_mRestore {l : Launch} {G : GG} (hl : l.stackTraces = false) {A : AD} {h : AH} {a : Nat → Nat → Int32} {f : Nat → Int32} (hs : ¬ f 4 = 0) :
    Ev l G 11 0 0 mX10_restore [.ref (A 30 0)] (mo h A (a, f)) (Rt (some (.int (a 3 200))) (mo h A (va_up a 0 (a 3), va_up (va_up f 11 0) 6 0))) := by
  refine Ev.of hl (by decide) (Nat.le_of_ble_eq_true rfl) ?_
  have loop : ∀ (j : Nat) (k : Nat), k + j = 202 → Go l G mX10_restore 11 0 0 (Rt (some (.int (a 3 200))) (mo h A (va_up a 0 (a 3), va_up (va_up f 11 0) 6 0))) 20 [some (.ref (A 30 0)), some (.int (nI k))] [] (mo h A (va_up (a) 0 (fun i => if i < k then (a 3) i else a 0 i), va_up f 11 0)) := by
    intro j
    induction j with
    | zero =>
      intro k hk
      refine g_iload_n (i := 1) dX10_restore_20 rfl rfl ?_
      refine g_sipush (v := 202) dX10_restore_21 (by decide) ?_
      refine g_icmp_ge (tgt := 45) dX10_restore_24 (by decide) (fun c24 => ?_) (fun c24 => ?_)
      · refine Go.heap (mo_a0 (a := a) (f := va_up f 11 0) (x := (fun i => if i < k then (a 3) i else a 0 i))).symm ?_
        refine Go.arr (f' := a 3) (fun i hi => if_pos (by omega)) ?_
        refine Go.heap (mo_a0 (a := a) (f := va_up f 11 0)) ?_
        refine g_aload_n (i := 0) dX10_restore_45 rfl rfl ?_
        refine g_iconst (v := 0) dX10_restore_46 (by decide) ?_
        refine g_putf dX10_restore_47 K_X10 (k := 6) fl_X10_80 (Nat.le_of_ble_eq_true rfl) rfl mo_30 (Nat.le_of_ble_eq_true rfl) rfl rfl (Go.heap (mo_f6) ?_)
        refine g_aload_n (i := 0) dX10_restore_50 rfl rfl ?_
        refine g_getf dX10_restore_51 K_X10 (k := 0) fl_X10_9 (Nat.le_of_ble_eq_true rfl) mo_30 rfl ?_
        refine g_sipush (v := 200) dX10_restore_54 (by decide) ?_
        refine g_iald dX10_restore_57 mo_31 (ix_nI (j := 200) (by decide)) (by decide) ?_
        refine g_iret dX10_restore_58 rfl rfl ?_
        exact ⟨rfl, rfl⟩
      · exact absurd ((le_nI (a := 202) (b := k) rfl (by omega) (by omega)).mpr (by omega)) c24
    | succ j ih =>
      intro k hk
      refine g_iload_n (i := 1) dX10_restore_20 rfl rfl ?_
      refine g_sipush (v := 202) dX10_restore_21 (by decide) ?_
      refine g_icmp_ge (tgt := 45) dX10_restore_24 (by decide) (fun c24 => ?_) (fun c24 => ?_)
      · exact absurd ((le_nI (a := 202) (b := k) rfl (by omega) (by omega)).mp c24) (by omega)
      · refine g_aload_n (i := 0) dX10_restore_27 rfl rfl ?_
        refine g_getf dX10_restore_28 K_X10 (k := 0) fl_X10_9 (Nat.le_of_ble_eq_true rfl) mo_30 rfl ?_
        refine g_iload_n (i := 1) dX10_restore_31 rfl rfl ?_
        refine g_aload_n (i := 0) dX10_restore_32 rfl rfl ?_
        refine g_getf dX10_restore_33 K_X10 (k := 3) fl_X10_19 (Nat.le_of_ble_eq_true rfl) mo_30 rfl ?_
        refine g_iload_n (i := 1) dX10_restore_36 rfl rfl ?_
        refine g_iald dX10_restore_37 mo_34 (ix_nI (j := k) (by omega)) (by omega) ?_
        refine g_iast dX10_restore_38 mo_31 (ix_nI (j := k) (by omega)) (by omega) rfl (Go.heap mo_a0 ?_)
        refine g_iinc (w := 1) dX10_restore_39 (by decide) rfl (nI_succ k).symm (Nat.le_of_ble_eq_true rfl) ?_
        refine g_goto (tgt := 20) dX10_restore_42 (by decide) ?_
        refine Go.heap (h' := (mo h A (va_up (a) 0 (fun i => if i < (k + 1) then (a 3) i else a 0 i), va_up f 11 0))) (by rw [va_up2, va_up_self, va_up_ne _ _ (show (3 : Nat) ≠ 0 by decide), cpS]) ?_
        exact ih (k + 1) (by omega)
  refine g_aload_n (i := 0) dX10_restore_0 rfl rfl ?_
  refine g_iconst (v := 0) dX10_restore_1 (by decide) ?_
  refine g_putf dX10_restore_2 K_X10 (k := 11) fl_X10_67 (Nat.le_of_ble_eq_true rfl) rfl mo_30 (Nat.le_of_ble_eq_true rfl) rfl rfl (Go.heap (mo_f11) ?_)
  refine g_aload_n (i := 0) dX10_restore_5 rfl rfl ?_
  refine g_getf dX10_restore_6 K_X10 (k := 4) fl_X10_276 (Nat.le_of_ble_eq_true rfl) mo_30 rfl ?_
  refine g_if_ne (tgt := 18) dX10_restore_9 (by decide) (fun c9 => ?_) (fun c9 => ?_)
  · refine g_iconst (v := 0) dX10_restore_18 (by decide) ?_
    refine g_istore_n (i := 1) dX10_restore_19 rfl (Nat.le_of_ble_eq_true rfl) ?_
    refine Go.heap (h' := (mo h A (va_up (a) 0 (fun i => if i < 0 then (a 3) i else a 0 i), va_up f 11 0))) ?_ (loop 202 0 rfl)
    congr 2; exact (va_self (a) 0).symm
  · exact absurd c9 hs

set_option maxRecDepth 100000 in
theorem ev_mRestore_no {l : Launch} {G : GG} (hl : l.stackTraces = false) {A : AD} {h : AH} {a : Nat → Nat → Int32} {f : Nat → Int32} (hs : f 4 = 0) :
    Ev l G 11 0 0 mX10_restore [.ref (A 30 0)] (mo h A (a, f)) (Rt (some (.int (-1))) (mo h A (a, va_up f 11 1))) := by
  refine Ev.of hl (by decide) (Nat.le_of_ble_eq_true rfl) ?_
  refine g_aload_n (i := 0) dX10_restore_0 rfl rfl ?_
  refine g_iconst (v := 0) dX10_restore_1 (by decide) ?_
  refine g_putf dX10_restore_2 K_X10 (k := 11) fl_X10_67 (Nat.le_of_ble_eq_true rfl) rfl mo_30 (Nat.le_of_ble_eq_true rfl) rfl rfl (Go.heap (mo_f11) ?_)
  refine g_aload_n (i := 0) dX10_restore_5 rfl rfl ?_
  refine g_getf dX10_restore_6 K_X10 (k := 4) fl_X10_276 (Nat.le_of_ble_eq_true rfl) mo_30 rfl ?_
  refine g_if_ne (tgt := 18) dX10_restore_9 (by decide) (fun c9 => ?_) (fun c9 => ?_)
  · exact absurd hs c9
  · refine g_aload_n (i := 0) dX10_restore_12 rfl rfl ?_
    refine g_iconst (v := 1) dX10_restore_13 (by decide) ?_
    refine g_callV (ev_throwing hl (x := 1)) dX10_restore_14 ml_X10_76 cvX10_throwing K_X10 rfl mo_30 rfl rfl (Nat.le_of_ble_eq_true rfl) (Nat.le_of_ble_eq_true rfl) (Nat.zero_le _) (Nat.zero_le _) (kr_rt ?_) kx_rt
    refine g_iret dX10_restore_17 rfl rfl ?_
    exact ⟨rfl, by rw [va_up2]⟩

set_option maxRecDepth 100000 in
theorem ev_mUndo {l : Launch} {G : GG} (hl : l.stackTraces = false) {A : AD} {h : AH} {a : Nat → Nat → Int32} {f : Nat → Int32} {ch : Nat} (h6 : f 6 = nI (ch + 1)) (hch : ch < 8) :
    Ev l G 11 0 0 mX10_undo [.ref (A 30 0)] (mo h A (a, f)) (Rt (some (.int (nI ch))) (mo h A (va_up a 0 (fun i => a 4 (202 * ch + i)), va_up (va_up f 11 0) 6 (nI ch)))) := by
  refine Ev.of hl (by decide) (Nat.le_of_ble_eq_true rfl) ?_
  have loop : ∀ (j : Nat) (k : Nat), k + j = 202 → Go l G mX10_undo 11 0 0 (Rt (some (.int (nI ch))) (mo h A (va_up a 0 (fun i => a 4 (202 * ch + i)), va_up (va_up f 11 0) 6 (nI ch)))) 30 [some (.ref (A 30 0)), some (.int (nI k))] [] (mo h A (va_up (a) 0 (fun i => if i < k then (fun i => a 4 (202 * ch + i)) i else a 0 i), va_up (va_up f 11 0) 6 (nI ch))) := by
    intro j
    induction j with
    | zero =>
      intro k hk
      refine g_iload_n (i := 1) dX10_undo_30 rfl rfl ?_
      refine g_sipush (v := 202) dX10_undo_31 (by decide) ?_
      refine g_icmp_ge (tgt := 64) dX10_undo_34 (by decide) (fun c34 => ?_) (fun c34 => ?_)
      · refine Go.heap (mo_a0 (a := a) (f := va_up (va_up f 11 0) 6 (nI ch)) (x := (fun i => if i < k then (fun i => a 4 (202 * ch + i)) i else a 0 i))).symm ?_
        refine Go.arr (f' := fun i => a 4 (202 * ch + i)) (fun i hi => if_pos (by omega)) ?_
        refine Go.heap (mo_a0 (a := a) (f := va_up (va_up f 11 0) 6 (nI ch))) ?_
        refine g_aload_n (i := 0) dX10_undo_64 rfl rfl ?_
        refine g_getf dX10_undo_65 K_X10 (k := 6) fl_X10_80 (Nat.le_of_ble_eq_true rfl) mo_30 rfl ?_
        refine g_iret dX10_undo_68 rfl rfl ?_
        exact ⟨rfl, rfl⟩
      · exact absurd ((le_nI (a := 202) (b := k) rfl (by omega) (by omega)).mpr (by omega)) c34
    | succ j ih =>
      intro k hk
      refine g_iload_n (i := 1) dX10_undo_30 rfl rfl ?_
      refine g_sipush (v := 202) dX10_undo_31 (by decide) ?_
      refine g_icmp_ge (tgt := 64) dX10_undo_34 (by decide) (fun c34 => ?_) (fun c34 => ?_)
      · exact absurd ((le_nI (a := 202) (b := k) rfl (by omega) (by omega)).mp c34) (by omega)
      · refine g_aload_n (i := 0) dX10_undo_37 rfl rfl ?_
        refine g_getf dX10_undo_38 K_X10 (k := 0) fl_X10_9 (Nat.le_of_ble_eq_true rfl) mo_30 rfl ?_
        refine g_iload_n (i := 1) dX10_undo_41 rfl rfl ?_
        refine g_aload_n (i := 0) dX10_undo_42 rfl rfl ?_
        refine g_getf dX10_undo_43 K_X10 (k := 5) fl_X10_22 (Nat.le_of_ble_eq_true rfl) mo_30 rfl ?_
        refine g_sipush (v := 202) dX10_undo_46 (by decide) ?_
        refine g_aload_n (i := 0) dX10_undo_49 rfl rfl ?_
        refine g_getf dX10_undo_50 K_X10 (k := 6) fl_X10_80 (Nat.le_of_ble_eq_true rfl) mo_30 rfl ?_
        refine g_imul dX10_undo_53 ?_
        refine g_iload_n (i := 1) dX10_undo_54 rfl rfl ?_
        refine g_iadd dX10_undo_55 ?_
        rw [show va_up (va_up f 11 0) 6 (nI ch) 6 = nI ch from va_up_self _ _ _, mul202, nI_add]
        refine g_iald dX10_undo_56 mo_35 (ix_nI (j := 202 * ch + k) (by omega)) (by omega) ?_
        refine g_iast dX10_undo_57 mo_31 (ix_nI (j := k) (by omega)) (by omega) rfl (Go.heap mo_a0 ?_)
        refine g_iinc (w := 1) dX10_undo_58 (by decide) rfl (nI_succ k).symm (Nat.le_of_ble_eq_true rfl) ?_
        refine g_goto (tgt := 30) dX10_undo_61 (by decide) ?_
        refine Go.heap (h' := (mo h A (va_up (a) 0 (fun i => if i < (k + 1) then (fun i => a 4 (202 * ch + i)) i else a 0 i), va_up (va_up f 11 0) 6 (nI ch)))) (by rw [va_up2, va_up_self, va_up_ne _ _ (show (4 : Nat) ≠ 0 by decide), cpS (b := fun i => a 4 (202 * ch + i))]) ?_
        exact ih (k + 1) (by omega)
  refine g_aload_n (i := 0) dX10_undo_0 rfl rfl ?_
  refine g_iconst (v := 0) dX10_undo_1 (by decide) ?_
  refine g_putf dX10_undo_2 K_X10 (k := 11) fl_X10_67 (Nat.le_of_ble_eq_true rfl) rfl mo_30 (Nat.le_of_ble_eq_true rfl) rfl rfl (Go.heap (mo_f11) ?_)
  refine g_aload_n (i := 0) dX10_undo_5 rfl rfl ?_
  refine g_getf dX10_undo_6 K_X10 (k := 6) fl_X10_80 (Nat.le_of_ble_eq_true rfl) mo_30 rfl ?_
  refine g_if_ne (tgt := 18) dX10_undo_9 (by decide) (fun c9 => ?_) (fun c9 => ?_)
  · refine g_aload_n (i := 0) dX10_undo_18 rfl rfl ?_
    refine g_dup dX10_undo_19 rfl ?_
    refine g_getf dX10_undo_20 K_X10 (k := 6) fl_X10_80 (Nat.le_of_ble_eq_true rfl) mo_30 rfl ?_
    refine g_iconst (v := 1) dX10_undo_23 (by decide) ?_
    refine g_isub dX10_undo_24 ?_
    rw [show va_up f 11 0 6 = nI (ch + 1) from h6, nI_m]
    refine g_putf dX10_undo_25 K_X10 (k := 6) fl_X10_80 (Nat.le_of_ble_eq_true rfl) rfl mo_30 (Nat.le_of_ble_eq_true rfl) rfl rfl (Go.heap (mo_f6) ?_)
    refine g_iconst (v := 0) dX10_undo_28 (by decide) ?_
    refine g_istore_n (i := 1) dX10_undo_29 rfl (Nat.le_of_ble_eq_true rfl) ?_
    refine Go.heap (h' := (mo h A (va_up (a) 0 (fun i => if i < 0 then (fun i => a 4 (202 * ch + i)) i else a 0 i), va_up (va_up f 11 0) 6 (nI ch)))) ?_ (loop 202 0 rfl)
    congr 2; exact (va_self (a) 0).symm
  · exact absurd ((nI_inj (a := ch + 1) (b := 0) (by omega) (by omega)).mp (h6.symm.trans c9)) (by omega)

set_option maxRecDepth 100000 in
theorem ev_mUndo_no {l : Launch} {G : GG} (hl : l.stackTraces = false) {A : AD} {h : AH} {a : Nat → Nat → Int32} {f : Nat → Int32} (h6 : f 6 = 0) :
    Ev l G 11 0 0 mX10_undo [.ref (A 30 0)] (mo h A (a, f)) (Rt (some (.int (-1))) (mo h A (a, va_up f 11 1))) := by
  refine Ev.of hl (by decide) (Nat.le_of_ble_eq_true rfl) ?_
  refine g_aload_n (i := 0) dX10_undo_0 rfl rfl ?_
  refine g_iconst (v := 0) dX10_undo_1 (by decide) ?_
  refine g_putf dX10_undo_2 K_X10 (k := 11) fl_X10_67 (Nat.le_of_ble_eq_true rfl) rfl mo_30 (Nat.le_of_ble_eq_true rfl) rfl rfl (Go.heap (mo_f11) ?_)
  refine g_aload_n (i := 0) dX10_undo_5 rfl rfl ?_
  refine g_getf dX10_undo_6 K_X10 (k := 6) fl_X10_80 (Nat.le_of_ble_eq_true rfl) mo_30 rfl ?_
  refine g_if_ne (tgt := 18) dX10_undo_9 (by decide) (fun c9 => ?_) (fun c9 => ?_)
  · exact absurd h6 c9
  · refine g_aload_n (i := 0) dX10_undo_12 rfl rfl ?_
    refine g_iconst (v := 1) dX10_undo_13 (by decide) ?_
    refine g_callV (ev_throwing hl (x := 1)) dX10_undo_14 ml_X10_76 cvX10_throwing K_X10 rfl mo_30 rfl rfl (Nat.le_of_ble_eq_true rfl) (Nat.le_of_ble_eq_true rfl) (Nat.zero_le _) (Nat.zero_le _) (kr_rt ?_) kx_rt
    refine g_iret dX10_undo_17 rfl rfl ?_
    exact ⟨rfl, by rw [va_up2]⟩

set_option maxRecDepth 100000 in
theorem ev_mAppend {l : Launch} {G : GG} (hl : l.stackTraces = false) {A : AD} {h : AH} {a : Nat → Nat → Int32} {f : Nat → Int32} {n : Nat} (h13 : f 13 = nI n) (hn : n < 60) {x : Int32} (hx : 32 ≤ x ∧ x ≤ 126) :
    Ev l G 11 0 0 mX10_append [.ref (A 30 0), .int x] (mo h A (a, f)) (Rt (some (.int (nI (n + 1)))) (mo h A (va_up a 5 (va_up (a 5) n x), va_up (va_up f 11 0) 13 (nI (n + 1))))) := by
  refine Ev.of hl (by decide) (Nat.le_of_ble_eq_true rfl) ?_
  refine g_aload_n (i := 0) dX10_append_0 rfl rfl ?_
  refine g_iconst (v := 0) dX10_append_1 (by decide) ?_
  refine g_putf dX10_append_2 K_X10 (k := 11) fl_X10_67 (Nat.le_of_ble_eq_true rfl) rfl mo_30 (Nat.le_of_ble_eq_true rfl) rfl rfl (Go.heap (mo_f11) ?_)
  refine g_iload_n (i := 1) dX10_append_5 rfl rfl ?_
  refine g_i2l dX10_append_6 ?_
  refine g_ldc2 dX10_append_7 co_X10_207 ?_
  refine g_ldc2 dX10_append_10 co_X10_209 ?_
  refine g_callS (ev_in hl (lo := 32) (hi := 126) (by decide) (by decide)) dX10_append_13 ml_X10_85 csX10_in rfl rfl (Nat.le_of_ble_eq_true rfl) (Nat.le_of_ble_eq_true rfl) (Nat.zero_le _) (Nat.zero_le _) (kr_rt ?_) kx_rt
  refine g_if_ne (tgt := 25) dX10_append_16 (by decide) (fun c16 => ?_) (fun c16 => ?_)
  · refine g_aload_n (i := 0) dX10_append_25 rfl rfl ?_
    refine g_getf dX10_append_26 K_X10 (k := 13) fl_X10_211 (Nat.le_of_ble_eq_true rfl) mo_30 rfl ?_
    refine g_bipush (v := 60) dX10_append_29 (by decide) ?_
    refine g_icmp_ne (tgt := 40) dX10_append_31 (by decide) (fun c31 => ?_) (fun c31 => ?_)
    · refine g_aload_n (i := 0) dX10_append_40 rfl rfl ?_
      refine g_getf dX10_append_41 K_X10 (k := 12) fl_X10_32 (Nat.le_of_ble_eq_true rfl) mo_30 rfl ?_
      refine g_aload_n (i := 0) dX10_append_44 rfl rfl ?_
      refine g_getf dX10_append_45 K_X10 (k := 13) fl_X10_211 (Nat.le_of_ble_eq_true rfl) mo_30 rfl ?_
      refine g_iload_n (i := 1) dX10_append_48 rfl rfl ?_
      refine g_iast dX10_append_49 mo_36 (show ix (va_up f 11 0 13) n by rw [show va_up f 11 0 13 = nI n from h13]; exact ix_nI (by omega)) hn rfl (Go.heap mo_a5 ?_)
      refine g_aload_n (i := 0) dX10_append_50 rfl rfl ?_
      refine g_dup dX10_append_51 rfl ?_
      refine g_getf dX10_append_52 K_X10 (k := 13) fl_X10_211 (Nat.le_of_ble_eq_true rfl) mo_30 rfl ?_
      refine g_iconst (v := 1) dX10_append_55 (by decide) ?_
      refine g_iadd dX10_append_56 ?_
      rw [show va_up f 11 0 13 = nI n from h13, ← nI_succ]
      refine g_putf dX10_append_57 K_X10 (k := 13) fl_X10_211 (Nat.le_of_ble_eq_true rfl) rfl mo_30 (Nat.le_of_ble_eq_true rfl) rfl rfl (Go.heap (mo_f13) ?_)
      refine g_aload_n (i := 0) dX10_append_60 rfl rfl ?_
      refine g_getf dX10_append_61 K_X10 (k := 13) fl_X10_211 (Nat.le_of_ble_eq_true rfl) mo_30 rfl ?_
      refine g_iret dX10_append_64 rfl rfl ?_
      exact ⟨rfl, rfl⟩
    · exact absurd ((nI_inj (a := n) (b := 60) (by omega) (by omega)).mp (h13.symm.trans c31)) (by omega)
  · exact absurd c16 (by rw [if_pos hx]; decide)

set_option maxRecDepth 100000 in
theorem ev_mAppend_no1 {l : Launch} {G : GG} (hl : l.stackTraces = false) {A : AD} {h : AH} {a : Nat → Nat → Int32} {f : Nat → Int32} {x : Int32} (hx : ¬ (32 ≤ x ∧ x ≤ 126)) :
    Ev l G 11 0 0 mX10_append [.ref (A 30 0), .int x] (mo h A (a, f)) (Rt (some (.int (-1))) (mo h A (a, va_up f 11 1))) := by
  refine Ev.of hl (by decide) (Nat.le_of_ble_eq_true rfl) ?_
  refine g_aload_n (i := 0) dX10_append_0 rfl rfl ?_
  refine g_iconst (v := 0) dX10_append_1 (by decide) ?_
  refine g_putf dX10_append_2 K_X10 (k := 11) fl_X10_67 (Nat.le_of_ble_eq_true rfl) rfl mo_30 (Nat.le_of_ble_eq_true rfl) rfl rfl (Go.heap (mo_f11) ?_)
  refine g_iload_n (i := 1) dX10_append_5 rfl rfl ?_
  refine g_i2l dX10_append_6 ?_
  refine g_ldc2 dX10_append_7 co_X10_207 ?_
  refine g_ldc2 dX10_append_10 co_X10_209 ?_
  refine g_callS (ev_in hl (lo := 32) (hi := 126) (by decide) (by decide)) dX10_append_13 ml_X10_85 csX10_in rfl rfl (Nat.le_of_ble_eq_true rfl) (Nat.le_of_ble_eq_true rfl) (Nat.zero_le _) (Nat.zero_le _) (kr_rt ?_) kx_rt
  refine g_if_ne (tgt := 25) dX10_append_16 (by decide) (fun c16 => ?_) (fun c16 => ?_)
  · exact absurd (if_neg hx) c16
  · refine g_aload_n (i := 0) dX10_append_19 rfl rfl ?_
    refine g_iconst (v := 1) dX10_append_20 (by decide) ?_
    refine g_callV (ev_throwing hl (x := 1)) dX10_append_21 ml_X10_76 cvX10_throwing K_X10 rfl mo_30 rfl rfl (Nat.le_of_ble_eq_true rfl) (Nat.le_of_ble_eq_true rfl) (Nat.zero_le _) (Nat.zero_le _) (kr_rt ?_) kx_rt
    refine g_iret dX10_append_24 rfl rfl ?_
    exact ⟨rfl, by rw [va_up2]⟩

set_option maxRecDepth 100000 in
theorem ev_mAppend_no2 {l : Launch} {G : GG} (hl : l.stackTraces = false) {A : AD} {h : AH} {a : Nat → Nat → Int32} {f : Nat → Int32} (h13 : f 13 = 60) {x : Int32} (hx : 32 ≤ x ∧ x ≤ 126) :
    Ev l G 11 0 0 mX10_append [.ref (A 30 0), .int x] (mo h A (a, f)) (Rt (some (.int (-1))) (mo h A (a, va_up f 11 2))) := by
  refine Ev.of hl (by decide) (Nat.le_of_ble_eq_true rfl) ?_
  refine g_aload_n (i := 0) dX10_append_0 rfl rfl ?_
  refine g_iconst (v := 0) dX10_append_1 (by decide) ?_
  refine g_putf dX10_append_2 K_X10 (k := 11) fl_X10_67 (Nat.le_of_ble_eq_true rfl) rfl mo_30 (Nat.le_of_ble_eq_true rfl) rfl rfl (Go.heap (mo_f11) ?_)
  refine g_iload_n (i := 1) dX10_append_5 rfl rfl ?_
  refine g_i2l dX10_append_6 ?_
  refine g_ldc2 dX10_append_7 co_X10_207 ?_
  refine g_ldc2 dX10_append_10 co_X10_209 ?_
  refine g_callS (ev_in hl (lo := 32) (hi := 126) (by decide) (by decide)) dX10_append_13 ml_X10_85 csX10_in rfl rfl (Nat.le_of_ble_eq_true rfl) (Nat.le_of_ble_eq_true rfl) (Nat.zero_le _) (Nat.zero_le _) (kr_rt ?_) kx_rt
  refine g_if_ne (tgt := 25) dX10_append_16 (by decide) (fun c16 => ?_) (fun c16 => ?_)
  · refine g_aload_n (i := 0) dX10_append_25 rfl rfl ?_
    refine g_getf dX10_append_26 K_X10 (k := 13) fl_X10_211 (Nat.le_of_ble_eq_true rfl) mo_30 rfl ?_
    refine g_bipush (v := 60) dX10_append_29 (by decide) ?_
    refine g_icmp_ne (tgt := 40) dX10_append_31 (by decide) (fun c31 => ?_) (fun c31 => ?_)
    · exact absurd h13 c31
    · refine g_aload_n (i := 0) dX10_append_34 rfl rfl ?_
      refine g_iconst (v := 2) dX10_append_35 (by decide) ?_
      refine g_callV (ev_throwing hl (x := 2)) dX10_append_36 ml_X10_76 cvX10_throwing K_X10 rfl mo_30 rfl rfl (Nat.le_of_ble_eq_true rfl) (Nat.le_of_ble_eq_true rfl) (Nat.zero_le _) (Nat.zero_le _) (kr_rt ?_) kx_rt
      refine g_iret dX10_append_39 rfl rfl ?_
      exact ⟨rfl, by rw [va_up2]⟩
  · exact absurd c16 (by rw [if_pos hx]; decide)

set_option maxRecDepth 100000 in
theorem ev_sign {l : Launch} {G : GG} (hl : l.stackTraces = false) {A : AD} {h : AH} {a : Nat → Nat → Int32} {f : Nat → Int32} {n : Nat} (h29 : f 29 = nI n) (hn : n < 80) {x : Int32} :
    Ev l G 10 0 0 mX10_sign [.ref (A 30 0), .int x] (mo h A (a, f)) (Rt none (mo h A (va_up a 15 (va_up (a 15) n x), va_up f 29 (nI (n + 1))))) := by
  refine Ev.of hl (by decide) (Nat.le_of_ble_eq_true rfl) ?_
  refine g_aload_n (i := 0) dX10_sign_0 rfl rfl ?_
  refine g_getf dX10_sign_1 K_X10 (k := 28) fl_X10_64 (Nat.le_of_ble_eq_true rfl) mo_30 rfl ?_
  refine g_aload_n (i := 0) dX10_sign_4 rfl rfl ?_
  refine g_getf dX10_sign_5 K_X10 (k := 29) fl_X10_263 (Nat.le_of_ble_eq_true rfl) mo_30 rfl ?_
  refine g_iload_n (i := 1) dX10_sign_8 rfl rfl ?_
  refine g_iast dX10_sign_9 mo_46 (by rw [h29]; exact ix_nI (by omega)) hn rfl (Go.heap mo_a15 ?_)
  refine g_aload_n (i := 0) dX10_sign_10 rfl rfl ?_
  refine g_dup dX10_sign_11 rfl ?_
  refine g_getf dX10_sign_12 K_X10 (k := 29) fl_X10_263 (Nat.le_of_ble_eq_true rfl) mo_30 rfl ?_
  refine g_iconst (v := 1) dX10_sign_15 (by decide) ?_
  refine g_iadd dX10_sign_16 ?_
  rw [h29, ← nI_succ]
  refine g_putf dX10_sign_17 K_X10 (k := 29) fl_X10_263 (Nat.le_of_ble_eq_true rfl) rfl mo_30 (Nat.le_of_ble_eq_true rfl) rfl rfl (Go.heap (mo_f29) ?_)
  refine g_vret dX10_sign_20 rfl ?_
  exact ⟨rfl, rfl⟩

