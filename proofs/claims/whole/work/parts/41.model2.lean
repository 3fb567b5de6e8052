/-! Model: changes (by wip/whole/gen/m31.py). -/
/-- what has been, shifted if it is full -/
def shN (past : Nat → Int32) (k : Nat) : Nat → Int32 := fun i => if i < k then past (i + 202) else past i
def psN (past aside : Nat → Int32) (ch k : Nat) : Nat → Int32 := fun i => if 202 * ch ≤ i ∧ i < 202 * ch + k then aside (i - 202 * ch) else past i
def ppN (past aside : Nat → Int32) (ch : Nat) : Nat → Int32 := if ch = 8 then psN (shN past 1414) aside 7 202 else psN past aside ch 202
theorem shN_0 {p : Nat → Int32} : shN p 0 = p := by funext i; simp [shN]
theorem shN_s {p : Nat → Int32} {k : Nat} : va_up (shN p k) k (shN p k (k + 202)) = shN p (k + 1) := by
  funext i
  unfold va_up shN
  by_cases e : i = k
  · subst e; simp; intro h; omega
  · by_cases e2 : i < k
    · simp [e, e2, Nat.lt_succ_of_lt e2]
    · simp [e, e2, show ¬ i < k + 1 by omega]
theorem psN_0 {p q : Nat → Int32} {ch : Nat} : psN p q ch 0 = p := by
  funext i
  unfold psN
  exact if_neg (by omega)
theorem psN_s {p q : Nat → Int32} {ch k : Nat} : va_up (psN p q ch k) (202 * ch + k) (q k) = psN p q ch (k + 1) := by
  funext i
  unfold va_up psN
  by_cases e : i = 202 * ch + k
  · subst e
    rw [if_pos rfl, if_pos ⟨by omega, by omega⟩]
    congr 1
    omega
  · rw [if_neg e]
    by_cases e2 : 202 * ch ≤ i ∧ i < 202 * ch + k
    · rw [if_pos e2, if_pos ⟨e2.1, by omega⟩]
    · rw [if_neg e2, if_neg (by omega)]
theorem mul202 (k : Nat) : 202 * nI k = nI (202 * k) := by
  rw [show (202 : Int32) * nI k = nI (202 * k) from (Int32.ofNat_mul 202 k).symm]
theorem ixB {k b : Nat} {B : Int32} (hB : B = nI b) (h : k + b < 2 ^ 31) : ix (nI k + B) (k + b) := by
  rw [hB, nI_add]
  exact ix_nI h

set_option maxRecDepth 100000 in
theorem ev_changed_t {l : Launch} {G : GG} (hl : l.stackTraces = false) {A : AD} {h : AH} {a : Nat → Nat → Int32} {f : Nat → Int32} {x : Int32} (ht : 0 < f 11) :
    Ev l G 10 0 0 mX10_changed [.ref (A 30 0), .int x] (mo h A (a, f)) (Rt (some (.int (x))) (mo h A (a, f))) := by
  refine Ev.of hl (by decide) (Nat.le_of_ble_eq_true rfl) ?_
  refine g_aload_n (i := 0) dX10_changed_0 rfl rfl ?_
  refine g_getf dX10_changed_1 K_X10 (k := 11) fl_X10_67 (Nat.le_of_ble_eq_true rfl) mo_30 rfl ?_
  refine g_if_le (tgt := 9) dX10_changed_4 (by decide) (fun c4 => ?_) (fun c4 => ?_)
  · exact absurd c4 (nlt' ht)
  · refine g_iload_n (i := 1) dX10_changed_7 rfl rfl ?_
    refine g_iret dX10_changed_8 rfl rfl ?_
    exact ⟨rfl, rfl⟩

set_option maxRecDepth 100000 in
theorem chg_loop {l : Launch} {G : GG} (hl : l.stackTraces = false) {A : AD} {h : AH} {a : Nat → Nat → Int32} {f : Nat → Int32} {x : Int32} {ch : Nat} (h6 : f 6 = nI ch) (hch : ch < 8) : ∀ (j : Nat) (k : Nat), k + j = 202 → Go l G mX10_changed 10 0 0 (Rt (some (.int x)) (mo h A (va_up a 4 (psN (a 4) (a 1) ch 202), va_up f 6 (nI (ch + 1))))) 61 [some (.ref (A 30 0)), some (.int x), some (.int (nI k))] [] (mo h A (va_up a 4 (psN (a 4) (a 1) ch k), f)) := by
  have loop : ∀ (j : Nat) (k : Nat), k + j = 202 → Go l G mX10_changed 10 0 0 (Rt (some (.int x)) (mo h A (va_up a 4 (psN (a 4) (a 1) ch 202), va_up f 6 (nI (ch + 1))))) 61 [some (.ref (A 30 0)), some (.int x), some (.int (nI k))] [] (mo h A (va_up a 4 (psN (a 4) (a 1) ch k), f)) := by
    intro j
    induction j with
    | zero =>
      intro k hk
      refine g_iload_n (i := 2) dX10_changed_61 rfl rfl ?_
      refine g_sipush (v := 202) dX10_changed_62 (by decide) ?_
      refine g_icmp_ge (tgt := 95) dX10_changed_65 (by decide) (fun c65 => ?_) (fun c65 => ?_)
      · obtain rfl : k = 202 := by omega
        refine g_aload_n (i := 0) dX10_changed_95 rfl rfl ?_
        refine g_dup dX10_changed_96 rfl ?_
        refine g_getf dX10_changed_97 K_X10 (k := 6) fl_X10_80 (Nat.le_of_ble_eq_true rfl) mo_30 rfl ?_
        refine g_iconst (v := 1) dX10_changed_100 (by decide) ?_
        refine g_iadd dX10_changed_101 ?_
        rw [h6, ← nI_succ]
        refine g_putf dX10_changed_102 K_X10 (k := 6) fl_X10_80 (Nat.le_of_ble_eq_true rfl) rfl mo_30 (Nat.le_of_ble_eq_true rfl) rfl rfl (Go.heap (mo_f6) ?_)
        refine g_iload_n (i := 1) dX10_changed_105 rfl rfl ?_
        refine g_iret dX10_changed_106 rfl rfl ?_
        exact ⟨rfl, rfl⟩
      · exact absurd ((le_nI (a := 202) (b := k) rfl (by omega) (by omega)).mpr (by omega)) c65
    | succ j ih =>
      intro k hk
      refine g_iload_n (i := 2) dX10_changed_61 rfl rfl ?_
      refine g_sipush (v := 202) dX10_changed_62 (by decide) ?_
      refine g_icmp_ge (tgt := 95) dX10_changed_65 (by decide) (fun c65 => ?_) (fun c65 => ?_)
      · exact absurd ((le_nI (a := 202) (b := k) rfl (by omega) (by omega)).mp c65) (by omega)
      · refine g_aload_n (i := 0) dX10_changed_68 rfl rfl ?_
        refine g_getf dX10_changed_69 K_X10 (k := 5) fl_X10_22 (Nat.le_of_ble_eq_true rfl) mo_30 rfl ?_
        refine g_sipush (v := 202) dX10_changed_72 (by decide) ?_
        refine g_aload_n (i := 0) dX10_changed_75 rfl rfl ?_
        refine g_getf dX10_changed_76 K_X10 (k := 6) fl_X10_80 (Nat.le_of_ble_eq_true rfl) mo_30 rfl ?_
        refine g_imul dX10_changed_79 ?_
        refine g_iload_n (i := 2) dX10_changed_80 rfl rfl ?_
        refine g_iadd dX10_changed_81 ?_
        rw [h6, mul202, nI_add]
        refine g_aload_n (i := 0) dX10_changed_82 rfl rfl ?_
        refine g_getf dX10_changed_83 K_X10 (k := 1) fl_X10_13 (Nat.le_of_ble_eq_true rfl) mo_30 rfl ?_
        refine g_iload_n (i := 2) dX10_changed_86 rfl rfl ?_
        refine g_iald dX10_changed_87 mo_32 (ix_nI (j := k) (by omega)) (by omega) ?_
        refine g_iast dX10_changed_88 mo_35 (ix_nI (j := 202 * ch + k) (by omega)) (by omega) rfl (Go.heap mo_a4 ?_)
        refine g_iinc (w := 1) dX10_changed_89 (by decide) rfl (nI_succ k).symm (Nat.le_of_ble_eq_true rfl) ?_
        refine g_goto (tgt := 61) dX10_changed_92 (by decide) ?_
        refine Go.heap (h' := (mo h A (va_up a 4 (psN (a 4) (a 1) ch (k + 1)), f))) (by rw [va_up2, va_up_self, va_up_ne _ _ (show (1 : Nat) ≠ 4 by decide), psN_s]) ?_
        exact ih (k + 1) (by omega)
  exact loop

set_option maxRecDepth 100000 in
theorem ev_changed_l {l : Launch} {G : GG} (hl : l.stackTraces = false) {A : AD} {h : AH} {a : Nat → Nat → Int32} {f : Nat → Int32} {x : Int32} {ch : Nat} (h6 : f 6 = nI ch) (ht : ¬ 0 < f 11) (hch : ch < 8) :
    Ev l G 10 0 0 mX10_changed [.ref (A 30 0), .int x] (mo h A (a, f)) (Rt (some (.int x)) (mo h A (va_up a 4 (psN (a 4) (a 1) ch 202), va_up f 6 (nI (ch + 1))))) := by
  refine Ev.of hl (by decide) (Nat.le_of_ble_eq_true rfl) ?_
  refine g_aload_n (i := 0) dX10_changed_0 rfl rfl ?_
  refine g_getf dX10_changed_1 K_X10 (k := 11) fl_X10_67 (Nat.le_of_ble_eq_true rfl) mo_30 rfl ?_
  refine g_if_le (tgt := 9) dX10_changed_4 (by decide) (fun c4 => ?_) (fun c4 => ?_)
  · refine g_aload_n (i := 0) dX10_changed_9 rfl rfl ?_
    refine g_getf dX10_changed_10 K_X10 (k := 6) fl_X10_80 (Nat.le_of_ble_eq_true rfl) mo_30 rfl ?_
    refine g_bipush (v := 8) dX10_changed_13 (by decide) ?_
    refine g_icmp_ne (tgt := 59) dX10_changed_15 (by decide) (fun c15 => ?_) (fun c15 => ?_)
    · refine g_iconst (v := 0) dX10_changed_59 (by decide) ?_
      refine g_istore_n (i := 2) dX10_changed_60 rfl (Nat.le_of_ble_eq_true rfl) ?_
      refine Go.heap (h' := (mo h A (va_up a 4 (psN (a 4) (a 1) ch 0), f))) (by rw [psN_0, va_self]) ?_
      exact chg_loop hl h6 (by omega) 202 0 rfl
    · exact absurd ((nI_inj (a := ch) (b := 8) (by omega) (by omega)).mp (h6.symm.trans c15)) (by omega)
  · exact absurd (ltn c4) ht

set_option maxRecDepth 100000 in
theorem ev_changed_8 {l : Launch} {G : GG} (hl : l.stackTraces = false) {A : AD} {h : AH} {a : Nat → Nat → Int32} {f : Nat → Int32} {x : Int32} (h6 : f 6 = nI 8) (ht : ¬ 0 < f 11) :
    Ev l G 10 0 0 mX10_changed [.ref (A 30 0), .int x] (mo h A (a, f)) (Rt (some (.int x)) (mo h A (va_up a 4 (psN (shN (a 4) 1414) (a 1) 7 202), va_up f 6 (nI 8)))) := by
  refine Ev.of hl (by decide) (Nat.le_of_ble_eq_true rfl) ?_
  have loop : ∀ (j : Nat) (k : Nat), k + j = 1414 → Go l G mX10_changed 10 0 0 (Rt (some (.int x)) (mo h A (va_up a 4 (psN (shN (a 4) 1414) (a 1) 7 202), va_up f 6 (nI 8)))) 20 [some (.ref (A 30 0)), some (.int x), some (.int (nI k))] [] (mo h A (va_up a 4 (shN (a 4) k), f)) := by
    intro j
    induction j with
    | zero =>
      intro k hk
      refine g_iload_n (i := 2) dX10_changed_20 rfl rfl ?_
      refine g_sipush (v := 1414) dX10_changed_21 (by decide) ?_
      refine g_icmp_ge (tgt := 49) dX10_changed_24 (by decide) (fun c24 => ?_) (fun c24 => ?_)
      · obtain rfl : k = 1414 := by omega
        refine g_aload_n (i := 0) dX10_changed_49 rfl rfl ?_
        refine g_dup dX10_changed_50 rfl ?_
        refine g_getf dX10_changed_51 K_X10 (k := 6) fl_X10_80 (Nat.le_of_ble_eq_true rfl) mo_30 rfl ?_
        refine g_iconst (v := 1) dX10_changed_54 (by decide) ?_
        refine g_isub dX10_changed_55 ?_
        rw [h6, show nI 8 - 1 = nI 7 from rfl]
        refine g_putf dX10_changed_56 K_X10 (k := 6) fl_X10_80 (Nat.le_of_ble_eq_true rfl) rfl mo_30 (Nat.le_of_ble_eq_true rfl) rfl rfl (Go.heap (mo_f6) ?_)
        refine g_iconst (v := 0) dX10_changed_59 (by decide) ?_
        refine g_istore_n (i := 2) dX10_changed_60 rfl (Nat.le_of_ble_eq_true rfl) ?_
        refine Go.heap (h' := (mo h A (va_up (va_up a 4 (shN (a 4) 1414)) 4 (psN ((va_up a 4 (shN (a 4) 1414)) 4) ((va_up a 4 (shN (a 4) 1414)) 1) 7 0), va_up f 6 (nI 7)))) (by rw [psN_0, va_up_self, va_up2]; rfl) ?_
        have z := chg_loop hl (G := G) (A := A) (h := h) (a := va_up a 4 (shN (a 4) 1414)) (f := va_up f 6 (nI 7)) (x := x) (ch := 7) (va_up_self _ _ _) (by decide) 202 0 rfl
        rw [va_up2, va_up2, va_up2, va_up_self, va_up_ne _ _ (show (1 : Nat) ≠ 4 by decide)] at z
        rw [va_up2, va_up_self, va_up_ne _ _ (show (1 : Nat) ≠ 4 by decide)]
        exact z
      · exact absurd ((le_nI (a := 1414) (b := k) rfl (by omega) (by omega)).mpr (by omega)) c24
    | succ j ih =>
      intro k hk
      refine g_iload_n (i := 2) dX10_changed_20 rfl rfl ?_
      refine g_sipush (v := 1414) dX10_changed_21 (by decide) ?_
      refine g_icmp_ge (tgt := 49) dX10_changed_24 (by decide) (fun c24 => ?_) (fun c24 => ?_)
      · exact absurd ((le_nI (a := 1414) (b := k) rfl (by omega) (by omega)).mp c24) (by omega)
      · refine g_aload_n (i := 0) dX10_changed_27 rfl rfl ?_
        refine g_getf dX10_changed_28 K_X10 (k := 5) fl_X10_22 (Nat.le_of_ble_eq_true rfl) mo_30 rfl ?_
        refine g_iload_n (i := 2) dX10_changed_31 rfl rfl ?_
        refine g_aload_n (i := 0) dX10_changed_32 rfl rfl ?_
        refine g_getf dX10_changed_33 K_X10 (k := 5) fl_X10_22 (Nat.le_of_ble_eq_true rfl) mo_30 rfl ?_
        refine g_iload_n (i := 2) dX10_changed_36 rfl rfl ?_
        refine g_sipush (v := 202) dX10_changed_37 (by decide) ?_
        refine g_iadd dX10_changed_40 ?_
        refine g_iald dX10_changed_41 mo_35 (ixB (k := k) (b := 202) rfl (by omega)) (by omega) ?_
        refine g_iast dX10_changed_42 mo_35 (ix_nI (j := k) (by omega)) (by omega) rfl (Go.heap mo_a4 ?_)
        refine g_iinc (w := 1) dX10_changed_43 (by decide) rfl (nI_succ k).symm (Nat.le_of_ble_eq_true rfl) ?_
        refine g_goto (tgt := 20) dX10_changed_46 (by decide) ?_
        refine Go.heap (h' := (mo h A (va_up a 4 (shN (a 4) (k + 1)), f))) (by rw [va_up2, va_up_self, shN_s]) ?_
        exact ih (k + 1) (by omega)
  refine g_aload_n (i := 0) dX10_changed_0 rfl rfl ?_
  refine g_getf dX10_changed_1 K_X10 (k := 11) fl_X10_67 (Nat.le_of_ble_eq_true rfl) mo_30 rfl ?_
  refine g_if_le (tgt := 9) dX10_changed_4 (by decide) (fun c4 => ?_) (fun c4 => ?_)
  · refine g_aload_n (i := 0) dX10_changed_9 rfl rfl ?_
    refine g_getf dX10_changed_10 K_X10 (k := 6) fl_X10_80 (Nat.le_of_ble_eq_true rfl) mo_30 rfl ?_
    refine g_bipush (v := 8) dX10_changed_13 (by decide) ?_
    refine g_icmp_ne (tgt := 59) dX10_changed_15 (by decide) (fun c15 => ?_) (fun c15 => ?_)
    · exact absurd h6 c15
    · refine g_iconst (v := 0) dX10_changed_18 (by decide) ?_
      refine g_istore_n (i := 2) dX10_changed_19 rfl (Nat.le_of_ble_eq_true rfl) ?_
      refine Go.heap (h' := (mo h A (va_up a 4 (shN (a 4) 0), f))) (by rw [shN_0, va_self]) ?_
      exact loop 1414 0 rfl
  · exact absurd (ltn c4) ht

theorem ev_changed {l : Launch} {G : GG} (hl : l.stackTraces = false) {A : AD} {h : AH} {a : Nat → Nat → Int32} {f : Nat → Int32} {x : Int32} {ch : Nat} (h6 : f 6 = nI ch) (ht : ¬ 0 < f 11) (hch : ch ≤ 8) :
    Ev l G 10 0 0 mX10_changed [.ref (A 30 0), .int x] (mo h A (a, f)) (Rt (some (.int x)) (mo h A (va_up a 4 (ppN (a 4) (a 1) ch), va_up f 6 (nI (min ch 7 + 1))))) := by
  by_cases e : ch = 8
  · subst e
    exact ev_changed_8 hl h6 ht
  · rw [ppN, if_neg e, show min ch 7 = ch by omega]
    exact ev_changed_l hl h6 ht (by omega)

set_option maxRecDepth 100000 in
theorem ev_groundIt_no1 {l : Launch} {G : GG} (hl : l.stackTraces = false) {A : AD} {h : AH} {a : Nat → Nat → Int32} {f : Nat → Int32} {x y z : Int32} (hc : ¬ cellB x y) :
    Ev l G 12 0 0 mX10_groundIt [.ref (A 30 0), .int x, .int y, .int z] (mo h A (a, f)) (Rt (some (.int (-1))) (mo h A (a, va_up f 11 1))) := by
  refine Ev.of hl (by decide) (Nat.le_of_ble_eq_true rfl) ?_
  refine g_iload_n (i := 1) dX10_groundIt_0 rfl rfl ?_
  refine g_iload_n (i := 2) dX10_groundIt_1 rfl rfl ?_
  refine g_callS (ev_mIsCell hl) dX10_groundIt_2 ml_X10_108 csX10_isCell rfl rfl (Nat.le_of_ble_eq_true rfl) (Nat.le_of_ble_eq_true rfl) (Nat.zero_le _) (Nat.zero_le _) (kr_rt ?_) kx_rt
  refine g_if_ne (tgt := 14) dX10_groundIt_5 (by decide) (fun c5 => ?_) (fun c5 => ?_)
  · exact absurd (if_neg hc) c5
  · refine g_aload_n (i := 0) dX10_groundIt_8 rfl rfl ?_
    refine g_iconst (v := 1) dX10_groundIt_9 (by decide) ?_
    refine g_callV (ev_throwing hl (x := 1)) dX10_groundIt_10 ml_X10_76 cvX10_throwing K_X10 rfl mo_30 rfl rfl (Nat.le_of_ble_eq_true rfl) (Nat.le_of_ble_eq_true rfl) (Nat.zero_le _) (Nat.zero_le _) (kr_rt ?_) kx_rt
    refine g_iret dX10_groundIt_13 rfl rfl ?_
    exact ⟨rfl, rfl⟩

set_option maxRecDepth 100000 in
theorem ev_groundIt_no2 {l : Launch} {G : GG} (hl : l.stackTraces = false) {A : AD} {h : AH} {a : Nat → Nat → Int32} {f : Nat → Int32} {x y z : Int32} (hc : cellB x y) (hg : ¬ groundP z) :
    Ev l G 12 0 0 mX10_groundIt [.ref (A 30 0), .int x, .int y, .int z] (mo h A (a, f)) (Rt (some (.int (-1))) (mo h A (a, va_up f 11 2))) := by
  refine Ev.of hl (by decide) (Nat.le_of_ble_eq_true rfl) ?_
  refine g_iload_n (i := 1) dX10_groundIt_0 rfl rfl ?_
  refine g_iload_n (i := 2) dX10_groundIt_1 rfl rfl ?_
  refine g_callS (ev_mIsCell hl) dX10_groundIt_2 ml_X10_108 csX10_isCell rfl rfl (Nat.le_of_ble_eq_true rfl) (Nat.le_of_ble_eq_true rfl) (Nat.zero_le _) (Nat.zero_le _) (kr_rt ?_) kx_rt
  refine g_if_ne (tgt := 14) dX10_groundIt_5 (by decide) (fun c5 => ?_) (fun c5 => ?_)
  · refine g_iload_n (i := 3) dX10_groundIt_14 rfl rfl ?_
    refine g_callS (ev_mIsGround hl) dX10_groundIt_15 ml_X10_112 csX10_isGround rfl rfl (Nat.le_of_ble_eq_true rfl) (Nat.le_of_ble_eq_true rfl) (Nat.zero_le _) (Nat.zero_le _) (kr_rt ?_) kx_rt
    refine g_if_ne (tgt := 27) dX10_groundIt_18 (by decide) (fun c18 => ?_) (fun c18 => ?_)
    · exact absurd (if_neg hg) c18
    · refine g_aload_n (i := 0) dX10_groundIt_21 rfl rfl ?_
      refine g_iconst (v := 2) dX10_groundIt_22 (by decide) ?_
      refine g_callV (ev_throwing hl (x := 2)) dX10_groundIt_23 ml_X10_76 cvX10_throwing K_X10 rfl mo_30 rfl rfl (Nat.le_of_ble_eq_true rfl) (Nat.le_of_ble_eq_true rfl) (Nat.zero_le _) (Nat.zero_le _) (kr_rt ?_) kx_rt
      refine g_iret dX10_groundIt_26 rfl rfl ?_
      exact ⟨rfl, rfl⟩
  · exact absurd c5 (by rw [if_pos hc]; decide)

set_option maxRecDepth 100000 in
theorem ev_groundIt_no3 {l : Launch} {G : GG} (hl : l.stackTraces = false) {A : AD} {h : AH} {a : Nat → Nat → Int32} {f : Nat → Int32} {i j : Nat} (hi : i < 8) (hj : j < 8) {z : Int32} (hg : groundP z) (h35 : z = 35) (hs : 0 < (a 0 (8 * j + i) + a 0 (64 + (8 * j + i)))) :
    Ev l G 12 0 0 mX10_groundIt [.ref (A 30 0), .int (nI i), .int (nI j), .int z] (mo h A (a, f)) (Rt (some (.int (-1))) (mo h A (a, va_up (va_up (va_up f 9 2) 10 (a 0 (8 * j + i) + a 0 (64 + (8 * j + i)))) 11 3))) := by
  refine Ev.of hl (by decide) (Nat.le_of_ble_eq_true rfl) ?_
  refine g_iload_n (i := 1) dX10_groundIt_0 rfl rfl ?_
  refine g_iload_n (i := 2) dX10_groundIt_1 rfl rfl ?_
  refine g_callS (ev_mIsCell hl) dX10_groundIt_2 ml_X10_108 csX10_isCell rfl rfl (Nat.le_of_ble_eq_true rfl) (Nat.le_of_ble_eq_true rfl) (Nat.zero_le _) (Nat.zero_le _) (kr_rt ?_) kx_rt
  refine g_if_ne (tgt := 14) dX10_groundIt_5 (by decide) (fun c5 => ?_) (fun c5 => ?_)
  · refine g_iload_n (i := 3) dX10_groundIt_14 rfl rfl ?_
    refine g_callS (ev_mIsGround hl) dX10_groundIt_15 ml_X10_112 csX10_isGround rfl rfl (Nat.le_of_ble_eq_true rfl) (Nat.le_of_ble_eq_true rfl) (Nat.zero_le _) (Nat.zero_le _) (kr_rt ?_) kx_rt
    refine g_if_ne (tgt := 27) dX10_groundIt_18 (by decide) (fun c18 => ?_) (fun c18 => ?_)
    · refine g_bipush (v := 8) dX10_groundIt_27 (by decide) ?_
      refine g_iload_n (i := 2) dX10_groundIt_29 rfl rfl ?_
      refine g_imul dX10_groundIt_30 ?_
      refine g_iload_n (i := 1) dX10_groundIt_31 rfl rfl ?_
      refine g_iadd dX10_groundIt_32 ?_
      rw [cel]
      refine g_istore dX10_groundIt_33 (Nat.le_of_ble_eq_true rfl) ?_
      refine g_aload_n (i := 0) dX10_groundIt_35 rfl rfl ?_
      refine g_getf dX10_groundIt_36 K_X10 (k := 0) fl_X10_9 (Nat.le_of_ble_eq_true rfl) mo_30 rfl ?_
      refine g_iconst (v := 0) dX10_groundIt_39 (by decide) ?_
      refine g_iload dX10_groundIt_40 rfl ?_
      refine g_iadd dX10_groundIt_42 ?_
      refine g_iald dX10_groundIt_43 mo_31 (ix0 (k := 8 * j + i) (by omega)) (by omega) ?_
      refine g_aload_n (i := 0) dX10_groundIt_44 rfl rfl ?_
      refine g_getf dX10_groundIt_45 K_X10 (k := 0) fl_X10_9 (Nat.le_of_ble_eq_true rfl) mo_30 rfl ?_
      refine g_bipush (v := 64) dX10_groundIt_48 (by decide) ?_
      refine g_iload dX10_groundIt_50 rfl ?_
      refine g_iadd dX10_groundIt_52 ?_
      refine g_iald dX10_groundIt_53 mo_31 (ixA (b := 64) (k := 8 * j + i) rfl (by omega)) (by omega) ?_
      refine g_iadd dX10_groundIt_54 ?_
      refine g_istore dX10_groundIt_55 (Nat.le_of_ble_eq_true rfl) ?_
      refine g_iload_n (i := 3) dX10_groundIt_57 rfl rfl ?_
      refine g_bipush (v := 35) dX10_groundIt_58 (by decide) ?_
      refine g_icmp_ne (tgt := 76) dX10_groundIt_60 (by decide) (fun c60 => ?_) (fun c60 => ?_)
      · exact absurd h35 c60
      · refine g_iload dX10_groundIt_63 rfl ?_
        refine g_if_le (tgt := 76) dX10_groundIt_65 (by decide) (fun c65 => ?_) (fun c65 => ?_)
        · exact absurd c65 (nlt' hs)
        · refine g_aload_n (i := 0) dX10_groundIt_68 rfl rfl ?_
          refine g_iconst (v := 2) dX10_groundIt_69 (by decide) ?_
          refine g_iload dX10_groundIt_70 rfl ?_
          refine g_callV (ev_refuses hl) dX10_groundIt_72 ml_X10_115 cvX10_refuses K_X10 rfl mo_30 rfl rfl (Nat.le_of_ble_eq_true rfl) (Nat.le_of_ble_eq_true rfl) (Nat.zero_le _) (Nat.zero_le _) (kr_rt ?_) kx_rt
          refine g_iret dX10_groundIt_75 rfl rfl ?_
          exact ⟨rfl, rfl⟩
    · exact absurd c18 (by rw [if_pos hg]; decide)
  · exact absurd c5 (by rw [if_pos (cellB_nI hi hj)]; decide)

set_option maxRecDepth 100000 in
theorem ev_groundIt {l : Launch} {G : GG} (hl : l.stackTraces = false) {A : AD} {h : AH} {a : Nat → Nat → Int32} {f : Nat → Int32} {i j : Nat} (hi : i < 8) (hj : j < 8) {z : Int32} (hg : groundP z) (hn : ¬ (z = 35 ∧ 0 < (a 0 (8 * j + i) + a 0 (64 + (8 * j + i))))) :
    Ev l G 12 0 0 mX10_groundIt [.ref (A 30 0), .int (nI i), .int (nI j), .int z] (mo h A (a, f)) (Rt (some (.int (a 0 (128 + (8 * j + i))))) (mo h A (va_up a 0 (va_up (a 0) (128 + (8 * j + i)) z), f))) := by
  refine Ev.of hl (by decide) (Nat.le_of_ble_eq_true rfl) ?_
  refine g_iload_n (i := 1) dX10_groundIt_0 rfl rfl ?_
  refine g_iload_n (i := 2) dX10_groundIt_1 rfl rfl ?_
  refine g_callS (ev_mIsCell hl) dX10_groundIt_2 ml_X10_108 csX10_isCell rfl rfl (Nat.le_of_ble_eq_true rfl) (Nat.le_of_ble_eq_true rfl) (Nat.zero_le _) (Nat.zero_le _) (kr_rt ?_) kx_rt
  refine g_if_ne (tgt := 14) dX10_groundIt_5 (by decide) (fun c5 => ?_) (fun c5 => ?_)
  · refine g_iload_n (i := 3) dX10_groundIt_14 rfl rfl ?_
    refine g_callS (ev_mIsGround hl) dX10_groundIt_15 ml_X10_112 csX10_isGround rfl rfl (Nat.le_of_ble_eq_true rfl) (Nat.le_of_ble_eq_true rfl) (Nat.zero_le _) (Nat.zero_le _) (kr_rt ?_) kx_rt
    refine g_if_ne (tgt := 27) dX10_groundIt_18 (by decide) (fun c18 => ?_) (fun c18 => ?_)
    · refine g_bipush (v := 8) dX10_groundIt_27 (by decide) ?_
      refine g_iload_n (i := 2) dX10_groundIt_29 rfl rfl ?_
      refine g_imul dX10_groundIt_30 ?_
      refine g_iload_n (i := 1) dX10_groundIt_31 rfl rfl ?_
      refine g_iadd dX10_groundIt_32 ?_
      rw [cel]
      refine g_istore dX10_groundIt_33 (Nat.le_of_ble_eq_true rfl) ?_
      refine g_aload_n (i := 0) dX10_groundIt_35 rfl rfl ?_
      refine g_getf dX10_groundIt_36 K_X10 (k := 0) fl_X10_9 (Nat.le_of_ble_eq_true rfl) mo_30 rfl ?_
      refine g_iconst (v := 0) dX10_groundIt_39 (by decide) ?_
      refine g_iload dX10_groundIt_40 rfl ?_
      refine g_iadd dX10_groundIt_42 ?_
      refine g_iald dX10_groundIt_43 mo_31 (ix0 (k := 8 * j + i) (by omega)) (by omega) ?_
      refine g_aload_n (i := 0) dX10_groundIt_44 rfl rfl ?_
      refine g_getf dX10_groundIt_45 K_X10 (k := 0) fl_X10_9 (Nat.le_of_ble_eq_true rfl) mo_30 rfl ?_
      refine g_bipush (v := 64) dX10_groundIt_48 (by decide) ?_
      refine g_iload dX10_groundIt_50 rfl ?_
      refine g_iadd dX10_groundIt_52 ?_
      refine g_iald dX10_groundIt_53 mo_31 (ixA (b := 64) (k := 8 * j + i) rfl (by omega)) (by omega) ?_
      refine g_iadd dX10_groundIt_54 ?_
      refine g_istore dX10_groundIt_55 (Nat.le_of_ble_eq_true rfl) ?_
      refine g_iload_n (i := 3) dX10_groundIt_57 rfl rfl ?_
      refine g_bipush (v := 35) dX10_groundIt_58 (by decide) ?_
      refine g_icmp_ne (tgt := 76) dX10_groundIt_60 (by decide) (fun c60 => ?_) (fun c60 => ?_)
      · refine g_aload_n (i := 0) dX10_groundIt_76 rfl rfl ?_
        refine g_getf dX10_groundIt_77 K_X10 (k := 0) fl_X10_9 (Nat.le_of_ble_eq_true rfl) mo_30 rfl ?_
        refine g_sipush (v := 128) dX10_groundIt_80 (by decide) ?_
        refine g_iload dX10_groundIt_83 rfl ?_
        refine g_iadd dX10_groundIt_85 ?_
        refine g_iald dX10_groundIt_86 mo_31 (ixA (b := 128) (k := 8 * j + i) rfl (by omega)) (by omega) ?_
        refine g_istore dX10_groundIt_87 (Nat.le_of_ble_eq_true rfl) ?_
        refine g_aload_n (i := 0) dX10_groundIt_89 rfl rfl ?_
        refine g_getf dX10_groundIt_90 K_X10 (k := 0) fl_X10_9 (Nat.le_of_ble_eq_true rfl) mo_30 rfl ?_
        refine g_sipush (v := 128) dX10_groundIt_93 (by decide) ?_
        refine g_iload dX10_groundIt_96 rfl ?_
        refine g_iadd dX10_groundIt_98 ?_
        refine g_iload_n (i := 3) dX10_groundIt_99 rfl rfl ?_
        refine g_iast dX10_groundIt_100 mo_31 (ixA (b := 128) (k := 8 * j + i) rfl (by omega)) (by omega) rfl (Go.heap mo_a0 ?_)
        refine g_iload dX10_groundIt_101 rfl ?_
        refine g_iret dX10_groundIt_103 rfl rfl ?_
        exact ⟨rfl, rfl⟩
      · refine g_iload dX10_groundIt_63 rfl ?_
        refine g_if_le (tgt := 76) dX10_groundIt_65 (by decide) (fun c65 => ?_) (fun c65 => ?_)
        · refine g_aload_n (i := 0) dX10_groundIt_76 rfl rfl ?_
          refine g_getf dX10_groundIt_77 K_X10 (k := 0) fl_X10_9 (Nat.le_of_ble_eq_true rfl) mo_30 rfl ?_
          refine g_sipush (v := 128) dX10_groundIt_80 (by decide) ?_
          refine g_iload dX10_groundIt_83 rfl ?_
          refine g_iadd dX10_groundIt_85 ?_
          refine g_iald dX10_groundIt_86 mo_31 (ixA (b := 128) (k := 8 * j + i) rfl (by omega)) (by omega) ?_
          refine g_istore dX10_groundIt_87 (Nat.le_of_ble_eq_true rfl) ?_
          refine g_aload_n (i := 0) dX10_groundIt_89 rfl rfl ?_
          refine g_getf dX10_groundIt_90 K_X10 (k := 0) fl_X10_9 (Nat.le_of_ble_eq_true rfl) mo_30 rfl ?_
          refine g_sipush (v := 128) dX10_groundIt_93 (by decide) ?_
          refine g_iload dX10_groundIt_96 rfl ?_
          refine g_iadd dX10_groundIt_98 ?_
          refine g_iload_n (i := 3) dX10_groundIt_99 rfl rfl ?_
          refine g_iast dX10_groundIt_100 mo_31 (ixA (b := 128) (k := 8 * j + i) rfl (by omega)) (by omega) rfl (Go.heap mo_a0 ?_)
          refine g_iload dX10_groundIt_101 rfl ?_
          refine g_iret dX10_groundIt_103 rfl rfl ?_
          exact ⟨rfl, rfl⟩
        · exact absurd ⟨c60, ltn c65⟩ hn
    · exact absurd c18 (by rw [if_pos hg]; decide)
  · exact absurd c5 (by rw [if_pos (cellB_nI hi hj)]; decide)

set_option maxRecDepth 100000 in
theorem ev_heatIt_no1 {l : Launch} {G : GG} (hl : l.stackTraces = false) {A : AD} {h : AH} {a : Nat → Nat → Int32} {f : Nat → Int32} {x y z : Int32} (hc : ¬ cellB x y) :
    Ev l G 12 0 0 mX10_heatIt [.ref (A 30 0), .int x, .int y, .int z] (mo h A (a, f)) (Rt (some (.int (-1))) (mo h A (a, va_up f 11 1))) := by
  refine Ev.of hl (by decide) (Nat.le_of_ble_eq_true rfl) ?_
  refine g_iload_n (i := 1) dX10_heatIt_0 rfl rfl ?_
  refine g_iload_n (i := 2) dX10_heatIt_1 rfl rfl ?_
  refine g_callS (ev_mIsCell hl) dX10_heatIt_2 ml_X10_108 csX10_isCell rfl rfl (Nat.le_of_ble_eq_true rfl) (Nat.le_of_ble_eq_true rfl) (Nat.zero_le _) (Nat.zero_le _) (kr_rt ?_) kx_rt
  refine g_if_ne (tgt := 14) dX10_heatIt_5 (by decide) (fun c5 => ?_) (fun c5 => ?_)
  · exact absurd (if_neg hc) c5
  · refine g_aload_n (i := 0) dX10_heatIt_8 rfl rfl ?_
    refine g_iconst (v := 1) dX10_heatIt_9 (by decide) ?_
    refine g_callV (ev_throwing hl (x := 1)) dX10_heatIt_10 ml_X10_76 cvX10_throwing K_X10 rfl mo_30 rfl rfl (Nat.le_of_ble_eq_true rfl) (Nat.le_of_ble_eq_true rfl) (Nat.zero_le _) (Nat.zero_le _) (kr_rt ?_) kx_rt
    refine g_iret dX10_heatIt_13 rfl rfl ?_
    exact ⟨rfl, rfl⟩

set_option maxRecDepth 100000 in
theorem ev_heatIt_no2 {l : Launch} {G : GG} (hl : l.stackTraces = false) {A : AD} {h : AH} {a : Nat → Nat → Int32} {f : Nat → Int32} {x y z : Int32} (hc : cellB x y) (hg : ¬ amountP z) :
    Ev l G 12 0 0 mX10_heatIt [.ref (A 30 0), .int x, .int y, .int z] (mo h A (a, f)) (Rt (some (.int (-1))) (mo h A (a, va_up f 11 2))) := by
  refine Ev.of hl (by decide) (Nat.le_of_ble_eq_true rfl) ?_
  refine g_iload_n (i := 1) dX10_heatIt_0 rfl rfl ?_
  refine g_iload_n (i := 2) dX10_heatIt_1 rfl rfl ?_
  refine g_callS (ev_mIsCell hl) dX10_heatIt_2 ml_X10_108 csX10_isCell rfl rfl (Nat.le_of_ble_eq_true rfl) (Nat.le_of_ble_eq_true rfl) (Nat.zero_le _) (Nat.zero_le _) (kr_rt ?_) kx_rt
  refine g_if_ne (tgt := 14) dX10_heatIt_5 (by decide) (fun c5 => ?_) (fun c5 => ?_)
  · refine g_iload_n (i := 3) dX10_heatIt_14 rfl rfl ?_
    refine g_i2l dX10_heatIt_15 ?_
    refine g_lconst (v := 1) dX10_heatIt_16 (by decide) ?_
    refine g_ldc2 dX10_heatIt_17 co_X10_128 ?_
    refine g_callS (ev_in hl (lo := 1) (hi := 999) (by decide) (by decide)) dX10_heatIt_20 ml_X10_85 csX10_in rfl rfl (Nat.le_of_ble_eq_true rfl) (Nat.le_of_ble_eq_true rfl) (Nat.zero_le _) (Nat.zero_le _) (kr_rt ?_) kx_rt
    refine g_if_ne (tgt := 32) dX10_heatIt_23 (by decide) (fun c23 => ?_) (fun c23 => ?_)
    · exact absurd (if_neg hg) c23
    · refine g_aload_n (i := 0) dX10_heatIt_26 rfl rfl ?_
      refine g_iconst (v := 2) dX10_heatIt_27 (by decide) ?_
      refine g_callV (ev_throwing hl (x := 2)) dX10_heatIt_28 ml_X10_76 cvX10_throwing K_X10 rfl mo_30 rfl rfl (Nat.le_of_ble_eq_true rfl) (Nat.le_of_ble_eq_true rfl) (Nat.zero_le _) (Nat.zero_le _) (kr_rt ?_) kx_rt
      refine g_iret dX10_heatIt_31 rfl rfl ?_
      exact ⟨rfl, rfl⟩
  · exact absurd c5 (by rw [if_pos hc]; decide)

set_option maxRecDepth 100000 in
theorem ev_heatIt_no3a {l : Launch} {G : GG} (hl : l.stackTraces = false) {A : AD} {h : AH} {a : Nat → Nat → Int32} {f : Nat → Int32} {i j : Nat} (hi : i < 8) (hj : j < 8) {z : Int32} (hg : amountP z) (hr : a 0 (128 + (8 * j + i)) = 35) :
    Ev l G 12 0 0 mX10_heatIt [.ref (A 30 0), .int (nI i), .int (nI j), .int z] (mo h A (a, f)) (Rt (some (.int (-1))) (mo h A (a, va_up (va_up (va_up f 9 1) 10 (nI (8 * j + i))) 11 3))) := by
  refine Ev.of hl (by decide) (Nat.le_of_ble_eq_true rfl) ?_
  refine g_iload_n (i := 1) dX10_heatIt_0 rfl rfl ?_
  refine g_iload_n (i := 2) dX10_heatIt_1 rfl rfl ?_
  refine g_callS (ev_mIsCell hl) dX10_heatIt_2 ml_X10_108 csX10_isCell rfl rfl (Nat.le_of_ble_eq_true rfl) (Nat.le_of_ble_eq_true rfl) (Nat.zero_le _) (Nat.zero_le _) (kr_rt ?_) kx_rt
  refine g_if_ne (tgt := 14) dX10_heatIt_5 (by decide) (fun c5 => ?_) (fun c5 => ?_)
  · refine g_iload_n (i := 3) dX10_heatIt_14 rfl rfl ?_
    refine g_i2l dX10_heatIt_15 ?_
    refine g_lconst (v := 1) dX10_heatIt_16 (by decide) ?_
    refine g_ldc2 dX10_heatIt_17 co_X10_128 ?_
    refine g_callS (ev_in hl (lo := 1) (hi := 999) (by decide) (by decide)) dX10_heatIt_20 ml_X10_85 csX10_in rfl rfl (Nat.le_of_ble_eq_true rfl) (Nat.le_of_ble_eq_true rfl) (Nat.zero_le _) (Nat.zero_le _) (kr_rt ?_) kx_rt
    refine g_if_ne (tgt := 32) dX10_heatIt_23 (by decide) (fun c23 => ?_) (fun c23 => ?_)
    · refine g_bipush (v := 8) dX10_heatIt_32 (by decide) ?_
      refine g_iload_n (i := 2) dX10_heatIt_34 rfl rfl ?_
      refine g_imul dX10_heatIt_35 ?_
      refine g_iload_n (i := 1) dX10_heatIt_36 rfl rfl ?_
      refine g_iadd dX10_heatIt_37 ?_
      rw [cel]
      refine g_istore dX10_heatIt_38 (Nat.le_of_ble_eq_true rfl) ?_
      refine g_aload_n (i := 0) dX10_heatIt_40 rfl rfl ?_
      refine g_iload dX10_heatIt_41 rfl ?_
      refine g_callV (ev_mRock hl (k := 8 * j + i) (by omega)) dX10_heatIt_43 ml_X10_89 cvX10_isRock K_X10 rfl mo_30 rfl rfl (Nat.le_of_ble_eq_true rfl) (Nat.le_of_ble_eq_true rfl) (Nat.zero_le _) (Nat.zero_le _) (kr_rt ?_) kx_rt
      refine g_if_eq (tgt := 57) dX10_heatIt_46 (by decide) (fun c46 => ?_) (fun c46 => ?_)
      · exact absurd c46 (by rw [if_pos hr]; decide)
      · refine g_aload_n (i := 0) dX10_heatIt_49 rfl rfl ?_
        refine g_iconst (v := 1) dX10_heatIt_50 (by decide) ?_
        refine g_iload dX10_heatIt_51 rfl ?_
        refine g_callV (ev_refuses hl) dX10_heatIt_53 ml_X10_115 cvX10_refuses K_X10 rfl mo_30 rfl rfl (Nat.le_of_ble_eq_true rfl) (Nat.le_of_ble_eq_true rfl) (Nat.zero_le _) (Nat.zero_le _) (kr_rt ?_) kx_rt
        refine g_iret dX10_heatIt_56 rfl rfl ?_
        exact ⟨rfl, rfl⟩
    · exact absurd c23 (by rw [if_pos hg]; decide)
  · exact absurd c5 (by rw [if_pos (cellB_nI hi hj)]; decide)

set_option maxRecDepth 100000 in
theorem ev_heatIt_no3b {l : Launch} {G : GG} (hl : l.stackTraces = false) {A : AD} {h : AH} {a : Nat → Nat → Int32} {f : Nat → Int32} {i j : Nat} (hi : i < 8) (hj : j < 8) {z : Int32} (hg : amountP z) (hr : ¬ a 0 (128 + (8 * j + i)) = 35) (hx : 9999 < a 0 (8 * j + i) + z) :
    Ev l G 12 0 0 mX10_heatIt [.ref (A 30 0), .int (nI i), .int (nI j), .int z] (mo h A (a, f)) (Rt (some (.int (-1))) (mo h A (a, va_up (va_up (va_up f 9 3) 10 (a 0 (8 * j + i) + z - 9999)) 11 3))) := by
  refine Ev.of hl (by decide) (Nat.le_of_ble_eq_true rfl) ?_
  refine g_iload_n (i := 1) dX10_heatIt_0 rfl rfl ?_
  refine g_iload_n (i := 2) dX10_heatIt_1 rfl rfl ?_
  refine g_callS (ev_mIsCell hl) dX10_heatIt_2 ml_X10_108 csX10_isCell rfl rfl (Nat.le_of_ble_eq_true rfl) (Nat.le_of_ble_eq_true rfl) (Nat.zero_le _) (Nat.zero_le _) (kr_rt ?_) kx_rt
  refine g_if_ne (tgt := 14) dX10_heatIt_5 (by decide) (fun c5 => ?_) (fun c5 => ?_)
  · refine g_iload_n (i := 3) dX10_heatIt_14 rfl rfl ?_
    refine g_i2l dX10_heatIt_15 ?_
    refine g_lconst (v := 1) dX10_heatIt_16 (by decide) ?_
    refine g_ldc2 dX10_heatIt_17 co_X10_128 ?_
    refine g_callS (ev_in hl (lo := 1) (hi := 999) (by decide) (by decide)) dX10_heatIt_20 ml_X10_85 csX10_in rfl rfl (Nat.le_of_ble_eq_true rfl) (Nat.le_of_ble_eq_true rfl) (Nat.zero_le _) (Nat.zero_le _) (kr_rt ?_) kx_rt
    refine g_if_ne (tgt := 32) dX10_heatIt_23 (by decide) (fun c23 => ?_) (fun c23 => ?_)
    · refine g_bipush (v := 8) dX10_heatIt_32 (by decide) ?_
      refine g_iload_n (i := 2) dX10_heatIt_34 rfl rfl ?_
      refine g_imul dX10_heatIt_35 ?_
      refine g_iload_n (i := 1) dX10_heatIt_36 rfl rfl ?_
      refine g_iadd dX10_heatIt_37 ?_
      rw [cel]
      refine g_istore dX10_heatIt_38 (Nat.le_of_ble_eq_true rfl) ?_
      refine g_aload_n (i := 0) dX10_heatIt_40 rfl rfl ?_
      refine g_iload dX10_heatIt_41 rfl ?_
      refine g_callV (ev_mRock hl (k := 8 * j + i) (by omega)) dX10_heatIt_43 ml_X10_89 cvX10_isRock K_X10 rfl mo_30 rfl rfl (Nat.le_of_ble_eq_true rfl) (Nat.le_of_ble_eq_true rfl) (Nat.zero_le _) (Nat.zero_le _) (kr_rt ?_) kx_rt
      refine g_if_eq (tgt := 57) dX10_heatIt_46 (by decide) (fun c46 => ?_) (fun c46 => ?_)
      · refine g_aload_n (i := 0) dX10_heatIt_57 rfl rfl ?_
        refine g_getf dX10_heatIt_58 K_X10 (k := 0) fl_X10_9 (Nat.le_of_ble_eq_true rfl) mo_30 rfl ?_
        refine g_iconst (v := 0) dX10_heatIt_61 (by decide) ?_
        refine g_iload dX10_heatIt_62 rfl ?_
        refine g_iadd dX10_heatIt_64 ?_
        refine g_iald dX10_heatIt_65 mo_31 (ix0 (k := 8 * j + i) (by omega)) (by omega) ?_
        refine g_iload_n (i := 3) dX10_heatIt_66 rfl rfl ?_
        refine g_iadd dX10_heatIt_67 ?_
        refine g_sipush (v := 9999) dX10_heatIt_68 (by decide) ?_
        refine g_icmp_le (tgt := 95) dX10_heatIt_71 (by decide) (fun c71 => ?_) (fun c71 => ?_)
        · exact absurd c71 (nlt' hx)
        · refine g_aload_n (i := 0) dX10_heatIt_74 rfl rfl ?_
          refine g_iconst (v := 3) dX10_heatIt_75 (by decide) ?_
          refine g_aload_n (i := 0) dX10_heatIt_76 rfl rfl ?_
          refine g_getf dX10_heatIt_77 K_X10 (k := 0) fl_X10_9 (Nat.le_of_ble_eq_true rfl) mo_30 rfl ?_
          refine g_iconst (v := 0) dX10_heatIt_80 (by decide) ?_
          refine g_iload dX10_heatIt_81 rfl ?_
          refine g_iadd dX10_heatIt_83 ?_
          refine g_iald dX10_heatIt_84 mo_31 (ix0 (k := 8 * j + i) (by omega)) (by omega) ?_
          refine g_iload_n (i := 3) dX10_heatIt_85 rfl rfl ?_
          refine g_iadd dX10_heatIt_86 ?_
          refine g_sipush (v := 9999) dX10_heatIt_87 (by decide) ?_
          refine g_isub dX10_heatIt_90 ?_
          refine g_callV (ev_refuses hl) dX10_heatIt_91 ml_X10_115 cvX10_refuses K_X10 rfl mo_30 rfl rfl (Nat.le_of_ble_eq_true rfl) (Nat.le_of_ble_eq_true rfl) (Nat.zero_le _) (Nat.zero_le _) (kr_rt ?_) kx_rt
          refine g_iret dX10_heatIt_94 rfl rfl ?_
          exact ⟨rfl, rfl⟩
      · exact absurd (if_neg hr) c46
    · exact absurd c23 (by rw [if_pos hg]; decide)
  · exact absurd c5 (by rw [if_pos (cellB_nI hi hj)]; decide)

set_option maxRecDepth 100000 in
theorem ev_heatIt {l : Launch} {G : GG} (hl : l.stackTraces = false) {A : AD} {h : AH} {a : Nat → Nat → Int32} {f : Nat → Int32} {i j : Nat} (hi : i < 8) (hj : j < 8) {z : Int32} (hg : amountP z) (hr : ¬ a 0 (128 + (8 * j + i)) = 35) (hx : ¬ 9999 < a 0 (8 * j + i) + z) :
    Ev l G 12 0 0 mX10_heatIt [.ref (A 30 0), .int (nI i), .int (nI j), .int z] (mo h A (a, f)) (Rt (some (.int (a 0 (8 * j + i) + z))) (mo h A (va_up a 0 (va_up (a 0) (8 * j + i) (a 0 (8 * j + i) + z)), f))) := by
  refine Ev.of hl (by decide) (Nat.le_of_ble_eq_true rfl) ?_
  refine g_iload_n (i := 1) dX10_heatIt_0 rfl rfl ?_
  refine g_iload_n (i := 2) dX10_heatIt_1 rfl rfl ?_
  refine g_callS (ev_mIsCell hl) dX10_heatIt_2 ml_X10_108 csX10_isCell rfl rfl (Nat.le_of_ble_eq_true rfl) (Nat.le_of_ble_eq_true rfl) (Nat.zero_le _) (Nat.zero_le _) (kr_rt ?_) kx_rt
  refine g_if_ne (tgt := 14) dX10_heatIt_5 (by decide) (fun c5 => ?_) (fun c5 => ?_)
  · refine g_iload_n (i := 3) dX10_heatIt_14 rfl rfl ?_
    refine g_i2l dX10_heatIt_15 ?_
    refine g_lconst (v := 1) dX10_heatIt_16 (by decide) ?_
    refine g_ldc2 dX10_heatIt_17 co_X10_128 ?_
    refine g_callS (ev_in hl (lo := 1) (hi := 999) (by decide) (by decide)) dX10_heatIt_20 ml_X10_85 csX10_in rfl rfl (Nat.le_of_ble_eq_true rfl) (Nat.le_of_ble_eq_true rfl) (Nat.zero_le _) (Nat.zero_le _) (kr_rt ?_) kx_rt
    refine g_if_ne (tgt := 32) dX10_heatIt_23 (by decide) (fun c23 => ?_) (fun c23 => ?_)
    · refine g_bipush (v := 8) dX10_heatIt_32 (by decide) ?_
      refine g_iload_n (i := 2) dX10_heatIt_34 rfl rfl ?_
      refine g_imul dX10_heatIt_35 ?_
      refine g_iload_n (i := 1) dX10_heatIt_36 rfl rfl ?_
      refine g_iadd dX10_heatIt_37 ?_
      rw [cel]
      refine g_istore dX10_heatIt_38 (Nat.le_of_ble_eq_true rfl) ?_
      refine g_aload_n (i := 0) dX10_heatIt_40 rfl rfl ?_
      refine g_iload dX10_heatIt_41 rfl ?_
      refine g_callV (ev_mRock hl (k := 8 * j + i) (by omega)) dX10_heatIt_43 ml_X10_89 cvX10_isRock K_X10 rfl mo_30 rfl rfl (Nat.le_of_ble_eq_true rfl) (Nat.le_of_ble_eq_true rfl) (Nat.zero_le _) (Nat.zero_le _) (kr_rt ?_) kx_rt
      refine g_if_eq (tgt := 57) dX10_heatIt_46 (by decide) (fun c46 => ?_) (fun c46 => ?_)
      · refine g_aload_n (i := 0) dX10_heatIt_57 rfl rfl ?_
        refine g_getf dX10_heatIt_58 K_X10 (k := 0) fl_X10_9 (Nat.le_of_ble_eq_true rfl) mo_30 rfl ?_
        refine g_iconst (v := 0) dX10_heatIt_61 (by decide) ?_
        refine g_iload dX10_heatIt_62 rfl ?_
        refine g_iadd dX10_heatIt_64 ?_
        refine g_iald dX10_heatIt_65 mo_31 (ix0 (k := 8 * j + i) (by omega)) (by omega) ?_
        refine g_iload_n (i := 3) dX10_heatIt_66 rfl rfl ?_
        refine g_iadd dX10_heatIt_67 ?_
        refine g_sipush (v := 9999) dX10_heatIt_68 (by decide) ?_
        refine g_icmp_le (tgt := 95) dX10_heatIt_71 (by decide) (fun c71 => ?_) (fun c71 => ?_)
        · refine g_aload_n (i := 0) dX10_heatIt_95 rfl rfl ?_
          refine g_getf dX10_heatIt_96 K_X10 (k := 0) fl_X10_9 (Nat.le_of_ble_eq_true rfl) mo_30 rfl ?_
          refine g_iconst (v := 0) dX10_heatIt_99 (by decide) ?_
          refine g_iload dX10_heatIt_100 rfl ?_
          refine g_iadd dX10_heatIt_102 ?_
          refine g_dup2 dX10_heatIt_103 rfl rfl ?_
          refine g_iald dX10_heatIt_104 mo_31 (ix0 (k := 8 * j + i) (by omega)) (by omega) ?_
          refine g_iload_n (i := 3) dX10_heatIt_105 rfl rfl ?_
          refine g_iadd dX10_heatIt_106 ?_
          refine g_iast dX10_heatIt_107 mo_31 (ix0 (k := 8 * j + i) (by omega)) (by omega) rfl (Go.heap mo_a0 ?_)
          refine g_aload_n (i := 0) dX10_heatIt_108 rfl rfl ?_
          refine g_getf dX10_heatIt_109 K_X10 (k := 0) fl_X10_9 (Nat.le_of_ble_eq_true rfl) mo_30 rfl ?_
          refine g_iconst (v := 0) dX10_heatIt_112 (by decide) ?_
          refine g_iload dX10_heatIt_113 rfl ?_
          refine g_iadd dX10_heatIt_115 ?_
          refine g_iald dX10_heatIt_116 mo_31 (ix0 (k := 8 * j + i) (by omega)) (by omega) ?_
          refine g_iret dX10_heatIt_117 rfl rfl ?_
          exact ⟨by show Sum.inl (some (Value.int (va_up (a 0) (8 * j + i) (a 0 (8 * j + i) + z) (8 * j + i)))) = _; rw [va_up_self], rfl⟩
        · exact absurd (ltn c71) hx
      · exact absurd (if_neg hr) c46
    · exact absurd c23 (by rw [if_pos hg]; decide)
  · exact absurd c5 (by rw [if_pos (cellB_nI hi hj)]; decide)

set_option maxRecDepth 100000 in
theorem ev_borderIt_no1 {l : Launch} {G : GG} (hl : l.stackTraces = false) {A : AD} {h : AH} {a : Nat → Nat → Int32} {f : Nat → Int32} {x z : Int32} (hc : ¬ (0 ≤ x ∧ x ≤ 3)) :
    Ev l G 11 0 0 mX10_borderIt [.ref (A 30 0), .int x, .int z] (mo h A (a, f)) (Rt (some (.int (-1))) (mo h A (a, va_up f 11 1))) := by
  refine Ev.of hl (by decide) (Nat.le_of_ble_eq_true rfl) ?_
  refine g_iload_n (i := 1) dX10_borderIt_0 rfl rfl ?_
  refine g_i2l dX10_borderIt_1 ?_
  refine g_lconst (v := 0) dX10_borderIt_2 (by decide) ?_
  refine g_ldc2 dX10_borderIt_3 co_X10_133 ?_
  refine g_callS (ev_in hl (lo := 0) (hi := 3) (by decide) (by decide)) dX10_borderIt_6 ml_X10_85 csX10_in rfl rfl (Nat.le_of_ble_eq_true rfl) (Nat.le_of_ble_eq_true rfl) (Nat.zero_le _) (Nat.zero_le _) (kr_rt ?_) kx_rt
  refine g_if_ne (tgt := 18) dX10_borderIt_9 (by decide) (fun c9 => ?_) (fun c9 => ?_)
  · exact absurd (if_neg hc) c9
  · refine g_aload_n (i := 0) dX10_borderIt_12 rfl rfl ?_
    refine g_iconst (v := 1) dX10_borderIt_13 (by decide) ?_
    refine g_callV (ev_throwing hl (x := 1)) dX10_borderIt_14 ml_X10_76 cvX10_throwing K_X10 rfl mo_30 rfl rfl (Nat.le_of_ble_eq_true rfl) (Nat.le_of_ble_eq_true rfl) (Nat.zero_le _) (Nat.zero_le _) (kr_rt ?_) kx_rt
    refine g_iret dX10_borderIt_17 rfl rfl ?_
    exact ⟨rfl, rfl⟩

set_option maxRecDepth 100000 in
theorem ev_borderIt_no2 {l : Launch} {G : GG} (hl : l.stackTraces = false) {A : AD} {h : AH} {a : Nat → Nat → Int32} {f : Nat → Int32} {x z : Int32} (hc : 0 ≤ x ∧ x ≤ 3) (hg : ¬ tempP z) :
    Ev l G 11 0 0 mX10_borderIt [.ref (A 30 0), .int x, .int z] (mo h A (a, f)) (Rt (some (.int (-1))) (mo h A (a, va_up f 11 2))) := by
  refine Ev.of hl (by decide) (Nat.le_of_ble_eq_true rfl) ?_
  refine g_iload_n (i := 1) dX10_borderIt_0 rfl rfl ?_
  refine g_i2l dX10_borderIt_1 ?_
  refine g_lconst (v := 0) dX10_borderIt_2 (by decide) ?_
  refine g_ldc2 dX10_borderIt_3 co_X10_133 ?_
  refine g_callS (ev_in hl (lo := 0) (hi := 3) (by decide) (by decide)) dX10_borderIt_6 ml_X10_85 csX10_in rfl rfl (Nat.le_of_ble_eq_true rfl) (Nat.le_of_ble_eq_true rfl) (Nat.zero_le _) (Nat.zero_le _) (kr_rt ?_) kx_rt
  refine g_if_ne (tgt := 18) dX10_borderIt_9 (by decide) (fun c9 => ?_) (fun c9 => ?_)
  · refine g_iload_n (i := 2) dX10_borderIt_18 rfl rfl ?_
    refine g_i2l dX10_borderIt_19 ?_
    refine g_lconst (v := 0) dX10_borderIt_20 (by decide) ?_
    refine g_ldc2 dX10_borderIt_21 co_X10_135 ?_
    refine g_callS (ev_in hl (lo := 0) (hi := 9999) (by decide) (by decide)) dX10_borderIt_24 ml_X10_85 csX10_in rfl rfl (Nat.le_of_ble_eq_true rfl) (Nat.le_of_ble_eq_true rfl) (Nat.zero_le _) (Nat.zero_le _) (kr_rt ?_) kx_rt
    refine g_if_ne (tgt := 36) dX10_borderIt_27 (by decide) (fun c27 => ?_) (fun c27 => ?_)
    · exact absurd (if_neg hg) c27
    · refine g_aload_n (i := 0) dX10_borderIt_30 rfl rfl ?_
      refine g_iconst (v := 2) dX10_borderIt_31 (by decide) ?_
      refine g_callV (ev_throwing hl (x := 2)) dX10_borderIt_32 ml_X10_76 cvX10_throwing K_X10 rfl mo_30 rfl rfl (Nat.le_of_ble_eq_true rfl) (Nat.le_of_ble_eq_true rfl) (Nat.zero_le _) (Nat.zero_le _) (kr_rt ?_) kx_rt
      refine g_iret dX10_borderIt_35 rfl rfl ?_
      exact ⟨rfl, rfl⟩
  · exact absurd c9 (by rw [if_pos hc]; decide)

set_option maxRecDepth 100000 in
theorem ev_borderIt {l : Launch} {G : GG} (hl : l.stackTraces = false) {A : AD} {h : AH} {a : Nat → Nat → Int32} {f : Nat → Int32} {s : Nat} (hs : s < 4) {z : Int32} (hg : tempP z) :
    Ev l G 11 0 0 mX10_borderIt [.ref (A 30 0), .int (nI s), .int z] (mo h A (a, f)) (Rt (some (.int (a 0 (192 + s)))) (mo h A (va_up a 0 (va_up (a 0) (192 + s) z), f))) := by
  refine Ev.of hl (by decide) (Nat.le_of_ble_eq_true rfl) ?_
  refine g_iload_n (i := 1) dX10_borderIt_0 rfl rfl ?_
  refine g_i2l dX10_borderIt_1 ?_
  refine g_lconst (v := 0) dX10_borderIt_2 (by decide) ?_
  refine g_ldc2 dX10_borderIt_3 co_X10_133 ?_
  refine g_callS (ev_in hl (lo := 0) (hi := 3) (by decide) (by decide)) dX10_borderIt_6 ml_X10_85 csX10_in rfl rfl (Nat.le_of_ble_eq_true rfl) (Nat.le_of_ble_eq_true rfl) (Nat.zero_le _) (Nat.zero_le _) (kr_rt ?_) kx_rt
  refine g_if_ne (tgt := 18) dX10_borderIt_9 (by decide) (fun c9 => ?_) (fun c9 => ?_)
  · refine g_iload_n (i := 2) dX10_borderIt_18 rfl rfl ?_
    refine g_i2l dX10_borderIt_19 ?_
    refine g_lconst (v := 0) dX10_borderIt_20 (by decide) ?_
    refine g_ldc2 dX10_borderIt_21 co_X10_135 ?_
    refine g_callS (ev_in hl (lo := 0) (hi := 9999) (by decide) (by decide)) dX10_borderIt_24 ml_X10_85 csX10_in rfl rfl (Nat.le_of_ble_eq_true rfl) (Nat.le_of_ble_eq_true rfl) (Nat.zero_le _) (Nat.zero_le _) (kr_rt ?_) kx_rt
    refine g_if_ne (tgt := 36) dX10_borderIt_27 (by decide) (fun c27 => ?_) (fun c27 => ?_)
    · refine g_aload_n (i := 0) dX10_borderIt_36 rfl rfl ?_
      refine g_getf dX10_borderIt_37 K_X10 (k := 0) fl_X10_9 (Nat.le_of_ble_eq_true rfl) mo_30 rfl ?_
      refine g_sipush (v := 192) dX10_borderIt_40 (by decide) ?_
      refine g_iload_n (i := 1) dX10_borderIt_43 rfl rfl ?_
      refine g_iadd dX10_borderIt_44 ?_
      refine g_iald dX10_borderIt_45 mo_31 (ixA (b := 192) (k := s) rfl (by omega)) (by omega) ?_
      refine g_istore_n (i := 3) dX10_borderIt_46 rfl (Nat.le_of_ble_eq_true rfl) ?_
      refine g_aload_n (i := 0) dX10_borderIt_47 rfl rfl ?_
      refine g_getf dX10_borderIt_48 K_X10 (k := 0) fl_X10_9 (Nat.le_of_ble_eq_true rfl) mo_30 rfl ?_
      refine g_sipush (v := 192) dX10_borderIt_51 (by decide) ?_
      refine g_iload_n (i := 1) dX10_borderIt_54 rfl rfl ?_
      refine g_iadd dX10_borderIt_55 ?_
      refine g_iload_n (i := 2) dX10_borderIt_56 rfl rfl ?_
      refine g_iast dX10_borderIt_57 mo_31 (ixA (b := 192) (k := s) rfl (by omega)) (by omega) rfl (Go.heap mo_a0 ?_)
      refine g_iload_n (i := 3) dX10_borderIt_58 rfl rfl ?_
      refine g_iret dX10_borderIt_59 rfl rfl ?_
      exact ⟨rfl, rfl⟩
    · exact absurd c27 (by rw [if_pos hg]; decide)
  · exact absurd c9 (by rw [if_pos ⟨nI_pos' (by omega), (nI_le' (b := 3) rfl (by omega) (by decide)).mpr (by omega)⟩]; decide)

