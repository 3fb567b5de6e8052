/-! Model: lines and statistics (by wip/whole/gen/m39.py). -/
/-- the sign of a cell in a row -/
def srM (m : Nat → Int32) (c : Nat) : Int32 := if 0 < m c then 48 + (if m c / 100 < 9 then m c / 100 else 9) else if 0 < m (64 + c) then 101 else m (128 + c)
theorem sr_1 {m : Nat → Int32} {c : Nat} (h : 0 < m c) : srM m c = 48 + (if m c / 100 < 9 then m c / 100 else 9) := if_pos h
theorem sr_2 {m : Nat → Int32} {c : Nat} (h : ¬ 0 < m c) (h2 : 0 < m (64 + c)) : srM m c = 101 := (if_neg h).trans (if_pos h2)
theorem sr_3 {m : Nat → Int32} {c : Nat} (h : ¬ 0 < m c) (h2 : ¬ 0 < m (64 + c)) : srM m c = m (128 + c) := (if_neg h).trans (if_neg h2)
/-- the line holds the text T -/
def lnR (L : Nat → Int32) (T : TX) : Prop := ∀ i, i < T.2 → L i = nI (T.1 i)
theorem ln_c {L : Nat → Int32} {T : TX} {x : Int32} {w : Nat} (h : lnR L T) (hx : x = nI w) : lnR (va_up L T.2 x) (tC T w) := by
  intro i hi
  show va_up L T.2 x i = nI (sb_cat T.1 T.2 (fun _ => w) i)
  have hi' : i < T.2 + 1 := hi
  by_cases e : i = T.2
  · subst e
    rw [va_up_self, hx, sb_cat, if_neg (Nat.lt_irrefl _)]
  · rw [va_up_ne _ _ e, sb_cat_lo (by omega)]
    exact h i (by omega)
theorem ln_i {L L' : Nat → Int32} {T : TX} {v : Nat} (h : lnR L T) (h1 : ∀ i, i < T.2 → L' i = L i) (h2 : ∀ i, i < sb_dg v → L' (T.2 + i) = nI (sb_dec v i)) : lnR L' (tI T v) := by
  intro i hi
  show L' i = nI (sb_cat T.1 T.2 (sb_dec v) i)
  have hi' : i < T.2 + sb_dg v := hi
  by_cases e : i < T.2
  · rw [sb_cat_lo e, h1 i e]
    exact h i e
  · obtain ⟨j, rfl⟩ : ∃ j, i = T.2 + j := ⟨i - T.2, by omega⟩
    rw [sb_cat_hi]
    exact h2 j (by omega)
def hvN (H P : Nat → Int32) (k : Nat) : Nat := (orH H (P k)).toNatClampNeg
def dl1 (H P B : Nat → Int32) (k : Nat) (T : TX) : TX := if k = 0 then T else tC T 44
def dl2 (H P B : Nat → Int32) (k : Nat) (T : TX) : TX := if B k = 0 then T else tC (tI (dl1 H P B k T) (hvN H P k)) 45
def dl3 (H P B : Nat → Int32) (n k : Nat) (T : TX) : TX := if k + 1 = n ∨ ¬ B (k + 1) = 0 then tI (dl2 H P B k T) (hvN H P k) else dl2 H P B k T
/-- the legend's line: of the first k places -/
def dlT (H P B : Nat → Int32) (n : Nat) : Nat → TX
  | 0 => (fun _ => 0, 0)
  | k + 1 => dl3 H P B n k (dlT H P B n k)
theorem dl_le {H P B : Nat → Int32} {n k : Nat} {T : TX} : T.2 ≤ (dl1 H P B k T).2 ∧ (B k = 0 → dl2 H P B k T = T) ∧ (¬ B k = 0 → (dl2 H P B k T).2 = (dl1 H P B k T).2 + sb_dg (hvN H P k) + 1) ∧ (dl2 H P B k T).2 ≤ (dl3 H P B n k T).2 ∧ T.2 ≤ (dl2 H P B k T).2 ∧ ((k + 1 = n ∨ ¬ B (k + 1) = 0) → (dl3 H P B n k T).2 = (dl2 H P B k T).2 + sb_dg (hvN H P k)) := by
  have h1 : T.2 ≤ (dl1 H P B k T).2 := by
    unfold dl1
    split
    · exact Nat.le_refl _
    · show T.2 ≤ T.2 + 1; omega
  have h2 : ¬ B k = 0 → (dl2 H P B k T).2 = (dl1 H P B k T).2 + sb_dg (hvN H P k) + 1 := fun e => by rw [dl2, if_neg e]; rfl
  refine ⟨h1, fun e => if_pos e, h2, ?_, ?_, fun e => by rw [dl3, if_pos e]; rfl⟩
  · unfold dl3
    split
    · show (dl2 H P B k T).2 ≤ (dl2 H P B k T).2 + _; omega
    · exact Nat.le_refl _
  · by_cases e : B k = 0
    · rw [dl2, if_pos e]; exact Nat.le_refl _
    · rw [h2 e]; omega
theorem dl_mono {H P B : Nat → Int32} {n : Nat} : ∀ (j k : Nat), (dlT H P B n k).2 ≤ (dlT H P B n (k + j)).2
  | 0, k => Nat.le_refl _
  | j + 1, k => by
    have h1 := dl_mono (H := H) (P := P) (B := B) (n := n) j k
    have h2 := dl_le (H := H) (P := P) (B := B) (n := n) (k := k + j) (T := dlT H P B n (k + j))
    show _ ≤ (dl3 H P B n (k + j) (dlT H P B n (k + j))).2
    omega
def tnN (k : Nat) : Nat := if k = 0 then 0 else 10 ^ (k - 1)
theorem dg_k {v : Nat} (hv : v < 10000000) : ∀ k, k < 7 → (v / 10 ^ k ≤ 9 ↔ sb_dg v ≤ k + 1) := by
  intro k hk
  have : k = 0 ∨ k = 1 ∨ k = 2 ∨ k = 3 ∨ k = 4 ∨ k = 5 ∨ k = 6 := by omega
  rcases this with rfl | rfl | rfl | rfl | rfl | rfl | rfl
  · show v / 1 ≤ 9 ↔ _
    unfold sb_dg; (repeat' split) <;> omega
  · show v / 10 ≤ 9 ↔ _
    unfold sb_dg; (repeat' split) <;> omega
  · show v / 100 ≤ 9 ↔ _
    unfold sb_dg; (repeat' split) <;> omega
  · show v / 1000 ≤ 9 ↔ _
    unfold sb_dg; (repeat' split) <;> omega
  · show v / 10000 ≤ 9 ↔ _
    unfold sb_dg; (repeat' split) <;> omega
  · show v / 100000 ≤ 9 ↔ _
    unfold sb_dg; (repeat' split) <;> omega
  · show v / 1000000 ≤ 9 ↔ _
    unfold sb_dg; (repeat' split) <;> omega
theorem p10_in {k : Nat} (hk : k < 8) : 0 < 10 ^ k ∧ 10 ^ k ≤ 10000000 := ⟨Nat.pow_pos (by decide), by
  have := Nat.pow_le_pow_right (n := 10) (by decide) (show k ≤ 7 by omega)
  exact this⟩
theorem tn_10 {k : Nat} (hk : k < 8) : tnN (k + 1) / 10 = tnN k := by
  unfold tnN
  rw [if_neg (by omega)]
  by_cases e : k = 0
  · subst e; rfl
  · rw [if_neg e, show k + 1 - 1 = (k - 1) + 1 by omega, Nat.pow_succ, Nat.mul_div_cancel _ (by decide)]
theorem nI_mul10 (k : Nat) : nI (10 ^ k) * 10 = nI (10 ^ (k + 1)) := by rw [Nat.pow_succ]; exact (Int32.ofNat_mul (10 ^ k) 10).symm
def opM (R : Nat → Int32) : Nat → Int32
  | 0 => 0
  | k + 1 => opM R k + (if R k = 35 then 0 else 1)
def cntM (m : Nat → Int32) (v : Int32) : Nat → Int32
  | 0 => 0
  | k + 1 => cntM m v k + (if v ≤ m k then 1 else 0)
theorem mul8 (j : Nat) : (8 : Int32) * nI j = nI (8 * j) := (Int32.ofNat_mul 8 j).symm
theorem mul88 (j : Nat) : (8 : Int32) * nI j + 8 = nI (8 * j + 8) := by rw [mul8]; exact nI_add _ 8

theorem ev_sign2 {l : Launch} {G : GG} (hl : l.stackTraces = false) {A : AD} {h : AH} {a : Nat → Nat → Int32} {f : Nat → Int32} {L : Nat → Int32} {n : Nat} (hn : n < 80) {x : Int32} :
    Ev l G 10 0 0 mX10_sign [.ref (A 30 0), .int x] (mo h A (va_up a 15 L, va_up (f) 29 (nI (n)))) (Rt none (mo h A (va_up a 15 (va_up L n x), va_up (f) 29 (nI (n + 1))))) := by
  have e := ev_sign hl (G := G) (A := A) (h := h) (a := va_up a 15 L) (f := va_up f 29 (nI n)) (n := n) (va_up_self _ _ _) hn (x := x)
  rw [va_up2, va_up2] at e
  exact e

set_option maxRecDepth 100000 in
theorem ev_mRow {l : Launch} {G : GG} (hl : l.stackTraces = false) {A : AD} {h : AH} {a : Nat → Nat → Int32} {f : Nat → Int32} {j9 : Nat} (hj : j9 < 8) :
    Ev l G 11 0 0 mX10_describeRow [.ref (A 30 0), .int (nI j9)] (mo h A (a, f)) (Rt (some (.int (nI 8))) (mo h A (va_up a 15 (fun i => if i < 8 then srM (a 0) (8 * j9 + i) else a 15 i), va_up (va_up f 11 0) 29 (nI (8))))) := by
  refine Ev.of hl (by decide) (Nat.le_of_ble_eq_true rfl) ?_
  have loop : ∀ (j : Nat) (k : Nat) (X Y : Option Value), k + j = 8 → Go l G mX10_describeRow 11 0 0 (Rt (some (.int (nI 8))) (mo h A (va_up a 15 (fun i => if i < 8 then srM (a 0) (8 * j9 + i) else a 15 i), va_up (va_up f 11 0) 29 (nI (8))))) 33 [some (.ref (A 30 0)), some (.int (nI j9)), some (.int (nI (8 * j9 + k))), X, Y] [] (mo h A (va_up a 15 (fun i => if i < k then srM (a 0) (8 * j9 + i) else a 15 i), va_up (va_up f 11 0) 29 (nI (k)))) := by
    intro j
    induction j with
    | zero =>
      intro k X Y hk
      refine g_iload_n (i := 2) dX10_describeRow_33 rfl rfl ?_
      refine g_bipush (v := 8) dX10_describeRow_34 (by decide) ?_
      refine g_iload_n (i := 1) dX10_describeRow_36 rfl rfl ?_
      refine g_imul dX10_describeRow_37 ?_
      refine g_bipush (v := 8) dX10_describeRow_38 (by decide) ?_
      refine g_iadd dX10_describeRow_40 ?_
      rw [mul88]
      refine g_icmp_ge (tgt := 113) dX10_describeRow_41 (by decide) (fun c41 => ?_) (fun c41 => ?_)
      · obtain rfl : k = 8 := by omega
        refine g_aload_n (i := 0) dX10_describeRow_113 rfl rfl ?_
        refine g_getf dX10_describeRow_114 K_X10 (k := 29) fl_X10_263 (Nat.le_of_ble_eq_true rfl) mo_30 rfl ?_
        refine g_iret dX10_describeRow_117 rfl rfl ?_
        exact ⟨rfl, rfl⟩
      · exact absurd ((le_nI (a := 8 * j9 + 8) (b := 8 * j9 + k) rfl (by omega) (by omega)).mpr (by omega)) c41
    | succ j ih =>
      intro k X Y hk
      refine g_iload_n (i := 2) dX10_describeRow_33 rfl rfl ?_
      refine g_bipush (v := 8) dX10_describeRow_34 (by decide) ?_
      refine g_iload_n (i := 1) dX10_describeRow_36 rfl rfl ?_
      refine g_imul dX10_describeRow_37 ?_
      refine g_bipush (v := 8) dX10_describeRow_38 (by decide) ?_
      refine g_iadd dX10_describeRow_40 ?_
      rw [mul88]
      refine g_icmp_ge (tgt := 113) dX10_describeRow_41 (by decide) (fun c41 => ?_) (fun c41 => ?_)
      · exact absurd ((le_nI (a := 8 * j9 + 8) (b := 8 * j9 + k) rfl (by omega) (by omega)).mp c41) (by omega)
      · refine g_aload_n (i := 0) dX10_describeRow_44 rfl rfl ?_
        refine g_getf dX10_describeRow_45 K_X10 (k := 0) fl_X10_9 (Nat.le_of_ble_eq_true rfl) mo_30 rfl ?_
        refine g_iconst (v := 0) dX10_describeRow_48 (by decide) ?_
        refine g_iload_n (i := 2) dX10_describeRow_49 rfl rfl ?_
        refine g_iadd dX10_describeRow_50 ?_
        refine g_iald dX10_describeRow_51 mo_31 (ix0 (k := 8 * j9 + k) (by omega)) (by omega) ?_
        refine g_istore_n (i := 3) dX10_describeRow_52 rfl (Nat.le_of_ble_eq_true rfl) ?_
        refine g_aload_n (i := 0) dX10_describeRow_53 rfl rfl ?_
        refine g_getf dX10_describeRow_54 K_X10 (k := 0) fl_X10_9 (Nat.le_of_ble_eq_true rfl) mo_30 rfl ?_
        refine g_bipush (v := 64) dX10_describeRow_57 (by decide) ?_
        refine g_iload_n (i := 2) dX10_describeRow_59 rfl rfl ?_
        refine g_iadd dX10_describeRow_60 ?_
        refine g_iald dX10_describeRow_61 mo_31 (ixA (b := 64) (k := 8 * j9 + k) rfl (by omega)) (by omega) ?_
        refine g_if_le (tgt := 70) dX10_describeRow_62 (by decide) (fun c62 => ?_) (fun c62 => ?_)
        · refine g_aload_n (i := 0) dX10_describeRow_70 rfl rfl ?_
          refine g_getf dX10_describeRow_71 K_X10 (k := 0) fl_X10_9 (Nat.le_of_ble_eq_true rfl) mo_30 rfl ?_
          refine g_sipush (v := 128) dX10_describeRow_74 (by decide) ?_
          refine g_iload_n (i := 2) dX10_describeRow_77 rfl rfl ?_
          refine g_iadd dX10_describeRow_78 ?_
          refine g_iald dX10_describeRow_79 mo_31 (ixA (b := 128) (k := 8 * j9 + k) rfl (by omega)) (by omega) ?_
          refine g_istore dX10_describeRow_80 (Nat.le_of_ble_eq_true rfl) ?_
          refine g_aload_n (i := 0) dX10_describeRow_82 rfl rfl ?_
          refine g_iload_n (i := 3) dX10_describeRow_83 rfl rfl ?_
          refine g_if_le (tgt := 102) dX10_describeRow_84 (by decide) (fun c84 => ?_) (fun c84 => ?_)
          · refine g_iload dX10_describeRow_102 rfl ?_
            refine g_callV (ev_sign2 hl (L := (fun i => if i < k then srM (a 0) (8 * j9 + i) else a 15 i)) (n := k) (by omega)) dX10_describeRow_104 ml_X10_266 cvX10_sign K_X10 rfl mo_30 rfl rfl (Nat.le_of_ble_eq_true rfl) (Nat.le_of_ble_eq_true rfl) (Nat.zero_le _) (Nat.zero_le _) (kr_vd ?_) kx_rt
            refine g_iinc (w := 1) dX10_describeRow_107 (by decide) rfl (nI_succ (8 * j9 + k)).symm (Nat.le_of_ble_eq_true rfl) ?_
            refine g_goto (tgt := 33) dX10_describeRow_110 (by decide) ?_
            have e := cpS (b := (fun i => srM (a 0) (8 * j9 + i))) (c := a 15) (k := k)
            rw [show srM (a 0) (8 * j9 + k) = _ from sr_3 (nlt c84) (nlt c62)] at e
            refine Go.heap (h' := (mo h A (va_up a 15 (fun i => if i < (k + 1) then srM (a 0) (8 * j9 + i) else a 15 i), va_up (va_up f 11 0) 29 (nI (k + 1))))) (by rw [← e] <;> rfl) ?_
            exact ih (k + 1) _ _ (by omega)
          · refine g_bipush (v := 48) dX10_describeRow_87 (by decide) ?_
            refine g_bipush (v := 9) dX10_describeRow_89 (by decide) ?_
            refine g_iload_n (i := 3) dX10_describeRow_91 rfl rfl ?_
            refine g_bipush (v := 100) dX10_describeRow_92 (by decide) ?_
            refine g_idiv dX10_describeRow_94 (by decide) ?_
            refine g_min dX10_describeRow_95 ml_X10_269 w_static_yJ9_min_7cf53 w_init_java_lang_Math w_code_Math_min (Nat.le_of_ble_eq_true rfl) (Nat.le_of_ble_eq_true rfl) ?_
            refine g_iadd dX10_describeRow_98 ?_
            refine g_goto (tgt := 104) dX10_describeRow_99 (by decide) ?_
            refine g_callV (ev_sign2 hl (L := (fun i => if i < k then srM (a 0) (8 * j9 + i) else a 15 i)) (n := k) (by omega)) dX10_describeRow_104 ml_X10_266 cvX10_sign K_X10 rfl mo_30 rfl rfl (Nat.le_of_ble_eq_true rfl) (Nat.le_of_ble_eq_true rfl) (Nat.zero_le _) (Nat.zero_le _) (kr_vd ?_) kx_rt
            refine g_iinc (w := 1) dX10_describeRow_107 (by decide) rfl (nI_succ (8 * j9 + k)).symm (Nat.le_of_ble_eq_true rfl) ?_
            refine g_goto (tgt := 33) dX10_describeRow_110 (by decide) ?_
            have e := cpS (b := (fun i => srM (a 0) (8 * j9 + i))) (c := a 15) (k := k)
            rw [show srM (a 0) (8 * j9 + k) = _ from sr_1 (ltn c84)] at e
            refine Go.heap (h' := (mo h A (va_up a 15 (fun i => if i < (k + 1) then srM (a 0) (8 * j9 + i) else a 15 i), va_up (va_up f 11 0) 29 (nI (k + 1))))) (by rw [← e] <;> rfl) ?_
            exact ih (k + 1) _ _ (by omega)
        · refine g_bipush (v := 101) dX10_describeRow_65 (by decide) ?_
          refine g_goto (tgt := 80) dX10_describeRow_67 (by decide) ?_
          refine g_istore dX10_describeRow_80 (Nat.le_of_ble_eq_true rfl) ?_
          refine g_aload_n (i := 0) dX10_describeRow_82 rfl rfl ?_
          refine g_iload_n (i := 3) dX10_describeRow_83 rfl rfl ?_
          refine g_if_le (tgt := 102) dX10_describeRow_84 (by decide) (fun c84 => ?_) (fun c84 => ?_)
          · refine g_iload dX10_describeRow_102 rfl ?_
            refine g_callV (ev_sign2 hl (L := (fun i => if i < k then srM (a 0) (8 * j9 + i) else a 15 i)) (n := k) (by omega)) dX10_describeRow_104 ml_X10_266 cvX10_sign K_X10 rfl mo_30 rfl rfl (Nat.le_of_ble_eq_true rfl) (Nat.le_of_ble_eq_true rfl) (Nat.zero_le _) (Nat.zero_le _) (kr_vd ?_) kx_rt
            refine g_iinc (w := 1) dX10_describeRow_107 (by decide) rfl (nI_succ (8 * j9 + k)).symm (Nat.le_of_ble_eq_true rfl) ?_
            refine g_goto (tgt := 33) dX10_describeRow_110 (by decide) ?_
            have e := cpS (b := (fun i => srM (a 0) (8 * j9 + i))) (c := a 15) (k := k)
            rw [show srM (a 0) (8 * j9 + k) = _ from sr_2 (nlt c84) (ltn c62)] at e
            refine Go.heap (h' := (mo h A (va_up a 15 (fun i => if i < (k + 1) then srM (a 0) (8 * j9 + i) else a 15 i), va_up (va_up f 11 0) 29 (nI (k + 1))))) (by rw [← e] <;> rfl) ?_
            exact ih (k + 1) _ _ (by omega)
          · refine g_bipush (v := 48) dX10_describeRow_87 (by decide) ?_
            refine g_bipush (v := 9) dX10_describeRow_89 (by decide) ?_
            refine g_iload_n (i := 3) dX10_describeRow_91 rfl rfl ?_
            refine g_bipush (v := 100) dX10_describeRow_92 (by decide) ?_
            refine g_idiv dX10_describeRow_94 (by decide) ?_
            refine g_min dX10_describeRow_95 ml_X10_269 w_static_yJ9_min_7cf53 w_init_java_lang_Math w_code_Math_min (Nat.le_of_ble_eq_true rfl) (Nat.le_of_ble_eq_true rfl) ?_
            refine g_iadd dX10_describeRow_98 ?_
            refine g_goto (tgt := 104) dX10_describeRow_99 (by decide) ?_
            refine g_callV (ev_sign2 hl (L := (fun i => if i < k then srM (a 0) (8 * j9 + i) else a 15 i)) (n := k) (by omega)) dX10_describeRow_104 ml_X10_266 cvX10_sign K_X10 rfl mo_30 rfl rfl (Nat.le_of_ble_eq_true rfl) (Nat.le_of_ble_eq_true rfl) (Nat.zero_le _) (Nat.zero_le _) (kr_vd ?_) kx_rt
            refine g_iinc (w := 1) dX10_describeRow_107 (by decide) rfl (nI_succ (8 * j9 + k)).symm (Nat.le_of_ble_eq_true rfl) ?_
            refine g_goto (tgt := 33) dX10_describeRow_110 (by decide) ?_
            have e := cpS (b := (fun i => srM (a 0) (8 * j9 + i))) (c := a 15) (k := k)
            rw [show srM (a 0) (8 * j9 + k) = _ from sr_1 (ltn c84)] at e
            refine Go.heap (h' := (mo h A (va_up a 15 (fun i => if i < (k + 1) then srM (a 0) (8 * j9 + i) else a 15 i), va_up (va_up f 11 0) 29 (nI (k + 1))))) (by rw [← e] <;> rfl) ?_
            exact ih (k + 1) _ _ (by omega)
  refine g_aload_n (i := 0) dX10_describeRow_0 rfl rfl ?_
  refine g_iconst (v := 0) dX10_describeRow_1 (by decide) ?_
  refine g_putf dX10_describeRow_2 K_X10 (k := 11) fl_X10_67 (Nat.le_of_ble_eq_true rfl) rfl mo_30 (Nat.le_of_ble_eq_true rfl) rfl rfl (Go.heap (mo_f11) ?_)
  refine g_iload_n (i := 1) dX10_describeRow_5 rfl rfl ?_
  refine g_i2l dX10_describeRow_6 ?_
  refine g_lconst (v := 0) dX10_describeRow_7 (by decide) ?_
  refine g_ldc2 dX10_describeRow_8 co_X10_83 ?_
  refine g_callS (ev_in hl (lo := 0) (hi := 7) (by decide) (by decide)) dX10_describeRow_11 ml_X10_85 csX10_in rfl rfl (Nat.le_of_ble_eq_true rfl) (Nat.le_of_ble_eq_true rfl) (Nat.zero_le _) (Nat.zero_le _) (kr_rt ?_) kx_rt
  refine g_if_ne (tgt := 23) dX10_describeRow_14 (by decide) (fun c14 => ?_) (fun c14 => ?_)
  · refine g_aload_n (i := 0) dX10_describeRow_23 rfl rfl ?_
    refine g_iconst (v := 0) dX10_describeRow_24 (by decide) ?_
    refine g_putf dX10_describeRow_25 K_X10 (k := 29) fl_X10_263 (Nat.le_of_ble_eq_true rfl) rfl mo_30 (Nat.le_of_ble_eq_true rfl) rfl rfl (Go.heap (mo_f29) ?_)
    refine g_bipush (v := 8) dX10_describeRow_28 (by decide) ?_
    refine g_iload_n (i := 1) dX10_describeRow_30 rfl rfl ?_
    refine g_imul dX10_describeRow_31 ?_
    rw [mul8]
    refine g_istore_n (i := 2) dX10_describeRow_32 rfl (Nat.le_of_ble_eq_true rfl) ?_
    refine Go.heap (h' := (mo h A (va_up a 15 (fun i => if i < 0 then srM (a 0) (8 * j9 + i) else a 15 i), va_up (va_up f 11 0) 29 (nI (0))))) ?_ (loop 8 0 _ _ rfl)
    show mo h A (a, va_up (va_up f 11 0) 29 0) = mo h A (va_up a 15 (a 15), va_up (va_up f 11 0) 29 0)
    rw [va_self]
  · exact absurd c14 (by rw [if_pos ⟨nI_pos' (by omega), (nI_le' (b := 7) rfl (by omega) (by decide)).mpr (by omega)⟩]; decide)

set_option maxRecDepth 100000 in
theorem ev_mRow_no {l : Launch} {G : GG} (hl : l.stackTraces = false) {A : AD} {h : AH} {a : Nat → Nat → Int32} {f : Nat → Int32} {x : Int32} (hx : ¬ (0 ≤ x ∧ x ≤ 7)) :
    Ev l G 11 0 0 mX10_describeRow [.ref (A 30 0), .int x] (mo h A (a, f)) (Rt (some (.int (-1))) (mo h A (a, va_up f 11 1))) := by
  refine Ev.of hl (by decide) (Nat.le_of_ble_eq_true rfl) ?_
  refine g_aload_n (i := 0) dX10_describeRow_0 rfl rfl ?_
  refine g_iconst (v := 0) dX10_describeRow_1 (by decide) ?_
  refine g_putf dX10_describeRow_2 K_X10 (k := 11) fl_X10_67 (Nat.le_of_ble_eq_true rfl) rfl mo_30 (Nat.le_of_ble_eq_true rfl) rfl rfl (Go.heap (mo_f11) ?_)
  refine g_iload_n (i := 1) dX10_describeRow_5 rfl rfl ?_
  refine g_i2l dX10_describeRow_6 ?_
  refine g_lconst (v := 0) dX10_describeRow_7 (by decide) ?_
  refine g_ldc2 dX10_describeRow_8 co_X10_83 ?_
  refine g_callS (ev_in hl (lo := 0) (hi := 7) (by decide) (by decide)) dX10_describeRow_11 ml_X10_85 csX10_in rfl rfl (Nat.le_of_ble_eq_true rfl) (Nat.le_of_ble_eq_true rfl) (Nat.zero_le _) (Nat.zero_le _) (kr_rt ?_) kx_rt
  refine g_if_ne (tgt := 23) dX10_describeRow_14 (by decide) (fun c14 => ?_) (fun c14 => ?_)
  · exact absurd (if_neg hx) c14
  · refine g_aload_n (i := 0) dX10_describeRow_17 rfl rfl ?_
    refine g_iconst (v := 1) dX10_describeRow_18 (by decide) ?_
    refine g_callV (ev_throwing hl (x := 1)) dX10_describeRow_19 ml_X10_76 cvX10_throwing K_X10 rfl mo_30 rfl rfl (Nat.le_of_ble_eq_true rfl) (Nat.le_of_ble_eq_true rfl) (Nat.zero_le _) (Nat.zero_le _) (kr_rt ?_) kx_rt
    refine g_iret dX10_describeRow_22 rfl rfl ?_
    exact ⟨rfl, by rw [va_up2]⟩

set_option maxRecDepth 100000 in
theorem wn_loop {l : Launch} {G : GG} (hl : l.stackTraces = false) {A : AD} {h : AH} {a : Nat → Nat → Int32} {f : Nat → Int32} {v : Nat} (hv : v < 10000000) {P9 : Post} : ∀ (k : Nat) (L : Nat → Int32) (n : Nat), k < 8 → n + k ≤ 80 → (∀ L' : Nat → Int32, (∀ i, i < n → L' i = L i) → (∀ i, i < k → L' (n + i) = nI (48 + v / 10 ^ (k - 1 - i) % 10)) → P9 (.inl none) (mo h A (va_up a 15 L', va_up (f) 29 (nI (n + k))))) → Go l G mX10_writesNumber 11 0 0 P9 18 [some (.ref (A 30 0)), some (.int (nI v)), some (.int (nI (tnN k)))] [] (mo h A (va_up a 15 L, va_up (f) 29 (nI (n)))) := by
  intro k
  induction k with
  | zero =>
    intro L n hk hn hout
    refine g_iload_n (i := 2) dX10_writesNumber_18 rfl rfl ?_
    refine g_if_le (tgt := 43) dX10_writesNumber_19 (by decide) (fun c19 => ?_) (fun c19 => ?_)
    · refine g_vret dX10_writesNumber_43 rfl ?_
      exact hout L (fun i _ => rfl) (fun i hi => by omega)
    · exact absurd (Int32.le_refl 0) c19
  | succ k ih =>
    intro L n hk hn hout
    have e10 : tnN (k + 1) = 10 ^ k := if_neg (by omega)
    have hp := p10_in (k := k) (by omega)
    have ht : tnN (k + 1) < 2 ^ 31 := by omega
    have ht0 : ¬ nI (tnN (k + 1)) = 0 := fun q => by have := (nI_inj (a := tnN (k + 1)) (b := 0) ht (by decide)).mp q; omega
    refine g_iload_n (i := 2) dX10_writesNumber_18 rfl rfl ?_
    refine g_if_le (tgt := 43) dX10_writesNumber_19 (by decide) (fun c19 => ?_) (fun c19 => ?_)
    · exact absurd ((nI_le' (a := tnN (k + 1)) (b := 0) rfl ht (by decide)).mp c19) (by omega)
    · refine g_aload_n (i := 0) dX10_writesNumber_22 rfl rfl ?_
      refine g_bipush (v := 48) dX10_writesNumber_23 (by decide) ?_
      refine g_iload_n (i := 1) dX10_writesNumber_25 rfl rfl ?_
      refine g_iload_n (i := 2) dX10_writesNumber_26 rfl rfl ?_
      refine g_idiv dX10_writesNumber_27 ht0 ?_
      rw [pk_div (by omega) (by omega) ht, e10]
      refine g_bipush (v := 10) dX10_writesNumber_28 (by decide) ?_
      refine g_irem dX10_writesNumber_30 (by decide) ?_
      rw [show (nI (v / 10 ^ k) - nI (v / 10 ^ k) / 10 * 10) = nI (v / 10 ^ k % 10) from pk_rem (a := v / 10 ^ k) (d := 10) (Nat.lt_of_le_of_lt (Nat.div_le_self _ _) (by omega)) (by decide) (by decide)]
      refine g_iadd dX10_writesNumber_31 ?_
      rw [show 48 + nI (v / 10 ^ k % 10) = nI (48 + v / 10 ^ k % 10) from nI_add 48 _]
      refine g_callV (ev_sign2 hl (L := L) (n := n) (by omega)) dX10_writesNumber_32 ml_X10_266 cvX10_sign K_X10 rfl mo_30 rfl rfl (Nat.le_of_ble_eq_true rfl) (Nat.le_of_ble_eq_true rfl) (Nat.zero_le _) (Nat.zero_le _) (kr_vd ?_) kx_rt
      refine g_iload_n (i := 2) dX10_writesNumber_35 rfl rfl ?_
      refine g_bipush (v := 10) dX10_writesNumber_36 (by decide) ?_
      refine g_idiv dX10_writesNumber_38 (by decide) ?_
      rw [show nI (10 ^ k) / 10 = nI (tnN k) from by rw [← e10]; exact (pk_div (d := 10) ht (by decide) (by decide)).trans (congrArg nI (tn_10 (by omega)))]
      refine g_istore_n (i := 2) dX10_writesNumber_39 rfl (Nat.le_of_ble_eq_true rfl) ?_
      refine g_goto (tgt := 18) dX10_writesNumber_40 (by decide) ?_
      refine ih (va_up L n (nI (48 + v / 10 ^ k % 10))) (n + 1) (by omega) (by omega) (fun L' h1 h2 => ?_)
      rw [show n + 1 + k = n + (k + 1) by omega]
      refine hout L' (fun i hi => (h1 i (by omega)).trans (va_up_ne _ _ (by omega))) (fun i hi => ?_)
      by_cases e : i = 0
      · subst e
        rw [Nat.add_zero, h1 n (by omega), va_up_self, show k + 1 - 1 - 0 = k by omega]
      · rw [show n + i = n + 1 + (i - 1) by omega, h2 (i - 1) (by omega), show k - 1 - (i - 1) = k + 1 - 1 - i by omega]

set_option maxRecDepth 100000 in
theorem ev_number {l : Launch} {G : GG} (hl : l.stackTraces = false) {A : AD} {h : AH} {a : Nat → Nat → Int32} {f : Nat → Int32} {v : Nat} (hv : v < 10000000) {L : Nat → Int32} {n : Nat} (hn : n + sb_dg v ≤ 80) :
    Ev l G 11 0 0 mX10_writesNumber [.ref (A 30 0), .int (nI v)] (mo h A (va_up a 15 L, va_up (f) 29 (nI (n)))) (RtX none (fun x : {L' : Nat → Int32 // (∀ i, i < n → L' i = L i) ∧ ∀ i, i < sb_dg v → L' (n + i) = nI (sb_dec v i)} => (mo h A (va_up a 15 x.1, va_up (f) 29 (nI (n + sb_dg v)))))) := by
  refine Ev.of hl (by decide) (Nat.le_of_ble_eq_true rfl) ?_
  have hd7 := dg7 hv
  have loop : ∀ (j : Nat) (k : Nat), k + 1 + j = sb_dg v → Go l G mX10_writesNumber 11 0 0 (RtX none (fun x : {L' : Nat → Int32 // (∀ i, i < n → L' i = L i) ∧ ∀ i, i < sb_dg v → L' (n + i) = nI (sb_dec v i)} => (mo h A (va_up a 15 x.1, va_up (f) 29 (nI (n + sb_dg v)))))) 2 [some (.ref (A 30 0)), some (.int (nI v)), some (.int (nI (10 ^ k)))] [] (mo h A (va_up a 15 L, va_up (f) 29 (nI (n)))) := by
    intro j
    induction j with
    | zero =>
      intro k hk
      have hp := p10_in (k := k) (by omega)
      have hdv : v / 10 ^ k < 2 ^ 31 := Nat.lt_of_le_of_lt (Nat.div_le_self _ _) (by omega)
      have ht0 : ¬ nI (10 ^ k) = 0 := fun q => by have := (nI_inj (a := 10 ^ k) (b := 0) (by omega) (by decide)).mp q; omega
      refine g_iload_n (i := 1) dX10_writesNumber_2 rfl rfl ?_
      refine g_iload_n (i := 2) dX10_writesNumber_3 rfl rfl ?_
      refine g_idiv dX10_writesNumber_4 ht0 ?_
      rw [pk_div (by omega) hp.1 (by omega)]
      refine g_bipush (v := 9) dX10_writesNumber_5 (by decide) ?_
      refine g_icmp_le (tgt := 18) dX10_writesNumber_7 (by decide) (fun c7 => ?_) (fun c7 => ?_)
      · have ed : sb_dg v = k + 1 := by omega
        rw [ed]
        rw [show nI (10 ^ k) = nI (tnN (k + 1)) from congrArg nI (if_neg (by omega)).symm]
        refine wn_loop hl hv (k + 1) L n (by omega) (by omega) (fun L9 h1 h2 => ?_)
        exact ⟨rfl, ⟨L9, h1, fun i hi => by rw [h2 i hi, sb_dec, ed]⟩, rfl⟩
      · exact absurd ((nI_le' (a := v / 10 ^ k) (b := 9) rfl hdv (by decide)).mpr ((dg_k hv k (by omega)).mpr (by omega))) c7
    | succ j ih =>
      intro k hk
      have hp := p10_in (k := k) (by omega)
      have hdv : v / 10 ^ k < 2 ^ 31 := Nat.lt_of_le_of_lt (Nat.div_le_self _ _) (by omega)
      have ht0 : ¬ nI (10 ^ k) = 0 := fun q => by have := (nI_inj (a := 10 ^ k) (b := 0) (by omega) (by decide)).mp q; omega
      refine g_iload_n (i := 1) dX10_writesNumber_2 rfl rfl ?_
      refine g_iload_n (i := 2) dX10_writesNumber_3 rfl rfl ?_
      refine g_idiv dX10_writesNumber_4 ht0 ?_
      rw [pk_div (by omega) hp.1 (by omega)]
      refine g_bipush (v := 9) dX10_writesNumber_5 (by decide) ?_
      refine g_icmp_le (tgt := 18) dX10_writesNumber_7 (by decide) (fun c7 => ?_) (fun c7 => ?_)
      · exact absurd ((dg_k hv k (by omega)).mp ((nI_le' (a := v / 10 ^ k) (b := 9) rfl hdv (by decide)).mp c7)) (by omega)
      · refine g_iload_n (i := 2) dX10_writesNumber_10 rfl rfl ?_
        refine g_bipush (v := 10) dX10_writesNumber_11 (by decide) ?_
        refine g_imul dX10_writesNumber_13 ?_
        rw [nI_mul10]
        refine g_istore_n (i := 2) dX10_writesNumber_14 rfl (Nat.le_of_ble_eq_true rfl) ?_
        refine g_goto (tgt := 2) dX10_writesNumber_15 (by decide) ?_
        exact ih (k + 1) (by omega)
  refine g_iconst (v := 1) dX10_writesNumber_0 (by decide) ?_
  refine g_istore_n (i := 2) dX10_writesNumber_1 rfl (Nat.le_of_ble_eq_true rfl) ?_
  exact loop (sb_dg v - 1) 0 (by have := (sb_dg_in v).1; omega)

section MOL
variable {h : AH} {A : AD} {a : Nat → Nat → Int32} {f : Nat → Int32} {P B L : Nat → Int32}
theorem mo_l41 : mo h A (va_up (A2 a P B) 15 L, f) 41 0 = some (iArr (A 41 0) 64 P) := rfl
theorem mo_l42 : mo h A (va_up (A2 a P B) 15 L, f) 42 0 = some (zArr (A 42 0) 64 B) := rfl
end MOL

set_option maxRecDepth 100000 in
theorem lg_loop {l : Launch} {G : GG} (hl : l.stackTraces = false) {A : AD} {h : AH} {a : Nat → Nat → Int32} {f : Nat → Int32} {P B : Nat → Int32} {n : Nat} (h20 : f 20 = nI n) (hn : n ≤ 64) (hv : ∀ i, i < n → ∃ d, d < 64 ∧ P i = nI d) (hh : ∀ i, i < 64 → 0 ≤ a 0 i ∧ a 0 i < 10000000) (hb : (dlT (a 0) P B n n).2 ≤ 80) {v : Int32} : ∀ (j : Nat) (k : Nat) (L : Nat → Int32), k + j = n → lnR L (dlT (a 0) P B n k) → Go l G mX10_describeLegend 13 0 0 (RtX (some (.int (nI (dlT (a 0) P B n n).2))) (fun x : {L : Nat → Int32 // lnR L (dlT (a 0) P B n n)} => (mo h A (va_up (A2 a P B) 15 x.1, va_up (f) 29 (nI ((dlT (a 0) P B n n).2)))))) 26 [some (.ref (A 30 0)), some (.int v), some (.int (nI k))] [] (mo h A (va_up (A2 a P B) 15 L, va_up (f) 29 (nI ((dlT (a 0) P B n k).2)))) := by
  have loop : ∀ (j : Nat) (k : Nat) (L : Nat → Int32), k + j = n → lnR L (dlT (a 0) P B n k) → Go l G mX10_describeLegend 13 0 0 (RtX (some (.int (nI (dlT (a 0) P B n n).2))) (fun x : {L : Nat → Int32 // lnR L (dlT (a 0) P B n n)} => (mo h A (va_up (A2 a P B) 15 x.1, va_up (f) 29 (nI ((dlT (a 0) P B n n).2)))))) 26 [some (.ref (A 30 0)), some (.int v), some (.int (nI k))] [] (mo h A (va_up (A2 a P B) 15 L, va_up (f) 29 (nI ((dlT (a 0) P B n k).2)))) := by
    intro j
    induction j with
    | zero =>
      intro k L hk hL
      refine g_iload_n (i := 2) dX10_describeLegend_26 rfl rfl ?_
      refine g_aload_n (i := 0) dX10_describeLegend_27 rfl rfl ?_
      refine g_getf dX10_describeLegend_28 K_X10 (k := 20) fl_X10_190 (Nat.le_of_ble_eq_true rfl) mo_30 rfl ?_
      refine g_icmp_ge (tgt := 120) dX10_describeLegend_31 (by decide) (fun c31 => ?_) (fun c31 => ?_)
      · obtain rfl : k = n := by omega
        refine g_aload_n (i := 0) dX10_describeLegend_120 rfl rfl ?_
        refine g_getf dX10_describeLegend_121 K_X10 (k := 29) fl_X10_263 (Nat.le_of_ble_eq_true rfl) mo_30 rfl ?_
        refine g_iret dX10_describeLegend_124 rfl rfl ?_
        exact ⟨rfl, ⟨L, hL⟩, rfl⟩
      · exact absurd ((le_nI (a := n) (b := k) h20 (by omega) (by omega)).mpr (by omega)) c31
    | succ j ih =>
      intro k L hk hL
      have hk9 : k < n := by omega
      have z1 := dl_le (H := a 0) (P := P) (B := B) (n := n) (k := k) (T := (dlT (a 0) P B n k))
      have z2 := dl_mono (H := a 0) (P := P) (B := B) (n := n) j (k + 1)
      rw [show k + 1 + j = n by omega, show (dlT (a 0) P B n (k + 1)) = dl3 (a 0) P B n k (dlT (a 0) P B n k) from rfl] at z2
      obtain ⟨d, hd, ed⟩ := hv k hk9
      have ehv : a 0 d = nI (hvN (a 0) P k) := by rw [hvN, ed, orH_nI (by omega)]; exact (nI_ofS (hh d hd).1).1
      have hvl : hvN (a 0) P k < 10000000 := by
        have q1 := (hh d hd).2
        rw [ehv] at q1
        have q2 := (nI_ofS (hh d hd).1).2
        rw [show (a 0 d).toNatClampNeg = hvN (a 0) P k by rw [hvN, ed, orH_nI (by omega)]] at q2
        exact (nI_lt' (b := 10000000) rfl q2 (by decide)).mp q1
      have h114 : ∀ L, lnR L (dlT (a 0) P B n (k + 1)) → Go l G mX10_describeLegend 13 0 0 (RtX (some (.int (nI (dlT (a 0) P B n n).2))) (fun x : {L : Nat → Int32 // lnR L (dlT (a 0) P B n n)} => (mo h A (va_up (A2 a P B) 15 x.1, va_up (f) 29 (nI ((dlT (a 0) P B n n).2)))))) 114 [some (.ref (A 30 0)), some (.int v), some (.int (nI k))] [] (mo h A (va_up (A2 a P B) 15 L, va_up (f) 29 (nI ((dlT (a 0) P B n (k + 1)).2)))) := by
        intro L hL
        refine g_iinc (w := 1) dX10_describeLegend_114 (by decide) rfl (nI_succ k).symm (Nat.le_of_ble_eq_true rfl) ?_
        refine g_goto (tgt := 26) dX10_describeLegend_117 (by decide) ?_
        exact ih (k + 1) L (by omega) hL
      have h97 : (k + 1 = n ∨ ¬ B (k + 1) = 0) → ∀ L, lnR L (dl2 (a 0) P B k (dlT (a 0) P B n k)) → Go l G mX10_describeLegend 13 0 0 (RtX (some (.int (nI (dlT (a 0) P B n n).2))) (fun x : {L : Nat → Int32 // lnR L (dlT (a 0) P B n n)} => (mo h A (va_up (A2 a P B) 15 x.1, va_up (f) 29 (nI ((dlT (a 0) P B n n).2)))))) 97 [some (.ref (A 30 0)), some (.int v), some (.int (nI k))] [] (mo h A (va_up (A2 a P B) 15 L, va_up (f) 29 (nI ((dl2 (a 0) P B k (dlT (a 0) P B n k)).2)))) := by
        intro hb9 L hL
        have e3 := z1.2.2.2.2.2 hb9
        refine g_aload_n (i := 0) dX10_describeLegend_97 rfl rfl ?_
        refine g_aload_n (i := 0) dX10_describeLegend_98 rfl rfl ?_
        refine g_getf dX10_describeLegend_99 K_X10 (k := 0) fl_X10_9 (Nat.le_of_ble_eq_true rfl) mo_30 rfl ?_
        refine g_iconst (v := 0) dX10_describeLegend_102 (by decide) ?_
        refine g_aload_n (i := 0) dX10_describeLegend_103 rfl rfl ?_
        refine g_getf dX10_describeLegend_104 K_X10 (k := 18) fl_X10_48 (Nat.le_of_ble_eq_true rfl) mo_30 rfl ?_
        refine g_iload_n (i := 2) dX10_describeLegend_107 rfl rfl ?_
        refine g_iald dX10_describeLegend_108 mo_l41 (ix_nI (j := k) (by omega)) (by omega) ?_
        refine g_iadd dX10_describeLegend_109 ?_
        refine g_iald dX10_describeLegend_110 mo_31 (show ix (0 + P k) d by rw [ed]; exact ix0 (by omega)) (show d < 202 by omega) ?_
        rw [show va_up (A2 a P B) 15 L 0 d = nI (hvN (a 0) P k) from ehv]
        refine g_callV (ev_number hl hvl (L := L) (n := (dl2 (a 0) P B k (dlT (a 0) P B n k)).2) (by omega)) dX10_describeLegend_111 ml_X10_272 cvX10_writesNumber K_X10 rfl mo_30 rfl rfl (Nat.le_of_ble_eq_true rfl) (Nat.le_of_ble_eq_true rfl) (Nat.zero_le _) (Nat.zero_le _) (kr_xv (fun x8 => ?_)) kx_x
        have e4 : (dlT (a 0) P B n (k + 1)) = tI (dl2 (a 0) P B k (dlT (a 0) P B n k)) (hvN (a 0) P k) := if_pos hb9
        have z := h114 x8.1 (by rw [e4]; exact ln_i hL x8.2.1 x8.2.2)
        rw [e4] at z
        exact z
      have h76 : ∀ L, lnR L (dl2 (a 0) P B k (dlT (a 0) P B n k)) → Go l G mX10_describeLegend 13 0 0 (RtX (some (.int (nI (dlT (a 0) P B n n).2))) (fun x : {L : Nat → Int32 // lnR L (dlT (a 0) P B n n)} => (mo h A (va_up (A2 a P B) 15 x.1, va_up (f) 29 (nI ((dlT (a 0) P B n n).2)))))) 76 [some (.ref (A 30 0)), some (.int v), some (.int (nI k))] [] (mo h A (va_up (A2 a P B) 15 L, va_up (f) 29 (nI ((dl2 (a 0) P B k (dlT (a 0) P B n k)).2)))) := by
        intro L hL
        refine g_iload_n (i := 2) dX10_describeLegend_76 rfl rfl ?_
        refine g_iconst (v := 1) dX10_describeLegend_77 (by decide) ?_
        refine g_iadd dX10_describeLegend_78 ?_
        rw [show nI k + 1 = nI (k + 1) from (nI_succ k).symm]
        refine g_aload_n (i := 0) dX10_describeLegend_79 rfl rfl ?_
        refine g_getf dX10_describeLegend_80 K_X10 (k := 20) fl_X10_190 (Nat.le_of_ble_eq_true rfl) mo_30 rfl ?_
        refine g_icmp_eq (tgt := 97) dX10_describeLegend_83 (by decide) (fun c83 => ?_) (fun c83 => ?_)
        · exact h97 (Or.inl ((nI_inj (by omega) (by omega)).mp (c83.trans h20))) L hL
        · have hkn : ¬ k + 1 = n := fun q9 => c83 (by rw [q9]; exact h20.symm)
          refine g_aload_n (i := 0) dX10_describeLegend_86 rfl rfl ?_
          refine g_getf dX10_describeLegend_87 K_X10 (k := 19) fl_X10_51 (Nat.le_of_ble_eq_true rfl) mo_30 rfl ?_
          refine g_iload_n (i := 2) dX10_describeLegend_90 rfl rfl ?_
          refine g_iconst (v := 1) dX10_describeLegend_91 (by decide) ?_
          refine g_iadd dX10_describeLegend_92 ?_
          rw [show nI k + 1 = nI (k + 1) from (nI_succ k).symm]
          refine g_zald dX10_describeLegend_93 mo_l42 (ix_nI (j := k + 1) (by omega)) (show k + 1 < 64 by omega) ?_
          refine g_if_eq (tgt := 114) dX10_describeLegend_94 (by decide) (fun c94 => ?_) (fun c94 => ?_)
          · have e4 : (dlT (a 0) P B n (k + 1)) = (dl2 (a 0) P B k (dlT (a 0) P B n k)) := if_neg (fun q9 => q9.elim hkn (fun q8 => q8 c94))
            have z := h114 L (by rw [e4]; exact hL)
            rw [e4] at z
            exact z
          · exact h97 (Or.inr c94) L hL
      have h53 : ¬ B k = 0 → ∀ L, lnR L (dl1 (a 0) P B k (dlT (a 0) P B n k)) → Go l G mX10_describeLegend 13 0 0 (RtX (some (.int (nI (dlT (a 0) P B n n).2))) (fun x : {L : Nat → Int32 // lnR L (dlT (a 0) P B n n)} => (mo h A (va_up (A2 a P B) 15 x.1, va_up (f) 29 (nI ((dlT (a 0) P B n n).2)))))) 53 [some (.ref (A 30 0)), some (.int v), some (.int (nI k))] [] (mo h A (va_up (A2 a P B) 15 L, va_up (f) 29 (nI ((dl1 (a 0) P B k (dlT (a 0) P B n k)).2)))) := by
        intro hB L hL
        have z3 := z1.2.2.1 hB
        refine g_aload_n (i := 0) dX10_describeLegend_53 rfl rfl ?_
        refine g_aload_n (i := 0) dX10_describeLegend_54 rfl rfl ?_
        refine g_getf dX10_describeLegend_55 K_X10 (k := 0) fl_X10_9 (Nat.le_of_ble_eq_true rfl) mo_30 rfl ?_
        refine g_iconst (v := 0) dX10_describeLegend_58 (by decide) ?_
        refine g_aload_n (i := 0) dX10_describeLegend_59 rfl rfl ?_
        refine g_getf dX10_describeLegend_60 K_X10 (k := 18) fl_X10_48 (Nat.le_of_ble_eq_true rfl) mo_30 rfl ?_
        refine g_iload_n (i := 2) dX10_describeLegend_63 rfl rfl ?_
        refine g_iald dX10_describeLegend_64 mo_l41 (ix_nI (j := k) (by omega)) (by omega) ?_
        refine g_iadd dX10_describeLegend_65 ?_
        refine g_iald dX10_describeLegend_66 mo_31 (show ix (0 + P k) d by rw [ed]; exact ix0 (by omega)) (show d < 202 by omega) ?_
        rw [show va_up (A2 a P B) 15 L 0 d = nI (hvN (a 0) P k) from ehv]
        refine g_callV (ev_number hl hvl (L := L) (n := (dl1 (a 0) P B k (dlT (a 0) P B n k)).2) (by omega)) dX10_describeLegend_67 ml_X10_272 cvX10_writesNumber K_X10 rfl mo_30 rfl rfl (Nat.le_of_ble_eq_true rfl) (Nat.le_of_ble_eq_true rfl) (Nat.zero_le _) (Nat.zero_le _) (kr_xv (fun x8 => ?_)) kx_x
        refine g_aload_n (i := 0) dX10_describeLegend_70 rfl rfl ?_
        refine g_bipush (v := 45) dX10_describeLegend_71 (by decide) ?_
        refine g_callV (ev_sign2 hl (L := x8.1) (n := (dl1 (a 0) P B k (dlT (a 0) P B n k)).2 + sb_dg (hvN (a 0) P k)) (by omega)) dX10_describeLegend_73 ml_X10_266 cvX10_sign K_X10 rfl mo_30 rfl rfl (Nat.le_of_ble_eq_true rfl) (Nat.le_of_ble_eq_true rfl) (Nat.zero_le _) (Nat.zero_le _) (kr_vd ?_) kx_rt
        have e4 : (dl2 (a 0) P B k (dlT (a 0) P B n k)) = tC (tI (dl1 (a 0) P B k (dlT (a 0) P B n k)) (hvN (a 0) P k)) 45 := if_neg hB
        have z := h76 _ (by rw [e4]; exact ln_c (T := tI (dl1 (a 0) P B k (dlT (a 0) P B n k)) (hvN (a 0) P k)) (ln_i hL x8.2.1 x8.2.2) rfl)
        rw [e4] at z
        exact z
      refine g_iload_n (i := 2) dX10_describeLegend_26 rfl rfl ?_
      refine g_aload_n (i := 0) dX10_describeLegend_27 rfl rfl ?_
      refine g_getf dX10_describeLegend_28 K_X10 (k := 20) fl_X10_190 (Nat.le_of_ble_eq_true rfl) mo_30 rfl ?_
      refine g_icmp_ge (tgt := 120) dX10_describeLegend_31 (by decide) (fun c31 => ?_) (fun c31 => ?_)
      · exact absurd ((le_nI (a := n) (b := k) h20 (by omega) (by omega)).mp c31) (by omega)
      · refine g_aload_n (i := 0) dX10_describeLegend_34 rfl rfl ?_
        refine g_getf dX10_describeLegend_35 K_X10 (k := 19) fl_X10_51 (Nat.le_of_ble_eq_true rfl) mo_30 rfl ?_
        refine g_iload_n (i := 2) dX10_describeLegend_38 rfl rfl ?_
        refine g_zald dX10_describeLegend_39 mo_l42 (ix_nI (j := k) (by omega)) (by omega) ?_
        refine g_if_eq (tgt := 76) dX10_describeLegend_40 (by decide) (fun c40 => ?_) (fun c40 => ?_)
        · have e4 : (dl2 (a 0) P B k (dlT (a 0) P B n k)) = (dlT (a 0) P B n k) := z1.2.1 c40
          have z := h76 L (by rw [e4]; exact hL)
          rw [e4] at z
          exact z
        · refine g_iload_n (i := 2) dX10_describeLegend_43 rfl rfl ?_
          refine g_if_le (tgt := 53) dX10_describeLegend_44 (by decide) (fun c44 => ?_) (fun c44 => ?_)
          · have e4 : (dl1 (a 0) P B k (dlT (a 0) P B n k)) = (dlT (a 0) P B n k) := if_pos (by have := (nI_le' (a := k) (b := 0) rfl (by omega) (by decide)).mp c44; omega)
            have z := h53 c40 L (by rw [e4]; exact hL)
            rw [e4] at z
            exact z
          · have hk0 : ¬ k = 0 := fun q9 => c44 (by rw [q9]; exact Int32.le_refl 0)
            have z3 := z1.2.2.1 c40
            have e4 : (dl1 (a 0) P B k (dlT (a 0) P B n k)) = tC (dlT (a 0) P B n k) 44 := if_neg hk0
            have e5 : (dl1 (a 0) P B k (dlT (a 0) P B n k)).2 = (dlT (a 0) P B n k).2 + 1 := by rw [e4]; rfl
            refine g_aload_n (i := 0) dX10_describeLegend_47 rfl rfl ?_
            refine g_bipush (v := 44) dX10_describeLegend_48 (by decide) ?_
            refine g_callV (ev_sign2 hl (L := L) (n := (dlT (a 0) P B n k).2) (by omega)) dX10_describeLegend_50 ml_X10_266 cvX10_sign K_X10 rfl mo_30 rfl rfl (Nat.le_of_ble_eq_true rfl) (Nat.le_of_ble_eq_true rfl) (Nat.zero_le _) (Nat.zero_le _) (kr_vd ?_) kx_rt
            have z := h53 c40 _ (by rw [e4]; exact ln_c hL rfl)
            rw [e4] at z
            exact z
  exact loop

set_option maxRecDepth 100000 in
theorem ev_mLegend {l : Launch} {G : GG} (hl : l.stackTraces = false) {A : AD} {h : AH} {a : Nat → Nat → Int32} {f : Nat → Int32} {c : Nat} (hc1 : 1 ≤ c) (hc6 : c ≤ 6) (hc : c ≤ ordM a) (hh : ∀ i, i < 64 → 0 ≤ a 0 i ∧ a 0 i < 10000000) (hb : (dlT (a 0) (ordP a) (dvB a c) (ordM a) (ordM a)).2 ≤ 80) :
    Ev l G 13 0 0 mX10_describeLegend [.ref (A 30 0), .int (nI c)] (mo h A (a, f)) (RtX (some (.int (nI (dlT (a 0) (ordP a) (dvB a c) (ordM a) (ordM a)).2))) (fun x : {L : Nat → Int32 // lnR L (dlT (a 0) (ordP a) (dvB a c) (ordM a) (ordM a))} => (mo h A (va_up (lgA a c) 15 x.1, va_up (va_up (lgF f a) 11 0) 29 (nI (dlT (a 0) (ordP a) (dvB a c) (ordM a) (ordM a)).2))))) := by
  refine Ev.of hl (by decide) (Nat.le_of_ble_eq_true rfl) ?_
  refine g_aload_n (i := 0) dX10_describeLegend_0 rfl rfl ?_
  refine g_aload_n (i := 0) dX10_describeLegend_1 rfl rfl ?_
  refine g_iload_n (i := 1) dX10_describeLegend_2 rfl rfl ?_
  refine g_iconst (v := 1) dX10_describeLegend_3 (by decide) ?_
  refine g_callV (ev_divides hl hc1 hc6 hc (v := 1)) dX10_describeLegend_4 ml_X10_201 cvX10_divides K_X10 rfl mo_30 rfl rfl (Nat.le_of_ble_eq_true rfl) (Nat.le_of_ble_eq_true rfl) (Nat.zero_le _) (Nat.zero_le _) (kr_rt ?_) kx_rt
  refine g_putf dX10_describeLegend_7 K_X10 (k := 11) fl_X10_67 (Nat.le_of_ble_eq_true rfl) rfl mo_30 (Nat.le_of_ble_eq_true rfl) rfl rfl (Go.heap (mo_f11) ?_)
  refine g_aload_n (i := 0) dX10_describeLegend_10 rfl rfl ?_
  refine g_getf dX10_describeLegend_11 K_X10 (k := 11) fl_X10_67 (Nat.le_of_ble_eq_true rfl) mo_30 rfl ?_
  refine g_if_le (tgt := 19) dX10_describeLegend_14 (by decide) (fun c14 => ?_) (fun c14 => ?_)
  · refine g_aload_n (i := 0) dX10_describeLegend_19 rfl rfl ?_
    refine g_iconst (v := 0) dX10_describeLegend_20 (by decide) ?_
    refine g_putf dX10_describeLegend_21 K_X10 (k := 29) fl_X10_263 (Nat.le_of_ble_eq_true rfl) rfl mo_30 (Nat.le_of_ble_eq_true rfl) rfl rfl (Go.heap (mo_f29) ?_)
    refine g_iconst (v := 0) dX10_describeLegend_24 (by decide) ?_
    refine g_istore_n (i := 2) dX10_describeLegend_25 rfl (Nat.le_of_ble_eq_true rfl) ?_
    refine Go.heap (h' := (mo h A (va_up (A2 a (ordP a) (dvB a c)) 15 (a 15), va_up (va_up (lgF f a) 11 0) 29 (nI 0)))) ?_ (lg_loop hl (f := va_up (lgF f a) 11 0) (P := ordP a) (B := dvB a c) rfl ordM_le ordP_V hh hb (ordM a) 0 (a 15) (Nat.zero_add _) (fun i hi => absurd hi (Nat.not_lt_zero i)))
    show mo h A (lgA a c, va_up (va_up (lgF f a) 11 0) 29 0) = mo h A (va_up (lgA a c) 15 ((lgA a c) 15), va_up (va_up (lgF f a) 11 0) 29 0)
    rw [va_self]
  · exact absurd (show (0 : Int32) ≤ 0 from Int32.le_refl 0) c14

set_option maxRecDepth 100000 in
theorem ev_mLegend_no {l : Launch} {G : GG} (hl : l.stackTraces = false) {A : AD} {h : AH} {a : Nat → Nat → Int32} {f : Nat → Int32} {x : Int32} (hx : ¬ (clsP x ∧ x ≤ nI (ordM a))) :
    Ev l G 13 0 0 mX10_describeLegend [.ref (A 30 0), .int x] (mo h A (a, f)) (Rt (some (.int (-1))) (mo h A (va_up a 10 (ordP a), va_up (lgF f a) 11 (dvT x 1)))) := by
  refine Ev.of hl (by decide) (Nat.le_of_ble_eq_true rfl) ?_
  refine g_aload_n (i := 0) dX10_describeLegend_0 rfl rfl ?_
  refine g_aload_n (i := 0) dX10_describeLegend_1 rfl rfl ?_
  refine g_iload_n (i := 1) dX10_describeLegend_2 rfl rfl ?_
  refine g_iconst (v := 1) dX10_describeLegend_3 (by decide) ?_
  refine g_callV (ev_divides_no hl hx (v := 1)) dX10_describeLegend_4 ml_X10_201 cvX10_divides K_X10 rfl mo_30 rfl rfl (Nat.le_of_ble_eq_true rfl) (Nat.le_of_ble_eq_true rfl) (Nat.zero_le _) (Nat.zero_le _) (kr_rt ?_) kx_rt
  refine g_putf dX10_describeLegend_7 K_X10 (k := 11) fl_X10_67 (Nat.le_of_ble_eq_true rfl) rfl mo_30 (Nat.le_of_ble_eq_true rfl) rfl rfl (Go.heap (mo_f11) ?_)
  refine g_aload_n (i := 0) dX10_describeLegend_10 rfl rfl ?_
  refine g_getf dX10_describeLegend_11 K_X10 (k := 11) fl_X10_67 (Nat.le_of_ble_eq_true rfl) mo_30 rfl ?_
  refine g_if_le (tgt := 19) dX10_describeLegend_14 (by decide) (fun c14 => ?_) (fun c14 => ?_)
  · exact absurd (show dvT x 1 ≤ 0 from c14) (Int32.not_le.mpr dvT_pos.1)
  · refine g_iconst (v := (-1)) dX10_describeLegend_17 (by decide) ?_
    refine g_iret dX10_describeLegend_18 rfl rfl ?_
    exact ⟨rfl, rfl⟩

set_option maxRecDepth 100000 in
theorem ev_mLineAt {l : Launch} {G : GG} (hl : l.stackTraces = false) {A : AD} {h : AH} {a : Nat → Nat → Int32} {f : Nat → Int32} {i w : Nat} (hi : i < 80) (hx : 0 ≤ nI i ∧ nI i ≤ f 29 - 1) (hw : a 15 i = nI w) (hw2 : w < 256) :
    Ev l G 11 0 0 mX10_lineAt [.ref (A 30 0), .int (nI i)] (mo h A (a, f)) (Rt (some (.int (nI w))) (mo h A (a, va_up f 11 0))) := by
  refine Ev.of hl (by decide) (Nat.le_of_ble_eq_true rfl) ?_
  refine g_aload_n (i := 0) dX10_lineAt_0 rfl rfl ?_
  refine g_iconst (v := 0) dX10_lineAt_1 (by decide) ?_
  refine g_putf dX10_lineAt_2 K_X10 (k := 11) fl_X10_67 (Nat.le_of_ble_eq_true rfl) rfl mo_30 (Nat.le_of_ble_eq_true rfl) rfl rfl (Go.heap (mo_f11) ?_)
  refine g_iload_n (i := 1) dX10_lineAt_5 rfl rfl ?_
  refine g_i2l dX10_lineAt_6 ?_
  refine g_lconst (v := 0) dX10_lineAt_7 (by decide) ?_
  refine g_aload_n (i := 0) dX10_lineAt_8 rfl rfl ?_
  refine g_getf dX10_lineAt_9 K_X10 (k := 29) fl_X10_263 (Nat.le_of_ble_eq_true rfl) mo_30 rfl ?_
  refine g_iconst (v := 1) dX10_lineAt_12 (by decide) ?_
  refine g_isub dX10_lineAt_13 ?_
  refine g_i2l dX10_lineAt_14 ?_
  refine g_callS (ev_in hl (lo := 0) (hi := f 29 - 1) (by decide) rfl) dX10_lineAt_15 ml_X10_85 csX10_in rfl rfl (Nat.le_of_ble_eq_true rfl) (Nat.le_of_ble_eq_true rfl) (Nat.zero_le _) (Nat.zero_le _) (kr_rt ?_) kx_rt
  refine g_if_eq (tgt := 31) dX10_lineAt_18 (by decide) (fun c18 => ?_) (fun c18 => ?_)
  · exact absurd c18 (by rw [if_pos hx]; decide)
  · refine g_aload_n (i := 0) dX10_lineAt_21 rfl rfl ?_
    refine g_getf dX10_lineAt_22 K_X10 (k := 28) fl_X10_64 (Nat.le_of_ble_eq_true rfl) mo_30 rfl ?_
    refine g_iload_n (i := 1) dX10_lineAt_25 rfl rfl ?_
    refine g_iald dX10_lineAt_26 mo_46 (ix_nI (j := i) (by omega)) (by omega) ?_
    rw [hw]
    refine g_i2c dX10_lineAt_27 (sb_byte w hw2).2.1 ?_
    refine g_goto (tgt := 37) dX10_lineAt_28 (by decide) ?_
    refine g_iret dX10_lineAt_37 rfl (show narrow .char (.int (nI w)) = .int (nI w) from congrArg Value.int (sb_byte w hw2).2.1) ?_
    exact ⟨rfl, rfl⟩

set_option maxRecDepth 100000 in
theorem ev_mLineAt_no {l : Launch} {G : GG} (hl : l.stackTraces = false) {A : AD} {h : AH} {a : Nat → Nat → Int32} {f : Nat → Int32} {x : Int32} (hx : ¬ (0 ≤ x ∧ x ≤ f 29 - 1)) :
    Ev l G 11 0 0 mX10_lineAt [.ref (A 30 0), .int x] (mo h A (a, f)) (Rt (some (.int (65535))) (mo h A (a, va_up f 11 1))) := by
  refine Ev.of hl (by decide) (Nat.le_of_ble_eq_true rfl) ?_
  refine g_aload_n (i := 0) dX10_lineAt_0 rfl rfl ?_
  refine g_iconst (v := 0) dX10_lineAt_1 (by decide) ?_
  refine g_putf dX10_lineAt_2 K_X10 (k := 11) fl_X10_67 (Nat.le_of_ble_eq_true rfl) rfl mo_30 (Nat.le_of_ble_eq_true rfl) rfl rfl (Go.heap (mo_f11) ?_)
  refine g_iload_n (i := 1) dX10_lineAt_5 rfl rfl ?_
  refine g_i2l dX10_lineAt_6 ?_
  refine g_lconst (v := 0) dX10_lineAt_7 (by decide) ?_
  refine g_aload_n (i := 0) dX10_lineAt_8 rfl rfl ?_
  refine g_getf dX10_lineAt_9 K_X10 (k := 29) fl_X10_263 (Nat.le_of_ble_eq_true rfl) mo_30 rfl ?_
  refine g_iconst (v := 1) dX10_lineAt_12 (by decide) ?_
  refine g_isub dX10_lineAt_13 ?_
  refine g_i2l dX10_lineAt_14 ?_
  refine g_callS (ev_in hl (lo := 0) (hi := f 29 - 1) (by decide) rfl) dX10_lineAt_15 ml_X10_85 csX10_in rfl rfl (Nat.le_of_ble_eq_true rfl) (Nat.le_of_ble_eq_true rfl) (Nat.zero_le _) (Nat.zero_le _) (kr_rt ?_) kx_rt
  refine g_if_eq (tgt := 31) dX10_lineAt_18 (by decide) (fun c18 => ?_) (fun c18 => ?_)
  · refine g_aload_n (i := 0) dX10_lineAt_31 rfl rfl ?_
    refine g_iconst (v := 1) dX10_lineAt_32 (by decide) ?_
    refine g_callV (ev_throwing hl (x := 1)) dX10_lineAt_33 ml_X10_76 cvX10_throwing K_X10 rfl mo_30 rfl rfl (Nat.le_of_ble_eq_true rfl) (Nat.le_of_ble_eq_true rfl) (Nat.zero_le _) (Nat.zero_le _) (kr_rt ?_) kx_rt
    refine g_i2c dX10_lineAt_36 rfl ?_
    refine g_iret dX10_lineAt_37 rfl rfl ?_
    exact ⟨rfl, by rw [va_up2]⟩
  · exact absurd (if_neg hx) c18

set_option maxRecDepth 100000 in
theorem ev_mMean {l : Launch} {G : GG} (hl : l.stackTraces = false) {A : AD} {h : AH} {a : Nat → Nat → Int32} {f : Nat → Int32} (ho : ¬ (opM (fun c => a 0 (128 + c)) 64) = 0) (hf : vf_n64 (FP.ddiv (FP.i2d (sumN (a 0) 64)) (FP.i2d (opM (fun c => a 0 (128 + c)) 64)))) :
    Ev l G 11 0 0 mX10_meanHeat [.ref (A 30 0)] (mo h A (a, f)) (Rt (some (.double (FP.ddiv (FP.i2d (sumN (a 0) 64)) (FP.i2d (opM (fun c => a 0 (128 + c)) 64))))) (mo h A (a, va_up f 11 0))) := by
  refine Ev.of hl (by decide) (Nat.le_of_ble_eq_true rfl) ?_
  have loop : ∀ (j : Nat) (k : Nat), k + j = 64 → Go l G mX10_meanHeat 11 0 0 (Rt (some (.double (FP.ddiv (FP.i2d (sumN (a 0) 64)) (FP.i2d (opM (fun c => a 0 (128 + c)) 64))))) (mo h A (a, va_up f 11 0))) 11 [some (.ref (A 30 0)), some (.int (sumN (a 0) k)), some (.int (opM (fun c => a 0 (128 + c)) k)), some (.int (nI k))] [] (mo h A (a, va_up f 11 0)) := by
    intro j
    induction j with
    | zero =>
      intro k hk
      refine g_iload_n (i := 3) dX10_meanHeat_11 rfl rfl ?_
      refine g_bipush (v := 64) dX10_meanHeat_12 (by decide) ?_
      refine g_icmp_ge (tgt := 50) dX10_meanHeat_14 (by decide) (fun c14 => ?_) (fun c14 => ?_)
      · obtain rfl : k = 64 := by omega
        refine g_iload_n (i := 2) dX10_meanHeat_50 rfl rfl ?_
        refine g_if_ne (tgt := 62) dX10_meanHeat_51 (by decide) (fun c51 => ?_) (fun c51 => ?_)
        · refine g_iload_n (i := 1) dX10_meanHeat_62 rfl rfl ?_
          refine g_i2d dX10_meanHeat_63 ?_
          refine g_iload_n (i := 2) dX10_meanHeat_64 rfl rfl ?_
          refine g_i2d dX10_meanHeat_65 ?_
          refine g_ddiv dX10_meanHeat_66 hf ?_
          refine g_dret dX10_meanHeat_67 rfl ?_
          exact ⟨rfl, rfl⟩
        · exact absurd c51 ho
      · exact absurd ((le_nI (a := 64) (b := k) rfl (by omega) (by omega)).mpr (by omega)) c14
    | succ j ih =>
      intro k hk
      refine g_iload_n (i := 3) dX10_meanHeat_11 rfl rfl ?_
      refine g_bipush (v := 64) dX10_meanHeat_12 (by decide) ?_
      refine g_icmp_ge (tgt := 50) dX10_meanHeat_14 (by decide) (fun c14 => ?_) (fun c14 => ?_)
      · exact absurd ((le_nI (a := 64) (b := k) rfl (by omega) (by omega)).mp c14) (by omega)
      · refine g_iload_n (i := 1) dX10_meanHeat_17 rfl rfl ?_
        refine g_aload_n (i := 0) dX10_meanHeat_18 rfl rfl ?_
        refine g_getf dX10_meanHeat_19 K_X10 (k := 0) fl_X10_9 (Nat.le_of_ble_eq_true rfl) mo_30 rfl ?_
        refine g_iconst (v := 0) dX10_meanHeat_22 (by decide) ?_
        refine g_iload_n (i := 3) dX10_meanHeat_23 rfl rfl ?_
        refine g_iadd dX10_meanHeat_24 ?_
        refine g_iald dX10_meanHeat_25 mo_31 (ix0 (k := k) (by omega)) (by omega) ?_
        refine g_iadd dX10_meanHeat_26 ?_
        refine g_istore_n (i := 1) dX10_meanHeat_27 rfl (Nat.le_of_ble_eq_true rfl) ?_
        refine g_iload_n (i := 2) dX10_meanHeat_28 rfl rfl ?_
        refine g_aload_n (i := 0) dX10_meanHeat_29 rfl rfl ?_
        refine g_iload_n (i := 3) dX10_meanHeat_30 rfl rfl ?_
        refine g_callV (ev_mRock hl (k := k) (by omega)) dX10_meanHeat_31 ml_X10_89 cvX10_isRock K_X10 rfl mo_30 rfl rfl (Nat.le_of_ble_eq_true rfl) (Nat.le_of_ble_eq_true rfl) (Nat.zero_le _) (Nat.zero_le _) (kr_rt ?_) kx_rt
        refine g_if_eq (tgt := 41) dX10_meanHeat_34 (by decide) (fun c34 => ?_) (fun c34 => ?_)
        · refine g_iconst (v := 1) dX10_meanHeat_41 (by decide) ?_
          refine g_iadd dX10_meanHeat_42 ?_
          refine g_istore_n (i := 2) dX10_meanHeat_43 rfl (Nat.le_of_ble_eq_true rfl) ?_
          refine g_iinc (w := 1) dX10_meanHeat_44 (by decide) rfl (nI_succ k).symm (Nat.le_of_ble_eq_true rfl) ?_
          refine g_goto (tgt := 11) dX10_meanHeat_47 (by decide) ?_
          rw [show opM (fun c => a 0 (128 + c)) k + 1 = opM (fun c => a 0 (128 + c)) (k + 1) from by rw [opM, if_neg (ite_0 c34)]]
          exact ih (k + 1) (by omega)
        · refine g_iconst (v := 0) dX10_meanHeat_37 (by decide) ?_
          refine g_goto (tgt := 42) dX10_meanHeat_38 (by decide) ?_
          refine g_iadd dX10_meanHeat_42 ?_
          refine g_istore_n (i := 2) dX10_meanHeat_43 rfl (Nat.le_of_ble_eq_true rfl) ?_
          refine g_iinc (w := 1) dX10_meanHeat_44 (by decide) rfl (nI_succ k).symm (Nat.le_of_ble_eq_true rfl) ?_
          refine g_goto (tgt := 11) dX10_meanHeat_47 (by decide) ?_
          rw [show opM (fun c => a 0 (128 + c)) k + 0 = opM (fun c => a 0 (128 + c)) (k + 1) from by rw [opM, if_pos (ite_1 c34)]]
          exact ih (k + 1) (by omega)
  refine g_aload_n (i := 0) dX10_meanHeat_0 rfl rfl ?_
  refine g_iconst (v := 0) dX10_meanHeat_1 (by decide) ?_
  refine g_putf dX10_meanHeat_2 K_X10 (k := 11) fl_X10_67 (Nat.le_of_ble_eq_true rfl) rfl mo_30 (Nat.le_of_ble_eq_true rfl) rfl rfl (Go.heap (mo_f11) ?_)
  refine g_iconst (v := 0) dX10_meanHeat_5 (by decide) ?_
  refine g_istore_n (i := 1) dX10_meanHeat_6 rfl (Nat.le_of_ble_eq_true rfl) ?_
  refine g_iconst (v := 0) dX10_meanHeat_7 (by decide) ?_
  refine g_istore_n (i := 2) dX10_meanHeat_8 rfl (Nat.le_of_ble_eq_true rfl) ?_
  refine g_iconst (v := 0) dX10_meanHeat_9 (by decide) ?_
  refine g_istore_n (i := 3) dX10_meanHeat_10 rfl (Nat.le_of_ble_eq_true rfl) ?_
  exact loop 64 0 rfl

set_option maxRecDepth 100000 in
theorem ev_mMean_no {l : Launch} {G : GG} (hl : l.stackTraces = false) {A : AD} {h : AH} {a : Nat → Nat → Int32} {f : Nat → Int32} (ho : (opM (fun c => a 0 (128 + c)) 64) = 0) :
    Ev l G 11 0 0 mX10_meanHeat [.ref (A 30 0)] (mo h A (a, f)) (Rt (some (.double 0)) (mo h A (a, va_up f 11 1))) := by
  refine Ev.of hl (by decide) (Nat.le_of_ble_eq_true rfl) ?_
  have loop : ∀ (j : Nat) (k : Nat), k + j = 64 → Go l G mX10_meanHeat 11 0 0 (Rt (some (.double 0)) (mo h A (a, va_up f 11 1))) 11 [some (.ref (A 30 0)), some (.int (sumN (a 0) k)), some (.int (opM (fun c => a 0 (128 + c)) k)), some (.int (nI k))] [] (mo h A (a, va_up f 11 0)) := by
    intro j
    induction j with
    | zero =>
      intro k hk
      refine g_iload_n (i := 3) dX10_meanHeat_11 rfl rfl ?_
      refine g_bipush (v := 64) dX10_meanHeat_12 (by decide) ?_
      refine g_icmp_ge (tgt := 50) dX10_meanHeat_14 (by decide) (fun c14 => ?_) (fun c14 => ?_)
      · obtain rfl : k = 64 := by omega
        refine g_iload_n (i := 2) dX10_meanHeat_50 rfl rfl ?_
        refine g_if_ne (tgt := 62) dX10_meanHeat_51 (by decide) (fun c51 => ?_) (fun c51 => ?_)
        · exact absurd ho c51
        · refine g_aload_n (i := 0) dX10_meanHeat_54 rfl rfl ?_
          refine g_iconst (v := 1) dX10_meanHeat_55 (by decide) ?_
          refine g_callV (ev_throwing hl (x := 1)) dX10_meanHeat_56 ml_X10_76 cvX10_throwing K_X10 rfl mo_30 rfl rfl (Nat.le_of_ble_eq_true rfl) (Nat.le_of_ble_eq_true rfl) (Nat.zero_le _) (Nat.zero_le _) (kr_rt ?_) kx_rt
          refine g_pop dX10_meanHeat_59 rfl ?_
          refine g_dconst0 dX10_meanHeat_60 ?_
          refine g_dret dX10_meanHeat_61 rfl ?_
          exact ⟨rfl, by rw [va_up2]⟩
      · exact absurd ((le_nI (a := 64) (b := k) rfl (by omega) (by omega)).mpr (by omega)) c14
    | succ j ih =>
      intro k hk
      refine g_iload_n (i := 3) dX10_meanHeat_11 rfl rfl ?_
      refine g_bipush (v := 64) dX10_meanHeat_12 (by decide) ?_
      refine g_icmp_ge (tgt := 50) dX10_meanHeat_14 (by decide) (fun c14 => ?_) (fun c14 => ?_)
      · exact absurd ((le_nI (a := 64) (b := k) rfl (by omega) (by omega)).mp c14) (by omega)
      · refine g_iload_n (i := 1) dX10_meanHeat_17 rfl rfl ?_
        refine g_aload_n (i := 0) dX10_meanHeat_18 rfl rfl ?_
        refine g_getf dX10_meanHeat_19 K_X10 (k := 0) fl_X10_9 (Nat.le_of_ble_eq_true rfl) mo_30 rfl ?_
        refine g_iconst (v := 0) dX10_meanHeat_22 (by decide) ?_
        refine g_iload_n (i := 3) dX10_meanHeat_23 rfl rfl ?_
        refine g_iadd dX10_meanHeat_24 ?_
        refine g_iald dX10_meanHeat_25 mo_31 (ix0 (k := k) (by omega)) (by omega) ?_
        refine g_iadd dX10_meanHeat_26 ?_
        refine g_istore_n (i := 1) dX10_meanHeat_27 rfl (Nat.le_of_ble_eq_true rfl) ?_
        refine g_iload_n (i := 2) dX10_meanHeat_28 rfl rfl ?_
        refine g_aload_n (i := 0) dX10_meanHeat_29 rfl rfl ?_
        refine g_iload_n (i := 3) dX10_meanHeat_30 rfl rfl ?_
        refine g_callV (ev_mRock hl (k := k) (by omega)) dX10_meanHeat_31 ml_X10_89 cvX10_isRock K_X10 rfl mo_30 rfl rfl (Nat.le_of_ble_eq_true rfl) (Nat.le_of_ble_eq_true rfl) (Nat.zero_le _) (Nat.zero_le _) (kr_rt ?_) kx_rt
        refine g_if_eq (tgt := 41) dX10_meanHeat_34 (by decide) (fun c34 => ?_) (fun c34 => ?_)
        · refine g_iconst (v := 1) dX10_meanHeat_41 (by decide) ?_
          refine g_iadd dX10_meanHeat_42 ?_
          refine g_istore_n (i := 2) dX10_meanHeat_43 rfl (Nat.le_of_ble_eq_true rfl) ?_
          refine g_iinc (w := 1) dX10_meanHeat_44 (by decide) rfl (nI_succ k).symm (Nat.le_of_ble_eq_true rfl) ?_
          refine g_goto (tgt := 11) dX10_meanHeat_47 (by decide) ?_
          rw [show opM (fun c => a 0 (128 + c)) k + 1 = opM (fun c => a 0 (128 + c)) (k + 1) from by rw [opM, if_neg (ite_0 c34)]]
          exact ih (k + 1) (by omega)
        · refine g_iconst (v := 0) dX10_meanHeat_37 (by decide) ?_
          refine g_goto (tgt := 42) dX10_meanHeat_38 (by decide) ?_
          refine g_iadd dX10_meanHeat_42 ?_
          refine g_istore_n (i := 2) dX10_meanHeat_43 rfl (Nat.le_of_ble_eq_true rfl) ?_
          refine g_iinc (w := 1) dX10_meanHeat_44 (by decide) rfl (nI_succ k).symm (Nat.le_of_ble_eq_true rfl) ?_
          refine g_goto (tgt := 11) dX10_meanHeat_47 (by decide) ?_
          rw [show opM (fun c => a 0 (128 + c)) k + 0 = opM (fun c => a 0 (128 + c)) (k + 1) from by rw [opM, if_pos (ite_1 c34)]]
          exact ih (k + 1) (by omega)
  refine g_aload_n (i := 0) dX10_meanHeat_0 rfl rfl ?_
  refine g_iconst (v := 0) dX10_meanHeat_1 (by decide) ?_
  refine g_putf dX10_meanHeat_2 K_X10 (k := 11) fl_X10_67 (Nat.le_of_ble_eq_true rfl) rfl mo_30 (Nat.le_of_ble_eq_true rfl) rfl rfl (Go.heap (mo_f11) ?_)
  refine g_iconst (v := 0) dX10_meanHeat_5 (by decide) ?_
  refine g_istore_n (i := 1) dX10_meanHeat_6 rfl (Nat.le_of_ble_eq_true rfl) ?_
  refine g_iconst (v := 0) dX10_meanHeat_7 (by decide) ?_
  refine g_istore_n (i := 2) dX10_meanHeat_8 rfl (Nat.le_of_ble_eq_true rfl) ?_
  refine g_iconst (v := 0) dX10_meanHeat_9 (by decide) ?_
  refine g_istore_n (i := 3) dX10_meanHeat_10 rfl (Nat.le_of_ble_eq_true rfl) ?_
  exact loop 64 0 rfl

set_option maxRecDepth 100000 in
theorem ev_mShare {l : Launch} {G : GG} (hl : l.stackTraces = false) {A : AD} {h : AH} {a : Nat → Nat → Int32} {f : Nat → Int32} {v : Int32} (hv : levP v) (hf : vf_n32 (FP.fdiv (FP.i2f (cntM (a 0) v 64)) 1115684864)) :
    Ev l G 11 0 0 mX10_levelShare [.ref (A 30 0), .int v] (mo h A (a, f)) (Rt (some (.float (FP.fdiv (FP.i2f (cntM (a 0) v 64)) 1115684864))) (mo h A (a, va_up f 11 0))) := by
  refine Ev.of hl (by decide) (Nat.le_of_ble_eq_true rfl) ?_
  have loop : ∀ (j : Nat) (k : Nat), k + j = 64 → Go l G mX10_levelShare 11 0 0 (Rt (some (.float (FP.fdiv (FP.i2f (cntM (a 0) v 64)) 1115684864))) (mo h A (a, va_up f 11 0))) 29 [some (.ref (A 30 0)), some (.int v), some (.int (cntM (a 0) v k)), some (.int (nI k))] [] (mo h A (a, va_up f 11 0)) := by
    intro j
    induction j with
    | zero =>
      intro k hk
      refine g_iload_n (i := 3) dX10_levelShare_29 rfl rfl ?_
      refine g_bipush (v := 64) dX10_levelShare_30 (by decide) ?_
      refine g_icmp_ge (tgt := 58) dX10_levelShare_32 (by decide) (fun c32 => ?_) (fun c32 => ?_)
      · obtain rfl : k = 64 := by omega
        refine g_iload_n (i := 2) dX10_levelShare_58 rfl rfl ?_
        refine g_i2f dX10_levelShare_59 ?_
        refine g_ldcwf dX10_levelShare_60 co_X10_275 ?_
        refine g_fdiv dX10_levelShare_63 hf ?_
        refine g_fret dX10_levelShare_64 rfl ?_
        exact ⟨rfl, rfl⟩
      · exact absurd ((le_nI (a := 64) (b := k) rfl (by omega) (by omega)).mpr (by omega)) c32
    | succ j ih =>
      intro k hk
      refine g_iload_n (i := 3) dX10_levelShare_29 rfl rfl ?_
      refine g_bipush (v := 64) dX10_levelShare_30 (by decide) ?_
      refine g_icmp_ge (tgt := 58) dX10_levelShare_32 (by decide) (fun c32 => ?_) (fun c32 => ?_)
      · exact absurd ((le_nI (a := 64) (b := k) rfl (by omega) (by omega)).mp c32) (by omega)
      · refine g_iload_n (i := 2) dX10_levelShare_35 rfl rfl ?_
        refine g_aload_n (i := 0) dX10_levelShare_36 rfl rfl ?_
        refine g_iload_n (i := 3) dX10_levelShare_37 rfl rfl ?_
        refine g_iload_n (i := 1) dX10_levelShare_38 rfl rfl ?_
        refine g_callV (ev_mIsOf hl (k := k) (by omega)) dX10_levelShare_39 ml_X10_163 cvX10_isOf K_X10 rfl mo_30 rfl rfl (Nat.le_of_ble_eq_true rfl) (Nat.le_of_ble_eq_true rfl) (Nat.zero_le _) (Nat.zero_le _) (kr_rt ?_) kx_rt
        refine g_if_eq (tgt := 49) dX10_levelShare_42 (by decide) (fun c42 => ?_) (fun c42 => ?_)
        · refine g_iconst (v := 0) dX10_levelShare_49 (by decide) ?_
          refine g_iadd dX10_levelShare_50 ?_
          refine g_istore_n (i := 2) dX10_levelShare_51 rfl (Nat.le_of_ble_eq_true rfl) ?_
          refine g_iinc (w := 1) dX10_levelShare_52 (by decide) rfl (nI_succ k).symm (Nat.le_of_ble_eq_true rfl) ?_
          refine g_goto (tgt := 29) dX10_levelShare_55 (by decide) ?_
          rw [show cntM (a 0) v k + 0 = cntM (a 0) v (k + 1) from by rw [cntM, if_neg (ite_0 c42)]]
          exact ih (k + 1) (by omega)
        · refine g_iconst (v := 1) dX10_levelShare_45 (by decide) ?_
          refine g_goto (tgt := 50) dX10_levelShare_46 (by decide) ?_
          refine g_iadd dX10_levelShare_50 ?_
          refine g_istore_n (i := 2) dX10_levelShare_51 rfl (Nat.le_of_ble_eq_true rfl) ?_
          refine g_iinc (w := 1) dX10_levelShare_52 (by decide) rfl (nI_succ k).symm (Nat.le_of_ble_eq_true rfl) ?_
          refine g_goto (tgt := 29) dX10_levelShare_55 (by decide) ?_
          rw [show cntM (a 0) v k + 1 = cntM (a 0) v (k + 1) from by rw [cntM, if_pos (ite_1 c42)]]
          exact ih (k + 1) (by omega)
  refine g_aload_n (i := 0) dX10_levelShare_0 rfl rfl ?_
  refine g_iconst (v := 0) dX10_levelShare_1 (by decide) ?_
  refine g_putf dX10_levelShare_2 K_X10 (k := 11) fl_X10_67 (Nat.le_of_ble_eq_true rfl) rfl mo_30 (Nat.le_of_ble_eq_true rfl) rfl rfl (Go.heap (mo_f11) ?_)
  refine g_iload_n (i := 1) dX10_levelShare_5 rfl rfl ?_
  refine g_i2l dX10_levelShare_6 ?_
  refine g_lconst (v := 1) dX10_levelShare_7 (by decide) ?_
  refine g_ldc2 dX10_levelShare_8 co_X10_135 ?_
  refine g_callS (ev_in hl (lo := 1) (hi := 9999) (by decide) (by decide)) dX10_levelShare_11 ml_X10_85 csX10_in rfl rfl (Nat.le_of_ble_eq_true rfl) (Nat.le_of_ble_eq_true rfl) (Nat.zero_le _) (Nat.zero_le _) (kr_rt ?_) kx_rt
  refine g_if_ne (tgt := 25) dX10_levelShare_14 (by decide) (fun c14 => ?_) (fun c14 => ?_)
  · refine g_iconst (v := 0) dX10_levelShare_25 (by decide) ?_
    refine g_istore_n (i := 2) dX10_levelShare_26 rfl (Nat.le_of_ble_eq_true rfl) ?_
    refine g_iconst (v := 0) dX10_levelShare_27 (by decide) ?_
    refine g_istore_n (i := 3) dX10_levelShare_28 rfl (Nat.le_of_ble_eq_true rfl) ?_
    exact loop 64 0 rfl
  · exact absurd c14 (by rw [if_pos hv]; decide)

set_option maxRecDepth 100000 in
theorem ev_mShare_no {l : Launch} {G : GG} (hl : l.stackTraces = false) {A : AD} {h : AH} {a : Nat → Nat → Int32} {f : Nat → Int32} {v : Int32} (hv : ¬ levP v) :
    Ev l G 11 0 0 mX10_levelShare [.ref (A 30 0), .int v] (mo h A (a, f)) (Rt (some (.float 0)) (mo h A (a, va_up f 11 1))) := by
  refine Ev.of hl (by decide) (Nat.le_of_ble_eq_true rfl) ?_
  refine g_aload_n (i := 0) dX10_levelShare_0 rfl rfl ?_
  refine g_iconst (v := 0) dX10_levelShare_1 (by decide) ?_
  refine g_putf dX10_levelShare_2 K_X10 (k := 11) fl_X10_67 (Nat.le_of_ble_eq_true rfl) rfl mo_30 (Nat.le_of_ble_eq_true rfl) rfl rfl (Go.heap (mo_f11) ?_)
  refine g_iload_n (i := 1) dX10_levelShare_5 rfl rfl ?_
  refine g_i2l dX10_levelShare_6 ?_
  refine g_lconst (v := 1) dX10_levelShare_7 (by decide) ?_
  refine g_ldc2 dX10_levelShare_8 co_X10_135 ?_
  refine g_callS (ev_in hl (lo := 1) (hi := 9999) (by decide) (by decide)) dX10_levelShare_11 ml_X10_85 csX10_in rfl rfl (Nat.le_of_ble_eq_true rfl) (Nat.le_of_ble_eq_true rfl) (Nat.zero_le _) (Nat.zero_le _) (kr_rt ?_) kx_rt
  refine g_if_ne (tgt := 25) dX10_levelShare_14 (by decide) (fun c14 => ?_) (fun c14 => ?_)
  · exact absurd (if_neg hv) c14
  · refine g_aload_n (i := 0) dX10_levelShare_17 rfl rfl ?_
    refine g_iconst (v := 1) dX10_levelShare_18 (by decide) ?_
    refine g_callV (ev_throwing hl (x := 1)) dX10_levelShare_19 ml_X10_76 cvX10_throwing K_X10 rfl mo_30 rfl rfl (Nat.le_of_ble_eq_true rfl) (Nat.le_of_ble_eq_true rfl) (Nat.zero_le _) (Nat.zero_le _) (kr_rt ?_) kx_rt
    refine g_pop dX10_levelShare_22 rfl ?_
    refine g_fconst0 dX10_levelShare_23 ?_
    refine g_fret dX10_levelShare_24 rfl ?_
    exact ⟨rfl, by rw [va_up2]⟩

