/-! The model's constructor (by wip/whole/gen/m46.py). -/

/-- the letters and the begins of the words -/
def ltC : Nat → Int32 := (va_up (va_up (va_up (va_up (va_up (va_up (va_up (va_up (va_up (va_up (va_up (va_up (va_up (va_up (va_up (va_up (va_up (va_up (va_up (va_up (va_up (va_up (va_up (va_up (fun _ => 0) 0 104) 1 101) 2 97) 3 116) 4 32) 5 103) 6 114) 7 111) 8 117) 9 110) 10 100) 11 32) 12 98) 13 111) 14 114) 15 100) 16 101) 17 114) 18 32) 19 112) 20 97) 21 115) 22 115) 23 32)
def bgC : Nat → Int32 := (va_up (va_up (va_up (va_up (va_up (fun _ => 0) 0 0) 1 5) 2 12) 3 19) 4 24)
theorem ltC_e : ∀ i, i < 24 → ltC i = nI (ltN i) := by decide +kernel
theorem bgC_e : ∀ i, i < 5 → bgC i = nI (bgN i) := by decide +kernel
/-- the model's arrays and fields at its beginning -/
def mI0 (f0 : Nat → Int32) : Nat → Nat → Int32 := fun r => if r = 0 then f0 else if r = 12 then ltC else if r = 13 then bgC else fun _ => 0
def mF0 : Nat → Int32 := fun k => if k = 7 then -1 else if k = 8 then -1 else 0
def isG0 (f0 : Nat → Int32) (k : Nat) : Prop := ∀ i, i < 202 → f0 i = if 128 ≤ i ∧ i < 128 + k then 46 else 0

set_option maxRecDepth 100000 in
theorem nmo_loop {l : Launch} {G : GG} (hl : l.stackTraces = false) {H0 : AH} {b x0 : Nat} {fs : List Value} (hO : H0 30 0 = some (b, .inr (10, .ref x0 :: fs))) {P9 : Post} (hP : ∀ f, isG0 f 64 → P9 (.inl none) (up H0 31 0 (iArr x0 202 f))) : ∀ (j : Nat) (k : Nat) (f : Nat → Int32), k + j = 64 → isG0 f k → Go l G mX10_init 10 0 0 P9 310 [some (.ref b), some (.int (nI k))] [] (up H0 31 0 (iArr x0 202 f)) := by
  have loop : ∀ (j : Nat) (k : Nat) (f : Nat → Int32), k + j = 64 → isG0 f k → Go l G mX10_init 10 0 0 P9 310 [some (.ref b), some (.int (nI k))] [] (up H0 31 0 (iArr x0 202 f)) := by
    intro j
    induction j with
    | zero =>
      intro k f hk hf
      refine g_iload_n (i := 1) dX10_init_310 rfl rfl ?_
      refine g_bipush (v := 64) dX10_init_311 (by decide) ?_
      refine g_icmp_ge (tgt := 334) dX10_init_313 (by decide) (fun c313 => ?_) (fun c313 => ?_)
      · obtain rfl : k = 64 := by omega
        refine g_vret dX10_init_334 rfl ?_
        exact hP f hf
      · exact absurd ((le_nI (a := 64) (b := k) rfl (by omega) (by omega)).mpr (by omega)) c313
    | succ j ih =>
      intro k f hk hf
      refine g_iload_n (i := 1) dX10_init_310 rfl rfl ?_
      refine g_bipush (v := 64) dX10_init_311 (by decide) ?_
      refine g_icmp_ge (tgt := 334) dX10_init_313 (by decide) (fun c313 => ?_) (fun c313 => ?_)
      · exact absurd ((le_nI (a := 64) (b := k) rfl (by omega) (by omega)).mp c313) (by omega)
      · refine g_aload_n (i := 0) dX10_init_316 rfl rfl ?_
        refine g_getf dX10_init_317 K_X10 (k := 0) fl_X10_9 (Nat.le_of_ble_eq_true rfl) ((up_role _ _ _ _ (by decide)).trans hO) rfl ?_
        refine g_sipush (v := 128) dX10_init_320 (by decide) ?_
        refine g_iload_n (i := 1) dX10_init_323 rfl rfl ?_
        refine g_iadd dX10_init_324 ?_
        refine g_bipush (v := 46) dX10_init_325 (by decide) ?_
        refine g_iast dX10_init_327 (up_same _ _ _ _) (ixA (b := 128) (k := k) rfl (by omega)) (by omega) rfl (Go.heap (up_up _ _ _ _ _) ?_)
        refine g_iinc (w := 1) dX10_init_328 (by decide) rfl (nI_succ k).symm (Nat.le_of_ble_eq_true rfl) ?_
        refine g_goto (tgt := 310) dX10_init_331 (by decide) ?_
        refine ih (k + 1) (va_up f (128 + k) 46) (by omega) (fun i hi => ?_)
        by_cases e : i = 128 + k
        · subst e; rw [va_up_self, if_pos (by omega)]
        · rw [va_up_ne _ _ e, hf i hi]
          by_cases e2 : 128 ≤ i ∧ i < 128 + k
          · rw [if_pos e2, if_pos (by omega)]
          · rw [if_neg e2, if_neg (by omega)]
  exact loop

theorem nmo_end {h Z : AH} {b x0 x1 x2 x3 x4 x5 x6 x7 x8 x9 x10 x11 x12 x13 x14 x15 : Nat} {f0 : Nat → Int32} (hno : ∀ s, 30 ≤ s → s ≤ 46 → ∀ g, (s ≠ 30 ∨ ¬ g = 0) → h s g = none) (hf : isG0 f0 64) (o30 : Z 30 0 = some (b, .inr (10, [.ref x0, .ref x1, .ref x2, .ref x3, .int 0, .ref x4, .int 0, .int (-1), .int (-1), .int 0, .int 0, .int 0, .ref x5, .int 0, .ref x6, .ref x7, .ref x8, .ref x9, .ref x10, .ref x11, .int 0, .ref x12, .ref x13, .ref x14, .int 0, .int 0, .int 0, .int 0, .ref x15, .int 0]))) (o30n : ∀ g, ¬ g = 0 → Z 30 g = none) (tt : ∀ s g, ¬ (30 ≤ s ∧ s ≤ 46 ∧ g = 0) → Z s g = h s g) (e0 : Z 31 0 = some (iArr x0 202 f0)) (e1 : Z 32 0 = some (iArr x1 202 (fun _ => 0))) (e2 : Z 33 0 = some (iArr x2 202 (fun _ => 0))) (e3 : Z 34 0 = some (iArr x3 202 (fun _ => 0))) (e4 : Z 35 0 = some (iArr x4 1616 (fun _ => 0))) (e5 : Z 36 0 = some (iArr x5 60 (fun _ => 0))) (e6 : Z 37 0 = some (iArr x6 64 (fun _ => 0))) (e7 : Z 38 0 = some (zArr x7 64 (fun _ => 0))) (e8 : Z 39 0 = some (iArr x8 64 (fun _ => 0))) (e9 : Z 40 0 = some (iArr x9 64 (fun _ => 0))) (e10 : Z 41 0 = some (iArr x10 64 (fun _ => 0))) (e11 : Z 42 0 = some (zArr x11 64 (fun _ => 0))) (e12 : Z 43 0 = some (cArr x12 24 ltC)) (e13 : Z 44 0 = some (iArr x13 5 bgC)) (e14 : Z 45 0 = some (iArr x14 244 (fun _ => 0))) (e15 : Z 46 0 = some (iArr x15 80 (fun _ => 0))) : ∃ f0, isG0 f0 64 ∧ adOf Z 30 0 = b ∧ (∀ s, s < 30 ∨ 46 < s → ∀ g, Z s g = h s g) ∧ Z = mo h (adOf Z) (mI0 f0, mF0) := by
  refine ⟨f0, hf, adOf_e o30, fun s hs g => tt s g (by omega), mo_ext (fun s h1 h2 g => ?_) (fun s hs g => tt s g (by omega))⟩
  have : s = 30 ∨ s = 31 ∨ s = 32 ∨ s = 33 ∨ s = 34 ∨ s = 35 ∨ s = 36 ∨ s = 37 ∨ s = 38 ∨ s = 39 ∨ s = 40 ∨ s = 41 ∨ s = 42 ∨ s = 43 ∨ s = 44 ∨ s = 45 ∨ s = 46 := by omega
  rcases this with rfl | rfl | rfl | rfl | rfl | rfl | rfl | rfl | rfl | rfl | rfl | rfl | rfl | rfl | rfl | rfl | rfl
  · by_cases hg : g = 0
    · subst hg
      show Z 30 0 = some (moO (adOf Z) mF0)
      rw [moO, adOf_e o30, adOf_e e0, adOf_e e1, adOf_e e2, adOf_e e3, adOf_e e4, adOf_e e5, adOf_e e6, adOf_e e7, adOf_e e8, adOf_e e9, adOf_e e10, adOf_e e11, adOf_e e12, adOf_e e13, adOf_e e14, adOf_e e15]
      exact o30
    · rw [show mo h (adOf Z) (mI0 f0, mF0) 30 g = none from if_neg hg]
      exact o30n g hg
  · by_cases hg : g = 0
    · subst hg
      show Z 31 0 = some _
      rw [adOf_e e0]
      exact e0
    · rw [show mo h (adOf Z) (mI0 f0, mF0) 31 g = none from if_neg hg]
      exact (tt 31 g (by omega)).trans (hno 31 (by decide) (by decide) g (Or.inl (by decide)))
  · by_cases hg : g = 0
    · subst hg
      show Z 32 0 = some _
      rw [adOf_e e1]
      exact e1
    · rw [show mo h (adOf Z) (mI0 f0, mF0) 32 g = none from if_neg hg]
      exact (tt 32 g (by omega)).trans (hno 32 (by decide) (by decide) g (Or.inl (by decide)))
  · by_cases hg : g = 0
    · subst hg
      show Z 33 0 = some _
      rw [adOf_e e2]
      exact e2
    · rw [show mo h (adOf Z) (mI0 f0, mF0) 33 g = none from if_neg hg]
      exact (tt 33 g (by omega)).trans (hno 33 (by decide) (by decide) g (Or.inl (by decide)))
  · by_cases hg : g = 0
    · subst hg
      show Z 34 0 = some _
      rw [adOf_e e3]
      exact e3
    · rw [show mo h (adOf Z) (mI0 f0, mF0) 34 g = none from if_neg hg]
      exact (tt 34 g (by omega)).trans (hno 34 (by decide) (by decide) g (Or.inl (by decide)))
  · by_cases hg : g = 0
    · subst hg
      show Z 35 0 = some _
      rw [adOf_e e4]
      exact e4
    · rw [show mo h (adOf Z) (mI0 f0, mF0) 35 g = none from if_neg hg]
      exact (tt 35 g (by omega)).trans (hno 35 (by decide) (by decide) g (Or.inl (by decide)))
  · by_cases hg : g = 0
    · subst hg
      show Z 36 0 = some _
      rw [adOf_e e5]
      exact e5
    · rw [show mo h (adOf Z) (mI0 f0, mF0) 36 g = none from if_neg hg]
      exact (tt 36 g (by omega)).trans (hno 36 (by decide) (by decide) g (Or.inl (by decide)))
  · by_cases hg : g = 0
    · subst hg
      show Z 37 0 = some _
      rw [adOf_e e6]
      exact e6
    · rw [show mo h (adOf Z) (mI0 f0, mF0) 37 g = none from if_neg hg]
      exact (tt 37 g (by omega)).trans (hno 37 (by decide) (by decide) g (Or.inl (by decide)))
  · by_cases hg : g = 0
    · subst hg
      show Z 38 0 = some _
      rw [adOf_e e7]
      exact e7
    · rw [show mo h (adOf Z) (mI0 f0, mF0) 38 g = none from if_neg hg]
      exact (tt 38 g (by omega)).trans (hno 38 (by decide) (by decide) g (Or.inl (by decide)))
  · by_cases hg : g = 0
    · subst hg
      show Z 39 0 = some _
      rw [adOf_e e8]
      exact e8
    · rw [show mo h (adOf Z) (mI0 f0, mF0) 39 g = none from if_neg hg]
      exact (tt 39 g (by omega)).trans (hno 39 (by decide) (by decide) g (Or.inl (by decide)))
  · by_cases hg : g = 0
    · subst hg
      show Z 40 0 = some _
      rw [adOf_e e9]
      exact e9
    · rw [show mo h (adOf Z) (mI0 f0, mF0) 40 g = none from if_neg hg]
      exact (tt 40 g (by omega)).trans (hno 40 (by decide) (by decide) g (Or.inl (by decide)))
  · by_cases hg : g = 0
    · subst hg
      show Z 41 0 = some _
      rw [adOf_e e10]
      exact e10
    · rw [show mo h (adOf Z) (mI0 f0, mF0) 41 g = none from if_neg hg]
      exact (tt 41 g (by omega)).trans (hno 41 (by decide) (by decide) g (Or.inl (by decide)))
  · by_cases hg : g = 0
    · subst hg
      show Z 42 0 = some _
      rw [adOf_e e11]
      exact e11
    · rw [show mo h (adOf Z) (mI0 f0, mF0) 42 g = none from if_neg hg]
      exact (tt 42 g (by omega)).trans (hno 42 (by decide) (by decide) g (Or.inl (by decide)))
  · by_cases hg : g = 0
    · subst hg
      show Z 43 0 = some _
      rw [adOf_e e12]
      exact e12
    · rw [show mo h (adOf Z) (mI0 f0, mF0) 43 g = none from if_neg hg]
      exact (tt 43 g (by omega)).trans (hno 43 (by decide) (by decide) g (Or.inl (by decide)))
  · by_cases hg : g = 0
    · subst hg
      show Z 44 0 = some _
      rw [adOf_e e13]
      exact e13
    · rw [show mo h (adOf Z) (mI0 f0, mF0) 44 g = none from if_neg hg]
      exact (tt 44 g (by omega)).trans (hno 44 (by decide) (by decide) g (Or.inl (by decide)))
  · by_cases hg : g = 0
    · subst hg
      show Z 45 0 = some _
      rw [adOf_e e14]
      exact e14
    · rw [show mo h (adOf Z) (mI0 f0, mF0) 45 g = none from if_neg hg]
      exact (tt 45 g (by omega)).trans (hno 45 (by decide) (by decide) g (Or.inl (by decide)))
  · by_cases hg : g = 0
    · subst hg
      show Z 46 0 = some _
      rw [adOf_e e15]
      exact e15
    · rw [show mo h (adOf Z) (mI0 f0, mF0) 46 g = none from if_neg hg]
      exact (tt 46 g (by omega)).trans (hno 46 (by decide) (by decide) g (Or.inl (by decide)))

set_option maxRecDepth 100000 in
theorem ev_newModel {l : Launch} {G : GG} (hl : l.stackTraces = false) {h : AH} {b : Nat} (hno : ∀ s, 30 ≤ s → s ≤ 46 → ∀ g, (s ≠ 30 ∨ ¬ g = 0) → h s g = none) (h0 : h 30 0 = some (b, .inr (10, [.null, .null, .null, .null, .int 0, .null, .int 0, .int 0, .int 0, .int 0, .int 0, .int 0, .null, .int 0, .null, .null, .null, .null, .null, .null, .int 0, .null, .null, .null, .int 0, .int 0, .int 0, .int 0, .null, .int 0]))) :
    Ev l G 10 16 3221 mX10_init [.ref b] h (Cr (fun h2 => ∃ f0, isG0 f0 64 ∧ adOf h2 30 0 = b ∧ (∀ s, s < 30 ∨ 46 < s → ∀ g, h2 s g = h s g) ∧ h2 = mo h (adOf h2) (mI0 f0, mF0))) := by
  refine Ev.of hl (by decide) (Nat.le_of_ble_eq_true rfl) ?_
  refine g_aload_n (i := 0) dX10_init_0 rfl rfl ?_
  refine g_objInit dX10_init_1 ml_X10_1 w_instanceMethod_Lib_objectInit w_code_objinit (Nat.le_of_ble_eq_true rfl) (Nat.le_of_ble_eq_true rfl) ?_
  refine g_aload_n (i := 0) dX10_init_4 rfl rfl ?_
  refine g_sipush (v := 202) dX10_init_5 (by decide) ?_
  refine g_newa (atype := .int) (N := 202) (t := 0) (s0 := 31) (g0 := 0) (a0 := (202, .inl (fun _ => 0))) dX10_init_8 w_arr_int (by decide) rfl (fun _ => rfl) (ix_nI (j := 202) (by decide)) (by decide) (fun _ _ h9 => h9) (fun x0 => ?_)
  refine g_putF dX10_init_10 K_X10 (k := 0) fl_X10_9 (Nat.le_of_ble_eq_true rfl) rfl rfl rfl ((up_role _ _ _ _ (by decide)).trans h0) (Nat.le_of_ble_eq_true rfl) rfl rfl ?_
  refine g_aload_n (i := 0) dX10_init_13 rfl rfl ?_
  refine g_sipush (v := 202) dX10_init_14 (by decide) ?_
  refine g_newa (atype := .int) (N := 202) (t := 0) (s0 := 32) (g0 := 0) (a0 := (202, .inl (fun _ => 0))) dX10_init_17 w_arr_int (by decide) rfl (fun _ => rfl) (ix_nI (j := 202) (by decide)) (by decide) (fun _ _ h9 => h9) (fun x1 => ?_)
  refine g_putF dX10_init_19 K_X10 (k := 1) fl_X10_13 (Nat.le_of_ble_eq_true rfl) rfl rfl rfl ((up_role _ _ _ _ (by decide)).trans (up_same _ _ _ _)) (Nat.le_of_ble_eq_true rfl) rfl rfl ?_
  refine g_aload_n (i := 0) dX10_init_22 rfl rfl ?_
  refine g_sipush (v := 202) dX10_init_23 (by decide) ?_
  refine g_newa (atype := .int) (N := 202) (t := 0) (s0 := 33) (g0 := 0) (a0 := (202, .inl (fun _ => 0))) dX10_init_26 w_arr_int (by decide) rfl (fun _ => rfl) (ix_nI (j := 202) (by decide)) (by decide) (fun _ _ h9 => h9) (fun x2 => ?_)
  refine g_putF dX10_init_28 K_X10 (k := 2) fl_X10_16 (Nat.le_of_ble_eq_true rfl) rfl rfl rfl ((up_role _ _ _ _ (by decide)).trans (up_same _ _ _ _)) (Nat.le_of_ble_eq_true rfl) rfl rfl ?_
  refine g_aload_n (i := 0) dX10_init_31 rfl rfl ?_
  refine g_sipush (v := 202) dX10_init_32 (by decide) ?_
  refine g_newa (atype := .int) (N := 202) (t := 0) (s0 := 34) (g0 := 0) (a0 := (202, .inl (fun _ => 0))) dX10_init_35 w_arr_int (by decide) rfl (fun _ => rfl) (ix_nI (j := 202) (by decide)) (by decide) (fun _ _ h9 => h9) (fun x3 => ?_)
  refine g_putF dX10_init_37 K_X10 (k := 3) fl_X10_19 (Nat.le_of_ble_eq_true rfl) rfl rfl rfl ((up_role _ _ _ _ (by decide)).trans (up_same _ _ _ _)) (Nat.le_of_ble_eq_true rfl) rfl rfl ?_
  refine g_aload_n (i := 0) dX10_init_40 rfl rfl ?_
  refine g_sipush (v := 1616) dX10_init_41 (by decide) ?_
  refine g_newa (atype := .int) (N := 1616) (t := 0) (s0 := 35) (g0 := 0) (a0 := (1616, .inl (fun _ => 0))) dX10_init_44 w_arr_int (by decide) rfl (fun _ => rfl) (ix_nI (j := 1616) (by decide)) (by decide) (fun _ _ h9 => h9) (fun x4 => ?_)
  refine g_putF dX10_init_46 K_X10 (k := 5) fl_X10_22 (Nat.le_of_ble_eq_true rfl) rfl rfl rfl ((up_role _ _ _ _ (by decide)).trans (up_same _ _ _ _)) (Nat.le_of_ble_eq_true rfl) rfl rfl ?_
  refine g_aload_n (i := 0) dX10_init_49 rfl rfl ?_
  refine g_iconst (v := (-1)) dX10_init_50 (by decide) ?_
  refine g_putf dX10_init_51 K_X10 (k := 7) fl_X10_25 (Nat.le_of_ble_eq_true rfl) rfl (up_same _ _ _ _) (Nat.le_of_ble_eq_true rfl) rfl rfl ?_
  refine g_aload_n (i := 0) dX10_init_54 rfl rfl ?_
  refine g_iconst (v := (-1)) dX10_init_55 (by decide) ?_
  refine g_putf dX10_init_56 K_X10 (k := 8) fl_X10_29 (Nat.le_of_ble_eq_true rfl) rfl (up_same _ _ _ _) (Nat.le_of_ble_eq_true rfl) rfl rfl ?_
  refine g_aload_n (i := 0) dX10_init_59 rfl rfl ?_
  refine g_bipush (v := 60) dX10_init_60 (by decide) ?_
  refine g_newa (atype := .int) (N := 60) (t := 0) (s0 := 36) (g0 := 0) (a0 := (60, .inl (fun _ => 0))) dX10_init_62 w_arr_int (by decide) rfl (fun _ => rfl) (ix_nI (j := 60) (by decide)) (by decide) (fun _ _ h9 => h9) (fun x5 => ?_)
  refine g_putF dX10_init_64 K_X10 (k := 12) fl_X10_32 (Nat.le_of_ble_eq_true rfl) rfl rfl rfl ((up_role _ _ _ _ (by decide)).trans (up_same _ _ _ _)) (Nat.le_of_ble_eq_true rfl) rfl rfl ?_
  refine g_aload_n (i := 0) dX10_init_67 rfl rfl ?_
  refine g_bipush (v := 64) dX10_init_68 (by decide) ?_
  refine g_newa (atype := .int) (N := 64) (t := 0) (s0 := 37) (g0 := 0) (a0 := (64, .inl (fun _ => 0))) dX10_init_70 w_arr_int (by decide) rfl (fun _ => rfl) (ix_nI (j := 64) (by decide)) (by decide) (fun _ _ h9 => h9) (fun x6 => ?_)
  refine g_putF dX10_init_72 K_X10 (k := 14) fl_X10_35 (Nat.le_of_ble_eq_true rfl) rfl rfl rfl ((up_role _ _ _ _ (by decide)).trans (up_same _ _ _ _)) (Nat.le_of_ble_eq_true rfl) rfl rfl ?_
  refine g_aload_n (i := 0) dX10_init_75 rfl rfl ?_
  refine g_bipush (v := 64) dX10_init_76 (by decide) ?_
  refine g_newa (atype := .boolean) (N := 64) (t := 4) (s0 := 38) (g0 := 0) (a0 := (64, .inl (fun _ => 0))) dX10_init_78 w_arr_boolean (by decide) rfl (fun _ => rfl) (ix_nI (j := 64) (by decide)) (by decide) (fun _ _ h9 => h9) (fun x7 => ?_)
  refine g_putF dX10_init_80 K_X10 (k := 15) fl_X10_38 (Nat.le_of_ble_eq_true rfl) rfl rfl rfl ((up_role _ _ _ _ (by decide)).trans (up_same _ _ _ _)) (Nat.le_of_ble_eq_true rfl) rfl rfl ?_
  refine g_aload_n (i := 0) dX10_init_83 rfl rfl ?_
  refine g_bipush (v := 64) dX10_init_84 (by decide) ?_
  refine g_newa (atype := .int) (N := 64) (t := 0) (s0 := 39) (g0 := 0) (a0 := (64, .inl (fun _ => 0))) dX10_init_86 w_arr_int (by decide) rfl (fun _ => rfl) (ix_nI (j := 64) (by decide)) (by decide) (fun _ _ h9 => h9) (fun x8 => ?_)
  refine g_putF dX10_init_88 K_X10 (k := 16) fl_X10_42 (Nat.le_of_ble_eq_true rfl) rfl rfl rfl ((up_role _ _ _ _ (by decide)).trans (up_same _ _ _ _)) (Nat.le_of_ble_eq_true rfl) rfl rfl ?_
  refine g_aload_n (i := 0) dX10_init_91 rfl rfl ?_
  refine g_bipush (v := 64) dX10_init_92 (by decide) ?_
  refine g_newa (atype := .int) (N := 64) (t := 0) (s0 := 40) (g0 := 0) (a0 := (64, .inl (fun _ => 0))) dX10_init_94 w_arr_int (by decide) rfl (fun _ => rfl) (ix_nI (j := 64) (by decide)) (by decide) (fun _ _ h9 => h9) (fun x9 => ?_)
  refine g_putF dX10_init_96 K_X10 (k := 17) fl_X10_45 (Nat.le_of_ble_eq_true rfl) rfl rfl rfl ((up_role _ _ _ _ (by decide)).trans (up_same _ _ _ _)) (Nat.le_of_ble_eq_true rfl) rfl rfl ?_
  refine g_aload_n (i := 0) dX10_init_99 rfl rfl ?_
  refine g_bipush (v := 64) dX10_init_100 (by decide) ?_
  refine g_newa (atype := .int) (N := 64) (t := 0) (s0 := 41) (g0 := 0) (a0 := (64, .inl (fun _ => 0))) dX10_init_102 w_arr_int (by decide) rfl (fun _ => rfl) (ix_nI (j := 64) (by decide)) (by decide) (fun _ _ h9 => h9) (fun x10 => ?_)
  refine g_putF dX10_init_104 K_X10 (k := 18) fl_X10_48 (Nat.le_of_ble_eq_true rfl) rfl rfl rfl ((up_role _ _ _ _ (by decide)).trans (up_same _ _ _ _)) (Nat.le_of_ble_eq_true rfl) rfl rfl ?_
  refine g_aload_n (i := 0) dX10_init_107 rfl rfl ?_
  refine g_bipush (v := 64) dX10_init_108 (by decide) ?_
  refine g_newa (atype := .boolean) (N := 64) (t := 4) (s0 := 42) (g0 := 0) (a0 := (64, .inl (fun _ => 0))) dX10_init_110 w_arr_boolean (by decide) rfl (fun _ => rfl) (ix_nI (j := 64) (by decide)) (by decide) (fun _ _ h9 => h9) (fun x11 => ?_)
  refine g_putF dX10_init_112 K_X10 (k := 19) fl_X10_51 (Nat.le_of_ble_eq_true rfl) rfl rfl rfl ((up_role _ _ _ _ (by decide)).trans (up_same _ _ _ _)) (Nat.le_of_ble_eq_true rfl) rfl rfl ?_
  refine g_aload_n (i := 0) dX10_init_115 rfl rfl ?_
  refine g_bipush (v := 24) dX10_init_116 (by decide) ?_
  refine g_newa (atype := .char) (N := 24) (t := 2) (s0 := 43) (g0 := 0) (a0 := (24, .inl (fun _ => 0))) dX10_init_118 w_arr_char (by decide) rfl (fun _ => rfl) (ix_nI (j := 24) (by decide)) (by decide) (fun _ _ h9 => h9) (fun x12 => ?_)
  refine g_dup dX10_init_120 rfl ?_
  refine g_iconst (v := 0) dX10_init_121 (by decide) ?_
  refine g_bipush (v := 104) dX10_init_122 (by decide) ?_
  refine g_cast dX10_init_124 (up_same _ _ _ _) (ix_nI (j := 0) (by decide)) (by decide) rfl (Go.heap (up_up _ _ _ _ _) ?_)
  refine g_dup dX10_init_125 rfl ?_
  refine g_iconst (v := 1) dX10_init_126 (by decide) ?_
  refine g_bipush (v := 101) dX10_init_127 (by decide) ?_
  refine g_cast dX10_init_129 (up_same _ _ _ _) (ix_nI (j := 1) (by decide)) (by decide) rfl (Go.heap (up_up _ _ _ _ _) ?_)
  refine g_dup dX10_init_130 rfl ?_
  refine g_iconst (v := 2) dX10_init_131 (by decide) ?_
  refine g_bipush (v := 97) dX10_init_132 (by decide) ?_
  refine g_cast dX10_init_134 (up_same _ _ _ _) (ix_nI (j := 2) (by decide)) (by decide) rfl (Go.heap (up_up _ _ _ _ _) ?_)
  refine g_dup dX10_init_135 rfl ?_
  refine g_iconst (v := 3) dX10_init_136 (by decide) ?_
  refine g_bipush (v := 116) dX10_init_137 (by decide) ?_
  refine g_cast dX10_init_139 (up_same _ _ _ _) (ix_nI (j := 3) (by decide)) (by decide) rfl (Go.heap (up_up _ _ _ _ _) ?_)
  refine g_dup dX10_init_140 rfl ?_
  refine g_iconst (v := 4) dX10_init_141 (by decide) ?_
  refine g_bipush (v := 32) dX10_init_142 (by decide) ?_
  refine g_cast dX10_init_144 (up_same _ _ _ _) (ix_nI (j := 4) (by decide)) (by decide) rfl (Go.heap (up_up _ _ _ _ _) ?_)
  refine g_dup dX10_init_145 rfl ?_
  refine g_iconst (v := 5) dX10_init_146 (by decide) ?_
  refine g_bipush (v := 103) dX10_init_147 (by decide) ?_
  refine g_cast dX10_init_149 (up_same _ _ _ _) (ix_nI (j := 5) (by decide)) (by decide) rfl (Go.heap (up_up _ _ _ _ _) ?_)
  refine g_dup dX10_init_150 rfl ?_
  refine g_bipush (v := 6) dX10_init_151 (by decide) ?_
  refine g_bipush (v := 114) dX10_init_153 (by decide) ?_
  refine g_cast dX10_init_155 (up_same _ _ _ _) (ix_nI (j := 6) (by decide)) (by decide) rfl (Go.heap (up_up _ _ _ _ _) ?_)
  refine g_dup dX10_init_156 rfl ?_
  refine g_bipush (v := 7) dX10_init_157 (by decide) ?_
  refine g_bipush (v := 111) dX10_init_159 (by decide) ?_
  refine g_cast dX10_init_161 (up_same _ _ _ _) (ix_nI (j := 7) (by decide)) (by decide) rfl (Go.heap (up_up _ _ _ _ _) ?_)
  refine g_dup dX10_init_162 rfl ?_
  refine g_bipush (v := 8) dX10_init_163 (by decide) ?_
  refine g_bipush (v := 117) dX10_init_165 (by decide) ?_
  refine g_cast dX10_init_167 (up_same _ _ _ _) (ix_nI (j := 8) (by decide)) (by decide) rfl (Go.heap (up_up _ _ _ _ _) ?_)
  refine g_dup dX10_init_168 rfl ?_
  refine g_bipush (v := 9) dX10_init_169 (by decide) ?_
  refine g_bipush (v := 110) dX10_init_171 (by decide) ?_
  refine g_cast dX10_init_173 (up_same _ _ _ _) (ix_nI (j := 9) (by decide)) (by decide) rfl (Go.heap (up_up _ _ _ _ _) ?_)
  refine g_dup dX10_init_174 rfl ?_
  refine g_bipush (v := 10) dX10_init_175 (by decide) ?_
  refine g_bipush (v := 100) dX10_init_177 (by decide) ?_
  refine g_cast dX10_init_179 (up_same _ _ _ _) (ix_nI (j := 10) (by decide)) (by decide) rfl (Go.heap (up_up _ _ _ _ _) ?_)
  refine g_dup dX10_init_180 rfl ?_
  refine g_bipush (v := 11) dX10_init_181 (by decide) ?_
  refine g_bipush (v := 32) dX10_init_183 (by decide) ?_
  refine g_cast dX10_init_185 (up_same _ _ _ _) (ix_nI (j := 11) (by decide)) (by decide) rfl (Go.heap (up_up _ _ _ _ _) ?_)
  refine g_dup dX10_init_186 rfl ?_
  refine g_bipush (v := 12) dX10_init_187 (by decide) ?_
  refine g_bipush (v := 98) dX10_init_189 (by decide) ?_
  refine g_cast dX10_init_191 (up_same _ _ _ _) (ix_nI (j := 12) (by decide)) (by decide) rfl (Go.heap (up_up _ _ _ _ _) ?_)
  refine g_dup dX10_init_192 rfl ?_
  refine g_bipush (v := 13) dX10_init_193 (by decide) ?_
  refine g_bipush (v := 111) dX10_init_195 (by decide) ?_
  refine g_cast dX10_init_197 (up_same _ _ _ _) (ix_nI (j := 13) (by decide)) (by decide) rfl (Go.heap (up_up _ _ _ _ _) ?_)
  refine g_dup dX10_init_198 rfl ?_
  refine g_bipush (v := 14) dX10_init_199 (by decide) ?_
  refine g_bipush (v := 114) dX10_init_201 (by decide) ?_
  refine g_cast dX10_init_203 (up_same _ _ _ _) (ix_nI (j := 14) (by decide)) (by decide) rfl (Go.heap (up_up _ _ _ _ _) ?_)
  refine g_dup dX10_init_204 rfl ?_
  refine g_bipush (v := 15) dX10_init_205 (by decide) ?_
  refine g_bipush (v := 100) dX10_init_207 (by decide) ?_
  refine g_cast dX10_init_209 (up_same _ _ _ _) (ix_nI (j := 15) (by decide)) (by decide) rfl (Go.heap (up_up _ _ _ _ _) ?_)
  refine g_dup dX10_init_210 rfl ?_
  refine g_bipush (v := 16) dX10_init_211 (by decide) ?_
  refine g_bipush (v := 101) dX10_init_213 (by decide) ?_
  refine g_cast dX10_init_215 (up_same _ _ _ _) (ix_nI (j := 16) (by decide)) (by decide) rfl (Go.heap (up_up _ _ _ _ _) ?_)
  refine g_dup dX10_init_216 rfl ?_
  refine g_bipush (v := 17) dX10_init_217 (by decide) ?_
  refine g_bipush (v := 114) dX10_init_219 (by decide) ?_
  refine g_cast dX10_init_221 (up_same _ _ _ _) (ix_nI (j := 17) (by decide)) (by decide) rfl (Go.heap (up_up _ _ _ _ _) ?_)
  refine g_dup dX10_init_222 rfl ?_
  refine g_bipush (v := 18) dX10_init_223 (by decide) ?_
  refine g_bipush (v := 32) dX10_init_225 (by decide) ?_
  refine g_cast dX10_init_227 (up_same _ _ _ _) (ix_nI (j := 18) (by decide)) (by decide) rfl (Go.heap (up_up _ _ _ _ _) ?_)
  refine g_dup dX10_init_228 rfl ?_
  refine g_bipush (v := 19) dX10_init_229 (by decide) ?_
  refine g_bipush (v := 112) dX10_init_231 (by decide) ?_
  refine g_cast dX10_init_233 (up_same _ _ _ _) (ix_nI (j := 19) (by decide)) (by decide) rfl (Go.heap (up_up _ _ _ _ _) ?_)
  refine g_dup dX10_init_234 rfl ?_
  refine g_bipush (v := 20) dX10_init_235 (by decide) ?_
  refine g_bipush (v := 97) dX10_init_237 (by decide) ?_
  refine g_cast dX10_init_239 (up_same _ _ _ _) (ix_nI (j := 20) (by decide)) (by decide) rfl (Go.heap (up_up _ _ _ _ _) ?_)
  refine g_dup dX10_init_240 rfl ?_
  refine g_bipush (v := 21) dX10_init_241 (by decide) ?_
  refine g_bipush (v := 115) dX10_init_243 (by decide) ?_
  refine g_cast dX10_init_245 (up_same _ _ _ _) (ix_nI (j := 21) (by decide)) (by decide) rfl (Go.heap (up_up _ _ _ _ _) ?_)
  refine g_dup dX10_init_246 rfl ?_
  refine g_bipush (v := 22) dX10_init_247 (by decide) ?_
  refine g_bipush (v := 115) dX10_init_249 (by decide) ?_
  refine g_cast dX10_init_251 (up_same _ _ _ _) (ix_nI (j := 22) (by decide)) (by decide) rfl (Go.heap (up_up _ _ _ _ _) ?_)
  refine g_dup dX10_init_252 rfl ?_
  refine g_bipush (v := 23) dX10_init_253 (by decide) ?_
  refine g_bipush (v := 32) dX10_init_255 (by decide) ?_
  refine g_cast dX10_init_257 (up_same _ _ _ _) (ix_nI (j := 23) (by decide)) (by decide) rfl (Go.heap (up_up _ _ _ _ _) ?_)
  refine g_putF dX10_init_258 K_X10 (k := 21) fl_X10_54 (Nat.le_of_ble_eq_true rfl) rfl rfl rfl ((up_role _ _ _ _ (by decide)).trans (up_same _ _ _ _)) (Nat.le_of_ble_eq_true rfl) rfl rfl ?_
  refine g_aload_n (i := 0) dX10_init_261 rfl rfl ?_
  refine g_iconst (v := 5) dX10_init_262 (by decide) ?_
  refine g_newa (atype := .int) (N := 5) (t := 0) (s0 := 44) (g0 := 0) (a0 := (5, .inl (fun _ => 0))) dX10_init_263 w_arr_int (by decide) rfl (fun _ => rfl) (ix_nI (j := 5) (by decide)) (by decide) (fun _ _ h9 => h9) (fun x13 => ?_)
  refine g_dup dX10_init_265 rfl ?_
  refine g_iconst (v := 0) dX10_init_266 (by decide) ?_
  refine g_iconst (v := 0) dX10_init_267 (by decide) ?_
  refine g_iast dX10_init_268 (up_same _ _ _ _) (ix_nI (j := 0) (by decide)) (by decide) rfl (Go.heap (up_up _ _ _ _ _) ?_)
  refine g_dup dX10_init_269 rfl ?_
  refine g_iconst (v := 1) dX10_init_270 (by decide) ?_
  refine g_iconst (v := 5) dX10_init_271 (by decide) ?_
  refine g_iast dX10_init_272 (up_same _ _ _ _) (ix_nI (j := 1) (by decide)) (by decide) rfl (Go.heap (up_up _ _ _ _ _) ?_)
  refine g_dup dX10_init_273 rfl ?_
  refine g_iconst (v := 2) dX10_init_274 (by decide) ?_
  refine g_bipush (v := 12) dX10_init_275 (by decide) ?_
  refine g_iast dX10_init_277 (up_same _ _ _ _) (ix_nI (j := 2) (by decide)) (by decide) rfl (Go.heap (up_up _ _ _ _ _) ?_)
  refine g_dup dX10_init_278 rfl ?_
  refine g_iconst (v := 3) dX10_init_279 (by decide) ?_
  refine g_bipush (v := 19) dX10_init_280 (by decide) ?_
  refine g_iast dX10_init_282 (up_same _ _ _ _) (ix_nI (j := 3) (by decide)) (by decide) rfl (Go.heap (up_up _ _ _ _ _) ?_)
  refine g_dup dX10_init_283 rfl ?_
  refine g_iconst (v := 4) dX10_init_284 (by decide) ?_
  refine g_bipush (v := 24) dX10_init_285 (by decide) ?_
  refine g_iast dX10_init_287 (up_same _ _ _ _) (ix_nI (j := 4) (by decide)) (by decide) rfl (Go.heap (up_up _ _ _ _ _) ?_)
  refine g_putF dX10_init_288 K_X10 (k := 22) fl_X10_58 (Nat.le_of_ble_eq_true rfl) rfl rfl rfl ((up_role _ _ _ _ (by decide)).trans (up_same _ _ _ _)) (Nat.le_of_ble_eq_true rfl) rfl rfl ?_
  refine g_aload_n (i := 0) dX10_init_291 rfl rfl ?_
  refine g_sipush (v := 244) dX10_init_292 (by decide) ?_
  refine g_newa (atype := .int) (N := 244) (t := 0) (s0 := 45) (g0 := 0) (a0 := (244, .inl (fun _ => 0))) dX10_init_295 w_arr_int (by decide) rfl (fun _ => rfl) (ix_nI (j := 244) (by decide)) (by decide) (fun _ _ h9 => h9) (fun x14 => ?_)
  refine g_putF dX10_init_297 K_X10 (k := 23) fl_X10_61 (Nat.le_of_ble_eq_true rfl) rfl rfl rfl ((up_role _ _ _ _ (by decide)).trans (up_same _ _ _ _)) (Nat.le_of_ble_eq_true rfl) rfl rfl ?_
  refine g_aload_n (i := 0) dX10_init_300 rfl rfl ?_
  refine g_bipush (v := 80) dX10_init_301 (by decide) ?_
  refine g_newa (atype := .int) (N := 80) (t := 0) (s0 := 46) (g0 := 0) (a0 := (80, .inl (fun _ => 0))) dX10_init_303 w_arr_int (by decide) rfl (fun _ => rfl) (ix_nI (j := 80) (by decide)) (by decide) (fun _ _ h9 => h9) (fun x15 => ?_)
  refine g_putF dX10_init_305 K_X10 (k := 28) fl_X10_64 (Nat.le_of_ble_eq_true rfl) rfl rfl rfl ((up_role _ _ _ _ (by decide)).trans (up_same _ _ _ _)) (Nat.le_of_ble_eq_true rfl) rfl rfl ?_
  refine g_iconst (v := 0) dX10_init_308 (by decide) ?_
  refine g_istore_n (i := 1) dX10_init_309 rfl (Nat.le_of_ble_eq_true rfl) ?_
  refine Go.heap (up_self9 (s := 31) (g := 0) (c := iArr x0 202 (fun _ => 0)) (by simp [up])).symm ?_
  refine nmo_loop hl (fs := [.ref x1, .ref x2, .ref x3, .int 0, .ref x4, .int 0, .int (-1), .int (-1), .int 0, .int 0, .int 0, .ref x5, .int 0, .ref x6, .ref x7, .ref x8, .ref x9, .ref x10, .ref x11, .int 0, .ref x12, .ref x13, .ref x14, .int 0, .int 0, .int 0, .int 0, .ref x15, .int 0]) (by simp [up]) (fun f0 hf => ⟨rfl, ?_⟩) 64 0 (fun _ => 0) rfl (fun i hi => (if_neg (by omega)).symm)
  refine nmo_end (x0 := x0) (x1 := x1) (x2 := x2) (x3 := x3) (x4 := x4) (x5 := x5) (x6 := x6) (x7 := x7) (x8 := x8) (x9 := x9) (x10 := x10) (x11 := x11) (x12 := x12) (x13 := x13) (x14 := x14) (x15 := x15) hno hf ?_ ?_ ?_ ?_ ?_ ?_ ?_ ?_ ?_ ?_ ?_ ?_ ?_ ?_ ?_ ?_ ?_ ?_ ?_
  · simp [up]
  · intro g hg
    have z := hno 30 (by decide) (by decide) g (Or.inr hg)
    simp [up, hg, z]
  · show fram (fun s g => 30 ≤ s ∧ s ≤ 46 ∧ g = 0) h _
    repeat (first | exact fram_refl | refine fram_up ?_ ⟨by decide, by decide, rfl⟩)
  · simp [up]
  · simp [up]
  · simp [up]
  · simp [up]
  · simp [up]
  · simp [up]
  · simp [up]
  · simp [up]
  · simp [up]
  · simp [up]
  · simp [up]
  · simp [up]
  · simp [up]
    rfl
  · simp [up]
    rfl
  · simp [up]
  · simp [up]

theorem hC_ad {h : AH} {A A' : AD} {X : CL} (e : ∀ s, s ≤ 26 → ∀ g, A s g = A' s g) : hC h A X = hC h A' X := by
  have e0 := fun g => e 0 (by decide) g
  have e1 := fun g => e 1 (by decide) g
  have e2 := fun g => e 2 (by decide) g
  have e3 := fun g => e 3 (by decide) g
  have e4 := fun g => e 4 (by decide) g
  have e5 := fun g => e 5 (by decide) g
  have e6 := fun g => e 6 (by decide) g
  have e7 := fun g => e 7 (by decide) g
  have e8 := fun g => e 8 (by decide) g
  have e9 := fun g => e 9 (by decide) g
  have e10 := fun g => e 10 (by decide) g
  have e11 := fun g => e 11 (by decide) g
  have e12 := fun g => e 12 (by decide) g
  have e13 := fun g => e 13 (by decide) g
  have e14 := fun g => e 14 (by decide) g
  have e15 := fun g => e 15 (by decide) g
  have e16 := fun g => e 16 (by decide) g
  have e17 := fun g => e 17 (by decide) g
  have e18 := fun g => e 18 (by decide) g
  have e19 := fun g => e 19 (by decide) g
  have e20 := fun g => e 20 (by decide) g
  have e21 := fun g => e 21 (by decide) g
  have e22 := fun g => e 22 (by decide) g
  have e23 := fun g => e 23 (by decide) g
  have e24 := fun g => e 24 (by decide) g
  have e25 := fun g => e 25 (by decide) g
  funext s g
  rcases Nat.lt_or_ge 26 s with hs | hs
  · rw [hC_hi hs, hC_hi hs]
  · revert s
    refine fun s hs => role26 (P := fun s => hC h A X s g = hC h A' X s g) ?_ ?_ ?_ ?_ ?_ ?_ ?_ ?_ ?_ ?_ ?_ ?_ ?_ ?_ ?_ ?_ ?_ ?_ ?_ ?_ ?_ ?_ ?_ ?_ ?_ ?_ ?_ s hs <;> simp only [hC, mObj, obO, hObj, hArr, hpO, lgO, lgT, rdO, sbO, rdL0, cmO, e0, e1, e2, e3, e4, e5, e6, e7, e8, e9, e10, e11, e12, e13, e14, e15, e16, e17, e18, e19, e20, e21, e22, e23, e24, e25]

