/-! Model: its heap, its leaves (by wip/whole/gen/m30.py). -/
def moO (A : AD) (f : Nat → Int32) : Nat × AC := (A 30 0, .inr (10, [.ref (A 31 0), .ref (A 32 0), .ref (A 33 0), .ref (A 34 0), .int (f 4), .ref (A 35 0), .int (f 6), .int (f 7), .int (f 8), .int (f 9), .int (f 10), .int (f 11), .ref (A 36 0), .int (f 13), .ref (A 37 0), .ref (A 38 0), .ref (A 39 0), .ref (A 40 0), .ref (A 41 0), .ref (A 42 0), .int (f 20), .ref (A 43 0), .ref (A 44 0), .ref (A 45 0), .int (f 24), .int (f 25), .int (f 26), .int (f 27), .ref (A 46 0), .int (f 29)]))
/-- the model's heap: the arrays' contents, the fields -/
def mo (h : AH) (A : AD) (Y : (Nat → Nat → Int32) × (Nat → Int32)) : AH := fun s g => match s with
  | 30 => if g = 0 then some (moO A Y.2) else none
  | 31 => if g = 0 then some (iArr (A 31 0) 202 (Y.1 0)) else none
  | 32 => if g = 0 then some (iArr (A 32 0) 202 (Y.1 1)) else none
  | 33 => if g = 0 then some (iArr (A 33 0) 202 (Y.1 2)) else none
  | 34 => if g = 0 then some (iArr (A 34 0) 202 (Y.1 3)) else none
  | 35 => if g = 0 then some (iArr (A 35 0) 1616 (Y.1 4)) else none
  | 36 => if g = 0 then some (iArr (A 36 0) 60 (Y.1 5)) else none
  | 37 => if g = 0 then some (iArr (A 37 0) 64 (Y.1 6)) else none
  | 38 => if g = 0 then some (zArr (A 38 0) 64 (Y.1 7)) else none
  | 39 => if g = 0 then some (iArr (A 39 0) 64 (Y.1 8)) else none
  | 40 => if g = 0 then some (iArr (A 40 0) 64 (Y.1 9)) else none
  | 41 => if g = 0 then some (iArr (A 41 0) 64 (Y.1 10)) else none
  | 42 => if g = 0 then some (zArr (A 42 0) 64 (Y.1 11)) else none
  | 43 => if g = 0 then some (cArr (A 43 0) 24 (Y.1 12)) else none
  | 44 => if g = 0 then some (iArr (A 44 0) 5 (Y.1 13)) else none
  | 45 => if g = 0 then some (iArr (A 45 0) 244 (Y.1 14)) else none
  | 46 => if g = 0 then some (iArr (A 46 0) 80 (Y.1 15)) else none
  | s => h s g
section MO
variable {h : AH} {A : AD} {a : Nat → Nat → Int32} {f : Nat → Int32}
theorem mo_30 : mo h A (a, f) 30 0 = some (moO A f) := rfl
theorem mo_31 : mo h A (a, f) 31 0 = some (iArr (A 31 0) 202 (a 0)) := rfl
theorem mo_32 : mo h A (a, f) 32 0 = some (iArr (A 32 0) 202 (a 1)) := rfl
theorem mo_33 : mo h A (a, f) 33 0 = some (iArr (A 33 0) 202 (a 2)) := rfl
theorem mo_34 : mo h A (a, f) 34 0 = some (iArr (A 34 0) 202 (a 3)) := rfl
theorem mo_35 : mo h A (a, f) 35 0 = some (iArr (A 35 0) 1616 (a 4)) := rfl
theorem mo_36 : mo h A (a, f) 36 0 = some (iArr (A 36 0) 60 (a 5)) := rfl
theorem mo_37 : mo h A (a, f) 37 0 = some (iArr (A 37 0) 64 (a 6)) := rfl
theorem mo_38 : mo h A (a, f) 38 0 = some (zArr (A 38 0) 64 (a 7)) := rfl
theorem mo_39 : mo h A (a, f) 39 0 = some (iArr (A 39 0) 64 (a 8)) := rfl
theorem mo_40 : mo h A (a, f) 40 0 = some (iArr (A 40 0) 64 (a 9)) := rfl
theorem mo_41 : mo h A (a, f) 41 0 = some (iArr (A 41 0) 64 (a 10)) := rfl
theorem mo_42 : mo h A (a, f) 42 0 = some (zArr (A 42 0) 64 (a 11)) := rfl
theorem mo_43 : mo h A (a, f) 43 0 = some (cArr (A 43 0) 24 (a 12)) := rfl
theorem mo_44 : mo h A (a, f) 44 0 = some (iArr (A 44 0) 5 (a 13)) := rfl
theorem mo_45 : mo h A (a, f) 45 0 = some (iArr (A 45 0) 244 (a 14)) := rfl
theorem mo_46 : mo h A (a, f) 46 0 = some (iArr (A 46 0) 80 (a 15)) := rfl
theorem mo_ext {h1 : AH} {Y : (Nat → Nat → Int32) × (Nat → Int32)} (e : ∀ s, 30 ≤ s → s ≤ 46 → ∀ g, h1 s g = mo h A Y s g) (e2 : ∀ s, s < 30 ∨ 46 < s → ∀ g, h1 s g = h s g) : h1 = mo h A Y := by
  funext s g
  by_cases hs : 30 ≤ s ∧ s ≤ 46
  · exact e s hs.1 hs.2 g
  · rw [e2 s (by omega) g]
    unfold mo
    split <;> first | omega | rfl
theorem mo_lo {s g : Nat} (hs : s < 30 ∨ 46 < s) {Y : (Nat → Nat → Int32) × (Nat → Int32)} : mo h A Y s g = h s g := by
  unfold mo
  split <;> first | omega | rfl
theorem mo_fx {k : Nat} {v : Int32} : up (mo h A (a, f)) 30 0 (moO A (va_up f k v)) = mo h A (a, va_up f k v) := by
  funext s g
  by_cases e : s = 30 ∧ g = 0
  · obtain ⟨rfl, rfl⟩ := e
    rw [up_same, mo_30]
  · rw [up_ne _ _ e]
    unfold mo
    split <;> first | rfl | simp_all
theorem mo_f4 {v : Int32} : up (mo h A (a, f)) 30 0 (moO A (va_up f 4 v)) = mo h A (a, va_up f 4 v) := mo_fx
theorem mo_f6 {v : Int32} : up (mo h A (a, f)) 30 0 (moO A (va_up f 6 v)) = mo h A (a, va_up f 6 v) := mo_fx
theorem mo_f7 {v : Int32} : up (mo h A (a, f)) 30 0 (moO A (va_up f 7 v)) = mo h A (a, va_up f 7 v) := mo_fx
theorem mo_f8 {v : Int32} : up (mo h A (a, f)) 30 0 (moO A (va_up f 8 v)) = mo h A (a, va_up f 8 v) := mo_fx
theorem mo_f9 {v : Int32} : up (mo h A (a, f)) 30 0 (moO A (va_up f 9 v)) = mo h A (a, va_up f 9 v) := mo_fx
theorem mo_f10 {v : Int32} : up (mo h A (a, f)) 30 0 (moO A (va_up f 10 v)) = mo h A (a, va_up f 10 v) := mo_fx
theorem mo_f11 {v : Int32} : up (mo h A (a, f)) 30 0 (moO A (va_up f 11 v)) = mo h A (a, va_up f 11 v) := mo_fx
theorem mo_f13 {v : Int32} : up (mo h A (a, f)) 30 0 (moO A (va_up f 13 v)) = mo h A (a, va_up f 13 v) := mo_fx
theorem mo_f20 {v : Int32} : up (mo h A (a, f)) 30 0 (moO A (va_up f 20 v)) = mo h A (a, va_up f 20 v) := mo_fx
theorem mo_f24 {v : Int32} : up (mo h A (a, f)) 30 0 (moO A (va_up f 24 v)) = mo h A (a, va_up f 24 v) := mo_fx
theorem mo_f25 {v : Int32} : up (mo h A (a, f)) 30 0 (moO A (va_up f 25 v)) = mo h A (a, va_up f 25 v) := mo_fx
theorem mo_f26 {v : Int32} : up (mo h A (a, f)) 30 0 (moO A (va_up f 26 v)) = mo h A (a, va_up f 26 v) := mo_fx
theorem mo_f27 {v : Int32} : up (mo h A (a, f)) 30 0 (moO A (va_up f 27 v)) = mo h A (a, va_up f 27 v) := mo_fx
theorem mo_f29 {v : Int32} : up (mo h A (a, f)) 30 0 (moO A (va_up f 29 v)) = mo h A (a, va_up f 29 v) := mo_fx
theorem mo_a0 {x : Nat → Int32} : up (mo h A (a, f)) 31 0 (iArr (A 31 0) 202 x) = mo h A (va_up a 0 x, f) := by
  funext s g
  by_cases e : s = 31 ∧ g = 0
  · obtain ⟨rfl, rfl⟩ := e
    rw [up_same]
    rfl
  · rw [up_ne _ _ e]
    unfold mo
    split <;> first | rfl | simp_all
theorem mo_a1 {x : Nat → Int32} : up (mo h A (a, f)) 32 0 (iArr (A 32 0) 202 x) = mo h A (va_up a 1 x, f) := by
  funext s g
  by_cases e : s = 32 ∧ g = 0
  · obtain ⟨rfl, rfl⟩ := e
    rw [up_same]
    rfl
  · rw [up_ne _ _ e]
    unfold mo
    split <;> first | rfl | simp_all
theorem mo_a2 {x : Nat → Int32} : up (mo h A (a, f)) 33 0 (iArr (A 33 0) 202 x) = mo h A (va_up a 2 x, f) := by
  funext s g
  by_cases e : s = 33 ∧ g = 0
  · obtain ⟨rfl, rfl⟩ := e
    rw [up_same]
    rfl
  · rw [up_ne _ _ e]
    unfold mo
    split <;> first | rfl | simp_all
theorem mo_a3 {x : Nat → Int32} : up (mo h A (a, f)) 34 0 (iArr (A 34 0) 202 x) = mo h A (va_up a 3 x, f) := by
  funext s g
  by_cases e : s = 34 ∧ g = 0
  · obtain ⟨rfl, rfl⟩ := e
    rw [up_same]
    rfl
  · rw [up_ne _ _ e]
    unfold mo
    split <;> first | rfl | simp_all
theorem mo_a4 {x : Nat → Int32} : up (mo h A (a, f)) 35 0 (iArr (A 35 0) 1616 x) = mo h A (va_up a 4 x, f) := by
  funext s g
  by_cases e : s = 35 ∧ g = 0
  · obtain ⟨rfl, rfl⟩ := e
    rw [up_same]
    rfl
  · rw [up_ne _ _ e]
    unfold mo
    split <;> first | rfl | simp_all
theorem mo_a5 {x : Nat → Int32} : up (mo h A (a, f)) 36 0 (iArr (A 36 0) 60 x) = mo h A (va_up a 5 x, f) := by
  funext s g
  by_cases e : s = 36 ∧ g = 0
  · obtain ⟨rfl, rfl⟩ := e
    rw [up_same]
    rfl
  · rw [up_ne _ _ e]
    unfold mo
    split <;> first | rfl | simp_all
theorem mo_a6 {x : Nat → Int32} : up (mo h A (a, f)) 37 0 (iArr (A 37 0) 64 x) = mo h A (va_up a 6 x, f) := by
  funext s g
  by_cases e : s = 37 ∧ g = 0
  · obtain ⟨rfl, rfl⟩ := e
    rw [up_same]
    rfl
  · rw [up_ne _ _ e]
    unfold mo
    split <;> first | rfl | simp_all
theorem mo_a7 {x : Nat → Int32} : up (mo h A (a, f)) 38 0 (zArr (A 38 0) 64 x) = mo h A (va_up a 7 x, f) := by
  funext s g
  by_cases e : s = 38 ∧ g = 0
  · obtain ⟨rfl, rfl⟩ := e
    rw [up_same]
    rfl
  · rw [up_ne _ _ e]
    unfold mo
    split <;> first | rfl | simp_all
theorem mo_a8 {x : Nat → Int32} : up (mo h A (a, f)) 39 0 (iArr (A 39 0) 64 x) = mo h A (va_up a 8 x, f) := by
  funext s g
  by_cases e : s = 39 ∧ g = 0
  · obtain ⟨rfl, rfl⟩ := e
    rw [up_same]
    rfl
  · rw [up_ne _ _ e]
    unfold mo
    split <;> first | rfl | simp_all
theorem mo_a9 {x : Nat → Int32} : up (mo h A (a, f)) 40 0 (iArr (A 40 0) 64 x) = mo h A (va_up a 9 x, f) := by
  funext s g
  by_cases e : s = 40 ∧ g = 0
  · obtain ⟨rfl, rfl⟩ := e
    rw [up_same]
    rfl
  · rw [up_ne _ _ e]
    unfold mo
    split <;> first | rfl | simp_all
theorem mo_a10 {x : Nat → Int32} : up (mo h A (a, f)) 41 0 (iArr (A 41 0) 64 x) = mo h A (va_up a 10 x, f) := by
  funext s g
  by_cases e : s = 41 ∧ g = 0
  · obtain ⟨rfl, rfl⟩ := e
    rw [up_same]
    rfl
  · rw [up_ne _ _ e]
    unfold mo
    split <;> first | rfl | simp_all
theorem mo_a11 {x : Nat → Int32} : up (mo h A (a, f)) 42 0 (zArr (A 42 0) 64 x) = mo h A (va_up a 11 x, f) := by
  funext s g
  by_cases e : s = 42 ∧ g = 0
  · obtain ⟨rfl, rfl⟩ := e
    rw [up_same]
    rfl
  · rw [up_ne _ _ e]
    unfold mo
    split <;> first | rfl | simp_all
theorem mo_a12 {x : Nat → Int32} : up (mo h A (a, f)) 43 0 (cArr (A 43 0) 24 x) = mo h A (va_up a 12 x, f) := by
  funext s g
  by_cases e : s = 43 ∧ g = 0
  · obtain ⟨rfl, rfl⟩ := e
    rw [up_same]
    rfl
  · rw [up_ne _ _ e]
    unfold mo
    split <;> first | rfl | simp_all
theorem mo_a13 {x : Nat → Int32} : up (mo h A (a, f)) 44 0 (iArr (A 44 0) 5 x) = mo h A (va_up a 13 x, f) := by
  funext s g
  by_cases e : s = 44 ∧ g = 0
  · obtain ⟨rfl, rfl⟩ := e
    rw [up_same]
    rfl
  · rw [up_ne _ _ e]
    unfold mo
    split <;> first | rfl | simp_all
theorem mo_a14 {x : Nat → Int32} : up (mo h A (a, f)) 45 0 (iArr (A 45 0) 244 x) = mo h A (va_up a 14 x, f) := by
  funext s g
  by_cases e : s = 45 ∧ g = 0
  · obtain ⟨rfl, rfl⟩ := e
    rw [up_same]
    rfl
  · rw [up_ne _ _ e]
    unfold mo
    split <;> first | rfl | simp_all
theorem mo_a15 {x : Nat → Int32} : up (mo h A (a, f)) 46 0 (iArr (A 46 0) 80 x) = mo h A (va_up a 15 x, f) := by
  funext s g
  by_cases e : s = 46 ∧ g = 0
  · obtain ⟨rfl, rfl⟩ := e
    rw [up_same]
    rfl
  · rw [up_ne _ _ e]
    unfold mo
    split <;> first | rfl | simp_all
end MO
theorem ixA {b k : Nat} {B : Int32} (hB : B = nI b) (h : b + k < 2 ^ 31) : ix (B + nI k) (b + k) := by
  rw [hB, nI_add]
  exact ix_nI h
theorem cpS {b c : Nat → Int32} {k : Nat} : va_up (fun i => if i < k then b i else c i) k (b k) = fun i => if i < k + 1 then b i else c i := by
  funext i
  unfold va_up
  by_cases e : i = k
  · subst e; simp
  · by_cases e2 : i < k
    · simp [e, e2, Nat.lt_succ_of_lt e2]
    · simp [e, e2, show ¬ i < k + 1 by omega]
theorem ix0 {k : Nat} (h : k < 2 ^ 31) : ix (0 + nI k) k := by
  rw [Int32.zero_add]
  exact ix_nI h
theorem i2l_le {x y : Int32} : x.toInt64 ≤ y.toInt64 ↔ x ≤ y := by
  rw [Int64.le_iff_toInt_le, Int32.le_iff_toInt_le, Int32.toInt_toInt64, Int32.toInt_toInt64]
theorem i2l_nI (n : Nat) (h : n < 2 ^ 31) : Int64.ofNat n = (nI n).toInt64 := by
  rw [← Int64.toInt_inj, Int32.toInt_toInt64, nI_toInt h, Int64.toInt_ofNat_of_lt (by omega)]
theorem cellB_le {x y : Int32} : cellB x y ↔ (0 ≤ x ∧ x ≤ 7) ∧ (0 ≤ y ∧ y ≤ 7) := by
  have e : ∀ z : Int32, z < 8 ↔ z ≤ 7 := fun z => by
    rw [Int32.lt_iff_toInt_lt, Int32.le_iff_toInt_le]
    show z.toInt < 8 ↔ z.toInt ≤ 7
    omega
  unfold cellB
  rw [e, e]
  constructor
  · rintro ⟨h1, h2, h3, h4⟩; exact ⟨⟨h1, h2⟩, h3, h4⟩
  · rintro ⟨⟨h1, h2⟩, h3, h4⟩; exact ⟨h1, h2, h3, h4⟩

set_option maxRecDepth 100000 in
theorem ev_in0 {l : Launch} {G : GG} (hl : l.stackTraces = false) {h : AH} {v lo hi : Int32} :
    Ev l G 10 0 0 mX10_in [.long v.toInt64, .long lo.toInt64, .long hi.toInt64] h (Rt (some (.int (if lo ≤ v ∧ v ≤ hi then 1 else 0))) h) := by
  refine Ev.of hl (by decide) (Nat.le_of_ble_eq_true rfl) ?_
  refine g_lload_n (i := 0) dX10_in_0 rfl rfl ?_
  refine g_lload_n (i := 2) dX10_in_1 rfl rfl ?_
  refine g_lcmp dX10_in_2 ?_
  refine g_if_lt (tgt := 17) dX10_in_3 (by decide) (fun c3 => ?_) (fun c3 => ?_)
  · refine g_iconst (v := 0) dX10_in_17 (by decide) ?_
    refine g_iret dX10_in_18 rfl rfl ?_
    exact ⟨by rw [if_neg (fun q => (lgc_lt.mp c3 |> Int64.not_le.mpr) (i2l_le.mpr q.1))], rfl⟩
  · refine g_lload_n (i := 0) dX10_in_6 rfl rfl ?_
    refine g_lload dX10_in_7 rfl ?_
    refine g_lcmp dX10_in_9 ?_
    refine g_if_gt (tgt := 17) dX10_in_10 (by decide) (fun c10 => ?_) (fun c10 => ?_)
    · refine g_iconst (v := 0) dX10_in_17 (by decide) ?_
      refine g_iret dX10_in_18 rfl rfl ?_
      exact ⟨by rw [if_neg (fun q => absurd c10 (Int32.not_lt.mpr (lgc_le.mpr (Int64.not_lt.mpr (i2l_le.mpr q.2)))))], rfl⟩
    · refine g_iconst (v := 1) dX10_in_13 (by decide) ?_
      refine g_goto (tgt := 18) dX10_in_14 (by decide) ?_
      refine g_iret dX10_in_18 rfl rfl ?_
      exact ⟨by rw [if_pos ⟨i2l_le.mp (Int64.not_lt.mp (fun z => c3 (lgc_lt.mpr z))), i2l_le.mp (Int64.not_lt.mp (lgc_le.mp (Int32.not_lt.mp c10)))⟩], rfl⟩

theorem ev_in {l : Launch} {G : GG} (hl : l.stackTraces = false) {h : AH} {v lo hi : Int32} {x y : Int64} (hx : x = lo.toInt64) (hy : y = hi.toInt64) :
    Ev l G 10 0 0 mX10_in [.long v.toInt64, .long x, .long y] h (Rt (some (.int (if lo ≤ v ∧ v ≤ hi then 1 else 0))) h) := by
  subst hx; subst hy
  exact ev_in0 hl

set_option maxRecDepth 100000 in
theorem ev_mIsCell {l : Launch} {G : GG} (hl : l.stackTraces = false) {h : AH} {x y : Int32} :
    Ev l G 11 0 0 mX10_isCell [.int x, .int y] h (Rt (some (.int (if cellB x y then 1 else 0))) h) := by
  refine Ev.of hl (by decide) (Nat.le_of_ble_eq_true rfl) ?_
  refine g_iload_n (i := 0) dX10_isCell_0 rfl rfl ?_
  refine g_i2l dX10_isCell_1 ?_
  refine g_lconst (v := 0) dX10_isCell_2 (by decide) ?_
  refine g_ldc2 dX10_isCell_3 co_X10_83 ?_
  refine g_callS (ev_in hl (lo := 0) (hi := 7) (by decide) (by decide)) dX10_isCell_6 ml_X10_85 csX10_in rfl rfl (Nat.le_of_ble_eq_true rfl) (Nat.le_of_ble_eq_true rfl) (Nat.zero_le _) (Nat.zero_le _) (kr_rt ?_) kx_rt
  refine g_if_eq (tgt := 28) dX10_isCell_9 (by decide) (fun c9 => ?_) (fun c9 => ?_)
  · refine g_iconst (v := 0) dX10_isCell_28 (by decide) ?_
    refine g_iret dX10_isCell_29 rfl rfl ?_
    exact ⟨by rw [if_neg (fun q => ite_0 c9 (cellB_le.mp q).1)], rfl⟩
  · refine g_iload_n (i := 1) dX10_isCell_12 rfl rfl ?_
    refine g_i2l dX10_isCell_13 ?_
    refine g_lconst (v := 0) dX10_isCell_14 (by decide) ?_
    refine g_ldc2 dX10_isCell_15 co_X10_83 ?_
    refine g_callS (ev_in hl (lo := 0) (hi := 7) (by decide) (by decide)) dX10_isCell_18 ml_X10_85 csX10_in rfl rfl (Nat.le_of_ble_eq_true rfl) (Nat.le_of_ble_eq_true rfl) (Nat.zero_le _) (Nat.zero_le _) (kr_rt ?_) kx_rt
    refine g_if_eq (tgt := 28) dX10_isCell_21 (by decide) (fun c21 => ?_) (fun c21 => ?_)
    · refine g_iconst (v := 0) dX10_isCell_28 (by decide) ?_
      refine g_iret dX10_isCell_29 rfl rfl ?_
      exact ⟨by rw [if_neg (fun q => ite_0 c21 (cellB_le.mp q).2)], rfl⟩
    · refine g_iconst (v := 1) dX10_isCell_24 (by decide) ?_
      refine g_goto (tgt := 29) dX10_isCell_25 (by decide) ?_
      refine g_iret dX10_isCell_29 rfl rfl ?_
      exact ⟨by rw [if_pos (cellB_le.mpr ⟨ite_1 c9, ite_1 c21⟩)], rfl⟩

set_option maxRecDepth 100000 in
theorem ev_mIsGround {l : Launch} {G : GG} (hl : l.stackTraces = false) {h : AH} {x : Int32} :
    Ev l G 10 0 0 mX10_isGround [.int x] h (Rt (some (.int (if groundP x then 1 else 0))) h) := by
  refine Ev.of hl (by decide) (Nat.le_of_ble_eq_true rfl) ?_
  refine g_iload_n (i := 0) dX10_isGround_0 rfl rfl ?_
  refine g_bipush (v := 46) dX10_isGround_1 (by decide) ?_
  refine g_icmp_eq (tgt := 24) dX10_isGround_3 (by decide) (fun c3 => ?_) (fun c3 => ?_)
  · refine g_iconst (v := 1) dX10_isGround_24 (by decide) ?_
    refine g_goto (tgt := 29) dX10_isGround_25 (by decide) ?_
    refine g_iret dX10_isGround_29 rfl rfl ?_
    exact ⟨by rw [if_pos (Or.inl c3)], rfl⟩
  · refine g_iload_n (i := 0) dX10_isGround_6 rfl rfl ?_
    refine g_bipush (v := 58) dX10_isGround_7 (by decide) ?_
    refine g_icmp_eq (tgt := 24) dX10_isGround_9 (by decide) (fun c9 => ?_) (fun c9 => ?_)
    · refine g_iconst (v := 1) dX10_isGround_24 (by decide) ?_
      refine g_goto (tgt := 29) dX10_isGround_25 (by decide) ?_
      refine g_iret dX10_isGround_29 rfl rfl ?_
      exact ⟨by rw [if_pos (Or.inr (Or.inl c9))], rfl⟩
    · refine g_iload_n (i := 0) dX10_isGround_12 rfl rfl ?_
      refine g_bipush (v := 126) dX10_isGround_13 (by decide) ?_
      refine g_icmp_eq (tgt := 24) dX10_isGround_15 (by decide) (fun c15 => ?_) (fun c15 => ?_)
      · refine g_iconst (v := 1) dX10_isGround_24 (by decide) ?_
        refine g_goto (tgt := 29) dX10_isGround_25 (by decide) ?_
        refine g_iret dX10_isGround_29 rfl rfl ?_
        exact ⟨by rw [if_pos (Or.inr (Or.inr (Or.inl c15)))], rfl⟩
      · refine g_iload_n (i := 0) dX10_isGround_18 rfl rfl ?_
        refine g_bipush (v := 35) dX10_isGround_19 (by decide) ?_
        refine g_icmp_ne (tgt := 28) dX10_isGround_21 (by decide) (fun c21 => ?_) (fun c21 => ?_)
        · refine g_iconst (v := 0) dX10_isGround_28 (by decide) ?_
          refine g_iret dX10_isGround_29 rfl rfl ?_
          exact ⟨by rw [if_neg (fun q => q.elim c3 (fun q => q.elim c9 (fun q => q.elim c15 c21)))], rfl⟩
        · refine g_iconst (v := 1) dX10_isGround_24 (by decide) ?_
          refine g_goto (tgt := 29) dX10_isGround_25 (by decide) ?_
          refine g_iret dX10_isGround_29 rfl rfl ?_
          exact ⟨by rw [if_pos (Or.inr (Or.inr (Or.inr c21)))], rfl⟩

set_option maxRecDepth 100000 in
theorem ev_thrown {l : Launch} {G : GG} (hl : l.stackTraces = false) {A : AD} {h : AH} {a : Nat → Nat → Int32} {f : Nat → Int32} :
    Ev l G 10 0 0 mX10_thrown [.ref (A 30 0)] (mo h A (a, f)) (Rt (some (.int (f 11))) (mo h A (a, f))) := by
  refine Ev.of hl (by decide) (Nat.le_of_ble_eq_true rfl) ?_
  refine g_aload_n (i := 0) dX10_thrown_0 rfl rfl ?_
  refine g_getf dX10_thrown_1 K_X10 (k := 11) fl_X10_67 (Nat.le_of_ble_eq_true rfl) mo_30 rfl ?_
  refine g_iret dX10_thrown_4 rfl rfl ?_
  exact ⟨rfl, rfl⟩

set_option maxRecDepth 100000 in
theorem ev_throwing {l : Launch} {G : GG} (hl : l.stackTraces = false) {A : AD} {h : AH} {a : Nat → Nat → Int32} {f : Nat → Int32} {x : Int32} :
    Ev l G 10 0 0 mX10_throwing [.ref (A 30 0), .int x] (mo h A (a, f)) (Rt (some (.int (-1))) (mo h A (a, va_up f 11 x))) := by
  refine Ev.of hl (by decide) (Nat.le_of_ble_eq_true rfl) ?_
  refine g_aload_n (i := 0) dX10_throwing_0 rfl rfl ?_
  refine g_iload_n (i := 1) dX10_throwing_1 rfl rfl ?_
  refine g_putf dX10_throwing_2 K_X10 (k := 11) fl_X10_67 (Nat.le_of_ble_eq_true rfl) rfl mo_30 (Nat.le_of_ble_eq_true rfl) rfl rfl (Go.heap (mo_f11) ?_)
  refine g_iconst (v := (-1)) dX10_throwing_5 (by decide) ?_
  refine g_iret dX10_throwing_6 rfl rfl ?_
  exact ⟨rfl, rfl⟩

set_option maxRecDepth 100000 in
theorem ev_refuses {l : Launch} {G : GG} (hl : l.stackTraces = false) {A : AD} {h : AH} {a : Nat → Nat → Int32} {f : Nat → Int32} {x y : Int32} :
    Ev l G 11 0 0 mX10_refuses [.ref (A 30 0), .int x, .int y] (mo h A (a, f)) (Rt (some (.int (-1))) (mo h A (a, va_up (va_up (va_up f 9 x) 10 y) 11 3))) := by
  refine Ev.of hl (by decide) (Nat.le_of_ble_eq_true rfl) ?_
  refine g_aload_n (i := 0) dX10_refuses_0 rfl rfl ?_
  refine g_iload_n (i := 1) dX10_refuses_1 rfl rfl ?_
  refine g_putf dX10_refuses_2 K_X10 (k := 9) fl_X10_70 (Nat.le_of_ble_eq_true rfl) rfl mo_30 (Nat.le_of_ble_eq_true rfl) rfl rfl (Go.heap (mo_f9) ?_)
  refine g_aload_n (i := 0) dX10_refuses_5 rfl rfl ?_
  refine g_iload_n (i := 2) dX10_refuses_6 rfl rfl ?_
  refine g_putf dX10_refuses_7 K_X10 (k := 10) fl_X10_73 (Nat.le_of_ble_eq_true rfl) rfl mo_30 (Nat.le_of_ble_eq_true rfl) rfl rfl (Go.heap (mo_f10) ?_)
  refine g_aload_n (i := 0) dX10_refuses_10 rfl rfl ?_
  refine g_iconst (v := 3) dX10_refuses_11 (by decide) ?_
  refine g_callV (ev_throwing hl) dX10_refuses_12 ml_X10_76 cvX10_throwing K_X10 rfl mo_30 rfl rfl (Nat.le_of_ble_eq_true rfl) (Nat.le_of_ble_eq_true rfl) (Nat.zero_le _) (Nat.zero_le _) (kr_rt ?_) kx_rt
  refine g_iret dX10_refuses_15 rfl rfl ?_
  exact ⟨rfl, rfl⟩

set_option maxRecDepth 100000 in
theorem ev_mRock {l : Launch} {G : GG} (hl : l.stackTraces = false) {A : AD} {h : AH} {a : Nat → Nat → Int32} {f : Nat → Int32} {k : Nat} (hk : k < 64) :
    Ev l G 10 0 0 mX10_isRock [.ref (A 30 0), .int (nI k)] (mo h A (a, f)) (Rt (some (.int (if a 0 (128 + k) = 35 then 1 else 0))) (mo h A (a, f))) := by
  refine Ev.of hl (by decide) (Nat.le_of_ble_eq_true rfl) ?_
  refine g_aload_n (i := 0) dX10_isRock_0 rfl rfl ?_
  refine g_getf dX10_isRock_1 K_X10 (k := 0) fl_X10_9 (Nat.le_of_ble_eq_true rfl) mo_30 rfl ?_
  refine g_sipush (v := 128) dX10_isRock_4 (by decide) ?_
  refine g_iload_n (i := 1) dX10_isRock_7 rfl rfl ?_
  refine g_iadd dX10_isRock_8 ?_
  refine g_iald dX10_isRock_9 mo_31 (ixA (b := 128) (k := k) rfl (by omega)) (by omega) ?_
  refine g_bipush (v := 35) dX10_isRock_10 (by decide) ?_
  refine g_icmp_ne (tgt := 19) dX10_isRock_12 (by decide) (fun c12 => ?_) (fun c12 => ?_)
  · refine g_iconst (v := 0) dX10_isRock_19 (by decide) ?_
    refine g_iret dX10_isRock_20 rfl rfl ?_
    exact ⟨by rw [if_neg c12], rfl⟩
  · refine g_iconst (v := 1) dX10_isRock_15 (by decide) ?_
    refine g_goto (tgt := 20) dX10_isRock_16 (by decide) ?_
    refine g_iret dX10_isRock_20 rfl rfl ?_
    exact ⟨by rw [if_pos c12], rfl⟩

def slN (m : Nat → Int32) (k : Nat) : Int32 := if m (128 + k) = 58 then 8 else if m (128 + k) = 126 then 2 else 4

set_option maxRecDepth 100000 in
theorem ev_mSlow {l : Launch} {G : GG} (hl : l.stackTraces = false) {A : AD} {h : AH} {a : Nat → Nat → Int32} {f : Nat → Int32} {k : Nat} (hk : k < 64) :
    Ev l G 10 0 0 mX10_slow [.ref (A 30 0), .int (nI k)] (mo h A (a, f)) (Rt (some (.int (slN (a 0) k))) (mo h A (a, f))) := by
  refine Ev.of hl (by decide) (Nat.le_of_ble_eq_true rfl) ?_
  refine g_aload_n (i := 0) dX10_slow_0 rfl rfl ?_
  refine g_getf dX10_slow_1 K_X10 (k := 0) fl_X10_9 (Nat.le_of_ble_eq_true rfl) mo_30 rfl ?_
  refine g_sipush (v := 128) dX10_slow_4 (by decide) ?_
  refine g_iload_n (i := 1) dX10_slow_7 rfl rfl ?_
  refine g_iadd dX10_slow_8 ?_
  refine g_iald dX10_slow_9 mo_31 (ixA (b := 128) (k := k) rfl (by omega)) (by omega) ?_
  refine g_bipush (v := 58) dX10_slow_10 (by decide) ?_
  refine g_icmp_ne (tgt := 20) dX10_slow_12 (by decide) (fun c12 => ?_) (fun c12 => ?_)
  · refine g_aload_n (i := 0) dX10_slow_20 rfl rfl ?_
    refine g_getf dX10_slow_21 K_X10 (k := 0) fl_X10_9 (Nat.le_of_ble_eq_true rfl) mo_30 rfl ?_
    refine g_sipush (v := 128) dX10_slow_24 (by decide) ?_
    refine g_iload_n (i := 1) dX10_slow_27 rfl rfl ?_
    refine g_iadd dX10_slow_28 ?_
    refine g_iald dX10_slow_29 mo_31 (ixA (b := 128) (k := k) rfl (by omega)) (by omega) ?_
    refine g_bipush (v := 126) dX10_slow_30 (by decide) ?_
    refine g_icmp_ne (tgt := 39) dX10_slow_32 (by decide) (fun c32 => ?_) (fun c32 => ?_)
    · refine g_iconst (v := 4) dX10_slow_39 (by decide) ?_
      refine g_iret dX10_slow_40 rfl rfl ?_
      exact ⟨by rw [slN, if_neg c12, if_neg c32], rfl⟩
    · refine g_iconst (v := 2) dX10_slow_35 (by decide) ?_
      refine g_goto (tgt := 40) dX10_slow_36 (by decide) ?_
      refine g_iret dX10_slow_40 rfl rfl ?_
      exact ⟨by rw [slN, if_neg c12, if_pos c32], rfl⟩
  · refine g_bipush (v := 8) dX10_slow_15 (by decide) ?_
    refine g_goto (tgt := 40) dX10_slow_17 (by decide) ?_
    refine g_iret dX10_slow_40 rfl rfl ?_
    exact ⟨by rw [slN, if_pos c12], rfl⟩

set_option maxRecDepth 100000 in
theorem ev_mIsOf {l : Launch} {G : GG} (hl : l.stackTraces = false) {A : AD} {h : AH} {a : Nat → Nat → Int32} {f : Nat → Int32} {k : Nat} (hk : k < 64) {v : Int32} :
    Ev l G 10 0 0 mX10_isOf [.ref (A 30 0), .int (nI k), .int v] (mo h A (a, f)) (Rt (some (.int (if v ≤ a 0 k then 1 else 0))) (mo h A (a, f))) := by
  refine Ev.of hl (by decide) (Nat.le_of_ble_eq_true rfl) ?_
  refine g_aload_n (i := 0) dX10_isOf_0 rfl rfl ?_
  refine g_getf dX10_isOf_1 K_X10 (k := 0) fl_X10_9 (Nat.le_of_ble_eq_true rfl) mo_30 rfl ?_
  refine g_iconst (v := 0) dX10_isOf_4 (by decide) ?_
  refine g_iload_n (i := 1) dX10_isOf_5 rfl rfl ?_
  refine g_iadd dX10_isOf_6 ?_
  refine g_iald dX10_isOf_7 mo_31 (ix0 (k := k) (by omega)) (by omega) ?_
  refine g_iload_n (i := 2) dX10_isOf_8 rfl rfl ?_
  refine g_icmp_lt (tgt := 16) dX10_isOf_9 (by decide) (fun c9 => ?_) (fun c9 => ?_)
  · refine g_iconst (v := 0) dX10_isOf_16 (by decide) ?_
    refine g_iret dX10_isOf_17 rfl rfl ?_
    exact ⟨by rw [if_neg (nlt' c9)], rfl⟩
  · refine g_iconst (v := 1) dX10_isOf_12 (by decide) ?_
    refine g_goto (tgt := 17) dX10_isOf_13 (by decide) ?_
    refine g_iret dX10_isOf_17 rfl rfl ?_
    exact ⟨by rw [if_pos (ltn' c9)], rfl⟩

set_option maxRecDepth 100000 in
theorem ev_starts {l : Launch} {G : GG} (hl : l.stackTraces = false) {A : AD} {h : AH} {a : Nat → Nat → Int32} {f : Nat → Int32} :
    Ev l G 10 0 0 mX10_starts [.ref (A 30 0)] (mo h A (a, f)) (Rt none (mo h A (va_up a 1 (a 0), va_up f 11 0))) := by
  refine Ev.of hl (by decide) (Nat.le_of_ble_eq_true rfl) ?_
  have loop : ∀ (j : Nat) (k : Nat), k + j = 202 → Go l G mX10_starts 10 0 0 (Rt none (mo h A (va_up a 1 (a 0), va_up f 11 0))) 7 [some (.ref (A 30 0)), some (.int (nI k))] [] (mo h A (va_up a 1 (fun i => if i < k then a 0 i else a 1 i), va_up f 11 0)) := by
    intro j
    induction j with
    | zero =>
      intro k hk
      refine g_iload_n (i := 1) dX10_starts_7 rfl rfl ?_
      refine g_sipush (v := 202) dX10_starts_8 (by decide) ?_
      refine g_icmp_ge (tgt := 32) dX10_starts_11 (by decide) (fun c11 => ?_) (fun c11 => ?_)
      · refine Go.heap (mo_a1 (x := (fun i => if i < k then a 0 i else a 1 i))).symm ?_
        refine Go.arr (f' := a 0) (fun i hi => if_pos (by omega)) ?_
        refine Go.heap mo_a1 ?_
        refine g_vret dX10_starts_32 rfl ?_
        exact ⟨rfl, rfl⟩
      · exact absurd ((le_nI (a := 202) (b := k) rfl (by omega) (by omega)).mpr (by omega)) c11
    | succ j ih =>
      intro k hk
      refine g_iload_n (i := 1) dX10_starts_7 rfl rfl ?_
      refine g_sipush (v := 202) dX10_starts_8 (by decide) ?_
      refine g_icmp_ge (tgt := 32) dX10_starts_11 (by decide) (fun c11 => ?_) (fun c11 => ?_)
      · exact absurd ((le_nI (a := 202) (b := k) rfl (by omega) (by omega)).mp c11) (by omega)
      · refine g_aload_n (i := 0) dX10_starts_14 rfl rfl ?_
        refine g_getf dX10_starts_15 K_X10 (k := 1) fl_X10_13 (Nat.le_of_ble_eq_true rfl) mo_30 rfl ?_
        refine g_iload_n (i := 1) dX10_starts_18 rfl rfl ?_
        refine g_aload_n (i := 0) dX10_starts_19 rfl rfl ?_
        refine g_getf dX10_starts_20 K_X10 (k := 0) fl_X10_9 (Nat.le_of_ble_eq_true rfl) mo_30 rfl ?_
        refine g_iload_n (i := 1) dX10_starts_23 rfl rfl ?_
        refine g_iald dX10_starts_24 mo_31 (ix_nI (j := k) (by omega)) (by omega) ?_
        refine g_iast dX10_starts_25 mo_32 (ix_nI (j := k) (by omega)) (by omega) rfl (Go.heap mo_a1 ?_)
        refine g_iinc (w := 1) dX10_starts_26 (by decide) rfl (nI_succ k).symm (Nat.le_of_ble_eq_true rfl) ?_
        refine g_goto (tgt := 7) dX10_starts_29 (by decide) ?_
        refine Go.heap (h' := (mo h A (va_up a 1 (fun i => if i < k + 1 then a 0 i else a 1 i), va_up f 11 0))) (by rw [va_up2, va_up_self, va_up_ne _ _ (show (0 : Nat) ≠ 1 by decide), cpS]) ?_
        exact ih (k + 1) (by omega)
  refine g_aload_n (i := 0) dX10_starts_0 rfl rfl ?_
  refine g_iconst (v := 0) dX10_starts_1 (by decide) ?_
  refine g_putf dX10_starts_2 K_X10 (k := 11) fl_X10_67 (Nat.le_of_ble_eq_true rfl) rfl mo_30 (Nat.le_of_ble_eq_true rfl) rfl rfl (Go.heap (mo_f11) ?_)
  refine g_iconst (v := 0) dX10_starts_5 (by decide) ?_
  refine g_istore_n (i := 1) dX10_starts_6 rfl (Nat.le_of_ble_eq_true rfl) ?_
  refine Go.heap (h' := (mo h A (va_up a 1 (fun i => if i < 0 then a 0 i else a 1 i), va_up f 11 0))) ?_ (loop 202 0 rfl)
  congr 2; exact (va_self a 1).symm

