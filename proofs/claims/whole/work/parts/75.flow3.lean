/-! The class's map and the model's: what is alike; flows keep it. -/
def mR (m : MS) (mm : Nat → Int32) : Prop := (∀ i, i < 64 → m.2.1 i = mm i) ∧ (∀ i, i < 64 → m.2.2.1 i = mm (64 + i)) ∧ (∀ i, i < 64 → m.1 i = mm (128 + i)) ∧ (∀ s, s < 4 → m.2.2.2.1 s = mm (192 + s)) ∧ (∀ s, s < 4 → m.2.2.2.2.1 s = mm (196 + s)) ∧ (m.2.2.2.2.2.1 = mm 200) ∧ (m.2.2.2.2.2.2.1 = mm 201)
theorem mR.he {m : MS} {mm : Nat → Int32} (h : mR m mm) : ∀ i, i < 64 → m.2.1 i = mm i := h.1
theorem mR.em {m : MS} {mm : Nat → Int32} (h : mR m mm) : ∀ i, i < 64 → m.2.2.1 i = mm (64 + i) := h.2.1
theorem mR.gr {m : MS} {mm : Nat → Int32} (h : mR m mm) : ∀ i, i < 64 → m.1 i = mm (128 + i) := h.2.2.1
theorem mR.te {m : MS} {mm : Nat → Int32} (h : mR m mm) : ∀ s, s < 4 → m.2.2.2.1 s = mm (192 + s) := h.2.2.2.1
theorem mR.lo {m : MS} {mm : Nat → Int32} (h : mR m mm) : ∀ s, s < 4 → m.2.2.2.2.1 s = mm (196 + s) := h.2.2.2.2.1
theorem mR.ti {m : MS} {mm : Nat → Int32} (h : mR m mm) : m.2.2.2.2.2.1 = mm 200 := h.2.2.2.2.2.1
theorem mR.rl {m : MS} {mm : Nat → Int32} (h : mR m mm) : m.2.2.2.2.2.2.1 = mm 201 := h.2.2.2.2.2.2
/-- a number within bounds -/
def bn (x : Int32) : Prop := 0 ≤ x.toInt ∧ x.toInt ≤ 1000000
theorem dvI {x k : Int32} (hx : -1000000 ≤ x.toInt ∧ x.toInt ≤ 1000000) : (x / k).toInt = x.toInt.tdiv k.toInt := by
  rw [Int32.toInt_div]
  have h := Int.natAbs_tdiv_le_natAbs x.toInt k.toInt
  rw [Int.bmod_eq_of_le (by omega) (by omega)]
theorem dv_neg {a b k : Int32} (ha : bn a) (hb : bn b) : (b - a) / k = -((a - b) / k) := by
  have e1 := bd_sub ha hb
  have e2 := bd_sub hb ha
  unfold bn at ha hb
  have d1 := dvI (x := a - b) (k := k) (by omega)
  have d2 := dvI (x := b - a) (k := k) (by omega)
  have h := Int.natAbs_tdiv_le_natAbs (a - b).toInt k.toInt
  rw [← Int32.toInt_inj, d2, fb_negI (by omega), d1, e1, e2, ← Int.neg_tdiv]
  congr 1
  omega
theorem dv_zero {k : Int32} : (0 : Int32) / k = 0 := by
  rw [← Int32.toInt_inj, dvI (by decide)]
  exact Int.zero_tdiv _
theorem dv_pm {a b k : Int32} (ha : bn a) (hb : bn b) : -(if b < a then (a - b) / k else 0) + (if a < b then (b - a) / k else 0) = (b - a) / k := by
  by_cases h : b < a
  · rw [if_pos h, if_neg (fun q => by rw [Int32.lt_iff_toInt_lt] at h q; omega), dv_neg ha hb, Int32.add_zero]
  · rw [if_neg h]
    by_cases h2 : a < b
    · rw [if_pos h2]; grind
    · rw [if_neg h2]
      have e : a = b := by
        rw [Int32.lt_iff_toInt_lt] at h h2
        rw [← Int32.toInt_inj]
        omega
      rw [e, show b - b = 0 from Int32.sub_self _, dv_zero]
      rfl
def lvq (m : MS) (q s : Nat) : Int32 := match nb q s with
  | none => - lv m s q
  | some _ => 0
section FR
variable {m : MS} {mm : Nat → Int32}
theorem sl_eq (h : mR m mm) {k : Nat} (hk : k < 64) : slN mm k = slowC m k := by unfold slN slowC; rw [h.gr k hk]
theorem side_none (h : mR m mm) (hb : ∀ i, i < 64 → bn (mm i)) (ht : ∀ s, s < 4 → bn (mm (192 + s))) {q s : Nat} (hq : q < 64) (hs : s < 4) (hn : nb q s = none) : ou mm q s + inn mm q s = lvq m q s ∧ ew m q s = 0 ∧ en m q s = 0 := by
  unfold ou inn lvq ew en
  rw [hn]
  refine ⟨?_, rfl, rfl⟩
  show (if mm (128 + q) = 35 then 0 else - fo mm q s) + 0 = - lv m s q
  unfold fo lv noLv lvs
  rw [hn, h.gr q hq, h.he q hq, h.te s hs, sl_eq h hq]
  simp only []
  by_cases e : mm (128 + q) = 35
  · rw [if_pos e, if_pos (Or.inl e)]
    rfl
  · rw [if_neg e]
    by_cases e2 : mm q - mm (192 + s) ≤ 0
    · rw [if_pos (Or.inr e2), if_neg (Int32.not_lt.mpr e2), dv_zero]
      rfl
    · rw [if_neg (show ¬ (mm (128 + q) = 35 ∨ mm q - mm (192 + s) ≤ 0) from fun w => w.elim e e2), if_pos (Int32.not_le.mp e2), Int32.add_zero]
theorem side_some (h : mR m mm) (hb : ∀ i, i < 64 → bn (mm i)) {q s n : Nat} (hq : q < 64) (hs : s < 4) (hn : nb q s = some n) : ou mm q s + inn mm q s = - ew m q s + lvq m q s ∧ ou mm q s + inn mm q s = en m q s + lvq m q s := by
  have hn2 := nb_lt hq hn
  have hop := (nb_op2 hq hn2 hs).mp hn
  unfold ou inn lvq ew en
  rw [hn]
  simp only []
  unfold fo ew
  rw [hn, hop]
  simp only []
  unfold flw
  rw [h.gr q hq, h.gr n hn2, h.he q hq, h.he n hn2, sl_eq h hq, sl_eq h hn2, Int32.add_comm (slowC m n) (slowC m q)]
  have z := dv_pm (k := slowC m q + slowC m n) (hb q hq) (hb n hn2)
  have z2 := dv_neg (k := slowC m q + slowC m n) (hb q hq) (hb n hn2)
  by_cases e : mm (128 + q) = 35
  · rw [if_pos e, if_pos e, if_pos (Or.inl e), if_pos (Or.inr e)]
    by_cases e2 : mm (128 + n) = 35
    · rw [if_pos e2]; exact ⟨rfl, rfl⟩
    · rw [if_neg e2]; exact ⟨rfl, rfl⟩
  · rw [if_neg e, if_neg e]
    by_cases e2 : mm (128 + n) = 35
    · rw [if_pos e2, if_pos e2, if_pos (Or.inr e2), if_pos (Or.inl e2)]
      exact ⟨rfl, rfl⟩
    · rw [if_neg e2, if_neg e2, if_neg (show ¬ (mm (128 + q) = 35 ∨ mm (128 + n) = 35) from fun w => w.elim e e2), if_neg (show ¬ (mm (128 + n) = 35 ∨ mm (128 + q) = 35) from fun w => w.elim e2 e), z, Int32.add_zero, Int32.add_zero]
      exact ⟨z2, rfl⟩
theorem lv_sum {q : Nat} (hq : q < 64) : sumN (fun k => (if q = k then - lv m 0 k else 0) + (if q = 8 * k + 7 then - lv m 1 (8 * k + 7) else 0) + (if q = 56 + k then - lv m 2 (56 + k) else 0) + (if q = 8 * k then - lv m 3 (8 * k) else 0)) 8 = lvq m q 0 + lvq m q 1 + lvq m q 2 + lvq m q 3 := by
  rw [sumN_add, sumN_add, sumN_add]
  have s0 : sumN (fun k => if q = k then - lv m 0 k else 0) 8 = lvq m q 0 := by
    unfold lvq
    rw [nb_0 q hq]
    by_cases e : 8 ≤ q
    · rw [if_pos e]; exact sumN_0 8 (fun i hi => if_neg (by omega))
    · rw [if_neg e]; exact (sumN_one 8 (n := q) (by omega) (fun i hi hne => if_neg (by omega))).trans (if_pos rfl)
  have s1 : sumN (fun k => if q = 8 * k + 7 then - lv m 1 (8 * k + 7) else 0) 8 = lvq m q 1 := by
    unfold lvq
    rw [nb_1 q hq]
    by_cases e : q % 8 ≠ 7
    · rw [if_pos e]; exact sumN_0 8 (fun i hi => if_neg (by omega))
    · rw [if_neg e]
      have e3 : q = 8 * (q / 8) + 7 := by omega
      refine (sumN_one 8 (n := q / 8) (by omega) (fun i hi hne => if_neg (by omega))).trans ((if_pos e3).trans ?_)
      rw [← e3]
  have s2 : sumN (fun k => if q = 56 + k then - lv m 2 (56 + k) else 0) 8 = lvq m q 2 := by
    unfold lvq
    rw [nb_2 q hq]
    by_cases e : q < 56
    · rw [if_pos e]; exact sumN_0 8 (fun i hi => if_neg (by omega))
    · rw [if_neg e]
      have e3 : q = 56 + (q - 56) := by omega
      refine (sumN_one 8 (n := q - 56) (by omega) (fun i hi hne => if_neg (by omega))).trans ((if_pos e3).trans ?_)
      rw [← e3]
  have s3 : sumN (fun k => if q = 8 * k then - lv m 3 (8 * k) else 0) 8 = lvq m q 3 := by
    unfold lvq
    rw [nb_3 q hq]
    by_cases e : q % 8 ≠ 0
    · rw [if_pos e]; exact sumN_0 8 (fun i hi => if_neg (by omega))
    · rw [if_neg e]
      have e3 : q = 8 * (q / 8) := by omega
      refine (sumN_one 8 (n := q / 8) (by omega) (fun i hi hne => if_neg (by omega))).trans ((if_pos e3).trans ?_)
      rw [← e3]
  rw [s0, s1, s2, s3]
/-- heats after the flows -/
theorem flow_he (h : mR m mm) (hb : ∀ i, i < 64 → bn (mm i)) (ht : ∀ s, s < 4 → bn (mm (192 + s))) {q : Nat} (hq : q < 64) : (flowM m).2.1 q = flM mm q := by
  rw [show flM mm q = (flA 64 (mm, mm)).1 q from if_pos hq, ((flA_d (m := mm) 64 (Nat.le_refl _)).2.1 q), dc_sum hq]
  show m.2.1 q + lvCA m 8 q = _
  rw [lvCA_d, lv_sum hq, flAll_64 hq, h.he q hq]
  have side : ∀ s, s < 4 → ou mm q s + inn mm q s = - ew m q s + lvq m q s ∧ ou mm q s + inn mm q s = en m q s + lvq m q s := fun s hs => by
    rcases hn : nb q s with _ | n
    · obtain ⟨a, b, c⟩ := side_none h hb ht hq hs hn
      rw [a, b, c]
      exact ⟨by grind, by grind⟩
    · exact side_some h hb hq hs hn
  have a0 := (side 0 (by omega)).2
  have a1 := (side 1 (by omega)).1
  have a2 := (side 2 (by omega)).1
  have a3 := (side 3 (by omega)).2
  grind
theorem sum_row {f : Nat → Int32} : ∀ k, sumN f (8 * k) = sumN (fun j => f (8 * j) + f (8 * j + 1) + f (8 * j + 2) + f (8 * j + 3) + f (8 * j + 4) + f (8 * j + 5) + f (8 * j + 6) + f (8 * j + 7)) k
  | 0 => rfl
  | k + 1 => by
    rw [sumN, ← sum_row k]
    show sumN f (8 * k) + f (8 * k) + f (8 * k + 1) + f (8 * k + 2) + f (8 * k + 3) + f (8 * k + 4) + f (8 * k + 5) + f (8 * k + 6) + f (8 * k + 7) = _
    ac_rfl
theorem sumN_split (f : Nat → Int32) (a : Nat) : ∀ b, sumN f (a + b) = sumN f a + sumN (fun k => f (a + k)) b
  | 0 => (Int32.add_zero _).symm
  | b + 1 => by
    show sumN f (a + b) + f (a + b) = _
    rw [sumN_split f a b, sumN, Int32.add_assoc]
theorem fo_lv (h : mR m mm) {c s : Nat} (hc : c < 64) (hs : s < 4) (hn : nb c s = none) : (if mm (128 + c) = 35 then 0 else fo mm c s) = lv m s c := by
  unfold fo lv noLv lvs
  rw [hn, h.gr c hc, h.he c hc, h.te s hs, sl_eq h hc]
  simp only []
  by_cases e : mm (128 + c) = 35
  · rw [if_pos e, if_pos (Or.inl e)]
  · rw [if_neg e]
    by_cases e2 : mm c - mm (192 + s) ≤ 0
    · rw [if_pos (Or.inr e2), if_neg (Int32.not_lt.mpr e2), dv_zero]
    · rw [if_neg (show ¬ (mm (128 + c) = 35 ∨ mm c - mm (192 + s) ≤ 0) from fun w => w.elim e e2), if_pos (Int32.not_le.mp e2)]
theorem dlc_s (h : mR m mm) {c s : Nat} (hc : c < 64) (hs : s < 4) : dlc mm c (196 + s) = if nb c s = none then lv m s c else 0 := by
  have z : dlc mm c (196 + s) = if nb c s = none then (if mm (128 + c) = 35 then 0 else fo mm c s) else 0 := by
    unfold dlc dl
    by_cases e : mm (128 + c) = 35
    · rw [if_pos e, if_pos e, ite_self]
    · rw [if_neg e, if_neg e]
      have key : ∀ t, t < 4 → (if 196 + s = 196 + t ∧ nb c t = none then fo mm c t else 0) = if s = t then (if nb c s = none then fo mm c s else 0) else 0 := fun t _ => by
        by_cases e2 : s = t
        · subst e2
          rw [if_pos rfl]
          by_cases e3 : nb c s = none
          · rw [if_pos ⟨rfl, e3⟩, if_pos e3]
          · rw [if_neg (fun w => e3 w.2), if_neg e3]
        · rw [if_neg e2, if_neg (fun w => e2 (by omega))]
      rw [key 0 (by omega), key 1 (by omega), key 2 (by omega), key 3 (by omega)]
      generalize (if nb c s = none then fo mm c s else 0) = X
      rcases (show s = 0 ∨ s = 1 ∨ s = 2 ∨ s = 3 by omega) with rfl | rfl | rfl | rfl <;> simp
  rw [z]
  by_cases e : nb c s = none
  · rw [if_pos e, if_pos e, fo_lv h hc hs e]
  · rw [if_neg e, if_neg e]
theorem none_if {c s d : Nat} {p : Prop} [Decidable p] (h : nb c s = if p then some d else none) {x : Int32} : (if nb c s = none then x else 0) = if p then 0 else x := by
  rw [h]
  by_cases e : p
  · rw [if_pos e, if_pos e, if_neg (by simp)]
  · rw [if_neg e, if_neg e, if_pos rfl]
/-- what was lost, after the flows -/
theorem flow_lo (h : mR m mm) {s : Nat} (hs : s < 4) : (flowM m).2.2.2.2.1 s = flM mm (196 + s) := by
  rw [show flM mm (196 + s) = (flA 64 (mm, mm)).2 (196 + s) from if_neg (by omega), ((flA_d (m := mm) 64 (Nat.le_refl _)).2.2 _)]
  show lvLA m 8 s = _
  rw [lvLA_d, h.lo s hs, sumN_cong 64 (fun c hc => dlc_s h hc hs)]
  refine congrArg (fun x => mm (196 + s) + x) ?_
  rcases (show s = 0 ∨ s = 1 ∨ s = 2 ∨ s = 3 by omega) with rfl | rfl | rfl | rfl
  · rw [sumN_cong 64 (g := fun c => if 8 ≤ c then 0 else lv m 0 c) (fun c hc => none_if (nb_0 c hc)), show (64 : Nat) = 8 + 56 from rfl, sumN_split, sumN_0 (f := fun k => if 8 ≤ 8 + k then 0 else lv m 0 (8 + k)) 56 (fun i _ => if_pos (by omega)), Int32.add_zero]
    refine sumN_cong 8 (fun k hk => ?_)
    rw [if_pos rfl, if_neg (by decide), if_neg (by decide), if_neg (by decide), if_neg (show ¬ 8 ≤ k by omega)]
    simp only [Int32.add_zero]
  · rw [sumN_cong 64 (g := fun c => if c % 8 ≠ 7 then 0 else lv m 1 c) (fun c hc => none_if (nb_1 c hc)), show (64 : Nat) = 8 * 8 from rfl, sum_row]
    refine sumN_cong 8 (fun k hk => ?_)
    rw [if_neg (by decide), if_pos rfl, if_neg (by decide), if_neg (by decide), if_pos (show 8 * k % 8 ≠ 7 by omega), if_pos (show (8 * k + 1) % 8 ≠ 7 by omega), if_pos (show (8 * k + 2) % 8 ≠ 7 by omega), if_pos (show (8 * k + 3) % 8 ≠ 7 by omega), if_pos (show (8 * k + 4) % 8 ≠ 7 by omega), if_pos (show (8 * k + 5) % 8 ≠ 7 by omega), if_pos (show (8 * k + 6) % 8 ≠ 7 by omega), if_neg (show ¬ (8 * k + 7) % 8 ≠ 7 by omega)]
    simp only [Int32.add_zero, Int32.zero_add]
  · rw [sumN_cong 64 (g := fun c => if c < 56 then 0 else lv m 2 c) (fun c hc => none_if (nb_2 c hc)), show (64 : Nat) = 56 + 8 from rfl, sumN_split, sumN_0 56 (fun i hi => if_pos hi), Int32.zero_add]
    refine sumN_cong 8 (fun k hk => ?_)
    rw [if_neg (by decide), if_neg (by decide), if_pos rfl, if_neg (by decide), if_neg (show ¬ 56 + k < 56 by omega)]
    simp only [Int32.add_zero, Int32.zero_add]
  · rw [sumN_cong 64 (g := fun c => if c % 8 ≠ 0 then 0 else lv m 3 c) (fun c hc => none_if (nb_3 c hc)), show (64 : Nat) = 8 * 8 from rfl, sum_row]
    refine sumN_cong 8 (fun k hk => ?_)
    rw [if_neg (by decide), if_neg (by decide), if_neg (by decide), if_pos rfl, if_neg (show ¬ 8 * k % 8 ≠ 0 by omega), if_pos (show (8 * k + 1) % 8 ≠ 0 by omega), if_pos (show (8 * k + 2) % 8 ≠ 0 by omega), if_pos (show (8 * k + 3) % 8 ≠ 0 by omega), if_pos (show (8 * k + 4) % 8 ≠ 0 by omega), if_pos (show (8 * k + 5) % 8 ≠ 0 by omega), if_pos (show (8 * k + 6) % 8 ≠ 0 by omega), if_pos (show (8 * k + 7) % 8 ≠ 0 by omega)]
    simp only [Int32.add_zero, Int32.zero_add]
/-- the others stay -/
theorem flM_o {i : Nat} (h1 : 64 ≤ i) (h2 : i < 196 ∨ 199 < i) : flM mm i = mm i := by
  rw [show flM mm i = (flA 64 (mm, mm)).2 i from if_neg (by omega)]
  rcases h2 with h2 | h2
  · exact (flA_d (m := mm) 64 (Nat.le_refl _)).1 i h2
  · rw [((flA_d (m := mm) 64 (Nat.le_refl _)).2.2 i), sumN_0 64 (fun c hc => ?_), Int32.add_zero]
    unfold dlc dl
    rw [if_neg (show ¬ (i = 196 + 0 ∧ nb c 0 = none) from fun w => by omega), if_neg (show ¬ (i = 196 + 1 ∧ nb c 1 = none) from fun w => by omega), if_neg (show ¬ (i = 196 + 2 ∧ nb c 2 = none) from fun w => by omega), if_neg (show ¬ (i = 196 + 3 ∧ nb c 3 = none) from fun w => by omega)]
    exact ite_self _
theorem flow_R (h : mR m mm) (hb : ∀ i, i < 64 → bn (mm i)) (ht : ∀ s, s < 4 → bn (mm (192 + s))) : mR (flowM m) (flM mm) :=
  ⟨fun i hi => flow_he h hb ht hi, fun i hi => (h.em i hi).trans (flM_o (by omega) (by omega)).symm, fun i hi => (h.gr i hi).trans (flM_o (by omega) (by omega)).symm, fun s hs => (h.te s hs).trans (flM_o (by omega) (by omega)).symm, fun s hs => flow_lo h hs, h.ti.trans (flM_o (by omega) (by omega)).symm, h.rl.trans (flM_o (by omega) (by omega)).symm⟩
end FR
