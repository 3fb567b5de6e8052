/-! The class's flows as sums, and that they are the model's. -/
/-- what flows over the edge from k to its neighbour at side s -/
def ew (m : MS) (k s : Nat) : Int32 := match nb k s with
  | none => 0
  | some n => if m.1 k = 35 ∨ m.1 n = 35 then 0 else flw m k n
theorem nb_self {c s : Nat} (hc : c < 64) (hs : s < 4) : nb c s ≠ some c := (by decide +kernel : ∀ c, c < 64 → ∀ s, s < 4 → nb c s ≠ some c) c hc s hs
theorem flC_d {m : MS} {c : Nat → Int32} {k s : Nat} (hk : k < 64) (hs : s < 4) (q : Nat) : flowC m c k (nb k s) q = c q + ((if q = k then - ew m k s else 0) + (if nb k s = some q then ew m k s else 0)) := by
  unfold ew
  rcases hn : nb k s with _ | n
  · simp only []
    rw [if_neg (show ¬ (none : Option Nat) = some q from fun w => by cases w)]
    show c q = _
    grind
  · have hne : n ≠ k := fun e => nb_self hk hs (e ▸ hn)
    simp only []
    show (if m.1 k = 35 ∨ m.1 n = 35 then c else va_up (va_up c k (c k - flw m k n)) n (va_up c k (c k - flw m k n) n + flw m k n)) q = _
    by_cases e : m.1 k = 35 ∨ m.1 n = 35
    · rw [if_pos e, if_pos e]
      grind
    · rw [if_neg e, if_neg e]
      generalize flw m k n = z
      by_cases e3 : q = n
      · subst e3
        rw [va_up_self, va_up_ne _ _ hne, if_neg hne, if_pos rfl]
        grind
      · rw [va_up_ne _ _ e3, if_neg (fun w : some n = some q => e3 (Option.some.inj w).symm)]
        by_cases e4 : q = k
        · subst e4
          rw [va_up_self, if_pos rfl]
          grind
        · rw [va_up_ne _ _ e4, if_neg e4]
          grind
theorem flAll_d {m : MS} {q : Nat} : ∀ k, k ≤ 64 → flowAll m k q = sumN (fun k => ((if q = k then - ew m k 1 else 0) + (if nb k 1 = some q then ew m k 1 else 0)) + ((if q = k then - ew m k 2 else 0) + (if nb k 2 = some q then ew m k 2 else 0))) k
  | 0, _ => rfl
  | k + 1, h => by
    rw [flowAll, flC_d (by omega) (by omega), flC_d (by omega) (by omega), flAll_d k (by omega), sumN]
    ac_rfl
def en (m : MS) (q s : Nat) : Int32 := match nb q s with
  | none => 0
  | some n => ew m n (op s)
theorem flAll_64 {m : MS} {q : Nat} (hq : q < 64) : flowAll m 64 q = - ew m q 1 + - ew m q 2 + en m q 3 + en m q 0 := by
  rw [flAll_d 64 (Nat.le_refl _), sumN_add, sumN_add, sumN_add, sum_q (f := fun k => - ew m k 1) hq, sum_q (f := fun k => - ew m k 2) hq, sum_nb hq (by omega), sum_nb hq (by omega)]
  show - ew m q 1 + en m q 3 + (- ew m q 2 + en m q 0) = _
  ac_rfl
/-- what leaves the map from i by side s -/
def lv (m : MS) (s i : Nat) : Int32 := if noLv m s i then 0 else lvs m s i
theorem lvC_d {m : MS} {s i q : Nat} {c : Nat → Int32} : lvC m s i c q = c q + (if q = i then - lv m s i else 0) := by
  unfold lvC lv
  by_cases e : noLv m s i
  · rw [if_pos e, if_pos e]
    grind
  · rw [if_neg e, if_neg e]
    unfold va_up
    by_cases e2 : q = i
    · rw [if_pos e2, if_pos e2, e2]
      grind
    · rw [if_neg e2, if_neg e2, Int32.add_zero]
theorem lvL_d {m : MS} {s i q : Nat} {c : Nat → Int32} : lvL m s i c q = c q + (if q = s then lv m s i else 0) := by
  unfold lvL lv
  by_cases e : noLv m s i
  · rw [if_pos e, if_pos e]
    grind
  · rw [if_neg e, if_neg e]
    unfold va_up
    by_cases e2 : q = s
    · rw [if_pos e2, if_pos e2, e2]
    · rw [if_neg e2, if_neg e2, Int32.add_zero]
theorem lvCA_d {m : MS} {q : Nat} : ∀ k, lvCA m k q = flowAll m 64 q + sumN (fun k => (if q = k then - lv m 0 k else 0) + (if q = 8 * k + 7 then - lv m 1 (8 * k + 7) else 0) + (if q = 56 + k then - lv m 2 (56 + k) else 0) + (if q = 8 * k then - lv m 3 (8 * k) else 0)) k
  | 0 => (Int32.add_zero _).symm
  | k + 1 => by
    rw [lvCA, lvC4, lvC_d, lvC_d, lvC_d, lvC_d, lvCA_d k, sumN]
    ac_rfl
theorem lvLA_d {m : MS} {q : Nat} : ∀ k, lvLA m k q = m.2.2.2.2.1 q + sumN (fun k => (if q = 0 then lv m 0 k else 0) + (if q = 1 then lv m 1 (8 * k + 7) else 0) + (if q = 2 then lv m 2 (56 + k) else 0) + (if q = 3 then lv m 3 (8 * k) else 0)) k
  | 0 => (Int32.add_zero _).symm
  | k + 1 => by
    rw [lvLA, lvL4, lvL_d, lvL_d, lvL_d, lvL_d, lvLA_d k, sumN]
    ac_rfl
