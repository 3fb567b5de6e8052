/-! The heap of cells: what lies in it, and that the least is on top. -/
/-- how often x lies among the first n -/
def hc (f : Nat → Int64) (x : Int64) (n : Nat) : Nat := fb_ct (fun i => decide (f i = x)) n
def i1 (a b : Int64) : Nat := if a = b then 1 else 0
theorem hc_up {f : Nat → Int64} {x e : Int64} {q n : Nat} (hq : q < n) : hc (va_up f q e) x n + i1 (f q) x = hc f x n + i1 e x := by
  have z := fb_ct_upd (fun i => decide (f i = x)) (decide (e = x)) hq
  have c : hc (va_up f q e) x n = fb_ct (fun k => if k = q then decide (e = x) else decide (f k = x)) n := fb_ct_cong (fun k _ => by
    unfold va_up
    by_cases h : k = q
    · rw [if_pos h, if_pos h]
    · rw [if_neg h, if_neg h])
  rw [c]
  unfold hc i1
  simp only [decide_eq_true_eq] at z
  exact z
theorem putL_c {e x : Int64} {n : Nat} : ∀ (j q : Nat) (f : Nat → Int64), q < n → hc (putL e j q f) x n + i1 (f q) x = hc f x n + i1 e x
  | 0, q, f, hq => hc_up hq
  | j + 1, q, f, hq => by
    rw [putL]
    by_cases h : q ≠ 0 ∧ e < f ((q - 1) / 2)
    · rw [if_pos h]
      have ih := putL_c (e := e) (x := x) (n := n) j ((q - 1) / 2) (va_up f q (f ((q - 1) / 2))) (by omega)
      have u := hc_up (f := f) (x := x) (e := f ((q - 1) / 2)) hq
      rw [va_up_ne _ _ (show (q - 1) / 2 ≠ q by omega)] at ih
      omega
    · rw [if_neg h]
      exact hc_up hq
/-- order, but for a gap at q -/
def hU (n q : Nat) (e : Int64) (f : Nat → Int64) : Prop := (∀ i, 0 < i → i < n → i ≠ q → (i - 1) / 2 ≠ q → f ((i - 1) / 2) ≤ f i) ∧ (∀ i, 0 < i → i < n → (i - 1) / 2 = q → e ≤ f i) ∧ ∀ i, 0 < i → i < n → (i - 1) / 2 = q → 0 < q → f ((q - 1) / 2) ≤ f i
def hO (n : Nat) (f : Nat → Int64) : Prop := ∀ i, 0 < i → i < n → f ((i - 1) / 2) ≤ f i
theorem hU_end {n q : Nat} {e : Int64} {f : Nat → Int64} (h : hU n q e f) (hq : 0 < q → f ((q - 1) / 2) ≤ e) : hO n (va_up f q e) := fun i h1 h2 => by
  by_cases a : i = q
  · subst a
    rw [va_up_self, va_up_ne _ _ (show (i - 1) / 2 ≠ i by omega)]
    exact hq h1
  · rw [va_up_ne _ _ a]
    by_cases b : (i - 1) / 2 = q
    · rw [b, va_up_self]
      exact h.2.1 i h1 h2 b
    · rw [va_up_ne _ _ b]
      exact h.1 i h1 h2 a b
theorem putL_o {e : Int64} {n : Nat} : ∀ (j q : Nat) (f : Nat → Int64), q ≤ j → q < n → hU n q e f → hO n (putL e j q f)
  | 0, q, f, hj, hq, h => hU_end h (fun w => absurd w (by omega))
  | j + 1, q, f, hj, hq, h => by
    rw [putL]
    by_cases c : q ≠ 0 ∧ e < f ((q - 1) / 2)
    · rw [if_pos c]
      refine putL_o j _ _ (by omega) (by omega) ⟨fun i h1 h2 h3 h4 => ?_, fun i h1 h2 h3 => ?_, fun i h1 h2 h3 h4 => ?_⟩
      · have a : i ≠ q := fun w => h4 (by rw [w])
        rw [va_up_ne _ _ a]
        by_cases b : (i - 1) / 2 = q
        · rw [b, va_up_self]
          exact h.2.2 i h1 h2 b (by omega)
        · rw [va_up_ne _ _ b]
          exact h.1 i h1 h2 a b
      · by_cases a : i = q
        · rw [a, va_up_self]
          exact Int64.le_of_lt c.2
        · rw [va_up_ne _ _ a]
          have z := h.1 i h1 h2 a (by omega)
          rw [h3] at z
          exact Int64.le_trans (Int64.le_of_lt c.2) z
      · rw [va_up_ne _ _ (show ((q - 1) / 2 - 1) / 2 ≠ q by omega)]
        have y := h.1 ((q - 1) / 2) h4 (by omega) (by omega) (by omega)
        by_cases a : i = q
        · rw [a, va_up_self]
          exact y
        · rw [va_up_ne _ _ a]
          have z := h.1 i h1 h2 a (by omega)
          rw [h3] at z
          exact Int64.le_trans y z
    · rw [if_neg c]
      exact hU_end h (fun w => Int64.not_lt.mp (fun y => c ⟨by omega, y⟩))
/-- one more -/
theorem put_o {e : Int64} {n : Nat} {f : Nat → Int64} (h : hO n f) : hO (n + 1) (putL e n n f) :=
  putL_o n n f (Nat.le_refl _) (by omega) ⟨fun i h1 h2 h3 h4 => h i h1 (by omega), fun i h1 h2 h3 => absurd h3 (by omega), fun i h1 h2 h3 => absurd h3 (by omega)⟩
theorem put_c {e x : Int64} {n : Nat} {f : Nat → Int64} : hc (putL e n n f) x (n + 1) = hc f x n + i1 e x := by
  have z := putL_c (e := e) (x := x) (n := n + 1) n n f (by omega)
  have y : hc f x (n + 1) = hc f x n + i1 (f n) x := by
    unfold hc i1
    rw [fb_ct_succ]
    simp only [decide_eq_true_eq]
  omega
theorem sftL_c {la x : Int64} {n N : Nat} (hN : n ≤ N) : ∀ (j q : Nat) (f : Nat → Int64), q < N → hc (sftL la n j q f) x N + i1 (f q) x = hc f x N + i1 la x
  | 0, q, f, hq => hc_up hq
  | j + 1, q, f, hq => by
    rw [sftL]
    by_cases h : 2 * q + 1 < n
    · rw [if_pos h]
      by_cases h2 : f (chd n f q) < la
      · rw [if_pos h2]
        have cb : q < chd n f q ∧ chd n f q < n := by
          unfold chd
          split <;> omega
        have ih := sftL_c (la := la) (x := x) hN j (chd n f q) (va_up f q (f (chd n f q))) (by omega)
        have u := hc_up (f := f) (x := x) (e := f (chd n f q)) hq
        rw [va_up_ne _ _ (show chd n f q ≠ q by omega)] at ih
        omega
      · rw [if_neg h2]; exact hc_up hq
    · rw [if_neg h]; exact hc_up hq
def hD (n q : Nat) (la : Int64) (f : Nat → Int64) : Prop := (∀ i, 0 < i → i < n → i ≠ q → (i - 1) / 2 ≠ q → f ((i - 1) / 2) ≤ f i) ∧ (∀ i, 0 < i → i < n → (i - 1) / 2 = q → 0 < q → f ((q - 1) / 2) ≤ f i) ∧ (0 < q → f ((q - 1) / 2) ≤ la)
theorem hD_end {n q : Nat} {la : Int64} {f : Nat → Int64} (h : hD n q la f) (hq : ∀ i, 0 < i → i < n → (i - 1) / 2 = q → la ≤ f i) : hO n (va_up f q la) := fun i h1 h2 => by
  by_cases a : i = q
  · subst a
    rw [va_up_self, va_up_ne _ _ (show (i - 1) / 2 ≠ i by omega)]
    exact h.2.2 h1
  · rw [va_up_ne _ _ a]
    by_cases b : (i - 1) / 2 = q
    · rw [b, va_up_self]
      exact hq i h1 h2 b
    · rw [va_up_ne _ _ b]
      exact h.1 i h1 h2 a b
theorem sftL_o {la : Int64} {n : Nat} : ∀ (j q : Nat) (f : Nat → Int64), n ≤ j + q + 1 → hD n q la f → hO n (sftL la n j q f)
  | 0, q, f, hj, h => hD_end h (fun i h1 h2 h3 => by omega)
  | j + 1, q, f, hj, h => by
    rw [sftL]
    by_cases c : 2 * q + 1 < n
    · rw [if_pos c]
      have cb : chd n f q = 2 * q + 1 ∨ chd n f q = 2 * q + 1 + 1 := by
        unfold chd
        split
        · exact Or.inr rfl
        · exact Or.inl rfl
      have cn : chd n f q < n := by
        unfold chd
        split
        · next w => exact w.1
        · exact c
      have cm : ∀ i, 0 < i → i < n → (i - 1) / 2 = q → f (chd n f q) ≤ f i := fun i h1 h2 h3 => by
        unfold chd
        rcases (show i = 2 * q + 1 ∨ i = 2 * q + 1 + 1 by omega) with e | e
        · subst e
          split
          · next w => exact Int64.le_of_lt w.2
          · exact Int64.le_refl _
        · subst e
          split
          · exact Int64.le_refl _
          · next w => exact Int64.not_lt.mp (fun y => w ⟨h2, y⟩)
      by_cases c2 : f (chd n f q) < la
      · rw [if_pos c2]
        refine sftL_o j _ _ (by omega) ⟨fun i h1 h2 h3 h4 => ?_, fun i h1 h2 h3 h4 => ?_, fun h1 => ?_⟩
        · by_cases a : i = q
          · subst a
            rw [va_up_self, va_up_ne _ _ (show (i - 1) / 2 ≠ i by omega)]
            exact h.2.1 _ (by omega) cn (by omega) h1
          · rw [va_up_ne _ _ a]
            by_cases b : (i - 1) / 2 = q
            · rw [b, va_up_self]
              exact cm i h1 h2 b
            · rw [va_up_ne _ _ b]
              exact h.1 i h1 h2 a b
        · have e : (chd n f q - 1) / 2 = q := by omega
          rw [e, va_up_self, va_up_ne _ _ (show i ≠ q by omega)]
          have z := h.1 i h1 h2 (by omega) (by omega)
          rw [h3] at z
          exact z
        · have e : (chd n f q - 1) / 2 = q := by omega
          rw [e, va_up_self]
          exact Int64.le_of_lt c2
      · rw [if_neg c2]
        exact hD_end h (fun i h1 h2 h3 => Int64.le_trans (Int64.not_lt.mp c2) (cm i h1 h2 h3))
    · rw [if_neg c]
      exact hD_end h (fun i h1 h2 h3 => by omega)
/-- the least is on top -/
theorem hO_min {n : Nat} {f : Nat → Int64} (h : hO n f) : ∀ m i, i < m → i < n → f 0 ≤ f i
  | 0, _, hm, _ => absurd hm (Nat.not_lt_zero _)
  | m + 1, i, hm, hi => by
    by_cases e : i = 0
    · subst e; exact Int64.le_refl _
    · exact Int64.le_trans (hO_min h m ((i - 1) / 2) (by omega) (by omega)) (h i (by omega) hi)
/-- the least taken -/
theorem tak_h {n : Nat} {f : Nat → Int64} (h : hO (n + 1) f) (hn : n ≤ 64) : hO n (takH (n + 1, f)).2.2 ∧ (takH (n + 1, f)).2.1 = n ∧ (takH (n + 1, f)).1 = f 0 ∧ ∀ x, hc (takH (n + 1, f)).2.2 x n + i1 (f 0) x = hc f x (n + 1) := by
  have e : takH (n + 1, f) = (f 0, n, sftL (f n) n 64 0 f) := by
    unfold takH
    rw [if_neg (show ¬ n + 1 = 0 by omega)]
    rfl
  rw [e]
  refine ⟨sftL_o 64 0 f (by omega) ⟨fun i h1 h2 h3 h4 => h i h1 (by omega), fun i h1 h2 h3 h4 => absurd h4 (Nat.lt_irrefl 0), fun h1 => absurd h1 (Nat.lt_irrefl 0)⟩, rfl, rfl, fun x => ?_⟩
  have y : hc f x (n + 1) = hc f x n + i1 (f n) x := by
    unfold hc i1
    rw [fb_ct_succ]
    simp only [decide_eq_true_eq]
  show hc (sftL (f n) n 64 0 f) x n + i1 (f 0) x = _
  by_cases e0 : n = 0
  · subst e0
    rw [y]
    rfl
  · rw [sftL_c (Nat.le_refl n) 64 0 f (by omega), y]
