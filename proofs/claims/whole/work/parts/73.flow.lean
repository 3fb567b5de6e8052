/-! Heat flows: the model's order and the class's come to the same. -/
theorem sumN_0 {f : Nat → Int32} : ∀ k, (∀ i, i < k → f i = 0) → sumN f k = 0
  | 0, _ => rfl
  | k + 1, h => by rw [sumN, sumN_0 k (fun i hi => h i (by omega)), h k (by omega)]; rfl
theorem sumN_one {f : Nat → Int32} {n : Nat} : ∀ k, n < k → (∀ i, i < k → i ≠ n → f i = 0) → sumN f k = f n
  | 0, h, _ => absurd h (Nat.not_lt_zero n)
  | k + 1, h, hz => by
    rw [sumN]
    by_cases e : n = k
    · subst e
      rw [sumN_0 n (fun i hi => hz i (by omega) (by omega)), Int32.zero_add]
    · rw [sumN_one k (by omega) (fun i hi => hz i (by omega)), hz k (by omega) (fun q => e q.symm), Int32.add_zero]
/-- what leaves c by side s -/
def fo (m : Nat → Int32) (c s : Nat) : Int32 := match nb c s with
  | none => (if 0 < m c - m (192 + s) then m c - m (192 + s) else 0) / (2 * slN m c)
  | some n => if m (128 + n) = 35 then 0 else if m n < m c then (m c - m n) / (slN m c + slN m n) else 0
def dm (m : Nat → Int32) (c s q : Nat) : Int32 := (if q = c then - fo m c s else 0) + (if nb c s = some q then fo m c s else 0)
def dl (m : Nat → Int32) (c s i : Nat) : Int32 := if i = 196 + s ∧ nb c s = none then fo m c s else 0
def offL (m : Nat → Int32) (S : FS) : Prop := ∀ i, i < 196 → S.2 i = m i
theorem fl1_d {m : Nat → Int32} {S : FS} (h : offL m S) {c s : Nat} (hc : c < 64) (hs : s < 4) : offL m (fl1 c s S) ∧ (∀ q, (fl1 c s S).1 q = S.1 q + dm m c s q) ∧ ∀ i, (fl1 c s S).2 i = S.2 i + dl m c s i := by
  have sl : ∀ k, k < 64 → slN S.2 k = slN m k := fun k hk => by unfold slN; rw [h (128 + k) (by omega)]
  unfold fl1 dm dl fo
  rcases hn : nb c s with _ | n
  · simp only []
    rw [h c (by omega), h (192 + s) (by omega), sl c hc]
    generalize (if 0 < m c - m (192 + s) then m c - m (192 + s) else 0) / (2 * slN m c) = z
    refine ⟨fun i hi => ?_, fun q => ?_, fun i => ?_⟩
    · show va_up S.2 (196 + s) _ i = m i
      rw [va_up_ne _ _ (by omega), h i hi]
    · unfold va_up
      by_cases e : q = c
      · rw [if_pos e, if_pos e, if_neg (by simp), e]
        grind
      · rw [if_neg e, if_neg e, if_neg (by simp)]
        grind
    · unfold va_up
      by_cases e : i = 196 + s
      · rw [if_pos e, if_pos (And.intro e trivial), e]
      · rw [if_neg e, if_neg (fun q => e q.1), Int32.add_zero]
  · have hn2 := nb_lt hc hn
    have hne : n ≠ c := fun e => by
      subst e
      have z := (by decide +kernel : ∀ c, c < 64 → ∀ s, s < 4 → nb c s ≠ some c) n hc s hs
      exact z hn
    simp only []
    rw [h (128 + n) (by omega), h n (by omega), h c (by omega), sl c hc, sl n hn2]
    by_cases e1 : m (128 + n) = 35
    · rw [if_pos e1, if_pos e1]
      refine ⟨h, fun q => ?_, fun i => ?_⟩
      · grind
      · rw [if_neg (by simp), Int32.add_zero]
    · rw [if_neg e1, if_neg e1]
      by_cases e2 : m n < m c
      · rw [if_pos e2, if_pos e2]
        refine ⟨h, fun q => ?_, fun i => ?_⟩
        · show va_up (va_up S.1 c _) n _ q = _
          by_cases e3 : q = n
          · subst e3
            rw [va_up_self, va_up_ne _ _ hne, if_neg hne, if_pos rfl]
            grind
          · rw [va_up_ne _ _ e3, if_neg (fun w : some n = some q => e3 (Option.some.inj w).symm)]
            by_cases e4 : q = c
            · subst e4
              rw [va_up_self, if_pos rfl]
              grind
            · rw [va_up_ne _ _ e4, if_neg e4]
              grind
        · rw [if_neg (by simp), Int32.add_zero]
      · rw [if_neg e2, if_neg e2]
        refine ⟨h, fun q => ?_, fun i => ?_⟩
        · grind
        · rw [if_neg (by simp), Int32.add_zero]
def dc (m : Nat → Int32) (c q : Nat) : Int32 := if m (128 + c) = 35 then 0 else dm m c 0 q + dm m c 1 q + dm m c 2 q + dm m c 3 q
def dlc (m : Nat → Int32) (c i : Nat) : Int32 := if m (128 + c) = 35 then 0 else dl m c 0 i + dl m c 1 i + dl m c 2 i + dl m c 3 i
theorem flJ_d {m : Nat → Int32} {S : FS} (h : offL m S) {c : Nat} (hc : c < 64) : offL m (flJ c 4 0 S) ∧ (∀ q, (flJ c 4 0 S).1 q = S.1 q + dc m c q) ∧ ∀ i, (flJ c 4 0 S).2 i = S.2 i + dlc m c i := by
  unfold dc dlc
  have e0 := h (128 + c) (by omega)
  by_cases e : m (128 + c) = 35
  · rw [show flJ c 4 0 S = S from if_pos (e0.trans e)]
    exact ⟨h, fun q => by rw [if_pos e, Int32.add_zero], fun i => by rw [if_pos e, Int32.add_zero]⟩
  · obtain ⟨h1, a1, b1⟩ := fl1_d h hc (s := 0) (by omega)
    obtain ⟨h2, a2, b2⟩ := fl1_d h1 hc (s := 1) (by omega)
    obtain ⟨h3, a3, b3⟩ := fl1_d h2 hc (s := 2) (by omega)
    obtain ⟨h4, a4, b4⟩ := fl1_d h3 hc (s := 3) (by omega)
    have nn : ∀ S : FS, offL m S → ¬ S.2 (128 + c) = 35 := fun S w q => e ((w (128 + c) (by omega)).symm.trans q)
    have r : flJ c 4 0 S = fl1 c 3 (fl1 c 2 (fl1 c 1 (fl1 c 0 S))) := by
      rw [show flJ c 4 0 S = flJ c 3 1 (fl1 c 0 S) from if_neg (nn _ h), show flJ c 3 1 (fl1 c 0 S) = flJ c 2 2 (fl1 c 1 (fl1 c 0 S)) from if_neg (nn _ h1), show flJ c 2 2 (fl1 c 1 (fl1 c 0 S)) = flJ c 1 3 (fl1 c 2 (fl1 c 1 (fl1 c 0 S))) from if_neg (nn _ h2), show flJ c 1 3 (fl1 c 2 (fl1 c 1 (fl1 c 0 S))) = flJ c 0 4 (fl1 c 3 (fl1 c 2 (fl1 c 1 (fl1 c 0 S)))) from if_neg (nn _ h3)]
      rfl
    rw [r]
    refine ⟨h4, fun q => ?_, fun i => ?_⟩
    · rw [a4, a3, a2, a1, if_neg e]
      ac_rfl
    · rw [b4, b3, b2, b1, if_neg e]
      ac_rfl
theorem flA_d {m : Nat → Int32} : ∀ k, k ≤ 64 → offL m (flA k (m, m)) ∧ (∀ q, (flA k (m, m)).1 q = m q + sumN (fun c => dc m c q) k) ∧ ∀ i, (flA k (m, m)).2 i = m i + sumN (fun c => dlc m c i) k
  | 0, _ => ⟨fun _ _ => rfl, fun _ => (Int32.add_zero _).symm, fun _ => (Int32.add_zero _).symm⟩
  | k + 1, hk => by
    obtain ⟨h, a, b⟩ := flA_d (m := m) k (by omega)
    obtain ⟨h2, a2, b2⟩ := flJ_d h (c := k) (by omega)
    refine ⟨h2, fun q => ?_, fun i => ?_⟩
    · rw [flA, a2, a, sumN, Int32.add_assoc]
    · rw [flA, b2, b, sumN, Int32.add_assoc]
/-- the side opposite -/
def op (s : Nat) : Nat := if s = 0 then 2 else if s = 1 then 3 else if s = 2 then 0 else 1
theorem nb_op : ∀ c, c < 64 → ∀ q, q < 64 → ∀ s, s < 4 → decide (nb c s = some q) = decide (nb q (op s) = some c) := by decide +kernel
theorem nb_op2 {c q s : Nat} (hc : c < 64) (hq : q < 64) (hs : s < 4) : nb c s = some q ↔ nb q (op s) = some c := by
  have z := nb_op c hc q hq s hs
  exact ⟨fun h => of_decide_eq_true (z.symm.trans (decide_eq_true h)), fun h => of_decide_eq_true (z.trans (decide_eq_true h))⟩
/-- a sum over the cells of which q is the neighbour at side s -/
theorem sum_nb {f : Nat → Int32} {q s : Nat} (hq : q < 64) (hs : s < 4) : sumN (fun c => if nb c s = some q then f c else 0) 64 = (match nb q (op s) with | none => 0 | some n => f n) := by
  rcases hn : nb q (op s) with _ | n
  · exact sumN_0 64 (fun i hi => if_neg (fun w => by rw [(nb_op2 hi hq hs).mp w] at hn; cases hn))
  · have hn2 := nb_lt hq hn
    refine (sumN_one 64 hn2 (fun i hi hne => if_neg (fun w => ?_))).trans (if_pos ((nb_op2 hn2 hq hs).mpr hn))
    rw [(nb_op2 hi hq hs).mp w] at hn
    exact hne (Option.some.inj hn)
theorem sum_q {f : Nat → Int32} {q : Nat} (hq : q < 64) : sumN (fun c => if q = c then f c else 0) 64 = f q :=
  (sumN_one 64 hq (fun i _ hne => if_neg (fun w => hne w.symm))).trans (if_pos rfl)
def inn (m : Nat → Int32) (q s : Nat) : Int32 := match nb q s with
  | none => 0
  | some n => if m (128 + n) = 35 then 0 else fo m n (op s)
def ou (m : Nat → Int32) (q s : Nat) : Int32 := if m (128 + q) = 35 then 0 else - fo m q s
theorem dc_sum {m : Nat → Int32} {q : Nat} (hq : q < 64) : sumN (fun c => dc m c q) 64 = (ou m q 0 + ou m q 1 + ou m q 2 + ou m q 3) + (inn m q 2 + inn m q 3 + inn m q 0 + inn m q 1) := by
  have e : ∀ c, c < 64 → dc m c q = ((if q = c then ou m c 0 else 0) + (if q = c then ou m c 1 else 0) + (if q = c then ou m c 2 else 0) + (if q = c then ou m c 3 else 0)) + ((if nb c 0 = some q then (if m (128 + c) = 35 then 0 else fo m c 0) else 0) + (if nb c 1 = some q then (if m (128 + c) = 35 then 0 else fo m c 1) else 0) + (if nb c 2 = some q then (if m (128 + c) = 35 then 0 else fo m c 2) else 0) + (if nb c 3 = some q then (if m (128 + c) = 35 then 0 else fo m c 3) else 0)) := fun c _ => by
    unfold dc ou dm
    by_cases h : m (128 + c) = 35
    · simp only [h, if_true, ite_self]
      rfl
    · simp only [h, if_false]
      ac_rfl
  rw [sumN_cong 64 e, sumN_add, sumN_add, sumN_add, sumN_add, sumN_add, sumN_add, sumN_add, sum_q hq, sum_q hq, sum_q hq, sum_q hq, sum_nb hq (by omega), sum_nb hq (by omega), sum_nb hq (by omega), sum_nb hq (by omega)]
  rfl
