/-! The reader: the class's commands and the model's. -/
section RR
variable {T : TX}
/-- the class's command and the model's four numbers -/
def cmR (c : CM) (C : Nat → Int32) (i : Nat) : Prop := ∃ w, w < 4 ∧ c.1 = nI w ∧ C (4 * i) = nI w ∧ c.2.1 = C (4 * i + 1) ∧ (w ≤ 2 → c.2.2.1 = C (4 * i + 2)) ∧ (w ≤ 1 → c.2.2.2 = C (4 * i + 3))
theorem raC_o {i p : Nat} {C : Nat → Int32} {t k : Nat} (hk : k < t) : raC T i p C t k = C k := by
  unfold raC
  split
  · rw [va_up_ne _ _ (by omega), va_up_ne _ _ (by omega), va_up_ne _ _ (by omega)]
  · split
    · rw [va_up_ne _ _ (by omega), va_up_ne _ _ (by omega)]
    · rw [va_up_ne _ _ (by omega)]
theorem raC_in {i p : Nat} {C : Nat → Int32} {t : Nat} : raC T i p C t t = (raM T i p).1.1 ∧ (i ≤ 2 → raC T i p C t (t + 1) = (raM T i p).1.2.1) ∧ (i ≤ 1 → raC T i p C t (t + 2) = (raM T i p).1.2.2) := by
  unfold raC
  by_cases h : i = 0 ∨ i = 1
  · rw [if_pos h]
    refine ⟨?_, fun _ => ?_, fun _ => va_up_self _ _ _⟩
    · rw [va_up_ne _ _ (by omega), va_up_ne _ _ (by omega), va_up_self]
    · rw [va_up_ne _ _ (by omega), va_up_self]
  · rw [if_neg h]
    by_cases h2 : i = 2
    · rw [if_pos h2]
      exact ⟨by rw [va_up_ne _ _ (by omega), va_up_self], fun _ => va_up_self _ _ _, fun q => absurd q (by omega)⟩
    · rw [if_neg h2]
      exact ⟨va_up_self _ _ _, fun q => absurd q (by omega), fun q => absurd q (by omega)⟩
/-- the text read by both -/
theorem tx_eq (hT : tOk T) (h60 : T.2 ≤ 60) : ∀ (j jm n p : Nat) (K : Nat → CM) (C : Nat → Int32), n + j = 10 → 61 ≤ jm + n → 6 * n ≤ p → p ≤ T.2 → (∀ i, i < n → cmR (K i) C i) →
    (rTxt T j n p K).1 = (tmM T jm p n C).1 ∧ (rTxt T j n p K).2.2.1 = (tmM T jm p n C).2.1 ∧ ((tmM T jm p n C).1 = true → (rTxt T j n p K).2.1 = (tmM T jm p n C).2.2.1 ∧ ∀ i, i < (tmM T jm p n C).2.2.1 → cmR ((rTxt T j n p K).2.2.2 i) (tmM T jm p n C).2.2.2 i)
  | 0, jm, n, p, K, C, hj, hjm, hp, hp2, hK => by
    obtain ⟨jm, rfl⟩ : ∃ k, jm = k + 1 := ⟨jm - 1, by omega⟩
    have nf : ¬ fuM T p := fun q => by have := (fu_in hp2 q).1; have := (fu_in hp2 q).2; omega
    have l0 : lkW T p (wdM T p) = 0 := by
      have z := lkW_le (T := T) (p := p) (i := wdM T p) hp2 wdM_lt
      omega
    rw [tm_1 nf, rTxt, l0]
    exact ⟨rfl, rfl, fun q => by cases q⟩
  | j + 1, jm, n, p, K, C, hj, hjm, hp, hp2, hK => by
    obtain ⟨jm, rfl⟩ : ∃ k, jm = k + 1 := ⟨jm - 1, by omega⟩
    obtain ⟨e1, e2⟩ := cmd_eq (p := p) (c := K n) hT
    have le := cmd_le p (K n) hp2
    rw [rTxt]
    by_cases hf : fuM T p
    · obtain ⟨f1, f2, f3⟩ := e2 hf
      have fi := fu_in hp2 hf
      have ri := (raM_in (i := wdM T p) fi.2).1
      rw [tm_x hf]
      generalize hP : p + lkW T p (wdM T p) = p' at *
      cases hw : (raM T (wdM T p) p').2.2 with
      | true =>
        rw [hw] at f2
        rw [if_neg (by rw [f2]; decide), if_pos rfl]
        exact ⟨rfl, f1, fun q => by cases q⟩
      | false =>
        rw [hw] at f2
        have f2 : (rCmd T p (K n)).2.2 = true := f2
        have f4 := f3 f2
        rw [if_pos f2, if_neg (show ¬ false = true by decide)]
        have hK2 : ∀ i, i < n + 1 → cmR (va_up K n (rCmd T p (K n)).2.1 i) (raC T (wdM T p) p' (va_up C (4 * n) (nI (wdM T p))) (4 * n + 1)) i := fun i hi => by
          by_cases e : i = n
          · subst e
            obtain ⟨r1, r2, r3⟩ := raC_in (T := T) (i := wdM T p) (p := p') (C := va_up C (4 * i) (nI (wdM T p))) (t := 4 * i + 1)
            obtain ⟨g1, g2, g3, g4⟩ := f4
            rw [va_up_self]
            exact ⟨wdM T p, wdM_lt, g1, by rw [raC_o (by omega), va_up_self], by rw [r1]; exact g2, fun q => by rw [r2 q]; exact g3 q, fun q => by rw [r3 q]; exact g4 q⟩
          · obtain ⟨w, w1, w2, w3, w4, w5, w6⟩ := hK i (by omega)
            rw [va_up_ne _ _ e]
            exact ⟨w, w1, w2, by rw [raC_o (by omega), va_up_ne _ _ (by omega)]; exact w3, by rw [raC_o (by omega), va_up_ne _ _ (by omega)]; exact w4, fun q => by rw [raC_o (by omega), va_up_ne _ _ (by omega)]; exact w5 q, fun q => by rw [raC_o (by omega), va_up_ne _ _ (by omega)]; exact w6 q⟩
        rw [f1] at le ⊢
        by_cases hl : (raM T (wdM T p) p').2.1 < T.2
        · rw [if_neg (show ¬ ¬ (raM T (wdM T p) p').2.1 < T.2 from fun q => q hl)]
          by_cases h59 : nxt T (raM T (wdM T p) p').2.1 59 = true
          · rw [if_pos h59, if_pos h59]
            exact tx_eq hT h60 j jm (n + 1) _ _ _ (by omega) (by omega) (by omega) (by omega) hK2
          · rw [if_neg h59, if_neg h59]
            exact ⟨decide_eq_false (by omega), rfl, fun q => by cases q⟩
        · rw [if_pos hl, if_neg (show ¬ nxt T (raM T (wdM T p) p').2.1 59 = true from fun q => hl (of_decide_eq_true q).1)]
          exact ⟨decide_eq_true (by omega), rfl, fun _ => ⟨rfl, hK2⟩⟩
    · obtain ⟨f1, f2⟩ := e1 hf
      rw [tm_1 hf, if_neg (by rw [f1]; decide)]
      exact ⟨rfl, f2, fun q => by cases q⟩
end RR
