/-! Legends: the open cells in order, and the marks. -/
/-- the class's lists and the model's order, at place i -/
def oAt (H : Nat → Int32) (C Hs P : Nat → Int32) (i : Nat) : Prop := C i = P i ∧ Hs i = orH H (P i)
theorem ins_at {H : Nat → Int32} {c n : Nat} (hc : c < 64) : ∀ (p : Nat) (C Hs P : Nat → Int32), p ≤ n → (∀ i, i ≤ n → i ≠ p → oAt H C Hs P i) → ∀ i, i ≤ n → oAt H (shS (H c) (nI c) p (C, Hs)).1 (shS (H c) (nI c) p (C, Hs)).2 (orS H c p P) i
  | 0, C, Hs, P, hp, h, i, hi => by
    show va_up C 0 (nI c) i = va_up P 0 (nI c) i ∧ va_up Hs 0 (H c) i = orH H (va_up P 0 (nI c) i)
    by_cases e : i = 0
    · subst e
      rw [va_up_self, va_up_self, va_up_self, orH_nI (by omega)]
      exact ⟨rfl, rfl⟩
    · rw [va_up_ne _ _ e, va_up_ne _ _ e, va_up_ne _ _ e]
      exact h i hi e
  | p + 1, C, Hs, P, hp, h, i, hi => by
    have hpp := h p (by omega) (by omega)
    rw [shS, orS]
    by_cases e : H c < Hs p
    · have e2 : ¬ orH H (P p) ≤ H c := fun q => by
        rw [← hpp.2] at q
        exact Int32.lt_irrefl (Int32.lt_of_lt_of_le e q)
      rw [if_pos (show H c < (C, Hs).2 p from e), if_neg e2]
      refine ins_at hc p _ _ _ (by omega) (fun k hk hne => ?_) i hi
      show va_up C (p + 1) (C p) k = va_up P (p + 1) (P p) k ∧ va_up Hs (p + 1) (Hs p) k = orH H (va_up P (p + 1) (P p) k)
      by_cases e3 : k = p + 1
      · subst e3
        rw [va_up_self, va_up_self, va_up_self]
        exact hpp
      · rw [va_up_ne _ _ e3, va_up_ne _ _ e3, va_up_ne _ _ e3]
        exact h k hk e3
    · have e2 : orH H (P p) ≤ H c := by rw [← hpp.2]; exact Int32.not_lt.mp e
      rw [if_neg (show ¬ H c < (C, Hs).2 p from e), if_pos e2]
      show va_up C (p + 1) (nI c) i = va_up P (p + 1) (nI c) i ∧ va_up Hs (p + 1) (H c) i = orH H (va_up P (p + 1) (nI c) i)
      by_cases e3 : i = p + 1
      · subst e3
        rw [va_up_self, va_up_self, va_up_self, orH_nI (by omega)]
        exact ⟨rfl, rfl⟩
      · rw [va_up_ne _ _ e3, va_up_ne _ _ e3, va_up_ne _ _ e3]
        exact h i hi e3
/-- heats in order, but for a gap at p, where v is to come -/
theorem ins_so {v c : Int32} {n : Nat} : ∀ (p : Nat) (C Hs : Nat → Int32), p ≤ n → (∀ i, i + 1 < p → Hs i ≤ Hs (i + 1)) → (∀ i, p < i → i + 1 ≤ n → Hs i ≤ Hs (i + 1)) → (∀ i, p < i → i ≤ n → v ≤ Hs i) → (0 < p → p < n → Hs (p - 1) ≤ Hs (p + 1)) → ∀ i, i + 1 ≤ n → (shS v c p (C, Hs)).2 i ≤ (shS v c p (C, Hs)).2 (i + 1)
  | 0, C, Hs, hp, h1, h2, h3, h4, i, hi => by
    show va_up Hs 0 v i ≤ va_up Hs 0 v (i + 1)
    rw [va_up_ne _ _ (show i + 1 ≠ 0 by omega)]
    by_cases e : i = 0
    · subst e
      rw [va_up_self]
      exact h3 1 (by omega) hi
    · rw [va_up_ne _ _ e]
      exact h2 i (by omega) hi
  | p + 1, C, Hs, hp, h1, h2, h3, h4, i, hi => by
    rw [shS]
    by_cases e : v < Hs p
    · rw [if_pos (show v < (C, Hs).2 p from e)]
      refine ins_so p _ _ (by omega) (fun k hk => ?_) (fun k hk hk2 => ?_) (fun k hk hk2 => ?_) (fun hk hk2 => ?_) i hi
      · show va_up Hs (p + 1) (Hs p) k ≤ va_up Hs (p + 1) (Hs p) (k + 1)
        rw [va_up_ne _ _ (show k ≠ p + 1 by omega), va_up_ne _ _ (show k + 1 ≠ p + 1 by omega)]
        exact h1 k (by omega)
      · show va_up Hs (p + 1) (Hs p) k ≤ va_up Hs (p + 1) (Hs p) (k + 1)
        rw [va_up_ne _ _ (show k + 1 ≠ p + 1 by omega)]
        by_cases e3 : k = p + 1
        · subst e3
          rw [va_up_self]
          exact h4 (by omega) (by omega)
        · rw [va_up_ne _ _ e3]
          exact h2 k (by omega) hk2
      · show v ≤ va_up Hs (p + 1) (Hs p) k
        by_cases e3 : k = p + 1
        · subst e3
          rw [va_up_self]
          exact Int32.le_of_lt e
        · rw [va_up_ne _ _ e3]
          exact h3 k (by omega) hk2
      · show va_up Hs (p + 1) (Hs p) (p - 1) ≤ va_up Hs (p + 1) (Hs p) (p + 1)
        rw [va_up_ne _ _ (show p - 1 ≠ p + 1 by omega), va_up_self]
        have z := h1 (p - 1) (by omega)
        rw [show p - 1 + 1 = p by omega] at z
        exact z
    · rw [if_neg (show ¬ v < (C, Hs).2 p from e)]
      show va_up Hs (p + 1) v i ≤ va_up Hs (p + 1) v (i + 1)
      by_cases e3 : i = p + 1
      · subst e3
        rw [va_up_self, va_up_ne _ _ (show p + 1 + 1 ≠ p + 1 by omega)]
        exact h3 _ (by omega) hi
      · rw [va_up_ne _ _ e3]
        by_cases e4 : i = p
        · subst e4
          rw [va_up_self]
          exact Int32.not_lt.mp e
        · rw [va_up_ne _ _ (show i + 1 ≠ p + 1 by omega)]
          rcases (show i + 1 < p + 1 ∨ p + 1 < i by omega) with q | q
          · exact h1 i q
          · exact h2 i q hi
/-- what the order has at each place: an open cell below k -/
theorem orS_in {H : Nat → Int32} {c n : Nat} (Q : Int32 → Prop) (hc : Q (nI c)) : ∀ (p : Nat) (P : Nat → Int32), p ≤ n → (∀ i, i ≤ n → i ≠ p → Q (P i)) → ∀ i, i ≤ n → Q (orS H c p P i)
  | 0, P, hp, h, i, hi => by
    show Q (va_up P 0 (nI c) i)
    by_cases e : i = 0
    · subst e; rw [va_up_self]; exact hc
    · rw [va_up_ne _ _ e]; exact h i hi e
  | p + 1, P, hp, h, i, hi => by
    rw [orS]
    by_cases e : orH H (P p) ≤ H c
    · rw [if_pos e]
      by_cases e3 : i = p + 1
      · subst e3; rw [va_up_self]; exact hc
      · rw [va_up_ne _ _ e3]; exact h i hi e3
    · rw [if_neg e]
      refine orS_in Q hc p _ (by omega) (fun k hk hne => ?_) i hi
      by_cases e3 : k = p + 1
      · subst e3; rw [va_up_self]; exact h p (by omega) (by omega)
      · rw [va_up_ne _ _ e3]; exact h k hk e3
/-- the class's order and the model's -/
theorem rd_ord {m : MS} {H R P0 : Nat → Int32} {L : LgS} (hH : ∀ i, i < 64 → m.2.1 i = H i) (hR : ∀ i, i < 64 → m.1 i = R i) : ∀ k, k ≤ 64 → (rdS m L k).2.2.2.2.1 = (ordS H R P0 k).2 ∧ (ordS H R P0 k).2 ≤ k ∧ (∀ i, i < (ordS H R P0 k).2 → oAt H (rdS m L k).1 (rdS m L k).2.1 (ordS H R P0 k).1 i) ∧ (∀ i, i + 1 < (ordS H R P0 k).2 → (rdS m L k).2.1 i ≤ (rdS m L k).2.1 (i + 1)) ∧ ∀ i, i < (ordS H R P0 k).2 → ∃ x, x < k ∧ (ordS H R P0 k).1 i = nI x ∧ ¬ R x = 35
  | 0, _ => ⟨rfl, Nat.le_refl _, fun i hi => absurd hi (Nat.not_lt_zero i), fun i hi => absurd hi (Nat.not_lt_zero _), fun i hi => absurd hi (Nat.not_lt_zero i)⟩
  | k + 1, hk => by
    obtain ⟨h1, h2, h3, h4, h5⟩ := rd_ord (P0 := P0) (L := L) hH hR k (by omega)
    rw [rdS, ordS, hR k (by omega)]
    by_cases e : R k = 35
    · rw [if_pos e, if_pos e]
      exact ⟨h1, by omega, h3, h4, fun i hi => by
        obtain ⟨x, x1, x2⟩ := h5 i hi
        exact ⟨x, by omega, x2⟩⟩
    · rw [if_neg e, if_neg e]
      have e2 : insS k (m.2.1 k) (rdS m L k) = ((shS (m.2.1 k) (nI k) (rdS m L k).2.2.2.2.1 ((rdS m L k).1, (rdS m L k).2.1)).1, (shS (m.2.1 k) (nI k) (rdS m L k).2.2.2.2.1 ((rdS m L k).1, (rdS m L k).2.1)).2, (rdS m L k).2.2.1, (rdS m L k).2.2.2.1, (rdS m L k).2.2.2.2.1 + 1, (rdS m L k).2.2.2.2.2) := if_pos (by rw [h1]; omega)
      rw [e2, h1, hH k (by omega)]
      refine ⟨rfl, by show (ordS H R P0 k).2 + 1 ≤ k + 1; omega, fun i hi => ?_, fun i hi => ?_, fun i hi => ?_⟩
      · exact ins_at (by omega) _ _ _ _ (Nat.le_refl _) (fun j hj hne => h3 j (by omega)) i (Nat.lt_succ_iff.mp hi)
      · exact ins_so _ _ _ (Nat.le_refl _) (fun j hj => h4 j (by omega)) (fun j hj1 hj2 => absurd hj1 (by omega)) (fun j hj1 hj2 => absurd hj1 (by omega)) (fun _ q => absurd q (Nat.lt_irrefl _)) i (Nat.lt_succ_iff.mp hi)
      · exact orS_in (Q := fun y => ∃ x, x < k + 1 ∧ y = nI x ∧ ¬ R x = 35) ⟨k, by omega, rfl, e⟩ _ _ (Nat.le_refl _) (fun j hj hne => by
          obtain ⟨x, x1, x2⟩ := h5 j (by omega)
          exact ⟨x, by omega, x2⟩) i (Nat.lt_succ_iff.mp hi)
