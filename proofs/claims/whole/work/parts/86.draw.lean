/-! A legend drawn by the class, against the model's. -/
section DW
variable {m : MS} {a : Nat → Nat → Int32} {L : LgS} {c : Nat}
theorem ord_64 (hH : ∀ i, i < 64 → m.2.1 i = a 0 i) (hR : ∀ i, i < 64 → m.1 i = a 0 (128 + i)) : (rdS m L 64).2.2.2.2.1 = ordM a ∧ ordM a ≤ 64 ∧ (∀ i, i < ordM a → oAt (a 0) (rdS m L 64).1 (rdS m L 64).2.1 (ordP a) i) ∧ (∀ i, i + 1 < ordM a → (rdS m L 64).2.1 i ≤ (rdS m L 64).2.1 (i + 1)) ∧ ∀ i, i < ordM a → ∃ x, x < 64 ∧ ordP a i = nI x ∧ ¬ a 0 (128 + x) = 35 :=
  rd_ord (P0 := a 10) (R := fun c => a 0 (128 + c)) hH hR 64 (Nat.le_refl _)
/-- how many cells are in order: those open -/
theorem ord_op {H R P0 : Nat → Int32} : ∀ k, nI (ordS H R P0 k).2 = openN R k
  | 0 => rfl
  | k + 1 => by
    rw [ordS, openN]
    by_cases e : R k = 35
    · rw [if_pos e, if_pos e]; exact ord_op k
    · rw [if_neg e, if_neg e, ← ord_op k]; exact nI_succ _
/-- every open cell is in order -/
theorem orS_ex {H : Nat → Int32} {c n : Nat} (x : Int32) : ∀ (p : Nat) (P : Nat → Int32), p ≤ n → ((∃ i, i ≤ n ∧ i ≠ p ∧ P i = x) ∨ x = nI c) → ∃ i, i ≤ n ∧ orS H c p P i = x
  | 0, P, hp, h => by
    rcases h with ⟨i, h1, h2, h3⟩ | h
    · exact ⟨i, h1, (va_up_ne _ _ h2).trans h3⟩
    · exact ⟨0, hp, by rw [h]; exact va_up_self _ _ _⟩
  | p + 1, P, hp, h => by
    rw [orS]
    by_cases e : orH H (P p) ≤ H c
    · rw [if_pos e]
      rcases h with ⟨i, h1, h2, h3⟩ | h
      · exact ⟨i, h1, (va_up_ne _ _ h2).trans h3⟩
      · exact ⟨p + 1, hp, by rw [h]; exact va_up_self _ _ _⟩
    · rw [if_neg e]
      refine orS_ex x p _ (by omega) ?_
      rcases h with ⟨i, h1, h2, h3⟩ | h
      · refine Or.inl ?_
        by_cases e2 : i = p
        · subst e2
          exact ⟨i + 1, hp, by omega, (va_up_self _ _ _).trans h3⟩
        · exact ⟨i, h1, e2, (va_up_ne _ _ h2).trans h3⟩
      · exact Or.inr h
theorem ord_ex {H R P0 : Nat → Int32} : ∀ k x, x < k → ¬ R x = 35 → ∃ i, i < (ordS H R P0 k).2 ∧ (ordS H R P0 k).1 i = nI x
  | 0, x, h, _ => absurd h (Nat.not_lt_zero x)
  | k + 1, x, h, hr => by
    rw [ordS]
    by_cases e : R k = 35
    · rw [if_pos e]
      exact ord_ex k x (by
        have : x ≠ k := fun w => hr (w ▸ e)
        omega) hr
    · rw [if_neg e]
      have z : ∃ i, i ≤ (ordS H R P0 k).2 ∧ orS H k (ordS H R P0 k).2 (ordS H R P0 k).1 i = nI x := by
        refine orS_ex (nI x) _ _ (Nat.le_refl _) ?_
        by_cases e2 : x = k
        · exact Or.inr (by rw [e2])
        · obtain ⟨i, h1, h2⟩ := ord_ex (H := H) (P0 := P0) k x (by omega) hr
          exact Or.inl ⟨i, by omega, by omega, h2⟩
      obtain ⟨i, h1, h2⟩ := z
      exact ⟨i, Nat.lt_succ_iff.mpr h1, h2⟩
/-- all that is alike of a drawn legend -/
theorem drw_R (hH : ∀ i, i < 64 → m.2.1 i = a 0 i) (hR : ∀ i, i < 64 → m.1 i = a 0 (128 + i)) (hb : ∀ i, i < 64 → bn (a 0 i)) (h1 : 1 ≤ c) (h6 : c ≤ 6) (hc : c ≤ ordM a) : hsO (a 0) (ordP a) (drwS m c L).2.1 (ordM a) ∧ mkR (mkN (drwS m c L).2.1 (ordM a) (c - 1)) (dvB a c) (ordM a) ∧ lgR (mkN (drwS m c L).2.1 (ordM a) (c - 1)) (ordM a) c (drwS m c L) ∧ (∀ i, i < ordM a → (drwS m c L).1 i = ordP a i) := by
  obtain ⟨o1, o2, o3, o4, o5⟩ := ord_64 (L := L) hH hR
  have hs : hsO (a 0) (ordP a) (rdS m L 64).2.1 (ordM a) := ⟨o2, fun i hi => (o3 i hi).2, o4, fun i hi => by
    obtain ⟨x, x1, x2, -⟩ := o5 i hi
    rw [(o3 i hi).2, x2, orH_nI (by omega)]
    exact hb x x1⟩
  obtain ⟨k1, k2, k3⟩ := mk_R hs (by omega) (a 11) (c - 1) (by omega)
  rw [show c - 1 + 1 = c by omega] at k3
  obtain ⟨d1, d2⟩ := dr_R (K := mkN (rdS m L 64).2.1 (ordM a) (c - 1)) o2 (by omega) (ordM a) 0 (rdS m L 64).2.2.1 (by omega) (fun x hx => absurd hx (Nat.not_lt_zero x))
  refine ⟨hs, k1, ⟨?_, k3, k2, fun x hx q => ?_, ?_⟩, fun i hi => (o3 i hi).1⟩
  · show (drN (mkN (rdS m L 64).2.1 (rdS m L 64).2.2.2.2.1 (c - 1)) (rdS m L 64).2.2.2.2.1 0 (rdS m L 64).2.2.1 0).2 = c
    rw [o1]
    exact d1.trans k3
  · show va_up (drN (mkN (rdS m L 64).2.1 (rdS m L 64).2.2.2.2.1 (c - 1)) (rdS m L 64).2.2.2.2.1 0 (rdS m L 64).2.2.1 0).1 _ _ (fb_ct (tb (mkN (rdS m L 64).2.1 (ordM a) (c - 1))) x) = x
    rw [o1]
    have e : (drN (mkN (rdS m L 64).2.1 (ordM a) (c - 1)) (ordM a) 0 (rdS m L 64).2.2.1 0).2 = c := d1.trans k3
    have q : tb (mkN (rdS m L 64).2.1 (ordM a) (c - 1)) x = true := q
    have lt := fb_ct_lt hx q
    rw [e, va_up_ne _ _ (by omega)]
    exact d2 x hx q
  · show va_up (drN (mkN (rdS m L 64).2.1 (rdS m L 64).2.2.2.2.1 (c - 1)) (rdS m L 64).2.2.2.2.1 0 (rdS m L 64).2.2.1 0).1 (drN (mkN (rdS m L 64).2.1 (rdS m L 64).2.2.2.2.1 (c - 1)) (rdS m L 64).2.2.2.2.1 0 (rdS m L 64).2.2.1 0).2 _ c = _
    rw [o1]
    have e : (drN (mkN (rdS m L 64).2.1 (ordM a) (c - 1)) (ordM a) 0 (rdS m L 64).2.2.1 0).2 = c := d1.trans k3
    rw [e, va_up_self]
end DW
