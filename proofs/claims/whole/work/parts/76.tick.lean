/-! Embers, relapses, ticks: the relation goes on. -/
theorem emN_o {m : Nat → Int32} : ∀ k, k ≤ 64 → ∀ i, (i < 64 → k ≤ i) → (i < 64 ∨ 128 ≤ i ∨ 64 + k ≤ i) → emN m k i = m i
  | 0, _, _, _, _ => rfl
  | k + 1, h, i, h1, h2 => by
    have z := emN_o (m := m) k (by omega) i (fun q => by have := h1 q; omega) (by omega)
    rw [emN]
    split
    · rw [va_up_ne _ _ (by omega), va_up_ne _ _ (by omega)]; exact z
    · exact z
theorem emN_i {m : Nat → Int32} : ∀ k, k ≤ 64 → ∀ i, i < k → emN m k i = (if 700 ≤ m i then m i - 100 else m i) ∧ emN m k (64 + i) = if 700 ≤ m i then m (64 + i) + 100 else m (64 + i)
  | 0, _, _, h => absurd h (Nat.not_lt_zero _)
  | k + 1, h, i, hi => by
    have o1 := emN_o (m := m) k (by omega) k (by omega) (by omega)
    have o2 := emN_o (m := m) k (by omega) (64 + k) (by omega) (by omega)
    rw [emN, o1]
    by_cases e : i = k
    · subst e
      by_cases e2 : 700 ≤ m i
      · rw [if_pos e2, if_pos e2, if_pos e2, va_up_self, va_up_ne _ _ (show ¬ i = 64 + i by omega), va_up_self, va_up_ne _ _ (show ¬ 64 + i = i by omega), o2]
        exact ⟨rfl, rfl⟩
      · rw [if_neg e2, if_neg e2, if_neg e2]
        exact ⟨o1, o2⟩
    · have z := emN_i (m := m) k (by omega) i (by omega)
      by_cases e2 : 700 ≤ m k
      · rw [if_pos e2, va_up_ne _ _ (show ¬ i = 64 + k by omega), va_up_ne _ _ e, va_up_ne _ _ (show ¬ 64 + i = 64 + k by omega), va_up_ne _ _ (show ¬ 64 + i = k by omega)]
        exact z
      · rw [if_neg e2]; exact z
theorem emb_R {m : MS} {mm : Nat → Int32} (h : mR m mm) : mR (embM m) (emN mm 64) := by
  have o : ∀ i, 128 ≤ i → emN mm 64 i = mm i := fun i hi => emN_o 64 (Nat.le_refl _) i (by omega) (by omega)
  refine ⟨fun i hi => ?_, fun i hi => ?_, fun i hi => (h.gr i hi).trans (o _ (by omega)).symm, fun s hs => (h.te s hs).trans (o _ (by omega)).symm, fun s hs => (h.lo s hs).trans (o _ (by omega)).symm, h.ti.trans (o _ (by omega)).symm, h.rl.trans (o _ (by omega)).symm⟩
  · rw [(emN_i 64 (Nat.le_refl _) i hi).1]
    show (if 700 ≤ m.2.1 i then m.2.1 i - 100 else m.2.1 i) = _
    rw [h.he i hi]
  · rw [(emN_i 64 (Nat.le_refl _) i hi).2]
    show (if 700 ≤ m.2.1 i then m.2.2.1 i + 100 else m.2.2.1 i) = _
    rw [h.he i hi, h.em i hi]
theorem hot_eq {m : MS} {mm : Nat → Int32} (h : mR m mm) {c : Nat} (hc : c < 64) : ∀ k, nrN mm c k = hotN m c k
  | 0 => rfl
  | k + 1 => by
    rw [nrN, hotN, hot_eq h hc k]
    rcases hn : nb c k with _ | n
    · rfl
    · show (_ || decide (500 ≤ mm n)) = (_ || decide (500 ≤ m.2.1 n))
      rw [h.he n (nb_lt hc hn)]
theorem isR_eq {m : MS} {mm : Nat → Int32} (h : mR m mm) {c : Nat} (hc : c < 64) : rlB mm c = isRel m c := by
  unfold rlB isRel
  rw [hot_eq h hc, h.em c hc, h.he c hc]
  cases hotN m c 4 <;> simp
theorem relC_p {m : MS} {c : Nat} : 0 < relC m c ↔ isRel m c = true := by
  unfold relC
  by_cases e : isRel m c = true
  · rw [if_pos e]
    refine ⟨fun _ => e, fun _ => ?_⟩
    unfold isRel at e
    rw [Bool.and_eq_true, Bool.and_eq_true] at e
    exact of_decide_eq_true e.1.1
  · rw [if_neg e]
    exact ⟨fun q => absurd q (by decide), fun q => absurd q e⟩
theorem apN_o {m R : Nat → Int32} : ∀ k, k ≤ 64 → ∀ i, (i < 64 → k ≤ i) → (i < 64 ∨ 128 ≤ i ∨ 64 + k ≤ i) → (apN m R k).1 i = m i
  | 0, _, _, _, _ => rfl
  | k + 1, h, i, h1, h2 => by
    have z := apN_o (m := m) (R := R) k (by omega) i (fun q => by have := h1 q; omega) (by omega)
    rw [apN]
    split
    · exact z
    · show va_up (va_up (apN m R k).1 k _) (64 + k) 0 i = m i
      rw [va_up_ne _ _ (by omega), va_up_ne _ _ (by omega)]; exact z
theorem apN_i {m R : Nat → Int32} : ∀ k, k ≤ 64 → ∀ i, i < k → (apN m R k).1 i = (if R i = 0 then m i else m i + m (64 + i)) ∧ (apN m R k).1 (64 + i) = if R i = 0 then m (64 + i) else 0
  | 0, _, _, h => absurd h (Nat.not_lt_zero _)
  | k + 1, h, i, hi => by
    have o1 := apN_o (m := m) (R := R) k (by omega) k (by omega) (by omega)
    have o2 := apN_o (m := m) (R := R) k (by omega) (64 + k) (by omega) (by omega)
    rw [apN, o1, o2]
    by_cases e : i = k
    · subst e
      by_cases e2 : R i = 0
      · rw [if_pos e2, if_pos e2, if_pos e2]
        exact ⟨o1, o2⟩
      · rw [if_neg e2, if_neg e2, if_neg e2]
        show va_up (va_up _ i _) (64 + i) 0 i = _ ∧ va_up (va_up _ i _) (64 + i) 0 (64 + i) = _
        rw [va_up_self, va_up_ne _ _ (show ¬ i = 64 + i by omega), va_up_self]
        exact ⟨rfl, rfl⟩
    · have z := apN_i (m := m) (R := R) k (by omega) i (by omega)
      by_cases e2 : R k = 0
      · rw [if_pos e2]; exact z
      · rw [if_neg e2]
        show va_up (va_up _ k _) (64 + k) 0 i = _ ∧ va_up (va_up _ k _) (64 + k) 0 (64 + i) = _
        rw [va_up_ne _ _ (show ¬ i = 64 + k by omega), va_up_ne _ _ e, va_up_ne _ _ (show ¬ 64 + i = 64 + k by omega), va_up_ne _ _ (show ¬ 64 + i = k by omega)]
        exact z
theorem apN_n {m : MS} {mm m2 R : Nat → Int32} (h : ∀ i, i < 64 → (R i = 0 ↔ ¬ 0 < relC m i)) : ∀ k, k ≤ 64 → (apN m2 R k).2 = relN m k
  | 0, _ => rfl
  | k + 1, hk => by
    rw [apN, relN, ← apN_n (mm := mm) (m2 := m2) h k (by omega)]
    by_cases e : R k = 0
    · rw [if_pos e, if_neg ((h k (by omega)).mp e)]
    · rw [if_neg e, if_pos (Decidable.byContradiction (fun q => e ((h k (by omega)).mpr q)))]
theorem rel_R {m : MS} {mm : Nat → Int32} (h : mR m mm) : mR (relM m) (apN mm (fun i => if rlB mm i = true then 1 else 0) 64).1 ∧ (apN mm (fun i => if rlB mm i = true then 1 else 0) 64).2 = relN m 64 := by
  have hR : ∀ i, i < 64 → ((if rlB mm i = true then (1 : Int32) else 0) = 0 ↔ ¬ 0 < relC m i) := fun i hi => by
    rw [relC_p, isR_eq h hi]
    by_cases e : isRel m i = true
    · rw [if_pos e]; exact ⟨fun q => absurd q (by decide), fun q => absurd e q⟩
    · rw [if_neg e]; exact ⟨fun _ => e, fun _ => rfl⟩
  have o : ∀ i, 128 ≤ i → (apN mm (fun i => if rlB mm i = true then 1 else 0) 64).1 i = mm i := fun i hi => apN_o 64 (Nat.le_refl _) i (by omega) (by omega)
  refine ⟨⟨fun i hi => ?_, fun i hi => ?_, fun i hi => (h.gr i hi).trans (o _ (by omega)).symm, fun s hs => (h.te s hs).trans (o _ (by omega)).symm, fun s hs => (h.lo s hs).trans (o _ (by omega)).symm, h.ti.trans (o _ (by omega)).symm, h.rl.trans (o _ (by omega)).symm⟩, apN_n (mm := mm) hR 64 (Nat.le_refl _)⟩
  · rw [(apN_i 64 (Nat.le_refl _) i hi).1]
    show (if 0 < relC m i then m.2.1 i + relC m i else m.2.1 i) = _
    by_cases e : 0 < relC m i
    · rw [if_pos e, if_neg (fun q => (hR i hi).mp q e), h.he i hi, show relC m i = m.2.2.1 i from if_pos (relC_p.mp e), h.em i hi]
    · rw [if_neg e, if_pos ((hR i hi).mpr e), h.he i hi]
  · rw [(apN_i 64 (Nat.le_refl _) i hi).2]
    show (if 0 < relC m i then 0 else m.2.2.1 i) = _
    by_cases e : 0 < relC m i
    · rw [if_pos e, if_neg (fun q => (hR i hi).mp q e)]
    · rw [if_neg e, if_pos ((hR i hi).mpr e), h.em i hi]
theorem R_200 {m : MS} {mm : Nat → Int32} (h : mR m mm) (t : Int32) : mR (endM m t 0) (va_up mm 200 (mm 200 + t)) := by
  refine ⟨fun i hi => (h.he i hi).trans (va_up_ne _ _ (by omega)).symm, fun i hi => (h.em i hi).trans (va_up_ne _ _ (by omega)).symm, fun i hi => (h.gr i hi).trans (va_up_ne _ _ (by omega)).symm, fun i hi => (h.te i hi).trans (va_up_ne _ _ (by omega)).symm, fun i hi => (h.lo i hi).trans (va_up_ne _ _ (by omega)).symm, ?_, ?_⟩
  · rw [va_up_self, ← h.ti]; rfl
  · rw [va_up_ne _ _ (by omega), ← h.rl]; exact Int32.add_zero _
theorem R_201 {m : MS} {mm : Nat → Int32} (h : mR m mm) (t : Int32) : mR (endM m 0 t) (va_up mm 201 (mm 201 + t)) := by
  refine ⟨fun i hi => (h.he i hi).trans (va_up_ne _ _ (by omega)).symm, fun i hi => (h.em i hi).trans (va_up_ne _ _ (by omega)).symm, fun i hi => (h.gr i hi).trans (va_up_ne _ _ (by omega)).symm, fun i hi => (h.te i hi).trans (va_up_ne _ _ (by omega)).symm, fun i hi => (h.lo i hi).trans (va_up_ne _ _ (by omega)).symm, ?_, ?_⟩
  · rw [va_up_ne _ _ (by omega), ← h.ti]; exact Int32.add_zero _
  · rw [va_up_self, ← h.rl]; rfl
theorem endM_0 (m : MS) : endM m 0 0 = m := by unfold endM; rw [Int32.add_zero, Int32.add_zero]
theorem endM_endM (m : MS) (a b c d : Int32) : endM (endM m a b) c d = endM m (a + c) (b + d) := by unfold endM; rw [Int32.add_assoc, Int32.add_assoc]
theorem flow_end (m : MS) (a b : Int32) : flowM (endM m a b) = endM (flowM m) a b := by
  have e1 : flowAll (endM m a b) = flowAll m := by
    funext k
    induction k with
    | zero => rfl
    | succ k ih =>
      rw [flowAll, ih, flowAll]
      rfl
  have e2 : lvCA (endM m a b) = lvCA m := by
    funext k
    induction k with
    | zero => rw [lvCA, e1, lvCA]
    | succ k ih => rw [lvCA, ih, lvCA]; rfl
  have e3 : lvLA (endM m a b) = lvLA m := by
    funext k
    induction k with
    | zero => rfl
    | succ k ih => rw [lvLA, ih, lvLA]; rfl
  unfold flowM
  rw [e2, e3]
  rfl
theorem hot_end (m : MS) (a b : Int32) (c : Nat) : ∀ k, hotN (endM m a b) c k = hotN m c k
  | 0 => rfl
  | k + 1 => by rw [hotN, hotN, hot_end m a b c k]; rfl
theorem relC_end (m : MS) (a b : Int32) : relC (endM m a b) = relC m := by
  funext q
  unfold relC isRel
  rw [hot_end]
  rfl
theorem relN_end (m : MS) (a b : Int32) : ∀ k, relN (endM m a b) k = relN m k
  | 0 => rfl
  | k + 1 => by rw [relN, relN, relN_end m a b k, relC_end]
theorem rel_end (m : MS) (a b : Int32) : relM (endM m a b) = endM (relM m) a b := by
  unfold relM
  rw [relC_end]
  rfl
theorem tick_end (m : MS) (a b : Int32) : tickM (endM m a b) = endM (tickM m) a b ∧ tickR (endM m a b) = tickR m := by
  have e : embM (flowM (endM m a b)) = endM (embM (flowM m)) a b := by rw [flow_end]; rfl
  unfold tickM tickR
  rw [e]
  exact ⟨rel_end _ _ _, relN_end _ _ _ 64⟩
/-- one tick -/
theorem tick_R {m : MS} {mm : Nat → Int32} (h : mR m mm) (hb : ∀ i, i < 64 → bn (m.2.1 i)) (ht : ∀ s, s < 4 → bn (m.2.2.2.1 s)) : mR (endM (tickM m) 1 (tickR m)) (tkF mm) ∧ (tk3 mm).2 = tickR m := by
  have h1 := R_200 h 1
  have h2 := flow_R h1 (fun i hi => by rw [va_up_ne _ _ (by omega), ← h.he i hi]; exact hb i hi) (fun s hs => by rw [va_up_ne _ _ (by omega), ← h.te s hs]; exact ht s hs)
  have h3 := emb_R h2
  obtain ⟨h4, h5⟩ := rel_R h3
  have e : embM (flowM (endM m 1 0)) = endM (embM (flowM m)) 1 0 := by rw [flow_end]; rfl
  rw [e, relN_end] at h5
  rw [e, rel_end] at h4
  have h6 := R_201 h4 (relN (embM (flowM m)) 64)
  rw [endM_endM, Int32.add_zero, Int32.zero_add] at h6
  have e3 : tk3 mm = apN (emN (flM (va_up mm 200 (mm 200 + 1))) 64) (fun i => if rlB (emN (flM (va_up mm 200 (mm 200 + 1))) 64) i = true then 1 else 0) 64 := by unfold tk3 tk2 tk1; with_reducible rfl
  rw [← e3] at h5 h6
  unfold tickM tickR tkF
  rw [h5]
  exact ⟨h6, Eq.refl _⟩
