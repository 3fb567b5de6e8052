/-! The commands carried out, one after another. -/
section RN
/-- the map's rest: what a command leaves in order -/
def okM (m : MS) : Prop := aI m ∧ ∀ s, s < 4 → bn (m.2.2.2.1 s)
theorem tmp_bn {y : Int32} (h : tempP y) : bn y := by
  have h1 := Int32.le_iff_toInt_le.mp h.1
  have h2 := Int32.le_iff_toInt_le.mp h.2
  have h3 : (0 : Int) ≤ y.toInt := h1
  have h4 : y.toInt ≤ 9999 := h2
  unfold bn
  omega
/-- a command done keeps the map in order; at most 999 are added -/
theorem cd_ok {m : MS} {O : OB} {c : CM} (h : okM m) (hq : m.2.2.2.2.2.2.2.toInt ≤ 599001) : okM (cCmd m O c).1.1 ∧ (cCmd m O c).1.1.2.2.2.2.2.2.2.toInt ≤ m.2.2.2.2.2.2.2.toInt + 999 := by
  have same : okM m ∧ m.2.2.2.2.2.2.2.toInt ≤ m.2.2.2.2.2.2.2.toInt + 999 := ⟨h, by omega⟩
  unfold cCmd
  by_cases k0 : c.1 = 0
  · rw [if_pos k0]
    unfold cHeat
    by_cases c1 : cellB c.2.1 c.2.2.1 ∧ amountP c.2.2.2
    · rw [if_pos c1]
      rcases hr : hrf m (cCell c.2.1 c.2.2.1) c.2.2.2 with _ | r
      · have z := ad_aI h.1 (cCell_eq c1.1).2 (am_I c1.2) hq
        have y := am_I c1.2
        exact ⟨⟨z.1, h.2⟩, by show (adM m (cCell c.2.1 c.2.2.1) c.2.2.2).2.2.2.2.2.2.2.toInt ≤ _; rw [z.2]; omega⟩
      · exact same
    · rw [if_neg c1]; exact same
  · rw [if_neg k0]
    by_cases k1 : c.1 = 1
    · rw [if_pos k1]
      unfold cGround
      by_cases c1 : cellB c.2.1 c.2.2.1 ∧ groundP c.2.2.2
      · rw [if_pos c1]
        rcases hr : grf m (cCell c.2.1 c.2.2.1) c.2.2.2 with _ | r
        · exact ⟨⟨gr_aI h.1 _ _, h.2⟩, same.2⟩
        · exact same
      · rw [if_neg c1]; exact same
    · rw [if_neg k1]
      by_cases k2 : c.1 = 2
      · rw [if_pos k2]
        unfold cBorder
        by_cases c1 : sideP c.2.1 ∧ tempP c.2.2.1
        · rw [if_pos c1]
          refine ⟨⟨bo_aI h.1 _ _, fun s hs => ?_⟩, same.2⟩
          show bn (va_up m.2.2.2.1 c.2.1.toNatClampNeg c.2.2.1 s)
          unfold va_up
          split
          · exact tmp_bn c1.2
          · exact h.2 s hs
        · rw [if_neg c1]; exact same
      · rw [if_neg k2]
        unfold cPass
        by_cases c1 : tickP c.2.1
        · rw [if_pos c1]
          obtain ⟨a, b, -⟩ := tk_aI h.1 h.2 c.2.1.toNatClampNeg
          refine ⟨⟨a, fun s hs => by rw [show (tkM m c.2.1.toNatClampNeg).2.2.2.1 = m.2.2.2.1 from b]; exact h.2 s hs⟩, ?_⟩
          have e : ∀ k, (ticksM k m).2.2.2.2.2.2.2 = m.2.2.2.2.2.2.2 := fun k => by
            induction k with
            | zero => rfl
            | succ k ih => rw [ticksM]; exact ih
          show (ticksM c.2.1.toNatClampNeg m).2.2.2.2.2.2.2.toInt ≤ _
          rw [e]
          omega
        · rw [if_neg c1]; exact same
/-- one command, of whichever kind -/
theorem cd_all {m : MS} {mm f : Nat → Int32} {O : OB} {c : CM} {C : Nat → Int32} {k : Nat} (h : mR m mm) (ho : okM m) (hO : f 9 = O.2.1 ∧ f 10 = O.2.2.1) (hc : cmR c C k) : cdP m mm f O (cCmd m O c) (dsM mm f (cmA C k)) := by
  obtain ⟨w, w4, e1, e2, e3, e4, e5⟩ := hc
  have ne : ∀ v, v < 4 → (nI w = nI v ↔ w = v) := fun v hv => nI_inj31 (by omega) (by omega)
  unfold cCmd dsM
  show cdP m mm f O _ (if C (4 * k) = 0 then (hitM mm f (C (4 * k + 1)) (C (4 * k + 2)) (C (4 * k + 3))).2 else if C (4 * k) = 1 then (gitM mm f (C (4 * k + 1)) (C (4 * k + 2)) (C (4 * k + 3))).2 else if C (4 * k) = 2 then (bitM mm f (C (4 * k + 1)) (C (4 * k + 2))).2 else (titM mm f (C (4 * k + 1))).2)
  rw [e1, e2, e3]
  rcases (show w = 0 ∨ w = 1 ∨ w = 2 ∨ w = 3 by omega) with rfl | rfl | rfl | rfl
  · rw [if_pos (show nI 0 = (0 : Int32) from rfl), if_pos (show nI 0 = (0 : Int32) from rfl), e4 (by omega), e5 (by omega)]
    exact cd_heat h ho.1 hO
  · rw [if_neg (show ¬ nI 1 = (0 : Int32) by decide), if_neg (show ¬ nI 1 = (0 : Int32) by decide), if_pos (show nI 1 = (1 : Int32) from rfl), if_pos (show nI 1 = (1 : Int32) from rfl), e4 (by omega), e5 (by omega)]
    exact cd_ground h ho.1 hO
  · rw [if_neg (show ¬ nI 2 = (0 : Int32) by decide), if_neg (show ¬ nI 2 = (0 : Int32) by decide), if_neg (show ¬ nI 2 = (1 : Int32) by decide), if_neg (show ¬ nI 2 = (1 : Int32) by decide), if_pos (show nI 2 = (2 : Int32) from rfl), if_pos (show nI 2 = (2 : Int32) from rfl), e4 (by omega)]
    exact cd_border h hO
  · rw [if_neg (show ¬ nI 3 = (0 : Int32) by decide), if_neg (show ¬ nI 3 = (0 : Int32) by decide), if_neg (show ¬ nI 3 = (1 : Int32) by decide), if_neg (show ¬ nI 3 = (1 : Int32) by decide), if_neg (show ¬ nI 3 = (2 : Int32) by decide), if_neg (show ¬ nI 3 = (2 : Int32) by decide)]
    exact cd_pass h ho.1 ho.2 hO
end RN
