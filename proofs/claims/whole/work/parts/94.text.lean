/-! The reader: a whole text. -/
section TX9
variable {T : TX}
/-- a command of word w with the numbers a -/
def cmR1 (c : CM) (w : Nat) (a : Int32 × Int32 × Int32) : Prop := c.1 = nI w ∧ c.2.1 = a.1 ∧ (w ≤ 2 → c.2.2.1 = a.2.1) ∧ (w ≤ 1 → c.2.2.2 = a.2.2)
theorem fu_len {p w : Nat} (hw : wdM T p = w) (hw4 : w < 4) : fuM T p ↔ lkW T p w = rdLen.getD w 0 := by
  have z : lkW T p w ≤ 0 + rdLen.getD w 0 := by
    unfold lkW
    rw [← rdL_bg w hw4]
    exact lkW_len _ 0
  unfold fuM
  rw [hw, ← rdL_bg w hw4]
  omega
theorem cmd_eq (hT : tOk T) {p : Nat} {c : CM} :
    (¬ fuM T p → (rCmd T p c).2.2 = false ∧ (rCmd T p c).1 = p + lkW T p (wdM T p)) ∧
    (fuM T p → (rCmd T p c).1 = (raM T (wdM T p) (p + lkW T p (wdM T p))).2.1 ∧ (rCmd T p c).2.2 = !(raM T (wdM T p) (p + lkW T p (wdM T p))).2.2 ∧ ((rCmd T p c).2.2 = true → cmR1 (rCmd T p c).2.1 (wdM T p) (raM T (wdM T p) (p + lkW T p (wdM T p))).1)) := by
  obtain ⟨w0, w1, w2, w3⟩ := wd_eq (p := p) hT
  have word : ∀ i, i < 4 → wdM T p = i → (fuM T p → rWd T i p = (p + lkW T p i, true)) ∧ (¬ fuM T p → rWd T i p = (p + lkW T p i, false)) := fun i hi e => by
    have z := fu_len e hi
    rw [rWd_lk hT hi]
    exact ⟨fun h => by rw [decide_eq_true (z.mp h)], fun h => by rw [decide_eq_false (fun q => h (z.mpr q))]⟩
  unfold rCmd
  by_cases h0 : nxt T p 104 = true
  · have e := w0 h0
    obtain ⟨f1, f2⟩ := word 0 (by omega) e
    rw [if_pos h0, e]
    refine ⟨fun h => ?_, fun h => ?_⟩
    · simp [rHeat, rThen, rWord, f2 h]
    · obtain ⟨a1, a2, a3⟩ := ar_heat (c := c) (f1 h)
      exact ⟨a1, a2, fun q => by rw [a3 q]; exact ⟨rfl, rfl, fun _ => rfl, fun _ => rfl⟩⟩
  · rw [if_neg h0]
    by_cases h1 : nxt T p 103 = true
    · have e := w1 h1
      obtain ⟨f1, f2⟩ := word 1 (by omega) e
      rw [if_pos h1, e]
      refine ⟨fun h => ?_, fun h => ?_⟩
      · simp [rGrd, rThen, rWord, f2 h]
      · obtain ⟨a1, a2, a3⟩ := ar_grd (c := c) (f1 h)
        exact ⟨a1, a2, fun q => by rw [a3 q]; exact ⟨rfl, rfl, fun _ => rfl, fun _ => rfl⟩⟩
    · rw [if_neg h1]
      by_cases h2 : nxt T p 98 = true
      · have e := w2 h2
        obtain ⟨f1, f2⟩ := word 2 (by omega) e
        rw [if_pos h2, e]
        refine ⟨fun h => ?_, fun h => ?_⟩
        · simp [rBord, rThen, rWord, f2 h]
        · obtain ⟨a1, a2, a3⟩ := ar_bord (c := c) (f1 h)
          exact ⟨a1, a2, fun q => ⟨(a3 q).1, (a3 q).2.1, fun _ => (a3 q).2.2, fun y => absurd y (by omega)⟩⟩
      · rw [if_neg h2]
        rcases w3 h0 h1 h2 with e | ⟨e, l0, l3⟩
        · obtain ⟨f1, f2⟩ := word 3 (by omega) e
          rw [e]
          refine ⟨fun h => ?_, fun h => ?_⟩
          · simp [rPass, rThen, rWord, f2 h]
          · obtain ⟨a1, a2, a3⟩ := ar_pass (c := c) (f1 h)
            exact ⟨a1, a2, fun q => ⟨(a3 q).1, (a3 q).2, fun y => absurd y (by omega), fun y => absurd y (by omega)⟩⟩
        · have nf : ¬ fuM T p := fun q => by
            have z := (fu_len e (by omega)).mp q
            rw [l0] at z
            exact absurd z (by decide)
          have f3 : rWd T 3 p = (p, false) := by
            rw [rWd_lk hT (by omega), l3, decide_eq_false (by decide)]
            rfl
          rw [e, l0]
          refine ⟨fun _ => ?_, fun h => absurd h nf⟩
          simp [rPass, rThen, rWord, f3]
end TX9
