/-! Ticks keep the accounts and the relation. -/
/-- a map's accounts -/
def aI (m : MS) : Prop := (∀ i, i < 64 → 0 ≤ (m.2.1 i).toInt) ∧ (∀ i, i < 64 → 0 ≤ (m.2.2.1 i).toInt) ∧ (∀ s, s < 4 → 0 ≤ (m.2.2.2.2.1 s).toInt) ∧ tInt m.2.1 64 + tInt m.2.2.1 64 + tInt m.2.2.2.2.1 4 = m.2.2.2.2.2.2.2.toInt ∧ m.2.2.2.2.2.2.2.toInt ≤ 600000
theorem aI_bd {m : MS} (h : aI m) : (∀ i, i < 64 → 0 ≤ (m.2.1 i).toInt ∧ (m.2.1 i).toInt ≤ 600000) ∧ (∀ i, i < 64 → 0 ≤ (m.2.2.1 i).toInt ∧ (m.2.2.1 i).toInt ≤ 600000) ∧ (∀ s, s < 4 → 0 ≤ (m.2.2.2.2.1 s).toInt ∧ (m.2.2.2.2.1 s).toInt ≤ 600000) := by
  obtain ⟨h1, h2, h3, h4, h5⟩ := h
  have a := si_ge (f := fun i => (m.2.1 i).toInt) 64 h1
  have b := si_ge (f := fun i => (m.2.2.1 i).toInt) 64 h2
  have c := si_ge (f := fun i => (m.2.2.2.2.1 i).toInt) 4 h3
  unfold tInt at h4
  refine ⟨fun i hi => ⟨h1 i hi, ?_⟩, fun i hi => ⟨h2 i hi, ?_⟩, fun i hi => ⟨h3 i hi, ?_⟩⟩
  · have z : (m.2.1 i).toInt ≤ _ := a.2 i hi; omega
  · have z : (m.2.2.1 i).toInt ≤ _ := b.2 i hi; omega
  · have z : (m.2.2.2.2.1 i).toInt ≤ _ := c.2 i hi; omega
theorem aI_bn {m : MS} (h : aI m) : (∀ i, i < 64 → bn (m.2.1 i)) ∧ (∀ i, i < 64 → bn (m.2.2.1 i)) ∧ (∀ s, s < 4 → bn (m.2.2.2.2.1 s)) := by
  obtain ⟨a, b, c⟩ := aI_bd h
  unfold bn
  exact ⟨fun i hi => by have := a i hi; omega, fun i hi => by have := b i hi; omega, fun i hi => by have := c i hi; omega⟩
/-- the accounts, as the class adds them up -/
theorem aI_sum {m : MS} (h : aI m) : sumN m.2.1 64 + sumN m.2.2.1 64 = m.2.2.2.2.2.2.2 - sumN m.2.2.2.2.1 4 := by
  obtain ⟨a, b, c⟩ := aI_bd h
  have s1 := sumN_I (f := m.2.1) (C := 600000) (by omega) 64 (by omega) a
  have s2 := sumN_I (f := m.2.2.1) (C := 600000) (by omega) 64 (by omega) b
  have s3 := sumN_I (f := m.2.2.2.2.1) (C := 600000) (by omega) 4 (by omega) c
  have h4 := h.2.2.2.1
  have h5 := h.2.2.2.2
  rw [← Int32.toInt_inj, fb_addI (by omega) (by omega), fb_subI (by omega) (by omega)]
  omega
theorem flow_aI {m : MS} (h : aI m) (ht : ∀ s, s < 4 → bn (m.2.2.2.1 s)) : aI (flowM m) := by
  obtain ⟨b1, b2, b3⟩ := aI_bn h
  obtain ⟨d1, d2, d3⟩ := aI_bd h
  have f1 : ∀ q, q < 64 → 0 ≤ ((flowM m).2.1 q).toInt ∧ ((flowM m).2.1 q).toInt ≤ 2000000 := fun q hq => flow_bd b1 ht hq
  have f2 : ∀ s, s < 4 → 0 ≤ ((flowM m).2.2.2.2.1 s).toInt ∧ ((flowM m).2.2.2.2.1 s).toInt ≤ 3000000 := fun s hs => lost_bd b1 ht b3 hs
  have s1 := sumN_I (f := m.2.1) (C := 600000) (by omega) 64 (by omega) d1
  have s3 := sumN_I (f := m.2.2.2.2.1) (C := 600000) (by omega) 4 (by omega) d3
  have g1 := sumN_I (f := (flowM m).2.1) (C := 2000000) (by omega) 64 (by omega) f1
  have g3 := sumN_I (f := (flowM m).2.2.2.2.1) (C := 3000000) (by omega) 4 (by omega) f2
  have e := congrArg Int32.toInt (flow_sum (m := m))
  rw [fb_addI (by omega) (by omega), fb_addI (by omega) (by omega)] at e
  have h4 := h.2.2.2.1
  refine ⟨fun q hq => (f1 q hq).1, h.2.1, fun s hs => (f2 s hs).1, ?_, h.2.2.2.2⟩
  show tInt (flowM m).2.1 64 + tInt m.2.2.1 64 + tInt (flowM m).2.2.2.2.1 4 = m.2.2.2.2.2.2.2.toInt
  omega
theorem tInt_add (f g : Nat → Int32) (k : Nat) : tInt f k + tInt g k = fb_si (fun i => (f i).toInt + (g i).toInt) k := (fb_si_add _ _ _).symm
theorem sub_I {x : Int32} (h : 700 ≤ x) (hx : x.toInt ≤ 600000) : (x - 100).toInt = x.toInt - 100 ∧ 700 ≤ x.toInt := by
  rw [Int32.le_iff_toInt_le] at h
  have h2 : 700 ≤ x.toInt := h
  exact ⟨fb_subI (by show _ ≤ x.toInt - 100; omega) (by show x.toInt - 100 < _; omega), h2⟩
theorem add_I {x : Int32} (h : 0 ≤ x.toInt ∧ x.toInt ≤ 600000) : (x + 100).toInt = x.toInt + 100 := fb_addI (by show _ ≤ x.toInt + 100; omega) (by show x.toInt + 100 < _; omega)
theorem emb_aI {m : MS} (h : aI m) : aI (embM m) := by
  obtain ⟨d1, d2, d3⟩ := aI_bd h
  have key : ∀ i, i < 64 → 0 ≤ ((embM m).2.1 i).toInt ∧ 0 ≤ ((embM m).2.2.1 i).toInt ∧ ((embM m).2.1 i).toInt + ((embM m).2.2.1 i).toInt = (m.2.1 i).toInt + (m.2.2.1 i).toInt := fun i hi => by
    have a := d1 i hi
    have b := d2 i hi
    show 0 ≤ (if 700 ≤ m.2.1 i then m.2.1 i - 100 else m.2.1 i).toInt ∧ 0 ≤ (if 700 ≤ m.2.1 i then m.2.2.1 i + 100 else m.2.2.1 i).toInt ∧ (if 700 ≤ m.2.1 i then m.2.1 i - 100 else m.2.1 i).toInt + (if 700 ≤ m.2.1 i then m.2.2.1 i + 100 else m.2.2.1 i).toInt = _
    by_cases e : 700 ≤ m.2.1 i
    · obtain ⟨z1, z2⟩ := sub_I e a.2
      rw [if_pos e, if_pos e, z1, add_I b]
      omega
    · rw [if_neg e, if_neg e]
      omega
  refine ⟨fun i hi => (key i hi).1, fun i hi => (key i hi).2.1, h.2.2.1, ?_, h.2.2.2.2⟩
  have h4 := h.2.2.2.1
  rw [tInt_add] at h4 ⊢
  rw [fb_si_cong (fun i hi => (key i hi).2.2)]
  exact h4
theorem rel_aI {m : MS} (h : aI m) : aI (relM m) := by
  obtain ⟨d1, d2, d3⟩ := aI_bd h
  have key : ∀ i, i < 64 → 0 ≤ ((relM m).2.1 i).toInt ∧ 0 ≤ ((relM m).2.2.1 i).toInt ∧ ((relM m).2.1 i).toInt + ((relM m).2.2.1 i).toInt = (m.2.1 i).toInt + (m.2.2.1 i).toInt := fun i hi => by
    have a := d1 i hi
    have b := d2 i hi
    show 0 ≤ (if 0 < relC m i then m.2.1 i + relC m i else m.2.1 i).toInt ∧ 0 ≤ (if 0 < relC m i then (0 : Int32) else m.2.2.1 i).toInt ∧ (if 0 < relC m i then m.2.1 i + relC m i else m.2.1 i).toInt + (if 0 < relC m i then (0 : Int32) else m.2.2.1 i).toInt = _
    by_cases e : 0 < relC m i
    · rw [if_pos e, if_pos e, show relC m i = m.2.2.1 i from if_pos (relC_p.mp e), fb_addI (by omega) (by omega), show (0 : Int32).toInt = 0 from rfl]
      omega
    · rw [if_neg e, if_neg e]
      omega
  refine ⟨fun i hi => (key i hi).1, fun i hi => (key i hi).2.1, h.2.2.1, ?_, h.2.2.2.2⟩
  have h4 := h.2.2.2.1
  rw [tInt_add] at h4 ⊢
  rw [fb_si_cong (fun i hi => (key i hi).2.2)]
  exact h4
theorem tick_aI {m : MS} (h : aI m) (ht : ∀ s, s < 4 → bn (m.2.2.2.1 s)) : aI (tickM m) := rel_aI (emb_aI (flow_aI h ht))
theorem end_aI {m : MS} (h : aI m) (a b : Int32) : aI (endM m a b) := h
theorem ticks_aI {m : MS} (h : aI m) (ht : ∀ s, s < 4 → bn (m.2.2.2.1 s)) : ∀ k, aI (ticksM k m) ∧ (ticksM k m).2.2.2.1 = m.2.2.2.1 ∧ (ticksM k m).1 = m.1
  | 0 => ⟨h, rfl, rfl⟩
  | k + 1 => by
    obtain ⟨a, b, c⟩ := ticks_aI h ht k
    rw [ticksM]
    exact ⟨tick_aI a (fun s hs => by rw [b]; exact ht s hs), b, c⟩
/-- n ticks -/
theorem ticks_R {m : MS} {mm : Nat → Int32} (h : mR m mm) (ha : aI m) (ht : ∀ s, s < 4 → bn (m.2.2.2.1 s)) : ∀ n, mR (tkM m n) (mtk mm n) ∧ mtR mm n = ticksR n m
  | 0 => by
    refine ⟨?_, rfl⟩
    show mR (endM m 0 0) mm
    rw [endM_0]
    exact h
  | n + 1 => by
    obtain ⟨h1, h2⟩ := ticks_R h ha ht n
    obtain ⟨a, b, c⟩ := ticks_aI ha ht n
    have a2 : aI (tkM m n) := a
    obtain ⟨h3, h4⟩ := tick_R h1 (aI_bn a2).1 (fun s hs => by rw [show (tkM m n).2.2.2.1 = m.2.2.2.1 from b]; exact ht s hs)
    have e := tick_end (ticksM n m) (nI n) (ticksR n m)
    rw [show tkM m n = endM (ticksM n m) (nI n) (ticksR n m) from rfl, e.1, e.2, endM_endM, ← nI_succ] at h3
    rw [show tkM m n = endM (ticksM n m) (nI n) (ticksR n m) from rfl, e.2] at h4
    refine ⟨h3, ?_⟩
    rw [mtR, h4, h2, ticksR]
