/-! The coolest way, by trying. -/
theorem tch0_nb : ∀ c, c < 64 → ∀ d, d < 64 → tch 0 c d = decide (nb c 0 = some d ∨ nb c 1 = some d ∨ nb c 2 = some d ∨ nb c 3 = some d) := by decide +kernel
theorem tch0_iff2 {c d : Nat} (hc : c < 64) (hd : d < 64) : tch 0 c d = true ↔ ∃ s, s < 4 ∧ nb c s = some d := by
  rw [tch0_nb c hc d hd, decide_eq_true_iff]
  constructor
  · rintro (h | h | h | h)
    · exact ⟨0, by omega, h⟩
    · exact ⟨1, by omega, h⟩
    · exact ⟨2, by omega, h⟩
    · exact ⟨3, by omega, h⟩
  · rintro ⟨s, hs, h⟩
    rcases (show s = 0 ∨ s = 1 ∨ s = 2 ∨ s = 3 by omega) with rfl | rfl | rfl | rfl
    · exact Or.inl h
    · exact Or.inr (Or.inl h)
    · exact Or.inr (Or.inr (Or.inl h))
    · exact Or.inr (Or.inr (Or.inr h))
section TY
variable {H R : Nat → Int32} {fm to : Nat}
theorem tb_op {v : Int32} {i : Nat} (hi : i < 64) : tb (openL R H v 64) i = true ↔ opP H R v i := by
  rw [tb_open 64 (Nat.le_refl _) i hi, decide_eq_true_iff]
  exact ⟨fun q => q.2, fun q => ⟨hi, q⟩⟩
theorem opr_spr {v : Int32} {c d : Nat} : con (opr H R v) c d ↔ con (spr (tb (openL R H v 64)) 0) c d :=
  ⟨con_mono (fun a b q => ⟨q.1, q.2.1, (tb_op q.1).mpr q.2.2.1, (tb_op q.2.1).mpr q.2.2.2.1, (tch0_iff2 q.1 q.2.1).mpr q.2.2.2.2⟩),
    con_mono (fun a b q => ⟨q.1, q.2.1, (tb_op q.1).mp q.2.2.1, (tb_op q.2.1).mp q.2.2.2.1, (tch0_iff2 q.1 q.2.1).mp q.2.2.2.2⟩)⟩
theorem reach_iff {v : Int32} (hf : fm < 64) (ht : to < 64) : inJ (fillJ (bitJ (nI fm)) (openL R H v 64)) (nI to) ↔ wyP H R fm v to := by
  rw [inJ_iff ht, fillJ_g]
  unfold wyP
  by_cases e : tb (openL R H v 64) fm = true
  · rw [gfl_con (Or.inl rfl) hf e ht, opr_spr]
    exact ⟨fun q => ⟨(tb_op hf).mp e, q⟩, fun q => q.2⟩
  · rw [gfl_none (Or.inl rfl) hf (Bool.eq_false_iff.mpr e) ht]
    exact ⟨fun q => (by cases q), fun q => absurd ((tb_op hf).mpr q.1) e⟩
theorem wy_up2 {v w : Int32} (h : v ≤ w) (q : wyP H R fm v to) : wyP H R fm w to := by
  have op : ∀ c, opP H R v c → opP H R w c := fun c z => ⟨z.1, Int32.le_trans z.2 h⟩
  exact ⟨op fm q.1, con_mono (fun a b z => ⟨z.1, z.2.1, op a z.2.2.1, op b z.2.2.2.1, z.2.2.2.2⟩) q.2⟩
/-- a way's peak is the heat of a cell -/
theorem wy_cell {w : Int32} (hf : fm < 64) (q : wyP H R fm w to) : ∃ i, i < 64 ∧ H i ≤ w ∧ wyP H R fm (H i) to := by
  obtain ⟨i, hi, h1, h2⟩ := fb_best (fun c => if tb (openL R H w 64) c = true then (H c).toInt else -3000000000) (n := 64) (by omega)
  have ef := (tb_op hf).mpr q.1
  have z := h1 fm hf
  simp only [ef, if_true] at z
  have ei : tb (openL R H w 64) i = true := by
    by_cases e : tb (openL R H w 64) i = true
    · exact e
    · rw [if_neg e] at z
      have := fb_rng (H fm)
      omega
  have oi := (tb_op hi).mp ei
  simp only [ei, if_true] at h1
  have op : ∀ c, c < 64 → opP H R w c → opP H R (H i) c := fun c hc y => by
    have z := h1 c hc
    rw [if_pos ((tb_op hc).mpr y)] at z
    exact ⟨y.1, Int32.le_iff_toInt_le.mpr z⟩
  exact ⟨i, hi, oi.2, op fm hf q.1, con_mono (fun a b z => ⟨z.1, z.2.1, op a z.1 z.2.2.1, op b z.2.1 z.2.2.2.1, z.2.2.2.2⟩) q.2⟩
theorem pk_one {v w : Int32} (h : isPk H R fm to v) (q : isPk H R fm to w) : v = w := Int32.le_antisymm (h.2 w q.1) (q.2 v h.1)
end TY
/-- what the answer says -/
def pkA (H R : Nat → Int32) (fm to : Nat) (v : Int32) : Prop := (v = -1 ∧ ∀ w, ¬ wyP H R fm w to) ∨ (¬ v = -1 ∧ isPk H R fm to v)
theorem pkA_one {H R : Nat → Int32} {fm to : Nat} {v w : Int32} (h : pkA H R fm to v) (q : pkA H R fm to w) : v = w := by
  rcases h with h | h <;> rcases q with q | q
  · rw [h.1, q.1]
  · exact absurd q.2.1 (h.2 w)
  · exact absurd h.2.1 (q.2 v)
  · exact pk_one h.2 q.2
theorem try_inv {m : MS} {f w : Nat} (hf : f < 64) (hw : w < 64) (hb : ∀ i, i < 64 → 0 ≤ m.2.1 i) : ∀ k, k ≤ 64 → ((tryN m f w k).2 = -1 ∨ (0 ≤ (tryN m f w k).2 ∧ wyP m.2.1 m.1 f (tryN m f w k).2 w)) ∧ ¬ wyP m.2.1 m.1 f (tryN m f w k).1 w ∧ ∀ i, i < k → m.2.1 i ≤ (tryN m f w k).1 ∨ (¬ (tryN m f w k).2 = -1 ∧ (tryN m f w k).2 ≤ m.2.1 i)
  | 0, _ => ⟨Or.inl rfl, fun q => by
    have z := Int32.le_trans (hb f hf) q.1.2
    exact absurd z (show ¬ (0 : Int32) ≤ -1 by decide), fun i hi => absurd hi (Nat.not_lt_zero i)⟩
  | k + 1, hk => by
    obtain ⟨h1, h2, h3⟩ := try_inv hf hw hb k (by omega)
    have hk0 := hb k (by omega)
    have nz : ¬ m.2.1 k = -1 := fun q => by rw [q] at hk0; exact absurd hk0 (by decide)
    rw [tryN]
    by_cases e : (tryN m f w k).1 < m.2.1 k ∧ ((tryN m f w k).2 = -1 ∨ m.2.1 k < (tryN m f w k).2)
    · rw [if_pos e]
      by_cases e2 : inJ (fillJ (bitJ (nI f)) (openL m.1 m.2.1 (m.2.1 k) 64)) (nI w)
      · rw [if_pos e2]
        refine ⟨Or.inr ⟨hk0, (reach_iff hf hw).mp e2⟩, h2, fun i hi => ?_⟩
        show m.2.1 i ≤ (tryN m f w k).1 ∨ (¬ m.2.1 k = -1 ∧ m.2.1 k ≤ m.2.1 i)
        rcases (show i < k ∨ i = k by omega) with q | q
        · rcases h3 i q with z | z
          · exact Or.inl z
          · refine Or.inr ⟨nz, ?_⟩
            rcases e.2 with y | y
            · exact absurd y z.1
            · exact Int32.le_of_lt (Int32.lt_of_lt_of_le y z.2)
        · subst q
          exact Or.inr ⟨nz, Int32.le_refl _⟩
      · rw [if_neg e2]
        refine ⟨h1, fun q => e2 ((reach_iff hf hw).mpr q), fun i hi => ?_⟩
        show m.2.1 i ≤ m.2.1 k ∨ _
        rcases (show i < k ∨ i = k by omega) with q | q
        · rcases h3 i q with z | z
          · exact Or.inl (Int32.le_of_lt (Int32.lt_of_le_of_lt z e.1))
          · exact Or.inr z
        · subst q
          exact Or.inl (Int32.le_refl _)
    · rw [if_neg e]
      refine ⟨h1, h2, fun i hi => ?_⟩
      rcases (show i < k ∨ i = k by omega) with q | q
      · exact h3 i q
      · subst q
        by_cases e1 : (tryN m f w i).1 < m.2.1 i
        · refine Or.inr ⟨fun y => e ⟨e1, Or.inl y⟩, Int32.not_lt.mp (fun y => e ⟨e1, Or.inr y⟩)⟩
        · exact Or.inl (Int32.not_lt.mp e1)
/-- trying finds the coolest way's peak -/
theorem try_pk {m : MS} {f w : Nat} (hf : f < 64) (hw : w < 64) (hb : ∀ i, i < 64 → 0 ≤ m.2.1 i) : pkA m.2.1 m.1 f w (tryN m f w 64).2 := by
  obtain ⟨h1, h2, h3⟩ := try_inv hf hw hb 64 (Nat.le_refl _)
  have low : ∀ v, wyP m.2.1 m.1 f v w → ¬ (tryN m f w 64).2 = -1 ∧ (tryN m f w 64).2 ≤ v := fun v hv => by
    obtain ⟨i, hi, a, b⟩ := wy_cell hf hv
    rcases h3 i hi with z | z
    · exact absurd (wy_up2 z b) h2
    · exact ⟨z.1, Int32.le_trans z.2 a⟩
  by_cases e : (tryN m f w 64).2 = -1
  · exact Or.inl ⟨e, fun v hv => (low v hv).1 e⟩
  · rcases h1 with z | z
    · exact absurd z e
    · exact Or.inr ⟨e, z.2, fun v hv => (low v hv).2⟩
