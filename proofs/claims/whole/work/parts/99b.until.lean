/-! Ticks until all is below a level. -/
theorem lev_cong2 {f g : Nat → Int32} {v : Int32} (h : ∀ i, i < 64 → f i = g i) : levN f v 64 = levN g v 64 := lev_congr h
/-- the forecast's heats are the ticked map's -/
theorem tub_eq {m : MS} {mm : Nat → Int32} {v : Int32} (hR : ∀ k, ∀ i, i < 64 → (fcN m k).2.1 i = mtk mm k i) : ∀ j k, tubN m v j k = if tbM mm v j k < k + j then some (tbM mm v j k) else none
  | 0, k => by rw [tubN, tbM, if_neg (by omega)]
  | j + 1, k => by
    rw [tubN, tbM]
    have z : levN (fcN m k).2.1 v 64 = 0 ↔ blN (mtk mm k) v 64 = true := by rw [lev_cong2 (hR k)]; exact lev_bl
    by_cases e : blN (mtk mm k) v 64 = true
    · rw [if_pos (z.mpr e), if_pos e, if_pos (by omega)]
    · rw [if_neg (fun q => e (z.mp q)), if_neg e, tub_eq hR j (k + 1), show k + 1 + j = k + (j + 1) by omega]
theorem fc_R {m : MS} {mm : Nat → Int32} (h : mR m mm) (ho : okM m) : ∀ k, mR (fcN m k) (mtk mm k) ∧ okM (fcN m k)
  | 0 => ⟨h, ho⟩
  | k + 1 => by
    obtain ⟨a, b⟩ := fc_R h ho k
    have z := (ticks_R a b.1 b.2 1).1
    have y := tk_aI b.1 b.2 1
    exact ⟨z, y.1, fun s hs => by rw [show (fcN m (k + 1)).2.2.2.1 = (fcN m k).2.2.2.1 from y.2.1]; exact b.2 s hs⟩
/-- the answers are alike -/
theorem tub_R {m : MS} {mm : Nat → Int32} (h : mR m mm) (ho : okM m) {v : Int32} (j k : Nat) : tubN m v j k = if tbM mm v j k < k + j then some (tbM mm v j k) else none := tub_eq (fun k i hi => (fc_R h ho k).1.he i hi) j k
