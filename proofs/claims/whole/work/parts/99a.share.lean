/-! The share of a level is a number. -/
theorem n32_64 : ∀ k, k < 65 → vf_n32 (FP.fdiv (FP.i2f (nI k)) 1115684864) := by
  unfold vf_n32
  decide +kernel
/-- .. of every map -/
theorem share_n {m : Nat → Int32} {v : Int32} : vf_n32 (FP.fdiv (FP.i2f (pcJ (levN m v 64))) 1115684864) := by
  rw [pcJ_cnt]
  exact n32_64 _ (Nat.lt_succ_of_le (fb_ct_le _ 64))
