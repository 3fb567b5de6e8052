/-! Entries of the heap: a value and a cell. -/
theorem lN_I63 {n : Nat} (h : n < 2 ^ 63) : (lN n).toInt = (n : Int) := Int64.toInt_ofNat_of_lt h
theorem v_lN {v : Int32} (hv : 0 ≤ v) : v.toInt64 = lN v.toInt.toNat := by
  have h0 : 0 ≤ v.toInt := Int32.le_iff_toInt_le.mp hv
  have h1 := fb_rng v
  rw [← Int64.toInt_inj, Int32.toInt_toInt64, lN_I63 (by omega)]
  omega
theorem ent_lN {v : Int32} {c : Nat} (hv : 0 ≤ v) (hc : c < 64) : ent v c = lN (2 ^ 6 * v.toInt.toNat + c) := by
  have h1 := fb_rng v
  refine tb_ext (fun i hi => ?_)
  unfold ent
  rw [tb_or, v_lN hv, show (6 : Int32) = nI 6 from rfl, tb_shl 6 (by decide) _ hi, ← i2l_nI c (by omega), show Int64.ofNat c = lN c from rfl, tb_lN hi, tb_lN hi, Nat.testBit_two_pow_mul_add _ (show c < 2 ^ 6 by omega)]
  by_cases h : i < 6
  · rw [if_pos h, decide_eq_false (by omega), Bool.false_and, Bool.false_or]
  · rw [if_neg h, decide_eq_true (by omega), tb_lN (by omega), Bool.true_and, Nat.testBit_lt_two_pow (x := c) (i := i) (Nat.lt_of_lt_of_le (show c < 2 ^ 6 by omega) (Nat.pow_le_pow_right (by omega) (by omega))), Bool.or_false]
theorem ent_I {v : Int32} {c : Nat} (hv : 0 ≤ v) (hc : c < 64) : (ent v c).toInt = 64 * v.toInt + c := by
  have h0 : 0 ≤ v.toInt := Int32.le_iff_toInt_le.mp hv
  have h1 := fb_rng v
  rw [ent_lN hv hc, lN_I63 (by omega)]
  omega
theorem ent_m1 {v : Int32} {c : Nat} (hv : 0 ≤ v) (hc : c < 64) : ¬ ent v c = -1 := fun q => by
  have h0 : 0 ≤ v.toInt := Int32.le_iff_toInt_le.mp hv
  have z := ent_I hv hc
  rw [q] at z
  have y : (-1 : Int64).toInt = -1 := by decide
  omega
theorem ent_c {v : Int32} {c : Nat} (hv : 0 ≤ v) (hc : c < 64) : cN (ent v c) = c := by
  have h1 := fb_rng v
  unfold cN
  rw [ent_lN hv hc, show (63 : Int64) = lN (2 ^ 6 - 1) from rfl, fb_maskL, show (2 ^ 6 * v.toInt.toNat + c) % 2 ^ 6 = c by omega]
  show (BitVec.ofNat 64 c).toNat = c
  rw [BitVec.toNat_ofNat, Nat.mod_eq_of_lt (by omega)]
theorem ent_v {v : Int32} {c : Nat} (hv : 0 ≤ v) (hc : c < 64) : ((ent v c) >>> ((6 : Int32).toInt64 &&& 63)).toInt32 = v := by
  have h0 : 0 ≤ v.toInt := Int32.le_iff_toInt_le.mp hv
  have h1 := fb_rng v
  have e : (ent v c >>> ((6 : Int32).toInt64 &&& 63)).toInt = v.toInt := by
    show ((ent v c).toBitVec.sshiftRight (((6 : Int32).toInt64 &&& 63).toBitVec.smod 64).toNat).toInt = _
    rw [show (((6 : Int32).toInt64 &&& 63).toBitVec.smod 64).toNat = 6 by decide, BitVec.toInt_sshiftRight, Int.shiftRight_eq_div_pow]
    show (ent v c).toInt / 2 ^ 6 = _
    rw [ent_I hv hc]
    omega
  rw [← Int32.toInt_inj, Int64.toInt_toInt32, e, Int.bmod_eq_of_le (by omega) (by omega)]
theorem ent_inj {v w : Int32} {c d : Nat} (hv : 0 ≤ v) (hw : 0 ≤ w) (hc : c < 64) (hd : d < 64) (h : ent v c = ent w d) : c = d := by
  rw [← ent_c hv hc, h, ent_c hw hd]
theorem ent_le {v w : Int32} {c d : Nat} (hv : 0 ≤ v) (hw : 0 ≤ w) (hc : c < 64) (hd : d < 64) (h : ent v c ≤ ent w d) : v ≤ w := by
  rw [Int64.le_iff_toInt_le, ent_I hv hc, ent_I hw hd] at h
  rw [Int32.le_iff_toInt_le]
  omega
