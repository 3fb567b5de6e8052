/-! Bits of 64-bit sets. -/
def tb (x : Int64) (i : Nat) : Bool := x.toBitVec.getLsbD i
theorem tb_ext {x y : Int64} (h : ∀ i, i < 64 → tb x i = tb y i) : x = y := by
  rw [← Int64.toBitVec_inj]
  exact BitVec.eq_of_getLsbD_eq (fun i hi => h i hi)
theorem tb_or (x y : Int64) (i : Nat) : tb (x ||| y) i = (tb x i || tb y i) := by unfold tb; rw [Int64.toBitVec_or, BitVec.getLsbD_or]
theorem tb_and (x y : Int64) (i : Nat) : tb (x &&& y) i = (tb x i && tb y i) := by unfold tb; rw [Int64.toBitVec_and, BitVec.getLsbD_and]
theorem tb_xor (x y : Int64) (i : Nat) : tb (x ^^^ y) i = (tb x i ^^ tb y i) := by unfold tb; rw [Int64.toBitVec_xor, BitVec.getLsbD_xor]
theorem tb_big {x : Int64} {i : Nat} (h : 64 ≤ i) : tb x i = false := BitVec.getLsbD_of_ge _ _ h
theorem tb_m1 : ∀ i, i < 64 → tb (-1) i = true := by decide +kernel
theorem tb_0 (i : Nat) : tb 0 i = false := by
  rcases Nat.lt_or_ge i 64 with h | h
  · exact (by decide +kernel : ∀ i, i < 64 → tb 0 i = false) i h
  · exact tb_big h
theorem tb_not (x : Int64) {i : Nat} (h : i < 64) : tb (x ^^^ (-1)) i = !tb x i := by rw [tb_xor, tb_m1 i h, Bool.xor_true]
theorem sl64 : ∀ n, n < 64 → (((nI n).toInt64 &&& 63).toBitVec.smod 64).toNat = n := by decide +kernel
theorem su64 : ∀ n, n < 64 → (((nI n).toInt64.toUInt64 &&& Int64.toUInt64 63).toBitVec % 64).toNat = n := by decide +kernel
theorem tb_shl (n : Nat) (hn : n < 64) (x : Int64) {i : Nat} (hi : i < 64) : tb (x <<< ((nI n).toInt64 &&& 63)) i = (decide (n ≤ i) && tb x (i - n)) := by
  unfold tb
  rw [Int64.toBitVec_shiftLeft]
  show (x.toBitVec <<< (((nI n).toInt64 &&& 63).toBitVec.smod 64).toNat).getLsbD i = _
  rw [sl64 n hn, BitVec.getLsbD_shiftLeft]
  rcases Nat.lt_or_ge i n with h | h
  · simp [h, Nat.not_le.mpr h]
  · simp [hi, h, Nat.not_lt.mpr h]
theorem tb_srl (n : Nat) (hn : n < 64) (x : Int64) (i : Nat) : tb (srl x (nI n)) i = tb x (n + i) := by
  show (x.toUInt64 >>> ((nI n).toInt64.toUInt64 &&& Int64.toUInt64 63)).toBitVec.getLsbD i = x.toUInt64.toBitVec.getLsbD (n + i)
  rw [UInt64.toBitVec_shiftRight]
  show (x.toUInt64.toBitVec >>> (((nI n).toInt64.toUInt64 &&& Int64.toUInt64 63).toBitVec % 64).toNat).getLsbD i = _
  rw [su64 n hn, BitVec.getLsbD_ushiftRight]
theorem bitJ_tp : ∀ k, k < 64 → (bitJ (nI k)).toBitVec = BitVec.twoPow 64 k := by decide +kernel
theorem tb_bitJ {k i : Nat} (hk : k < 64) (hi : i < 64) : tb (bitJ (nI k)) i = decide (i = k) := by
  unfold tb
  rw [bitJ_tp k hk, BitVec.getLsbD_twoPow]
  by_cases e : i = k
  · subst e; simp [hk]
  · simp [e, show ¬ k = i from fun q => e q.symm]
theorem tb_one (i : Nat) : tb 1 i = decide (i = 0) := by
  rcases Nat.lt_or_ge i 64 with h | h
  · exact (by decide +kernel : ∀ i, i < 64 → tb 1 i = decide (i = 0)) i h
  · rw [tb_big h, decide_eq_false (by omega)]
theorem inJ_iff {b : Int64} {c : Nat} (hc : c < 64) : inJ b (nI c) ↔ tb b c = true := by
  have e0 : tb (srl b (nI c) &&& 1) 0 = tb b c := by
    rw [tb_and, tb_srl c hc, tb_one, decide_eq_true rfl, Bool.and_true, Nat.add_zero]
  constructor
  · intro h
    by_cases e : tb b c = true
    · exact e
    · exact absurd (tb_ext (x := srl b (nI c) &&& 1) (y := 0) (fun i hi => by
        rw [tb_0]
        by_cases h0 : i = 0
        · subst h0; rw [e0]; exact Bool.eq_false_iff.mpr e
        · rw [tb_and, tb_one, decide_eq_false h0, Bool.and_false])) h
  · intro h q
    have z : tb (srl b (nI c) &&& 1) 0 = tb 0 0 := congrArg (fun w => tb w 0) q
    rw [e0, h, tb_0] at z
    cases z
theorem ninJ {b : Int64} {c : Nat} (hc : c < 64) : ¬ inJ b (nI c) ↔ tb b c = false := by rw [inJ_iff hc, Bool.eq_false_iff]
/-- the bits of a level -/
theorem tb_lev {f : Nat → Int32} {v : Int32} : ∀ k, k ≤ 64 → ∀ i, i < 64 → tb (levN f v k) i = decide (i < k ∧ v ≤ f i)
  | 0, _, i, hi => by
    rw [levN, tb_0, decide_eq_false (by omega)]
  | k + 1, hk, i, hi => by
    rw [levN]
    have z := tb_lev (f := f) (v := v) k (by omega) i hi
    by_cases e : v ≤ f k
    · rw [if_pos e, tb_or, z, tb_bitJ (by omega) hi]
      by_cases e2 : i = k
      · subst e2; simp [e]
      · simp [e2, show (i < k + 1) = (i < k) from propext ⟨fun q => by omega, fun q => by omega⟩]
    · rw [if_neg e, z]
      by_cases e2 : i = k
      · subst e2; simp [e]
      · simp [show (i < k + 1) = (i < k) from propext ⟨fun q => by omega, fun q => by omega⟩]
theorem tb_lev64 {f : Nat → Int32} {v : Int32} {i : Nat} (hi : i < 64) : tb (levN f v 64) i = decide (v ≤ f i) := by rw [tb_lev 64 (Nat.le_refl _) i hi]; simp [hi]
theorem tb_open {r f : Nat → Int32} {v : Int32} : ∀ k, k ≤ 64 → ∀ i, i < 64 → tb (openL r f v k) i = decide (i < k ∧ ¬ r i = 35 ∧ f i ≤ v)
  | 0, _, i, hi => by
    rw [openL, tb_0, decide_eq_false (by omega)]
  | k + 1, hk, i, hi => by
    rw [openL]
    have z := tb_open (r := r) (f := f) (v := v) k (by omega) i hi
    by_cases e : ¬ r k = 35 ∧ f k ≤ v
    · rw [if_pos e, tb_or, z, tb_bitJ (by omega) hi]
      by_cases e2 : i = k
      · subst e2; simp [e.1, e.2]
      · simp [e2, show (i < k + 1) = (i < k) from propext ⟨fun q => by omega, fun q => by omega⟩]
    · rw [if_neg e, z]
      by_cases e2 : i = k
      · subst e2
        rw [decide_eq_false (fun q => absurd q.1 (Nat.lt_irrefl _)), decide_eq_false (fun q => e q.2)]
      · simp [show (i < k + 1) = (i < k) from propext ⟨fun q => by omega, fun q => by omega⟩]
theorem cb_lev {m f : Nat → Int32} {v : Int32} : ∀ k, (∀ i, i < k → m i = f i) → cbN m v k = levN f v k
  | 0, _ => rfl
  | k + 1, h => by
    rw [cbN, levN, cb_lev k (fun i hi => h i (by omega)), h k (by omega)]
    by_cases e : v ≤ f k
    · rw [if_pos e, if_pos e]
    · rw [if_neg e, if_neg e]
      exact tb_ext (fun i hi => by rw [tb_or, tb_0, Bool.or_false])
