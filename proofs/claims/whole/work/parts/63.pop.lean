/-! The bit count. (wb_ rows: begun with the kit's page of bits.) -/
theorem wb_tb (n : Nat) : (lN n).toBitVec = BitVec.ofNat 64 n := rfl
theorem wb_inj {a b : Int64} (h : a.toBitVec = b.toBitVec) : a = b := Int64.toBitVec_inj.mp h
theorem wb_tn {n : Nat} (h : n < 2 ^ 64) : (lN n).toBitVec.toNat = n := by rw [wb_tb, BitVec.toNat_ofNat, Nat.mod_eq_of_lt h]
theorem wb_of (x : Int64) : ∃ n, n < 2 ^ 64 ∧ x = lN n := ⟨x.toBitVec.toNat, x.toBitVec.isLt, wb_inj (by rw [wb_tb]; simp)⟩
theorem wb_of32 (x : Int32) : ∃ n, n < 2 ^ 32 ∧ x = nI n := ⟨x.toBitVec.toNat, x.toBitVec.isLt, Int32.toBitVec_inj.mp (by show _ = BitVec.ofNat 32 _; simp)⟩
theorem wb_c : ∀ k, k < 64 → ((nI k).toInt64 &&& 63) = lN k := by decide +kernel
theorem wb_cu : ∀ k, k < 64 → ((nI k).toInt64.toUInt64 &&& Int64.toUInt64 63) = UInt64.ofNat k := by decide +kernel
theorem wb_sm : ∀ k, k < 64 → (BitVec.ofNat 64 k).smod 64 = BitVec.ofNat 64 k := by decide +kernel
theorem wb_pw {a b : Nat} (h : a ≤ b) : 2 ^ b = 2 ^ a * 2 ^ (b - a) := by rw [← Nat.pow_add]; congr 1; omega
theorem wb_lt2 {a b : Nat} (h : a < b) : 2 ^ a < 2 ^ b := Nat.pow_lt_pow_right (by decide) h
theorem wb_mod (n : Nat) : lN n = lN (n % 2 ^ 64) := wb_inj (by rw [wb_tb, wb_tb]; apply BitVec.eq_of_toNat_eq; rw [BitVec.toNat_ofNat, BitVec.toNat_ofNat, Nat.mod_mod])
theorem wb_shr {n k : Nat} (hn : n < 2 ^ 64) (hk : k < 64) : ((lN n).toUInt64 >>> ((nI k).toInt64.toUInt64 &&& Int64.toUInt64 63)).toInt64 = lN (n / 2 ^ k) := by
  rw [wb_cu k hk]
  apply wb_inj
  apply BitVec.eq_of_toNat_eq
  show ((lN n).toUInt64 >>> UInt64.ofNat k).toNat = (BitVec.ofNat 64 _).toNat
  have h1 : (UInt64.ofNat k).toNat = k := by
    show (BitVec.ofNat 64 k).toNat = k
    rw [BitVec.toNat_ofNat, Nat.mod_eq_of_lt (by omega)]
  have h2 : (lN n).toUInt64.toNat = n := wb_tn hn
  rw [UInt64.toNat_shiftRight, h1, h2, Nat.mod_eq_of_lt hk, Nat.shiftRight_eq_div_pow, BitVec.toNat_ofNat, Nat.mod_eq_of_lt (Nat.lt_of_le_of_lt (Nat.div_le_self _ _) hn)]
theorem wb_shl (n : Nat) {k : Nat} (hk : k < 64) : lN n <<< ((nI k).toInt64 &&& 63) = lN (n * 2 ^ k) := by
  rw [wb_c k hk]
  apply wb_inj
  rw [Int64.toBitVec_shiftLeft, wb_tb, wb_tb, wb_tb, wb_sm k hk]
  apply BitVec.eq_of_toNat_eq
  rw [BitVec.shiftLeft_eq', BitVec.toNat_shiftLeft, BitVec.toNat_ofNat, BitVec.toNat_ofNat, BitVec.toNat_ofNat, Nat.mod_eq_of_lt (show k < 2 ^ 64 by omega), Nat.shiftLeft_eq, Nat.mul_mod, Nat.mod_mod, ← Nat.mul_mod]
theorem wb_and {a b : Nat} (ha : a < 2 ^ 64) (hb : b < 2 ^ 64) : lN a &&& lN b = lN (a &&& b) := by
  apply wb_inj
  rw [Int64.toBitVec_and, wb_tb, wb_tb, wb_tb]
  apply BitVec.eq_of_toNat_eq
  rw [BitVec.toNat_and, BitVec.toNat_ofNat, BitVec.toNat_ofNat, BitVec.toNat_ofNat, Nat.mod_eq_of_lt ha, Nat.mod_eq_of_lt hb, Nat.mod_eq_of_lt (Nat.and_lt_two_pow _ hb)]
theorem wb_or {a b : Nat} (ha : a < 2 ^ 64) (hb : b < 2 ^ 64) : lN a ||| lN b = lN (a ||| b) := by
  apply wb_inj
  rw [Int64.toBitVec_or, wb_tb, wb_tb, wb_tb]
  apply BitVec.eq_of_toNat_eq
  rw [BitVec.toNat_or, BitVec.toNat_ofNat, BitVec.toNat_ofNat, BitVec.toNat_ofNat, Nat.mod_eq_of_lt ha, Nat.mod_eq_of_lt hb, Nat.mod_eq_of_lt (Nat.or_lt_two_pow ha hb)]
theorem wb_mask {n k : Nat} (hn : n < 2 ^ 64) (hk : k < 64) : lN n &&& lN (2 ^ k - 1) = lN (n % 2 ^ k) := by
  rw [wb_and hn (by have := wb_lt2 hk; omega), Nat.and_two_pow_sub_one_eq_mod]
theorem wb_a1 {n : Nat} (hn : n < 2 ^ 64) : lN n &&& 1 = lN (n % 2) := wb_mask (k := 1) hn (by decide)
theorem wb_bit {n k : Nat} (hn : n < 2 ^ 64) (hk : k < 64) : ((lN n).toUInt64 >>> ((nI k).toInt64.toUInt64 &&& Int64.toUInt64 63)).toInt64 &&& 1 = lN (n / 2 ^ k % 2) := by
  rw [wb_shr hn hk, wb_a1 (Nat.lt_of_le_of_lt (Nat.div_le_self _ _) hn)]

def mmN (m : Nat) : Nat → Nat
  | 0 => 0
  | k + 1 => m + 256 * mmN m k
theorem and_by {a m : Nat} (b M : Nat) (ha : a < 256) (hm : m < 256) : (a + 256 * b) &&& (m + 256 * M) = (a &&& m) + 256 * (b &&& M) := by
  have hl : a &&& m < 256 := Nat.lt_of_le_of_lt Nat.and_le_left ha
  apply Nat.eq_of_testBit_eq
  intro i
  rw [Nat.testBit_and, Nat.add_comm a, Nat.add_comm m, Nat.add_comm (a &&& m)]
  rw [show 256 * b + a = 2 ^ 8 * b + a from rfl, show 256 * M + m = 2 ^ 8 * M + m from rfl, show 256 * (b &&& M) + (a &&& m) = 2 ^ 8 * (b &&& M) + (a &&& m) from rfl]
  rw [Nat.testBit_two_pow_mul_add b ha, Nat.testBit_two_pow_mul_add M hm, Nat.testBit_two_pow_mul_add (b &&& M) hl]
  by_cases h : i < 8
  · rw [if_pos h, if_pos h, if_pos h, Nat.testBit_and]
  · rw [if_neg h, if_neg h, if_neg h, Nat.testBit_and]
def p1N (k n : Nat) : Nat := n - (n / 2 &&& mmN 85 k)
def p2N (k n : Nat) : Nat := (n &&& mmN 51 k) + (n / 4 &&& mmN 51 k)
def p3N (k n : Nat) : Nat := (n + n / 16) &&& mmN 15 k
def v1N (a : Nat) : Nat := a - (a / 2 &&& 85)
def v2N (a : Nat) : Nat := (v1N a &&& 51) + (v1N a / 4 &&& 51)
def v3N (a : Nat) : Nat := (v2N a + v2N a / 16) &&& 15
theorem d_1 : ∀ a, a < 256 → ∀ t, t < 2 → (a / 2 + 128 * t) &&& 85 = a / 2 &&& 85 := by decide +kernel
theorem d_2 : ∀ a, a < 256 → ∀ t, t < 4 → (a / 4 + 64 * t) &&& 51 = a / 4 &&& 51 := by decide +kernel
theorem d_3 : ∀ a, a < 256 → v2N a ≤ 68 ∧ v2N a % 16 ≤ 4 ∧ v1N a < 256 ∧ v3N a ≤ 8 := by decide +kernel
theorem d_4 : ∀ a, a < 256 → ∀ t, t < 5 → (v2N a + v2N a / 16 + 16 * t) &&& 15 = v3N a := by decide +kernel
theorem d_5 : ∀ a, a < 256 → v3N a = fb_ct (fun i => a.testBit i) 8 := by decide +kernel
theorem p1_s {a : Nat} (k b : Nat) (ha : a < 256) : p1N (k + 1) (a + 256 * b) = v1N a + 256 * p1N k b := by
  unfold p1N v1N
  rw [mmN, show (a + 256 * b) / 2 = (a / 2 + 128 * (b % 2)) + 256 * (b / 2) by omega, and_by _ _ (by omega) (by decide), d_1 a ha _ (by omega)]
  have h1 : a / 2 &&& 85 ≤ a / 2 := Nat.and_le_left
  have h2 : b / 2 &&& mmN 85 k ≤ b / 2 := Nat.and_le_left
  omega
theorem p2_s {a : Nat} (k b : Nat) (ha : a < 256) : p2N (k + 1) (a + 256 * b) = ((a &&& 51) + (a / 4 &&& 51)) + 256 * p2N k b := by
  unfold p2N
  rw [mmN, and_by _ _ ha (by decide), show (a + 256 * b) / 4 = (a / 4 + 64 * (b % 4)) + 256 * (b / 4) by omega, and_by _ _ (by omega) (by decide), d_2 a ha _ (by omega)]
  omega
theorem p12_s {a : Nat} (k b : Nat) (ha : a < 256) : p2N (k + 1) (p1N (k + 1) (a + 256 * b)) = v2N a + 256 * p2N k (p1N k b) := by
  rw [p1_s k b ha, p2_s k _ (d_3 a ha).2.2.1]
  rfl
theorem p12_m : ∀ (k n : Nat), n < 256 ^ k → p2N k (p1N k n) % 16 ≤ 4
  | 0, n, h => by
    have : n = 0 := by simpa using h
    subst this
    decide
  | k + 1, n, h => by
    have e : n = n % 256 + 256 * (n / 256) := by omega
    rw [e, p12_s k _ (by omega)]
    have := (d_3 (n % 256) (by omega)).2.1
    omega
theorem p3_s {a : Nat} (k b : Nat) (ha : a < 256) (hb : b < 256 ^ k) : p3N (k + 1) (p2N (k + 1) (p1N (k + 1) (a + 256 * b))) = v3N a + 256 * p3N k (p2N k (p1N k b)) := by
  rw [p12_s k b ha]
  have hm := p12_m k b hb
  have h3 := d_3 a ha
  generalize p2N k (p1N k b) = c at hm ⊢
  unfold p3N
  rw [mmN, show v2N a + 256 * c + (v2N a + 256 * c) / 16 = (v2N a + v2N a / 16 + 16 * (c % 16)) + 256 * (c + c / 16) by omega, and_by _ _ (by omega) (by decide), d_4 a ha _ (by omega)]
def wbN : Nat → Nat → Nat
  | 0, _ => 0
  | k + 1, n => v3N (n % 256) + 256 * wbN k (n / 256)
theorem p3_w : ∀ (k n : Nat), n < 256 ^ k → p3N k (p2N k (p1N k n)) = wbN k n
  | 0, n, h => by
    have : n = 0 := by simpa using h
    subst this
    decide
  | k + 1, n, h => by
    have e : n = n % 256 + 256 * (n / 256) := by omega
    have hb : n / 256 < 256 ^ k := by
      rw [Nat.pow_succ] at h
      omega
    rw [wbN, ← p3_w k _ hb]
    conv => lhs; rw [e]
    exact p3_s k _ (by omega) hb
theorem ct_w : ∀ (k n : Nat), fb_ct (fun i => n.testBit i) (8 * (k + 1)) = v3N (n % 256) + fb_ct (fun i => (n / 256).testBit i) (8 * k) := by
  intro k n
  rw [show 8 * (k + 1) = 8 + 8 * k by omega, fb_ct_split, d_5 _ (by omega)]
  congr 1
  · refine fb_ct_cong (fun i hi => ?_)
    show n.testBit i = (n % 2 ^ 8).testBit i
    rw [Nat.testBit_mod_two_pow]
    simp [hi]
  · refine fb_ct_cong (fun i hi => ?_)
    show n.testBit (8 + i) = (n / 2 ^ 8).testBit i
    rw [Nat.testBit_div_two_pow]
    congr 1; omega
theorem pop8 {a0 a1 a2 a3 a4 a5 a6 a7 y z u : Nat} (b0 : a0 ≤ 8) (b1 : a1 ≤ 8) (b2 : a2 ≤ 8) (b3 : a3 ≤ 8) (b4 : a4 ≤ 8) (b5 : a5 ≤ 8) (b6 : a6 ≤ 8) (b7 : a7 ≤ 8) (hy : y = (a0) + 256 * (a1) + 65536 * (a2) + 16777216 * (a3) + 4294967296 * (a4) + 1099511627776 * (a5) + 281474976710656 * (a6) + 72057594037927936 * (a7)) (hz : z = y + y / 256) (hu : u = z + z / 65536) : (u + u / 4294967296) % 128 = a0 + a1 + a2 + a3 + a4 + a5 + a6 + a7 := by
  have z2 : z = (a0 + a1) + 256 * (a1 + a2) + 65536 * (a2 + a3) + 16777216 * (a3 + a4) + 4294967296 * (a4 + a5) + 1099511627776 * (a5 + a6) + 281474976710656 * (a6 + a7) + 72057594037927936 * (a7) := by omega
  clear hz hy
  have u2 : u = (a0 + a1 + (a2 + a3)) + 256 * (a1 + a2 + (a3 + a4)) + 65536 * (a2 + a3 + (a4 + a5)) + 16777216 * (a3 + a4 + (a5 + a6)) + 4294967296 * (a4 + a5 + (a6 + a7)) + 1099511627776 * (a5 + a6 + (a7)) + 281474976710656 * (a6 + a7) + 72057594037927936 * (a7) := by omega
  clear hu z2
  have h3 : u / 4294967296 = (a4 + a5 + (a6 + a7)) + 256 * (a5 + a6 + (a7)) + 65536 * (a6 + a7) + 16777216 * (a7) := by omega
  rw [h3, u2]
  clear h3 u2
  omega
theorem nat_pop {n : Nat} (hn : n < 2 ^ 64) : p3N 8 (p2N 8 (p1N 8 n)) < 2 ^ 60 ∧ ∀ z u, z = p3N 8 (p2N 8 (p1N 8 n)) + p3N 8 (p2N 8 (p1N 8 n)) / 256 → u = z + z / 65536 → (u + u / 4294967296) % 128 = fb_ct (fun i => n.testBit i) 64 := by
  have e := p3_w 8 n hn
  rw [e]
  have c7 := ct_w 7 n
  have c6 := ct_w 6 (n / 256)
  have c5 := ct_w 5 (n / 256 / 256)
  have c4 := ct_w 4 (n / 256 / 256 / 256)
  have c3 := ct_w 3 (n / 256 / 256 / 256 / 256)
  have c2 := ct_w 2 (n / 256 / 256 / 256 / 256 / 256)
  have c1 := ct_w 1 (n / 256 / 256 / 256 / 256 / 256 / 256)
  have c0 := ct_w 0 (n / 256 / 256 / 256 / 256 / 256 / 256 / 256)
  have z0 : fb_ct (fun i => (n / 256 / 256 / 256 / 256 / 256 / 256 / 256 / 256).testBit i) (8 * 0) = 0 := rfl
  rw [z0] at c0
  have w : wbN 8 n = v3N (n % 256) + 256 * (v3N (n / 256 % 256) + 256 * (v3N (n / 256 / 256 % 256) + 256 * (v3N (n / 256 / 256 / 256 % 256) + 256 * (v3N (n / 256 / 256 / 256 / 256 % 256) + 256 * (v3N (n / 256 / 256 / 256 / 256 / 256 % 256) + 256 * (v3N (n / 256 / 256 / 256 / 256 / 256 / 256 % 256) + 256 * (v3N (n / 256 / 256 / 256 / 256 / 256 / 256 / 256 % 256) + 256 * 0))))))) := rfl
  have b0 := (d_3 (n % 256) (by omega)).2.2.2
  have b1 := (d_3 (n / 256 % 256) (by omega)).2.2.2
  have b2 := (d_3 (n / 256 / 256 % 256) (by omega)).2.2.2
  have b3 := (d_3 (n / 256 / 256 / 256 % 256) (by omega)).2.2.2
  have b4 := (d_3 (n / 256 / 256 / 256 / 256 % 256) (by omega)).2.2.2
  have b5 := (d_3 (n / 256 / 256 / 256 / 256 / 256 % 256) (by omega)).2.2.2
  have b6 := (d_3 (n / 256 / 256 / 256 / 256 / 256 / 256 % 256) (by omega)).2.2.2
  have b7 := (d_3 (n / 256 / 256 / 256 / 256 / 256 / 256 / 256 % 256) (by omega)).2.2.2
  generalize v3N (n % 256) = a0 at *
  generalize v3N (n / 256 % 256) = a1 at *
  generalize v3N (n / 256 / 256 % 256) = a2 at *
  generalize v3N (n / 256 / 256 / 256 % 256) = a3 at *
  generalize v3N (n / 256 / 256 / 256 / 256 % 256) = a4 at *
  generalize v3N (n / 256 / 256 / 256 / 256 / 256 % 256) = a5 at *
  generalize v3N (n / 256 / 256 / 256 / 256 / 256 / 256 % 256) = a6 at *
  generalize v3N (n / 256 / 256 / 256 / 256 / 256 / 256 / 256 % 256) = a7 at *
  have tot : fb_ct (fun i => n.testBit i) 64 = a0 + a1 + a2 + a3 + a4 + a5 + a6 + a7 := by
    rw [show (64 : Nat) = 8 * (7 + 1) from rfl, c7, c6, c5, c4, c3, c2, c1, c0]; omega
  rw [tot, w]
  have hy : a0 + 256 * (a1 + 256 * (a2 + 256 * (a3 + 256 * (a4 + 256 * (a5 + 256 * (a6 + 256 * (a7 + 256 * 0))))))) = (a0) + 256 * (a1) + 65536 * (a2) + 16777216 * (a3) + 4294967296 * (a4) + 1099511627776 * (a5) + 281474976710656 * (a6) + 72057594037927936 * (a7) := by omega
  rw [hy]
  exact ⟨by omega, fun z u hz hu => pop8 b0 b1 b2 b3 b4 b5 b6 b7 rfl hz hu⟩
theorem nx_and9 (a b : Nat) : nI a &&& nI b = nI (a &&& b) := by
  apply Int32.toBitVec_inj.mp
  rw [Int32.toBitVec_and]
  show BitVec.ofNat 32 a &&& BitVec.ofNat 32 b = BitVec.ofNat 32 (a &&& b)
  apply BitVec.eq_of_toNat_eq
  rw [BitVec.toNat_and, BitVec.toNat_ofNat, BitVec.toNat_ofNat, BitVec.toNat_ofNat, Nat.and_mod_two_pow]
theorem srl_lN {n k : Nat} (hn : n < 2 ^ 64) (hk : k < 64) : srl (lN n) (nI k) = lN (n / 2 ^ k) := wb_shr hn hk
theorem pc_lN {n : Nat} (hn : n < 2 ^ 64) : pcJ (lN n) = nI (fb_ct (fun i => n.testBit i) 64) := by
  obtain ⟨hb, hp⟩ := nat_pop hn
  have e1 : pc1 (lN n) = lN (p1N 8 n) := by
    unfold pc1 p1N
    have hle : n / 2 &&& mmN 85 8 ≤ n := Nat.le_trans Nat.and_le_left (Nat.div_le_self _ _)
    rw [show srl (lN n) 1 = lN (n / 2 ^ 1) from srl_lN (k := 1) hn (by decide), show (6148914691236517205 : Int64) = lN (mmN 85 8) from by decide +kernel, wb_and (by omega) (by decide), lN_sub hle]
  have h1 : p1N 8 n < 2 ^ 64 := by unfold p1N; omega
  have e2 : pc2 (lN (p1N 8 n)) = lN (p2N 8 (p1N 8 n)) := by
    unfold pc2 p2N
    rw [show srl (lN (p1N 8 n)) 2 = lN (p1N 8 n / 2 ^ 2) from srl_lN (k := 2) h1 (by decide), show (3689348814741910323 : Int64) = lN (mmN 51 8) from by decide +kernel, wb_and h1 (by decide), wb_and (by omega) (by decide), lN_add]
  have h2 : p2N 8 (p1N 8 n) < 2 ^ 64 := by
    unfold p2N
    have a1 : p1N 8 n &&& mmN 51 8 ≤ mmN 51 8 := Nat.and_le_right
    have a2 : p1N 8 n / 4 &&& mmN 51 8 ≤ mmN 51 8 := Nat.and_le_right
    have a3 : mmN 51 8 = 3689348814741910323 := by decide +kernel
    omega
  have h2b : p2N 8 (p1N 8 n) ≤ 2 * 3689348814741910323 := by
    unfold p2N
    have a1 : p1N 8 n &&& mmN 51 8 ≤ mmN 51 8 := Nat.and_le_right
    have a2 : p1N 8 n / 4 &&& mmN 51 8 ≤ mmN 51 8 := Nat.and_le_right
    have a3 : mmN 51 8 = 3689348814741910323 := by decide +kernel
    omega
  have e3 : pc3 (lN (p2N 8 (p1N 8 n))) = lN (p3N 8 (p2N 8 (p1N 8 n))) := by
    unfold pc3 p3N
    rw [show srl (lN (p2N 8 (p1N 8 n))) 4 = lN (p2N 8 (p1N 8 n) / 2 ^ 4) from srl_lN (k := 4) h2 (by decide), show (1085102592571150095 : Int64) = lN (mmN 15 8) from by decide +kernel, lN_add, wb_and (by omega) (by decide)]
  generalize hy : p3N 8 (p2N 8 (p1N 8 n)) = y at hb hp e3
  have q4 : ∀ {k m : Nat}, k < 64 → m < 2 ^ 64 → pc4 (nI k) (lN m) = lN (m + m / 2 ^ k) := fun hk hm => by
    unfold pc4
    rw [srl_lN hm hk, lN_add]
  unfold pcJ
  rw [e1, e2, e3, show pc4 8 (lN y) = lN (y + y / 2 ^ 8) from q4 (k := 8) (by decide) (by omega), show pc4 16 (lN (y + y / 2 ^ 8)) = lN (y + y / 2 ^ 8 + (y + y / 2 ^ 8) / 2 ^ 16) from q4 (k := 16) (by decide) (by omega),
    show pc4 32 (lN (y + y / 2 ^ 8 + (y + y / 2 ^ 8) / 2 ^ 16)) = lN (y + y / 2 ^ 8 + (y + y / 2 ^ 8) / 2 ^ 16 + (y + y / 2 ^ 8 + (y + y / 2 ^ 8) / 2 ^ 16) / 2 ^ 32) from q4 (k := 32) (by decide) (by omega), lN_i]
  rw [← hp _ _ rfl rfl]
  show nI _ &&& nI 127 = nI _
  rw [nx_and9]
  congr 1
  exact Nat.and_two_pow_sub_one_eq_mod _ 7
theorem tb_lN {n i : Nat} (hi : i < 64) : tb (lN n) i = n.testBit i := by
  unfold tb
  rw [wb_tb, BitVec.getLsbD_ofNat]
  simp [hi]
/-- the bit count counts -/
theorem pcJ_cnt {x : Int64} : pcJ x = nI (fb_ct (tb x) 64) := by
  obtain ⟨n, hn, rfl⟩ := wb_of x
  rw [pc_lN hn]
  exact congrArg nI (fb_ct_cong (fun i hi => (tb_lN hi).symm))
