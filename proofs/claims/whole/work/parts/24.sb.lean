/-! StringBuilder (by wip/whole/gen/m10.py). -/
theorem nI_sub {a b : Nat} (h : b ≤ a) : nI a - nI b = nI (a - b) := by
  have e : nI a = nI (a - b) + nI b := by rw [nI_add]; congr 1; omega
  rw [e, Int32.add_sub_cancel]
theorem sub_le0 {m c : Nat} (hm : m < 2 ^ 30) (hc : c < 2 ^ 30) : nI m - nI c ≤ 0 ↔ m ≤ c := by
  rcases Nat.le_total c m with h | h
  · rw [nI_sub h, show (0 : Int32) = nI 0 from rfl, nI_le' rfl (by omega) (by omega)]
    omega
  · have e : nI m - nI c = -(nI (c - m)) := by rw [← nI_sub h, Int32.neg_sub]
    rw [e, Int32.le_iff_toInt_le, sb_negT (by omega)]
    show -((c - m : Nat) : Int) ≤ 0 ↔ _
    omega
theorem sbn : ∀ c, c < 256 → vp_nar .byte (sb_b c) = sb_b c := by decide +kernel
theorem sb_cb : ∀ c, c < 256 → ((sb_b c &&& 255).toUInt32 % 65536).toInt32 = nI c := fun c h => by rw [(sb_byte c h).1]; exact (sb_byte c h).2.1
theorem nchr {q : Nat} (h : q < 256) : narrow .char (.int (nI q)) = .int (nI q) := congrArg Value.int (sb_byte q h).2.1
theorem fitU {a : Nat → Int32} {k : Nat} {x : Int32} (h : sb_Fit a) (hx : fits .byte (.int x) = true) : sb_Fit (va_up a k x) := fun j => by
  unfold va_up
  split
  · exact hx
  · exact h j
theorem va_upS {a : Nat → Int32} {k : Nat} {x : Int32} : va_up a k x k = x := if_pos rfl
theorem va_upN {a : Nat → Int32} {k j : Nat} {x : Int32} (h : j ≠ k) : va_up a k x j = a j := if_neg h
theorem dgk {v k : Nat} (hk : k < 9) (h1 : k = 0 ∨ 10 ^ k ≤ v) (h2 : v < 10 ^ (k + 1)) : sb_dg v = k + 1 := by
  have h : k = 0 ∨ k = 1 ∨ k = 2 ∨ k = 3 ∨ k = 4 ∨ k = 5 ∨ k = 6 ∨ k = 7 ∨ k = 8 := by omega
  rcases h with rfl | rfl | rfl | rfl | rfl | rfl | rfl | rfl | rfl <;> simp only [Nat.reducePow, Nat.reduceAdd] at h1 h2 <;> unfold sb_dg <;> (repeat' split) <;> omega
theorem neg10 (k : Nat) : 10 * -nI (10 ^ k) = -nI (10 ^ (k + 1)) := by
  rw [Int32.mul_neg, show (10 : Int32) = nI 10 from rfl, Nat.pow_succ, Nat.mul_comm (10 ^ k) 10]
  exact congrArg _ (Int32.ofNat_mul 10 (10 ^ k)).symm
theorem pow9 {k : Nat} (h : k ≤ 9) : 10 ^ k ≤ 1000000000 := Nat.le_trans (Nat.pow_le_pow_right (by decide) h) (by decide)
/-- a StringBuilder: bytes' cell, capacity, bytes, count, maybeLatin1 -/
abbrev SB : Type := Nat × Nat × (Nat → Int32) × Nat × Int32
def sbO (A : AD) (g : Nat) (B : SB) : Nat × AC := (A 22 g, .inr (11, [.ref B.1, .int 0, .int B.2.2.2.2, .int (nI B.2.2.2.1)]))
abbrev bArr (a n : Nat) (f : Nat → Int32) : Nat × AC := (a, .inl (3, n, .inl f))
def sbd (h : AH) (A : AD) (g : Nat) (B : SB) : AH := fun s g' => if s = 22 ∧ g' = g then some (sbO A g B) else if s = 23 ∧ g' = g then some (bArr B.1 B.2.1 B.2.2.1) else if s = 26 ∧ g' = 0 then none else h s g'
section SBD
variable {h : AH} {A : AD} {g : Nat} {B : SB}
theorem sbd_22 : sbd h A g B 22 g = some (sbO A g B) := by simp [sbd]
theorem sbd_23 : sbd h A g B 23 g = some (bArr B.1 B.2.1 B.2.2.1) := by simp [sbd]
theorem sbd_26 : sbd h A g B 26 0 = none := by simp [sbd]
theorem sbd_lo {s g' : Nat} (hs : s < 22) : sbd h A g B s g' = h s g' := by
  simp only [sbd]
  rw [if_neg (by omega), if_neg (by omega), if_neg (by omega)]
theorem sbd_hi {s g' : Nat} (hs : 26 < s) : sbd h A g B s g' = h s g' := by
  simp only [sbd]
  rw [if_neg (by omega), if_neg (by omega), if_neg (by omega)]
theorem sbd_mid {s g' : Nat} (h1 : 23 < s) (h2 : s < 26) : sbd h A g B s g' = h s g' := by
  simp only [sbd]
  rw [if_neg (by omega), if_neg (by omega), if_neg (by omega)]
theorem sbd_other {s g' : Nat} (hg : g' ≠ g) (h1 : s < 26) : sbd h A g B s g' = h s g' := by
  simp only [sbd]
  rw [if_neg (by omega), if_neg (by omega), if_neg (by omega)]
theorem sbd_o {n : Nat} {ml : Int32} : up (sbd h A g B) 22 g (sbO A g (B.1, B.2.1, B.2.2.1, n, ml)) = sbd h A g (B.1, B.2.1, B.2.2.1, n, ml) := by
  funext s g'
  by_cases e : s = 22 ∧ g' = g
  · obtain ⟨rfl, rfl⟩ := e
    rw [up_same, sbd_22]
  · rw [up_ne _ _ e]
    simp only [sbd, if_neg e]
theorem sbd_b {f : Nat → Int32} : up (sbd h A g B) 23 g (bArr B.1 B.2.1 f) = sbd h A g (B.1, B.2.1, f, B.2.2.2) := by
  funext s g'
  by_cases e : s = 23 ∧ g' = g
  · obtain ⟨rfl, rfl⟩ := e
    rw [up_same, sbd_23]
  · rw [up_ne _ _ e]
    simp only [sbd, if_neg e]
    rfl
/-- new bytes -/
theorem sbd_new {l : Launch} {G : GG} {M : MD} {d kc ks pc : Nat} {P : Post} {L : List (Option Value)} {st : List Value} {a c n : Nat} {f : Nat → Int32} {ml : Int32} (k : Go l G M d kc ks P pc L st (sbd h A g (a, c, f, n, ml))) :
    Go l G M d kc ks P pc L st (up (up (sbd h A g B) 26 0 (bArr a c f)) 22 g (sbO A g (a, c, f, n, ml))) := by
  refine Go.sub (fun s g' => if s = 23 ∧ g' = g then (26, 0) else (s, g')) (fun s g' x q => ?_) (fun s g1 s' g2 x x' q q' e => ?_) k
  · by_cases e : s = 23 ∧ g' = g
    · obtain ⟨rfl, rfl⟩ := e
      rw [sbd_23] at q
      rw [if_pos ⟨rfl, rfl⟩, up_role _ _ _ _ (by decide), up_same]
      exact q
    · rw [if_neg e]
      show up _ _ _ _ s g' = _
      by_cases e2 : s = 22 ∧ g' = g
      · obtain ⟨rfl, rfl⟩ := e2
        rw [sbd_22] at q
        rw [up_same]
        exact q
      · rw [up_ne _ _ e2]
        by_cases e3 : s = 26 ∧ g' = 0
        · obtain ⟨rfl, rfl⟩ := e3
          rw [sbd_26] at q
          cases q
        · rw [up_ne _ _ e3]
          simp only [sbd, if_neg e, if_neg e2, if_neg e3] at q ⊢
          exact q
  · by_cases e1 : s = 23 ∧ g1 = g
    · by_cases e2 : s' = 23 ∧ g2 = g
      · exact ⟨e1.1.trans e2.1.symm, e1.2.trans e2.2.symm⟩
      · rw [if_pos e1, if_neg e2] at e
        cases e
        rw [sbd_26] at q'
        cases q'
    · by_cases e2 : s' = 23 ∧ g2 = g
      · rw [if_neg e1, if_pos e2] at e
        cases e
        rw [sbd_26] at q
        cases q
      · rw [if_neg e1, if_neg e2] at e
        cases e
        exact ⟨rfl, rfl⟩
theorem sbt_22 {a c n : Nat} {f : Nat → Int32} {ml : Int32} : sbd h A g (a, c, f, n, ml) 22 g = some (A 22 g, .inr (11, [.ref a, .int 0, .int ml, .int (nI n)])) := sbd_22
theorem sbt_23 {a c n : Nat} {f : Nat → Int32} {ml : Int32} : sbd h A g (a, c, f, n, ml) 23 g = some (a, .inl (3, c, .inl f)) := sbd_23
end SBD
/-- the capacities -/
def cOk (c : Nat) : Prop := c = 16 ∨ c = 34 ∨ c = 70 ∨ c = 142
def grw (c m : Nat) : Nat := if m ≤ c then c else 2 * c + 2
theorem grw_ok {c m : Nat} (hc : cOk c) (hm : m ≤ 142) : cOk (grw c m) := by
  unfold cOk grw at *
  split <;> omega
theorem grw_ge {c m : Nat} (hm : m ≤ c + 11) (hc : cOk c) : m ≤ grw c m ∧ c ≤ grw c m := by
  unfold cOk grw at *
  split <;> omega
/-- the n letters t stand in B -/
def isTx (B : SB) (t : Nat → Nat) (n : Nat) : Prop := B.2.2.2.1 = n ∧ n ≤ B.2.1 ∧ cOk B.2.1 ∧ sb_Lat t n B.2.2.1 ∧ sb_Fit B.2.2.1
/-- B with more room -/
def isGr (B B' : SB) (m : Nat) : Prop := B'.2.1 = grw B.2.1 m ∧ (∀ k, k < B.2.1 → B'.2.2.1 k = B.2.2.1 k) ∧ sb_Fit B'.2.2.1 ∧ B'.2.2.2 = B.2.2.2

set_option maxRecDepth 100000 in
theorem ev_newLength {l : Launch} {G : GG} (hl : l.stackTraces = false) {h : AH} {c k q : Nat} (hk : k < q) (hc : 0 < c + q) (hq : c + q < 2000000000) :
    Ev l G 11 0 0 mJ8_newLength_cabcc [.int (nI c), .int (nI k), .int (nI q)] h (Rt (some (.int (nI (c + q)))) h) := by
  refine Ev.of hl (by decide) (Nat.le_of_ble_eq_true rfl) ?_
  refine g_iload_n (i := 0) dJ8_newLength_cabcc_0 rfl rfl ?_
  refine g_iload_n (i := 1) dJ8_newLength_cabcc_1 rfl rfl ?_
  refine g_iload_n (i := 2) dJ8_newLength_cabcc_2 rfl rfl ?_
  refine g_max dJ8_newLength_cabcc_3 ml_J8_194 w_static_yJ9_max_7cf53 w_init_java_lang_Math w_code_Math_max (Nat.le_of_ble_eq_true rfl) (Nat.le_of_ble_eq_true rfl) ?_
  rw [if_pos ((lt_nI (a := k) (b := q) rfl (by omega) (by omega)).mpr hk)]
  refine g_iadd dJ8_newLength_cabcc_6 ?_
  rw [nI_add]
  refine g_istore_n (i := 3) dJ8_newLength_cabcc_7 rfl (Nat.le_of_ble_eq_true rfl) ?_
  refine g_iconst (v := 0) dJ8_newLength_cabcc_8 (by decide) ?_
  refine g_iload_n (i := 3) dJ8_newLength_cabcc_9 rfl rfl ?_
  refine g_icmp_ge (tgt := 21) dJ8_newLength_cabcc_10 (by decide) (fun c10 => ?_) (fun c10 => ?_)
  · exact absurd ((nI_le' (a := c + q) (b := 0) rfl (by omega) (by omega)).mp c10) (by omega)
  · refine g_iload_n (i := 3) dJ8_newLength_cabcc_13 rfl rfl ?_
    refine g_ldc dJ8_newLength_cabcc_14 co_J8_200 ?_
    refine g_icmp_gt (tgt := 21) dJ8_newLength_cabcc_16 (by decide) (fun c16 => ?_) (fun c16 => ?_)
    · exact absurd ((lt_nI (a := 2147483639) (b := c + q) rfl (by omega) (by omega)).mp c16) (by omega)
    · refine g_iload_n (i := 3) dJ8_newLength_cabcc_19 rfl rfl ?_
      refine g_iret dJ8_newLength_cabcc_20 rfl rfl ?_
      exact ⟨rfl, rfl⟩

set_option maxRecDepth 100000 in
theorem ev_copyOf {l : Launch} {G : GG} (hl : l.stackTraces = false) {h : AH} {s0 g0 a c q : Nat} {f : Nat → Int32} (hh : h s0 g0 = some (bArr a c f)) (hs : s0 ≠ 26) (hc : c < q) (hq : q ≤ 142) (hf : sb_Fit f) :
    Ev l G 11 1 q mJ7_copyOf_9075b [.ref a, .int (nI q)] h (RtN (fun b => up h 26 0 (bArr b q (va_cpy f (fun _ => 0) 0 0 c)))) := by
  refine Ev.of hl (by decide) (Nat.le_of_ble_eq_true rfl) ?_
  refine g_iload_n (i := 1) dJ7_copyOf_9075b_0 rfl rfl ?_
  refine g_aload_n (i := 0) dJ7_copyOf_9075b_1 rfl rfl ?_
  refine g_alen dJ7_copyOf_9075b_2 hh (by decide) (show Int32.ofNat _ = nI c from rfl) ?_
  refine g_icmp_ne (tgt := 14) dJ7_copyOf_9075b_3 (by decide) (fun c3 => ?_) (fun c3 => ?_)
  · refine g_iload_n (i := 1) dJ7_copyOf_9075b_14 rfl rfl ?_
    refine Go.wid (kc' := 0 + 1) (ks' := 0 + q) (Nat.le_refl _) (by omega) ?_
    refine g_newa (atype := .byte) (N := q) (t := 3) (s0 := 26) (g0 := 0) (a0 := (q, .inl (fun _ => 0))) dJ7_copyOf_9075b_15 w_arr_byte (by decide) rfl (fun _ => rfl) (ix_nI (by omega)) (by show q * 1 ≤ 536870912; omega) (fun _ _ h9 => h9) (fun a9 => ?_)
    refine g_astore_n (i := 2) dJ7_copyOf_9075b_17 rfl (Nat.le_of_ble_eq_true rfl) ?_
    refine g_aload_n (i := 0) dJ7_copyOf_9075b_18 rfl rfl ?_
    refine g_iconst (v := 0) dJ7_copyOf_9075b_19 (by decide) ?_
    refine g_aload_n (i := 2) dJ7_copyOf_9075b_20 rfl rfl ?_
    refine g_iconst (v := 0) dJ7_copyOf_9075b_21 (by decide) ?_
    refine g_aload_n (i := 0) dJ7_copyOf_9075b_22 rfl rfl ?_
    refine g_alen dJ7_copyOf_9075b_23 ((up_role _ _ _ _ hs).trans hh) (by decide) (show Int32.ofNat _ = nI c from rfl) ?_
    refine g_iload_n (i := 1) dJ7_copyOf_9075b_24 rfl rfl ?_
    refine g_min dJ7_copyOf_9075b_25 ml_J7_304 w_static_yJ9_min_7cf53 w_init_java_lang_Math w_code_Math_min (Nat.le_of_ble_eq_true rfl) (Nat.le_of_ble_eq_true rfl) ?_
    rw [if_neg (fun z => absurd ((lt_nI (a := q) (b := c) rfl (by omega) (by omega)).mp z) (by omega))]
    refine g_copyi (t1 := 0) dJ7_copyOf_9075b_28 ml_J7_150 w_native_arraycopyName w_static_arraycopyName w_init_java_lang_System (Nat.le_of_ble_eq_true rfl) (by decide) (by decide) rfl ((up_role _ _ _ _ hs).trans hh) (up_same _ _ _ _) (ix_nI (j := 0) (by decide)) (ix_nI (j := 0) (by decide)) (ix_nI (j := c) (by omega)) (by omega) (by omega) (fun i _ => by rw [Nat.zero_add]; exact hf i) (Go.heap (up_up _ _ _ _ _) ?_)
    refine g_aload_n (i := 2) dJ7_copyOf_9075b_31 rfl rfl ?_
    refine g_aret dJ7_copyOf_9075b_32 rfl (Or.inr ⟨_, rfl⟩) ?_
    exact ⟨_, rfl, rfl⟩
  · exact absurd ((nI_inj (a := q) (b := c) (by omega) (by omega)).mp c3) (by omega)

set_option maxRecDepth 100000 in
theorem ev_isLatin1 {l : Launch} {G : GG} (hl : l.stackTraces = false) {A : AD} {g : Nat} {h : AH} {B : SB} :
    Ev l G 10 0 0 mJ5_isLatin1_aae02 [.ref (A 22 g)] (sbd h A g B) (Rt (some (.int 1)) (sbd h A g B)) := by
  refine Ev.of hl (by decide) (Nat.le_of_ble_eq_true rfl) ?_
  refine g_compact dJ5_isLatin1_aae02_0 fl_J5_18 ?_
  refine g_if_eq (tgt := 17) dJ5_isLatin1_aae02_3 (by decide) (fun c3 => ?_) (fun c3 => ?_)
  · exact absurd c3 (by decide)
  · refine g_aload_n (i := 0) dJ5_isLatin1_aae02_6 rfl rfl ?_
    refine g_getf dJ5_isLatin1_aae02_7 K_J4 (k := 1) fl_J5_22 (Nat.le_of_ble_eq_true rfl) sbd_22 rfl ?_
    refine g_if_ne (tgt := 17) dJ5_isLatin1_aae02_10 (by decide) (fun c10 => ?_) (fun c10 => ?_)
    · exact absurd rfl c10
    · refine g_iconst (v := 1) dJ5_isLatin1_aae02_13 (by decide) ?_
      refine g_goto (tgt := 18) dJ5_isLatin1_aae02_14 (by decide) ?_
      refine g_iret dJ5_isLatin1_aae02_18 rfl rfl ?_
      exact ⟨rfl, rfl⟩

set_option maxRecDepth 100000 in
theorem ev_canEncode {l : Launch} {G : GG} (hl : l.stackTraces = false) {h : AH} {q : Nat} (hq : q < 256) :
    Ev l G 10 0 0 mJ1_canEncode_fc78d [.int (nI q)] h (Rt (some (.int 1)) h) := by
  refine Ev.of hl (by decide) (Nat.le_of_ble_eq_true rfl) ?_
  refine g_iload_n (i := 0) dJ1_canEncode_fc78d_0 rfl rfl ?_
  refine g_sipush (v := 255) dJ1_canEncode_fc78d_1 (by decide) ?_
  refine g_icmp_gt (tgt := 11) dJ1_canEncode_fc78d_4 (by decide) (fun c4 => ?_) (fun c4 => ?_)
  · exact absurd ((lt_nI (a := 255) (b := q) rfl (by omega) (by omega)).mp c4) (by omega)
  · refine g_iconst (v := 1) dJ1_canEncode_fc78d_7 (by decide) ?_
    refine g_goto (tgt := 12) dJ1_canEncode_fc78d_8 (by decide) ?_
    refine g_iret dJ1_canEncode_fc78d_12 rfl rfl ?_
    exact ⟨rfl, rfl⟩

set_option maxRecDepth 100000 in
theorem ev_newCapacity {l : Launch} {G : GG} (hl : l.stackTraces = false) {A : AD} {g : Nat} {h : AH} {a c n q : Nat} {f : Nat → Int32} {ml : Int32} (hc : c < q) (hq : q ≤ c + 11) (h16 : 16 ≤ c) (h70 : c ≤ 70) :
    Ev l G 12 0 0 mJ5_newCapacity_0f7a4 [.ref (A 22 g), .int (nI q)] (sbd h A g (a, c, f, n, ml)) (Rt (some (.int (nI (2 * c + 2)))) (sbd h A g (a, c, f, n, ml))) := by
  refine Ev.of hl (by decide) (Nat.le_of_ble_eq_true rfl) ?_
  refine g_aload_n (i := 0) dJ5_newCapacity_0f7a4_0 rfl rfl ?_
  refine g_getf dJ5_newCapacity_0f7a4_1 K_J4 (k := 0) fl_J5_15 (Nat.le_of_ble_eq_true rfl) sbt_22 rfl ?_
  refine g_alen dJ5_newCapacity_0f7a4_4 sbt_23 (by decide) (show Int32.ofNat _ = nI c from rfl) ?_
  refine g_istore_n (i := 2) dJ5_newCapacity_0f7a4_5 rfl (Nat.le_of_ble_eq_true rfl) ?_
  refine g_iload_n (i := 1) dJ5_newCapacity_0f7a4_6 rfl rfl ?_
  refine g_aload_n (i := 0) dJ5_newCapacity_0f7a4_7 rfl rfl ?_
  refine g_getf dJ5_newCapacity_0f7a4_8 K_J4 (k := 1) fl_J5_22 (Nat.le_of_ble_eq_true rfl) sbt_22 rfl ?_
  refine g_ishl dJ5_newCapacity_0f7a4_11 ?_
  rw [sb_shl0]
  refine g_istore_n (i := 3) dJ5_newCapacity_0f7a4_12 rfl (Nat.le_of_ble_eq_true rfl) ?_
  refine g_iload_n (i := 3) dJ5_newCapacity_0f7a4_13 rfl rfl ?_
  refine g_iload_n (i := 2) dJ5_newCapacity_0f7a4_14 rfl rfl ?_
  refine g_isub dJ5_newCapacity_0f7a4_15 ?_
  rw [nI_sub (by omega)]
  refine g_istore dJ5_newCapacity_0f7a4_16 (Nat.le_of_ble_eq_true rfl) ?_
  refine g_iload_n (i := 2) dJ5_newCapacity_0f7a4_18 rfl rfl ?_
  refine g_iload dJ5_newCapacity_0f7a4_19 rfl ?_
  refine g_iload_n (i := 2) dJ5_newCapacity_0f7a4_21 rfl rfl ?_
  refine g_iconst (v := 2) dJ5_newCapacity_0f7a4_22 (by decide) ?_
  refine g_aload_n (i := 0) dJ5_newCapacity_0f7a4_23 rfl rfl ?_
  refine g_getf dJ5_newCapacity_0f7a4_24 K_J4 (k := 1) fl_J5_22 (Nat.le_of_ble_eq_true rfl) sbt_22 rfl ?_
  refine g_ishl dJ5_newCapacity_0f7a4_27 ?_
  rw [sb_shl0]
  refine g_iadd dJ5_newCapacity_0f7a4_28 ?_
  rw [show nI c + 2 = nI (c + 2) from nI_add c 2]
  refine g_callS (ev_newLength hl (c := c) (k := q - c) (q := c + 2) (by omega) (by omega) (by omega)) dJ5_newCapacity_0f7a4_29 ml_J5_114 csJ8_newLength_cabcc rfl rfl (Nat.le_of_ble_eq_true rfl) (Nat.le_of_ble_eq_true rfl) (Nat.zero_le _) (Nat.zero_le _) (kr_rt ?_) kx_rt
  rw [show c + (c + 2) = 2 * c + 2 by omega]
  refine g_istore dJ5_newCapacity_0f7a4_32 (Nat.le_of_ble_eq_true rfl) ?_
  refine g_iload dJ5_newCapacity_0f7a4_34 rfl ?_
  refine g_ldc dJ5_newCapacity_0f7a4_36 co_J5_39 ?_
  refine g_icmp_ne (tgt := 51) dJ5_newCapacity_0f7a4_38 (by decide) (fun c38 => ?_) (fun c38 => ?_)
  · refine g_iload dJ5_newCapacity_0f7a4_51 rfl ?_
    refine g_aload_n (i := 0) dJ5_newCapacity_0f7a4_53 rfl rfl ?_
    refine g_getf dJ5_newCapacity_0f7a4_54 K_J4 (k := 1) fl_J5_22 (Nat.le_of_ble_eq_true rfl) sbt_22 rfl ?_
    refine g_ishr dJ5_newCapacity_0f7a4_57 ?_
    rw [sb_shr0]
    refine g_iret dJ5_newCapacity_0f7a4_58 rfl rfl ?_
    exact ⟨rfl, rfl⟩
  · exact absurd ((nI_inj (a := 2 * c + 2) (b := 2147483647) (by omega) (by omega)).mp c38) (by omega)

set_option maxRecDepth 100000 in
theorem ev_ensure {l : Launch} {G : GG} (hl : l.stackTraces = false) {A : AD} {g : Nat} {h : AH} {a c n m : Nat} {f : Nat → Int32} {ml : Int32} (hc : cOk c) (hm : m ≤ c + 11) (hm2 : m ≤ 142) (hf : sb_Fit f) :
    Ev l G 13 1 142 mJ5_ensureCapacityInternal_d00df [.ref (A 22 g), .int (nI m)] (sbd h A g (a, c, f, n, ml)) (RtX none (fun x : {B' : SB // isGr (a, c, f, n, ml) B' m} => sbd h A g x.1)) := by
  refine Ev.of hl (by decide) (Nat.le_of_ble_eq_true rfl) ?_
  refine g_aload_n (i := 0) dJ5_ensureCapacityInternal_d00df_0 rfl rfl ?_
  refine g_getf dJ5_ensureCapacityInternal_d00df_1 K_J4 (k := 0) fl_J5_15 (Nat.le_of_ble_eq_true rfl) sbt_22 rfl ?_
  refine g_alen dJ5_ensureCapacityInternal_d00df_4 sbt_23 (by decide) (show Int32.ofNat _ = nI c from rfl) ?_
  refine g_aload_n (i := 0) dJ5_ensureCapacityInternal_d00df_5 rfl rfl ?_
  refine g_getf dJ5_ensureCapacityInternal_d00df_6 K_J4 (k := 1) fl_J5_22 (Nat.le_of_ble_eq_true rfl) sbt_22 rfl ?_
  refine g_ishr dJ5_ensureCapacityInternal_d00df_9 ?_
  rw [sb_shr0]
  refine g_istore_n (i := 2) dJ5_ensureCapacityInternal_d00df_10 rfl (Nat.le_of_ble_eq_true rfl) ?_
  refine g_iload_n (i := 1) dJ5_ensureCapacityInternal_d00df_11 rfl rfl ?_
  refine g_iload_n (i := 2) dJ5_ensureCapacityInternal_d00df_12 rfl rfl ?_
  refine g_isub dJ5_ensureCapacityInternal_d00df_13 ?_
  refine g_if_le (tgt := 38) dJ5_ensureCapacityInternal_d00df_14 (by decide) (fun c14 => ?_) (fun c14 => ?_)
  · have hmc : m ≤ c := (sub_le0 (by omega) (by unfold cOk at hc; omega)).mp c14
    refine g_vret dJ5_ensureCapacityInternal_d00df_38 rfl ?_
    exact ⟨rfl, ⟨(a, c, f, n, ml), (if_pos hmc).symm, fun _ _ => rfl, hf, rfl⟩, rfl⟩
  · have hmc : c < m := by have := mt (sub_le0 (by omega) (by unfold cOk at hc; omega)).mpr c14; omega
    have hc9 : 16 ≤ c ∧ c ≤ 70 := by unfold cOk at hc; omega
    refine g_aload_n (i := 0) dJ5_ensureCapacityInternal_d00df_17 rfl rfl ?_
    refine g_aload_n (i := 0) dJ5_ensureCapacityInternal_d00df_18 rfl rfl ?_
    refine g_getf dJ5_ensureCapacityInternal_d00df_19 K_J4 (k := 0) fl_J5_15 (Nat.le_of_ble_eq_true rfl) sbt_22 rfl ?_
    refine g_aload_n (i := 0) dJ5_ensureCapacityInternal_d00df_22 rfl rfl ?_
    refine g_iload_n (i := 1) dJ5_ensureCapacityInternal_d00df_23 rfl rfl ?_
    refine g_callP (ev_newCapacity hl hmc hm hc9.1 hc9.2) dJ5_ensureCapacityInternal_d00df_24 ml_J5_104 cpJ5_newCapacity_0f7a4 K_J4 sbt_22 rfl rfl (Nat.le_of_ble_eq_true rfl) (Nat.le_of_ble_eq_true rfl) (Nat.zero_le _) (Nat.zero_le _) (kr_rt ?_) kx_rt
    refine g_aload_n (i := 0) dJ5_ensureCapacityInternal_d00df_27 rfl rfl ?_
    refine g_getf dJ5_ensureCapacityInternal_d00df_28 K_J4 (k := 1) fl_J5_22 (Nat.le_of_ble_eq_true rfl) sbt_22 rfl ?_
    refine g_ishl dJ5_ensureCapacityInternal_d00df_31 ?_
    rw [sb_shl0]
    refine g_callS (ev_copyOf hl (q := 2 * c + 2) sbt_23 (by decide) (by omega) (by omega) hf) dJ5_ensureCapacityInternal_d00df_32 ml_J5_108 csJ7_copyOf_9075b rfl rfl (Nat.le_of_ble_eq_true rfl) (Nat.le_of_ble_eq_true rfl) (Nat.le_refl _) (show 2 * c + 2 ≤ 142 - 0 by omega) (kr_n (fun a9 => ?_)) kx_n
    refine g_putf dJ5_ensureCapacityInternal_d00df_35 K_J4 (k := 0) fl_J5_15 (Nat.le_of_ble_eq_true rfl) rfl ((up_role _ _ _ _ (by decide)).trans sbt_22) (Nat.le_of_ble_eq_true rfl) rfl rfl ?_
    refine sbd_new ?_
    refine g_vret dJ5_ensureCapacityInternal_d00df_38 rfl ?_
    exact ⟨rfl, ⟨(a9, 2 * c + 2, va_cpy f (fun _ => 0) 0 0 c, n, ml), (if_neg (by show ¬ m ≤ c; omega)).symm, fun k hk => (sb_cpy0 (n := c) hk : va_cpy f (fun _ => 0) 0 0 c k = f k), sb_fitC hf sb_fit0, rfl⟩, rfl⟩

set_option maxRecDepth 100000 in
theorem ev_appendC5 {l : Launch} {G : GG} (hl : l.stackTraces = false) {A : AD} {g : Nat} {h : AH} {a c n : Nat} {f : Nat → Int32} {ml : Int32} {t : Nat → Nat} (hn : n ≤ c) (hc : cOk c) (hL : sb_Lat t n f) (hf : sb_Fit f) {q : Nat} (hq : q < 256) (h142 : n + 1 ≤ 142) :
    Ev l G 16 1 142 mJ5_append_3fe6f [.ref (A 22 g), .int (nI q)] (sbd h A g (a, c, f, n, ml)) (RtX (some (.ref (A 22 g))) (fun x : {B' : SB // isTx B' (sb_cat t n (fun _ => q)) (n + 1)} => sbd h A g x.1)) := by
  refine Ev.of hl (by decide) (Nat.le_of_ble_eq_true rfl) ?_
  refine g_aload_n (i := 0) dJ5_append_3fe6f_0 rfl rfl ?_
  refine g_aload_n (i := 0) dJ5_append_3fe6f_1 rfl rfl ?_
  refine g_getf dJ5_append_3fe6f_2 K_J4 (k := 3) fl_J5_79 (Nat.le_of_ble_eq_true rfl) sbt_22 rfl ?_
  refine g_iconst (v := 1) dJ5_append_3fe6f_5 (by decide) ?_
  refine g_iadd dJ5_append_3fe6f_6 ?_
  rw [← nI_succ]
  refine g_callP (ev_ensure hl hc (m := n + 1) (by omega) h142 hf) dJ5_append_3fe6f_7 ml_J5_100 cpJ5_ensureCapacityInternal_d00df K_J4 sbt_22 rfl rfl (Nat.le_of_ble_eq_true rfl) (Nat.le_of_ble_eq_true rfl) (Nat.le_refl _) (Nat.le_refl _) (kr_xvm (fun x9 => ?_)) kx_x
  obtain ⟨⟨a', c', f', n', ml'⟩, hc', hk', hf', hn'⟩ := x9
  have en : n = n' := (congrArg Prod.fst hn').symm
  have em : ml = ml' := (congrArg Prod.snd hn').symm
  have hc2 : c' = grw c (n + 1) := hc'
  have hk2 : ∀ k, k < c → f' k = f k := hk'
  have hf2 : sb_Fit f' := hf'
  refine Go.heap (h' := sbd h A g (a', c', f', n', ml')) rfl ?_
  clear hc' hk' hf' hn'
  subst en; subst em
  have hg9 := grw_ge (c := c) (m := n + 1) (by omega) hc
  refine g_aload_n (i := 0) dJ5_append_3fe6f_10 rfl rfl ?_
  refine g_callQ (ev_isLatin1 hl) dJ5_append_3fe6f_11 ml_J5_83 cqJ5_isLatin1_aae02 K_J4 sbt_22 rfl rfl (Nat.le_of_ble_eq_true rfl) (Nat.le_of_ble_eq_true rfl) (Nat.zero_le _) (Nat.zero_le _) (kr_rt ?_) kx_rt
  refine g_if_eq (tgt := 45) dJ5_append_3fe6f_14 (by decide) (fun c14 => ?_) (fun c14 => ?_)
  · exact absurd c14 (by decide)
  · refine g_iload_n (i := 1) dJ5_append_3fe6f_17 rfl rfl ?_
    refine g_callS (ev_canEncode hl hq) dJ5_append_3fe6f_18 ml_J5_191 csJ1_canEncode_fc78d rfl rfl (Nat.le_of_ble_eq_true rfl) (Nat.le_of_ble_eq_true rfl) (Nat.zero_le _) (Nat.zero_le _) (kr_rt ?_) kx_rt
    refine g_if_eq (tgt := 45) dJ5_append_3fe6f_21 (by decide) (fun c21 => ?_) (fun c21 => ?_)
    · exact absurd c21 (by decide)
    · refine g_aload_n (i := 0) dJ5_append_3fe6f_24 rfl rfl ?_
      refine g_getf dJ5_append_3fe6f_25 K_J4 (k := 0) fl_J5_15 (Nat.le_of_ble_eq_true rfl) sbt_22 rfl ?_
      refine g_aload_n (i := 0) dJ5_append_3fe6f_28 rfl rfl ?_
      refine g_dup dJ5_append_3fe6f_29 rfl ?_
      refine g_getf dJ5_append_3fe6f_30 K_J4 (k := 3) fl_J5_79 (Nat.le_of_ble_eq_true rfl) sbt_22 rfl ?_
      refine g_dup_x1 dJ5_append_3fe6f_33 rfl rfl ?_
      refine g_iconst (v := 1) dJ5_append_3fe6f_34 (by decide) ?_
      refine g_iadd dJ5_append_3fe6f_35 ?_
      rw [← nI_succ]
      refine g_putf dJ5_append_3fe6f_36 K_J4 (k := 3) fl_J5_79 (Nat.le_of_ble_eq_true rfl) rfl sbt_22 (Nat.le_of_ble_eq_true rfl) rfl rfl (Go.heap (sbd_o (B := (a', c', f', n, ml)) (n := n + 1) (ml := ml)) ?_)
      refine g_iload_n (i := 1) dJ5_append_3fe6f_39 rfl rfl ?_
      refine g_i2b dJ5_append_3fe6f_40 rfl ?_
      show Go l G mJ5_append_3fe6f 16 _ _ _ _ _ [.int (sb_b q), _, _] _
      refine g_bast dJ5_append_3fe6f_41 sbt_23 (ix_nI (j := n) (by omega)) (show n < c' by omega) (sbn q hq) (Go.heap (sbd_b (B := (a', c', f', n + 1, ml)) (f := va_up f' n (sb_b q))) ?_)
      refine g_goto (tgt := 75) dJ5_append_3fe6f_42 (by decide) ?_
      refine g_aload_n (i := 0) dJ5_append_3fe6f_75 rfl rfl ?_
      refine g_aret dJ5_append_3fe6f_76 rfl (Or.inl ⟨_, rfl⟩) ?_
      exact ⟨rfl, ⟨(a', c', va_up f' n (sb_b q), n + 1, ml), rfl, by show n + 1 ≤ c'; omega, by show cOk c'; rw [hc2]; exact grw_ok hc h142, sb_latPut hL (fun j hj => (va_upN (by omega)).trans (hk2 j (by omega))) (fun i hi => ⟨hq, by rw [show n + i = n by omega]; exact va_upS⟩), fitU hf2 (sb_fitB q)⟩, rfl⟩

set_option maxRecDepth 100000 in
theorem ev_appendC {l : Launch} {G : GG} (hl : l.stackTraces = false) {A : AD} {g : Nat} {h : AH} {a c n : Nat} {f : Nat → Int32} {ml : Int32} {t : Nat → Nat} (hn : n ≤ c) (hc : cOk c) (hL : sb_Lat t n f) (hf : sb_Fit f) {q : Nat} (hq : q < 256) (h142 : n + 1 ≤ 142) :
    Ev l G 17 1 142 mJ4_append_cf468 [.ref (A 22 g), .int (nI q)] (sbd h A g (a, c, f, n, ml)) (RtX (some (.ref (A 22 g))) (fun x : {B' : SB // isTx B' (sb_cat t n (fun _ => q)) (n + 1)} => sbd h A g x.1)) := by
  refine Ev.of hl (by decide) (Nat.le_of_ble_eq_true rfl) ?_
  refine g_aload_n (i := 0) dJ4_append_cf468_0 rfl rfl ?_
  refine g_iload_n (i := 1) dJ4_append_cf468_1 rfl rfl ?_
  refine g_callU (ev_appendC5 hl hn hc hL hf hq h142) dJ4_append_cf468_2 ml_J4_50 cuJ5_append_3fe6f K_J4 sbt_22 rfl rfl (Nat.le_of_ble_eq_true rfl) (Nat.le_of_ble_eq_true rfl) (Nat.le_refl _) (Nat.le_refl _) (kr_xm (fun x9 => ?_)) kx_x
  refine g_pop dJ4_append_cf468_5 rfl ?_
  refine g_aload_n (i := 0) dJ4_append_cf468_6 rfl rfl ?_
  refine g_aret dJ4_append_cf468_7 rfl (Or.inl ⟨_, rfl⟩) ?_
  exact ⟨rfl, x9, rfl⟩

set_option maxRecDepth 100000 in
theorem ev_length5 {l : Launch} {G : GG} (hl : l.stackTraces = false) {A : AD} {g : Nat} {h : AH} {B : SB} :
    Ev l G 10 0 0 mJ5_length_8abf5 [.ref (A 22 g)] (sbd h A g B) (Rt (some (.int (nI B.2.2.2.1))) (sbd h A g B)) := by
  refine Ev.of hl (by decide) (Nat.le_of_ble_eq_true rfl) ?_
  refine g_aload_n (i := 0) dJ5_length_8abf5_0 rfl rfl ?_
  refine g_getf dJ5_length_8abf5_1 K_J4 (k := 3) fl_J5_79 (Nat.le_of_ble_eq_true rfl) sbd_22 rfl ?_
  refine g_iret dJ5_length_8abf5_4 rfl rfl ?_
  exact ⟨rfl, rfl⟩

set_option maxRecDepth 100000 in
theorem ev_length {l : Launch} {G : GG} (hl : l.stackTraces = false) {A : AD} {g : Nat} {h : AH} {B : SB} :
    Ev l G 11 0 0 mJ4_length_8abf5 [.ref (A 22 g)] (sbd h A g B) (Rt (some (.int (nI B.2.2.2.1))) (sbd h A g B)) := by
  refine Ev.of hl (by decide) (Nat.le_of_ble_eq_true rfl) ?_
  refine g_aload_n (i := 0) dJ4_length_8abf5_0 rfl rfl ?_
  refine g_callU (ev_length5 hl) dJ4_length_8abf5_1 ml_J4_343 cuJ5_length_8abf5 K_J4 sbd_22 rfl rfl (Nat.le_of_ble_eq_true rfl) (Nat.le_of_ble_eq_true rfl) (Nat.zero_le _) (Nat.zero_le _) (kr_rt ?_) kx_rt
  refine g_iret dJ4_length_8abf5_4 rfl rfl ?_
  exact ⟨rfl, rfl⟩

set_option maxRecDepth 100000 in
theorem ev_setLength5 {l : Launch} {G : GG} (hl : l.stackTraces = false) {A : AD} {g : Nat} {h : AH} {a c n : Nat} {f : Nat → Int32} {ml : Int32} {t : Nat → Nat} (hn : n ≤ c) (hc : cOk c) (hL : sb_Lat t n f) (hf : sb_Fit f) :
    Ev l G 30 1 142 mJ5_setLength_d00df [.ref (A 22 g), .int (nI 0)] (sbd h A g (a, c, f, n, ml)) (RtX none (fun x : {B' : SB // isTx B' t 0} => sbd h A g x.1)) := by
  refine Ev.of hl (by decide) (Nat.le_of_ble_eq_true rfl) ?_
  refine g_iload_n (i := 1) dJ5_setLength_d00df_0 rfl rfl ?_
  refine g_if_ge (tgt := 13) dJ5_setLength_d00df_1 (by decide) (fun c1 => ?_) (fun c1 => ?_)
  · refine g_aload_n (i := 0) dJ5_setLength_d00df_13 rfl rfl ?_
    refine g_iload_n (i := 1) dJ5_setLength_d00df_14 rfl rfl ?_
    refine g_callP (ev_ensure hl hc (m := 0) (by omega) (by omega) hf) dJ5_setLength_d00df_15 ml_J5_100 cpJ5_ensureCapacityInternal_d00df K_J4 sbt_22 rfl rfl (Nat.le_of_ble_eq_true rfl) (Nat.le_of_ble_eq_true rfl) (Nat.le_refl _) (Nat.le_refl _) (kr_xvm (fun x9 => ?_)) kx_x
    obtain ⟨⟨a', c', f', n', ml'⟩, hc', hk', hf', hn'⟩ := x9
    have en : n = n' := (congrArg Prod.fst hn').symm
    have em : ml = ml' := (congrArg Prod.snd hn').symm
    have hc2 : c' = grw c (0) := hc'
    have hk2 : ∀ k, k < c → f' k = f k := hk'
    have hf2 : sb_Fit f' := hf'
    refine Go.heap (h' := sbd h A g (a', c', f', n', ml')) rfl ?_
    clear hc' hk' hf' hn'
    subst en; subst em
    have hg9 := grw_ge (c := c) (m := 0) (by omega) hc
    have hg8 := grw_ok hc (m := 0) (by omega)
    rw [← hc2] at hg8
    have hz : c' ≤ 142 := by unfold cOk at hg8; omega
    refine g_aload_n (i := 0) dJ5_setLength_d00df_18 rfl rfl ?_
    refine g_getf dJ5_setLength_d00df_19 K_J4 (k := 3) fl_J5_79 (Nat.le_of_ble_eq_true rfl) sbt_22 rfl ?_
    refine g_iload_n (i := 1) dJ5_setLength_d00df_22 rfl rfl ?_
    refine g_icmp_ge (tgt := 63) dJ5_setLength_d00df_23 (by decide) (fun c23 => ?_) (fun c23 => ?_)
    · refine g_aload_n (i := 0) dJ5_setLength_d00df_63 rfl rfl ?_
      refine g_getf dJ5_setLength_d00df_64 K_J4 (k := 3) fl_J5_79 (Nat.le_of_ble_eq_true rfl) sbt_22 rfl ?_
      refine g_iload_n (i := 1) dJ5_setLength_d00df_67 rfl rfl ?_
      refine g_icmp_le (tgt := 76) dJ5_setLength_d00df_68 (by decide) (fun c68 => ?_) (fun c68 => ?_)
      · refine g_aload_n (i := 0) dJ5_setLength_d00df_76 rfl rfl ?_
        refine g_iload_n (i := 1) dJ5_setLength_d00df_77 rfl rfl ?_
        refine g_putf dJ5_setLength_d00df_78 K_J4 (k := 3) fl_J5_79 (Nat.le_of_ble_eq_true rfl) rfl sbt_22 (Nat.le_of_ble_eq_true rfl) rfl rfl (Go.heap (sbd_o (B := (a', c', f', n, ml)) (n := 0) (ml := ml)) ?_)
        refine g_vret dJ5_setLength_d00df_81 rfl ?_
        exact ⟨rfl, ⟨(a', c', f', 0, ml), rfl, Nat.zero_le _, hg8, fun j hj => absurd hj (Nat.not_lt_zero j), hf2⟩, rfl⟩
      · refine g_aload_n (i := 0) dJ5_setLength_d00df_71 rfl rfl ?_
        refine g_iconst (v := 1) dJ5_setLength_d00df_72 (by decide) ?_
        refine g_putf dJ5_setLength_d00df_73 K_J4 (k := 2) fl_J5_73 (Nat.le_of_ble_eq_true rfl) rfl sbt_22 (Nat.le_of_ble_eq_true rfl) rfl rfl (Go.heap (sbd_o (B := (a', c', f', n, ml)) (n := n) (ml := 1)) ?_)
        refine g_aload_n (i := 0) dJ5_setLength_d00df_76 rfl rfl ?_
        refine g_iload_n (i := 1) dJ5_setLength_d00df_77 rfl rfl ?_
        refine g_putf dJ5_setLength_d00df_78 K_J4 (k := 3) fl_J5_79 (Nat.le_of_ble_eq_true rfl) rfl sbt_22 (Nat.le_of_ble_eq_true rfl) rfl rfl (Go.heap (sbd_o (B := (a', c', f', n, 1)) (n := 0) (ml := 1)) ?_)
        refine g_vret dJ5_setLength_d00df_81 rfl ?_
        exact ⟨rfl, ⟨(a', c', f', 0, 1), rfl, Nat.zero_le _, hg8, fun j hj => absurd hj (Nat.not_lt_zero j), hf2⟩, rfl⟩
    · exact absurd (show nI 0 ≤ nI n from (nI_pos' (by omega))) c23
  · exact absurd (show (0 : Int32) ≤ nI 0 by decide) c1

set_option maxRecDepth 100000 in
theorem ev_setLength {l : Launch} {G : GG} (hl : l.stackTraces = false) {A : AD} {g : Nat} {h : AH} {a c n : Nat} {f : Nat → Int32} {ml : Int32} {t : Nat → Nat} (hn : n ≤ c) (hc : cOk c) (hL : sb_Lat t n f) (hf : sb_Fit f) :
    Ev l G 31 1 142 mJ4_setLength_d00df [.ref (A 22 g), .int (nI 0)] (sbd h A g (a, c, f, n, ml)) (RtX none (fun x : {B' : SB // isTx B' t 0} => sbd h A g x.1)) := by
  refine Ev.of hl (by decide) (Nat.le_of_ble_eq_true rfl) ?_
  refine g_aload_n (i := 0) dJ4_setLength_d00df_0 rfl rfl ?_
  refine g_iload_n (i := 1) dJ4_setLength_d00df_1 rfl rfl ?_
  refine g_callU (ev_setLength5 hl hn hc hL hf (t := t)) dJ4_setLength_d00df_2 ml_J4_333 cuJ5_setLength_d00df K_J4 sbt_22 rfl rfl (Nat.le_of_ble_eq_true rfl) (Nat.le_of_ble_eq_true rfl) (Nat.le_refl _) (Nat.le_refl _) (kr_xvm (fun x9 => ?_)) kx_x
  refine g_vret dJ4_setLength_d00df_5 rfl ?_
  exact ⟨rfl, x9, rfl⟩

set_option maxRecDepth 100000 in
theorem ev_check3n {l : Launch} {G : GG} (hl : l.stackTraces = false) {h : AH} {i k t9 : Nat} (hi : i < k) (hk : k < 1000) :
    Ev l G 10 0 0 mJ3_checkIndex_8e157 [.int (nI i), .int (nI k), .null] h (Rt (some (.int (nI i))) h) := by
  refine Ev.of hl (by decide) (Nat.le_of_ble_eq_true rfl) ?_
  refine g_iload_n (i := 0) dJ3_checkIndex_8e157_0 rfl rfl ?_
  refine g_if_lt (tgt := 9) dJ3_checkIndex_8e157_1 (by decide) (fun c1 => ?_) (fun c1 => ?_)
  · exact absurd ((lt_nI (a := i) (b := 0) rfl (by omega) (by omega)).mp c1) (by omega)
  · refine g_iload_n (i := 0) dJ3_checkIndex_8e157_4 rfl rfl ?_
    refine g_iload_n (i := 1) dJ3_checkIndex_8e157_5 rfl rfl ?_
    refine g_icmp_lt (tgt := 16) dJ3_checkIndex_8e157_6 (by decide) (fun c6 => ?_) (fun c6 => ?_)
    · refine g_iload_n (i := 0) dJ3_checkIndex_8e157_16 rfl rfl ?_
      refine g_iret dJ3_checkIndex_8e157_17 rfl rfl ?_
      exact ⟨rfl, rfl⟩
    · exact absurd ((lt_nI (a := i) (b := k) rfl (by omega) (by omega)).mpr hi) c6

set_option maxRecDepth 100000 in
theorem ev_check3r {l : Launch} {G : GG} (hl : l.stackTraces = false) {h : AH} {i k t9 : Nat} (hi : i < k) (hk : k < 1000) :
    Ev l G 10 0 0 mJ3_checkIndex_8e157 [.int (nI i), .int (nI k), .ref t9] h (Rt (some (.int (nI i))) h) := by
  refine Ev.of hl (by decide) (Nat.le_of_ble_eq_true rfl) ?_
  refine g_iload_n (i := 0) dJ3_checkIndex_8e157_0 rfl rfl ?_
  refine g_if_lt (tgt := 9) dJ3_checkIndex_8e157_1 (by decide) (fun c1 => ?_) (fun c1 => ?_)
  · exact absurd ((lt_nI (a := i) (b := 0) rfl (by omega) (by omega)).mp c1) (by omega)
  · refine g_iload_n (i := 0) dJ3_checkIndex_8e157_4 rfl rfl ?_
    refine g_iload_n (i := 1) dJ3_checkIndex_8e157_5 rfl rfl ?_
    refine g_icmp_lt (tgt := 16) dJ3_checkIndex_8e157_6 (by decide) (fun c6 => ?_) (fun c6 => ?_)
    · refine g_iload_n (i := 0) dJ3_checkIndex_8e157_16 rfl rfl ?_
      refine g_iret dJ3_checkIndex_8e157_17 rfl rfl ?_
      exact ⟨rfl, rfl⟩
    · exact absurd ((lt_nI (a := i) (b := k) rfl (by omega) (by omega)).mpr hi) c6

set_option maxRecDepth 100000 in
theorem ev_checkIndex {l : Launch} {G : GG} (hl : l.stackTraces = false) {h : AH} {i k : Nat} (hi : i < k) (hk : k < 1000) :
    Ev l G 11 0 0 mJ0_checkIndex_df160 [.int (nI i), .int (nI k)] h (Rt none h) := by
  refine Ev.of hl (by decide) (Nat.le_of_ble_eq_true rfl) ?_
  refine g_iload_n (i := 0) dJ0_checkIndex_df160_0 rfl rfl ?_
  refine g_iload_n (i := 1) dJ0_checkIndex_df160_1 rfl rfl ?_
  refine g_former dJ0_checkIndex_df160_2 fl_J0_1053 ?_ (fun t9 => ?_)
  · refine g_callS (ev_check3n hl (t9 := 0) hi hk) dJ0_checkIndex_df160_5 ml_J0_1059 csJ3_checkIndex_8e157 rfl rfl (Nat.le_of_ble_eq_true rfl) (Nat.le_of_ble_eq_true rfl) (Nat.zero_le _) (Nat.zero_le _) (kr_rt ?_) kx_rt
    refine g_pop dJ0_checkIndex_df160_8 rfl ?_
    refine g_vret dJ0_checkIndex_df160_9 rfl ?_
    exact ⟨rfl, rfl⟩
  · refine g_callS (ev_check3r hl hi hk) dJ0_checkIndex_df160_5 ml_J0_1059 csJ3_checkIndex_8e157 rfl rfl (Nat.le_of_ble_eq_true rfl) (Nat.le_of_ble_eq_true rfl) (Nat.zero_le _) (Nat.zero_le _) (kr_rt ?_) kx_rt
    refine g_pop dJ0_checkIndex_df160_8 rfl ?_
    refine g_vret dJ0_checkIndex_df160_9 rfl ?_
    exact ⟨rfl, rfl⟩

set_option maxRecDepth 100000 in
theorem ev_charAt5 {l : Launch} {G : GG} (hl : l.stackTraces = false) {A : AD} {g : Nat} {h : AH} {a c n i q : Nat} {f : Nat → Int32} {ml : Int32} (hn : n ≤ c) (hc : c ≤ 142) (hi : i < n) (hq : q < 256) (e : f i = sb_b q) :
    Ev l G 12 0 0 mJ5_charAt_5068e [.ref (A 22 g), .int (nI i)] (sbd h A g (a, c, f, n, ml)) (Rt (some (.int (nI q))) (sbd h A g (a, c, f, n, ml))) := by
  refine Ev.of hl (by decide) (Nat.le_of_ble_eq_true rfl) ?_
  refine g_aload_n (i := 0) dJ5_charAt_5068e_0 rfl rfl ?_
  refine g_getf dJ5_charAt_5068e_1 K_J4 (k := 1) fl_J5_22 (Nat.le_of_ble_eq_true rfl) sbt_22 rfl ?_
  refine g_istore_n (i := 2) dJ5_charAt_5068e_4 rfl (Nat.le_of_ble_eq_true rfl) ?_
  refine g_aload_n (i := 0) dJ5_charAt_5068e_5 rfl rfl ?_
  refine g_getf dJ5_charAt_5068e_6 K_J4 (k := 0) fl_J5_15 (Nat.le_of_ble_eq_true rfl) sbt_22 rfl ?_
  refine g_astore_n (i := 3) dJ5_charAt_5068e_9 rfl (Nat.le_of_ble_eq_true rfl) ?_
  refine g_aload_n (i := 0) dJ5_charAt_5068e_10 rfl rfl ?_
  refine g_getf dJ5_charAt_5068e_11 K_J4 (k := 3) fl_J5_79 (Nat.le_of_ble_eq_true rfl) sbt_22 rfl ?_
  refine g_aload_n (i := 3) dJ5_charAt_5068e_14 rfl rfl ?_
  refine g_alen dJ5_charAt_5068e_15 sbt_23 (by decide) (show Int32.ofNat _ = nI c from rfl) ?_
  refine g_iload_n (i := 2) dJ5_charAt_5068e_16 rfl rfl ?_
  refine g_ishr dJ5_charAt_5068e_17 ?_
  rw [sb_shr0]
  refine g_min dJ5_charAt_5068e_18 ml_J5_138 w_static_yJ9_min_7cf53 w_init_java_lang_Math w_code_Math_min (Nat.le_of_ble_eq_true rfl) (Nat.le_of_ble_eq_true rfl) ?_
  rw [if_neg (fun z => absurd ((lt_nI (a := c) (b := n) rfl (by omega) (by omega)).mp z) (by omega))]
  refine g_istore dJ5_charAt_5068e_21 (Nat.le_of_ble_eq_true rfl) ?_
  refine g_iload_n (i := 1) dJ5_charAt_5068e_23 rfl rfl ?_
  refine g_iload dJ5_charAt_5068e_24 rfl ?_
  refine g_callS (ev_checkIndex hl hi (by omega)) dJ5_charAt_5068e_26 ml_J5_144 csJ0_checkIndex_df160 rfl rfl (Nat.le_of_ble_eq_true rfl) (Nat.le_of_ble_eq_true rfl) (Nat.zero_le _) (Nat.zero_le _) (kr_vd ?_) kx_rt
  refine g_iload_n (i := 2) dJ5_charAt_5068e_29 rfl rfl ?_
  refine g_if_ne (tgt := 42) dJ5_charAt_5068e_30 (by decide) (fun c30 => ?_) (fun c30 => ?_)
  · exact absurd rfl c30
  · refine g_aload_n (i := 3) dJ5_charAt_5068e_33 rfl rfl ?_
    refine g_iload_n (i := 1) dJ5_charAt_5068e_34 rfl rfl ?_
    refine g_bald dJ5_charAt_5068e_35 sbt_23 (ix_nI (j := i) (by omega)) (show i < c by omega) ?_
    refine g_sipush (v := 255) dJ5_charAt_5068e_36 (by decide) ?_
    refine g_iand dJ5_charAt_5068e_39 ?_
    refine g_i2c dJ5_charAt_5068e_40 (show ((f i &&& 255).toUInt32 % 65536).toInt32 = nI q by rw [e]; exact sb_cb q hq) ?_
    refine g_iret dJ5_charAt_5068e_41 rfl (nchr hq) ?_
    exact ⟨rfl, rfl⟩

set_option maxRecDepth 100000 in
theorem ev_charAt {l : Launch} {G : GG} (hl : l.stackTraces = false) {A : AD} {g : Nat} {h : AH} {a c n i q : Nat} {f : Nat → Int32} {ml : Int32} (hn : n ≤ c) (hc : c ≤ 142) (hi : i < n) (hq : q < 256) (e : f i = sb_b q) :
    Ev l G 13 0 0 mJ4_charAt_5068e [.ref (A 22 g), .int (nI i)] (sbd h A g (a, c, f, n, ml)) (Rt (some (.int (nI q))) (sbd h A g (a, c, f, n, ml))) := by
  refine Ev.of hl (by decide) (Nat.le_of_ble_eq_true rfl) ?_
  refine g_aload_n (i := 0) dJ4_charAt_5068e_0 rfl rfl ?_
  refine g_iload_n (i := 1) dJ4_charAt_5068e_1 rfl rfl ?_
  refine g_callU (ev_charAt5 hl hn hc hi hq e) dJ4_charAt_5068e_2 ml_J4_329 cuJ5_charAt_5068e K_J4 sbt_22 rfl rfl (Nat.le_of_ble_eq_true rfl) (Nat.le_of_ble_eq_true rfl) (Nat.zero_le _) (Nat.zero_le _) (kr_rt ?_) kx_rt
  refine g_iret dJ4_charAt_5068e_5 rfl (nchr hq) ?_
  exact ⟨rfl, rfl⟩

set_option maxRecDepth 100000 in
theorem ev_stringSize {l : Launch} {G : GG} (hl : l.stackTraces = false) {h : AH} {v : Nat} (hv8 : v < 1000000000) :
    Ev l G 10 0 0 mJ6_stringSize_0f7a4 [.int (nI v)] h (Rt (some (.int (nI (sb_dg v)))) h) := by
  refine Ev.of hl (by decide) (Nat.le_of_ble_eq_true rfl) ?_
  have hv9 : v < 2 ^ 31 := by omega
  have loop : ∀ (j : Nat) (k : Nat), k < 9 → k + j = 9 → (k = 0 ∨ 10 ^ k ≤ v) → Go l G mJ6_stringSize_0f7a4 10 0 0 (Rt (some (.int (nI (sb_dg v)))) h) 16 [some (.int (-nI v)), some (.int 0), some (.int (-nI (10 ^ (k + 1)))), some (.int (nI (k + 1)))] [] h := by
    intro j
    induction j with
    | zero =>
      intro k hk9 hk hv
      omega
    | succ j ih =>
      intro k hk9 hk hv
      refine g_iload_n (i := 3) dJ6_stringSize_0f7a4_16 rfl rfl ?_
      refine g_bipush (v := 10) dJ6_stringSize_0f7a4_17 (by decide) ?_
      refine g_icmp_ge (tgt := 42) dJ6_stringSize_0f7a4_19 (by decide) (fun c19 => ?_) (fun c19 => ?_)
      · exact absurd ((le_nI (a := 10) (b := k + 1) rfl (by omega) (by omega)).mp c19) (by omega)
      · refine g_iload_n (i := 0) dJ6_stringSize_0f7a4_22 rfl rfl ?_
        refine g_iload_n (i := 2) dJ6_stringSize_0f7a4_23 rfl rfl ?_
        refine g_icmp_le (tgt := 31) dJ6_stringSize_0f7a4_24 (by decide) (fun c24 => ?_) (fun c24 => ?_)
        · refine g_bipush (v := 10) dJ6_stringSize_0f7a4_31 (by decide) ?_
          refine g_iload_n (i := 2) dJ6_stringSize_0f7a4_33 rfl rfl ?_
          refine g_imul dJ6_stringSize_0f7a4_34 ?_
          refine g_istore_n (i := 2) dJ6_stringSize_0f7a4_35 rfl (Nat.le_of_ble_eq_true rfl) ?_
          refine g_iinc (w := 1) dJ6_stringSize_0f7a4_36 (by decide) rfl (nI_succ (k + 1)).symm (Nat.le_of_ble_eq_true rfl) ?_
          refine g_goto (tgt := 16) dJ6_stringSize_0f7a4_39 (by decide) ?_
          rw [neg10]
          have hle : 10 ^ (k + 1) ≤ v := (sb_nle hv9 (show 10 ^ (k + 1) < 2 ^ 31 by have := pow9 (show k + 1 ≤ 9 by omega); omega)).mp c24
          have hk8 : k + 1 < 9 := (show k = 8 ∨ k + 1 < 9 by omega).elim (fun z => absurd hle (by subst z; simp only [Nat.reducePow, Nat.reduceAdd]; omega)) id
          exact ih (k + 1) hk8 (by omega) (Or.inr hle)
        · refine g_iload_n (i := 3) dJ6_stringSize_0f7a4_27 rfl rfl ?_
          refine g_iload_n (i := 1) dJ6_stringSize_0f7a4_28 rfl rfl ?_
          refine g_iadd dJ6_stringSize_0f7a4_29 ?_
          refine g_iret dJ6_stringSize_0f7a4_30 rfl rfl ?_
          exact ⟨by rw [dgk (by omega) hv (by have := mt (sb_nle hv9 (show 10 ^ (k + 1) < 2 ^ 31 by have := pow9 (show k + 1 ≤ 9 by omega); omega)).mpr c24; omega), show nI (k + 1) + 0 = nI (k + 1) from Int32.add_zero _], rfl⟩
  refine g_iconst (v := 1) dJ6_stringSize_0f7a4_0 (by decide) ?_
  refine g_istore_n (i := 1) dJ6_stringSize_0f7a4_1 rfl (Nat.le_of_ble_eq_true rfl) ?_
  refine g_iload_n (i := 0) dJ6_stringSize_0f7a4_2 rfl rfl ?_
  refine g_if_lt (tgt := 11) dJ6_stringSize_0f7a4_3 (by decide) (fun c3 => ?_) (fun c3 => ?_)
  · exact absurd (nI_pos' hv9) (Int32.not_le.mpr c3)
  · refine g_iconst (v := 0) dJ6_stringSize_0f7a4_6 (by decide) ?_
    refine g_istore_n (i := 1) dJ6_stringSize_0f7a4_7 rfl (Nat.le_of_ble_eq_true rfl) ?_
    refine g_iload_n (i := 0) dJ6_stringSize_0f7a4_8 rfl rfl ?_
    refine g_ineg dJ6_stringSize_0f7a4_9 ?_
    refine g_istore_n (i := 0) dJ6_stringSize_0f7a4_10 rfl (Nat.le_of_ble_eq_true rfl) ?_
    refine g_bipush (v := (-10)) dJ6_stringSize_0f7a4_11 (by decide) ?_
    refine g_istore_n (i := 2) dJ6_stringSize_0f7a4_13 rfl (Nat.le_of_ble_eq_true rfl) ?_
    refine g_iconst (v := 1) dJ6_stringSize_0f7a4_14 (by decide) ?_
    refine g_istore_n (i := 3) dJ6_stringSize_0f7a4_15 rfl (Nat.le_of_ble_eq_true rfl) ?_
    exact loop 9 0 (by decide) rfl (Or.inl rfl)

