/-! StringBuilder (by wip/whole/gen/m10.py). -/
theorem nI_sub {a b : Nat} (h : b ≤ a) : nI a - nI b = nI (a - b) := by
  have e : nI a = nI (a - b) + nI b := by rw [nI_add]; congr 1; omega
  rw [e, Int32.add_sub_cancel]
theorem sub_le0 {m c : Nat} (hm : m < 2 ^ 30) (hc : c < 2 ^ 30) : nI m - nI c ≤ 0 ↔ m ≤ c := by
  rcases Nat.le_total c m with h | h
  · rw [nI_sub h, show (0 : Int32) = nI 0 from rfl, nI_le' rfl (by omega) (by omega)]
    omega
  · have e : nI m - nI c = -(nI (c - m)) := by rw [← nI_sub h, Int32.neg_sub]
    rw [e, Int32.le_iff_toInt_le, sb_negT (by omega)]
    show -((c - m : Nat) : Int) ≤ 0 ↔ _
    omega
theorem sbn : ∀ c, c < 256 → vp_nar .byte (sb_b c) = sb_b c := by decide +kernel
theorem sb_cb : ∀ c, c < 256 → ((sb_b c &&& 255).toUInt32 % 65536).toInt32 = nI c := fun c h => by rw [(sb_byte c h).1]; exact (sb_byte c h).2.1
/-- a StringBuilder: bytes' cell, capacity, bytes, count, maybeLatin1 -/
abbrev SB : Type := Nat × Nat × (Nat → Int32) × Nat × Int32
def sbO (A : AD) (g : Nat) (B : SB) : Nat × AC := (A 22 g, .inr (11, [.ref B.1, .int 0, .int B.2.2.2.2, .int (nI B.2.2.2.1)]))
abbrev bArr (a n : Nat) (f : Nat → Int32) : Nat × AC := (a, .inl (3, n, .inl f))
def sbd (h : AH) (A : AD) (g : Nat) (B : SB) : AH := fun s g' => if s = 22 ∧ g' = g then some (sbO A g B) else if s = 23 ∧ g' = g then some (bArr B.1 B.2.1 B.2.2.1) else if s = 26 ∧ g' = 0 then none else h s g'
section SBD
variable {h : AH} {A : AD} {g : Nat} {B : SB}
theorem sbd_22 : sbd h A g B 22 g = some (sbO A g B) := by simp [sbd]
theorem sbd_23 : sbd h A g B 23 g = some (bArr B.1 B.2.1 B.2.2.1) := by simp [sbd]
theorem sbd_26 : sbd h A g B 26 0 = none := by simp [sbd]
theorem sbd_lo {s g' : Nat} (hs : s < 22) : sbd h A g B s g' = h s g' := by
  simp only [sbd]
  rw [if_neg (by omega), if_neg (by omega), if_neg (by omega)]
theorem sbd_hi {s g' : Nat} (hs : 26 < s) : sbd h A g B s g' = h s g' := by
  simp only [sbd]
  rw [if_neg (by omega), if_neg (by omega), if_neg (by omega)]
theorem sbd_mid {s g' : Nat} (h1 : 23 < s) (h2 : s < 26) : sbd h A g B s g' = h s g' := by
  simp only [sbd]
  rw [if_neg (by omega), if_neg (by omega), if_neg (by omega)]
theorem sbd_other {s g' : Nat} (hg : g' ≠ g) (h1 : s < 26) : sbd h A g B s g' = h s g' := by
  simp only [sbd]
  rw [if_neg (by omega), if_neg (by omega), if_neg (by omega)]
theorem sbd_o {n : Nat} {ml : Int32} : up (sbd h A g B) 22 g (sbO A g (B.1, B.2.1, B.2.2.1, n, ml)) = sbd h A g (B.1, B.2.1, B.2.2.1, n, ml) := by
  funext s g'
  by_cases e : s = 22 ∧ g' = g
  · obtain ⟨rfl, rfl⟩ := e
    rw [up_same, sbd_22]
  · rw [up_ne _ _ e]
    simp only [sbd, if_neg e]
theorem sbd_b {f : Nat → Int32} : up (sbd h A g B) 23 g (bArr B.1 B.2.1 f) = sbd h A g (B.1, B.2.1, f, B.2.2.2) := by
  funext s g'
  by_cases e : s = 23 ∧ g' = g
  · obtain ⟨rfl, rfl⟩ := e
    rw [up_same, sbd_23]
  · rw [up_ne _ _ e]
    simp only [sbd, if_neg e]
    rfl
/-- new bytes -/
theorem sbd_new {l : Launch} {G : GG} {M : MD} {d kc ks pc : Nat} {P : Post} {L : List (Option Value)} {st : List Value} {a c n : Nat} {f : Nat → Int32} {ml : Int32} (k : Go l G M d kc ks P pc L st (sbd h A g (a, c, f, n, ml))) :
    Go l G M d kc ks P pc L st (up (up (sbd h A g B) 26 0 (bArr a c f)) 22 g (sbO A g (a, c, f, n, ml))) := by
  refine Go.sub (fun s g' => if s = 23 ∧ g' = g then (26, 0) else (s, g')) (fun s g' x q => ?_) (fun s g1 s' g2 x x' q q' e => ?_) k
  · by_cases e : s = 23 ∧ g' = g
    · obtain ⟨rfl, rfl⟩ := e
      rw [sbd_23] at q
      rw [if_pos ⟨rfl, rfl⟩, up_role _ _ _ _ (by decide), up_same]
      exact q
    · rw [if_neg e]
      show up _ _ _ _ s g' = _
      by_cases e2 : s = 22 ∧ g' = g
      · obtain ⟨rfl, rfl⟩ := e2
        rw [sbd_22] at q
        rw [up_same]
        exact q
      · rw [up_ne _ _ e2]
        by_cases e3 : s = 26 ∧ g' = 0
        · obtain ⟨rfl, rfl⟩ := e3
          rw [sbd_26] at q
          cases q
        · rw [up_ne _ _ e3]
          simp only [sbd, if_neg e, if_neg e2, if_neg e3] at q ⊢
          exact q
  · by_cases e1 : s = 23 ∧ g1 = g
    · by_cases e2 : s' = 23 ∧ g2 = g
      · exact ⟨e1.1.trans e2.1.symm, e1.2.trans e2.2.symm⟩
      · rw [if_pos e1, if_neg e2] at e
        cases e
        rw [sbd_26] at q'
        cases q'
    · by_cases e2 : s' = 23 ∧ g2 = g
      · rw [if_neg e1, if_pos e2] at e
        cases e
        rw [sbd_26] at q
        cases q
      · rw [if_neg e1, if_neg e2] at e
        cases e
        exact ⟨rfl, rfl⟩
end SBD
/-- the capacities -/
def cOk (c : Nat) : Prop := c = 16 ∨ c = 34 ∨ c = 70 ∨ c = 142
def gr (c m : Nat) : Nat := if m ≤ c then c else 2 * c + 2
theorem gr_ok {c m : Nat} (hc : cOk c) (hm : m ≤ 142) : cOk (gr c m) := by
  unfold cOk gr at *
  split <;> omega
theorem gr_ge {c m : Nat} (hm : m ≤ c + 11) (hc : cOk c) : m ≤ gr c m ∧ c ≤ gr c m := by
  unfold cOk gr at *
  split <;> omega
/-- the n letters t stand in B -/
def isTx (B : SB) (t : Nat → Nat) (n : Nat) : Prop := B.2.2.2.1 = n ∧ n ≤ B.2.1 ∧ cOk B.2.1 ∧ sb_Lat t n B.2.2.1 ∧ sb_Fit B.2.2.1
/-- B with more room -/
def isGr (B B' : SB) (m : Nat) : Prop := B'.2.1 = gr B.2.1 m ∧ (∀ k, k < B.2.1 → B'.2.2.1 k = B.2.2.1 k) ∧ sb_Fit B'.2.2.1 ∧ B'.2.2.2 = B.2.2.2

set_option maxRecDepth 100000 in
theorem ev_newLength {l : Launch} {G : GG} (hl : l.stackTraces = false) {h : AH} {c k q : Nat} (hk : k < q) (hc : 0 < c + q) (hq : c + q < 2000000000) :
    Ev l G 11 0 0 mJ8_newLength_cabcc [.int (nI c), .int (nI k), .int (nI q)] h (Rt (some (.int (nI (c + q)))) h) := by
  refine Ev.of hl (by decide) (Nat.le_of_ble_eq_true rfl) ?_
  refine g_iload_n (i := 0) dJ8_newLength_cabcc_0 rfl rfl ?_
  refine g_iload_n (i := 1) dJ8_newLength_cabcc_1 rfl rfl ?_
  refine g_iload_n (i := 2) dJ8_newLength_cabcc_2 rfl rfl ?_
  refine g_max dJ8_newLength_cabcc_3 ml_J8_194 w_static_yJ9_max_7cf53 w_init_java_lang_Math w_code_Math_max (Nat.le_of_ble_eq_true rfl) (Nat.le_of_ble_eq_true rfl) ?_
  rw [if_pos ((lt_nI (a := k) (b := q) rfl (by omega) (by omega)).mpr hk)]
  refine g_iadd dJ8_newLength_cabcc_6 ?_
  rw [nI_add]
  refine g_istore_n (i := 3) dJ8_newLength_cabcc_7 rfl (Nat.le_of_ble_eq_true rfl) ?_
  refine g_iconst (v := 0) dJ8_newLength_cabcc_8 (by decide) ?_
  refine g_iload_n (i := 3) dJ8_newLength_cabcc_9 rfl rfl ?_
  refine g_icmp_ge (tgt := 21) dJ8_newLength_cabcc_10 (by decide) (fun c10 => ?_) (fun c10 => ?_)
  · exact absurd ((nI_le' (a := c + q) (b := 0) rfl (by omega) (by omega)).mp c10) (by omega)
  · refine g_iload_n (i := 3) dJ8_newLength_cabcc_13 rfl rfl ?_
    refine g_ldc dJ8_newLength_cabcc_14 co_J8_200 ?_
    refine g_icmp_gt (tgt := 21) dJ8_newLength_cabcc_16 (by decide) (fun c16 => ?_) (fun c16 => ?_)
    · exact absurd ((lt_nI (a := 2147483639) (b := c + q) rfl (by omega) (by omega)).mp c16) (by omega)
    · refine g_iload_n (i := 3) dJ8_newLength_cabcc_19 rfl rfl ?_
      refine g_iret dJ8_newLength_cabcc_20 rfl rfl ?_
      exact ⟨rfl, rfl⟩

set_option maxRecDepth 100000 in
theorem ev_copyOf {l : Launch} {G : GG} (hl : l.stackTraces = false) {h : AH} {s0 g0 a c q : Nat} {f : Nat → Int32} (hh : h s0 g0 = some (bArr a c f)) (hs : s0 ≠ 26) (hc : c < q) (hq : q ≤ 142) (hf : sb_Fit f) :
    Ev l G 11 1 q mJ7_copyOf_9075b [.ref a, .int (nI q)] h (RtN (fun b => up h 26 0 (bArr b q (va_cpy f (fun _ => 0) 0 0 c)))) := by
  refine Ev.of hl (by decide) (Nat.le_of_ble_eq_true rfl) ?_
  refine g_iload_n (i := 1) dJ7_copyOf_9075b_0 rfl rfl ?_
  refine g_aload_n (i := 0) dJ7_copyOf_9075b_1 rfl rfl ?_
  refine g_alen dJ7_copyOf_9075b_2 hh (by decide) rfl ?_
  refine g_icmp_ne (tgt := 14) dJ7_copyOf_9075b_3 (by decide) (fun c3 => ?_) (fun c3 => ?_)
  · refine g_iload_n (i := 1) dJ7_copyOf_9075b_14 rfl rfl ?_
    refine g_newa (N := q) (t := 3) (s0 := 26) (g0 := 0) (a0 := (q, .inl (fun _ => 0))) dJ7_copyOf_9075b_15 w_arr_byte (by decide) rfl (fun _ => rfl) (ix_nI (by omega)) (by show q * 1 ≤ 536870912; omega) (fun _ _ h9 => h9) (fun a9 => ?_)
    refine g_astore_n (i := 2) dJ7_copyOf_9075b_17 rfl (Nat.le_of_ble_eq_true rfl) ?_
    refine g_aload_n (i := 0) dJ7_copyOf_9075b_18 rfl rfl ?_
    refine g_iconst (v := 0) dJ7_copyOf_9075b_19 (by decide) ?_
    refine g_aload_n (i := 2) dJ7_copyOf_9075b_20 rfl rfl ?_
    refine g_iconst (v := 0) dJ7_copyOf_9075b_21 (by decide) ?_
    refine g_aload_n (i := 0) dJ7_copyOf_9075b_22 rfl rfl ?_
    refine g_alen dJ7_copyOf_9075b_23 ((up_role _ _ _ _ hs).trans hh) (by decide) rfl ?_
    refine g_iload_n (i := 1) dJ7_copyOf_9075b_24 rfl rfl ?_
    refine g_min dJ7_copyOf_9075b_25 ml_J7_304 w_static_yJ9_min_7cf53 w_init_java_lang_Math w_code_Math_min (Nat.le_of_ble_eq_true rfl) (Nat.le_of_ble_eq_true rfl) ?_
    rw [if_pos ((lt_nI (a := c) (b := q) rfl (by omega) (by omega)).mpr hc)]
    refine g_copyi (t1 := 0) dJ7_copyOf_9075b_28 ml_J7_150 w_native_arraycopyName w_static_arraycopyName w_init_java_lang_System (Nat.le_of_ble_eq_true rfl) (by decide) (by decide) rfl ((up_role _ _ _ _ hs).trans hh) (up_same _ _ _ _) (ix_nI (j := 0) (by decide)) (ix_nI (j := 0) (by decide)) (ix_nI (j := c) (by omega)) (by omega) (by omega) (fun i _ => by rw [Nat.zero_add]; exact hf i) (Go.heap (up_up _ _ _ _ _) ?_)
    refine g_aload_n (i := 2) dJ7_copyOf_9075b_31 rfl rfl ?_
    refine g_aret dJ7_copyOf_9075b_32 rfl (Or.inl ⟨_, rfl⟩) ?_
    exact ⟨_, rfl, rfl⟩
  · exact absurd ((nI_inj (by omega) (by omega)).mp (Decidable.of_not_not c3)) (by omega)

set_option maxRecDepth 100000 in
theorem ev_isLatin1 {l : Launch} {G : GG} (hl : l.stackTraces = false) {A : AD} {g : Nat} {h : AH} {B : SB} :
    Ev l G 10 0 0 mJ5_isLatin1_aae02 [.ref (A 22 g)] (sbd h A g B) (Rt (some (.int 1)) (sbd h A g B)) := by
  refine Ev.of hl (by decide) (Nat.le_of_ble_eq_true rfl) ?_
  refine g_compact dJ5_isLatin1_aae02_0 fl_J5_18 ?_
  refine g_if_eq (tgt := 17) dJ5_isLatin1_aae02_3 (by decide) (fun c3 => ?_) (fun c3 => ?_)
  · exact absurd c3 (by decide)
  · refine g_aload_n (i := 0) dJ5_isLatin1_aae02_6 rfl rfl ?_
    refine g_getf dJ5_isLatin1_aae02_7 K_J4 (k := 1) fl_J5_22 (Nat.le_of_ble_eq_true rfl) sbd_22 rfl ?_
    refine g_if_ne (tgt := 17) dJ5_isLatin1_aae02_10 (by decide) (fun c10 => ?_) (fun c10 => ?_)
    · exact absurd rfl c10
    · refine g_iconst (v := 1) dJ5_isLatin1_aae02_13 (by decide) ?_
      refine g_goto (tgt := 18) dJ5_isLatin1_aae02_14 (by decide) ?_
      refine g_iret dJ5_isLatin1_aae02_18 rfl rfl ?_
      exact ⟨rfl, rfl⟩

set_option maxRecDepth 100000 in
theorem ev_canEncode {l : Launch} {G : GG} (hl : l.stackTraces = false) {h : AH} {q : Nat} (hq : q < 256) :
    Ev l G 10 0 0 mJ1_canEncode_fc78d [.int (nI q)] h (Rt (some (.int 1)) h) := by
  refine Ev.of hl (by decide) (Nat.le_of_ble_eq_true rfl) ?_
  refine g_iload_n (i := 0) dJ1_canEncode_fc78d_0 rfl rfl ?_
  refine g_sipush (v := 255) dJ1_canEncode_fc78d_1 (by decide) ?_
  refine g_icmp_gt (tgt := 11) dJ1_canEncode_fc78d_4 (by decide) (fun c4 => ?_) (fun c4 => ?_)
  · exact absurd ((lt_nI (a := 255) (b := q) rfl (by omega) (by omega)).mp c4) (by omega)
  · refine g_iconst (v := 1) dJ1_canEncode_fc78d_7 (by decide) ?_
    refine g_goto (tgt := 12) dJ1_canEncode_fc78d_8 (by decide) ?_
    refine g_iret dJ1_canEncode_fc78d_12 rfl rfl ?_
    exact ⟨rfl, rfl⟩

set_option maxRecDepth 100000 in
theorem ev_newCapacity {l : Launch} {G : GG} (hl : l.stackTraces = false) {A : AD} {g : Nat} {h : AH} {a c n q : Nat} {f : Nat → Int32} {ml : Int32} (hc : c < q) (hq : q ≤ c + 11) (h16 : 16 ≤ c) (h70 : c ≤ 70) :
    Ev l G 12 0 0 mJ5_newCapacity_0f7a4 [.ref (A 22 g), .int (nI q)] (sbd h A g (a, c, f, n, ml)) (Rt (some (.int (nI (2 * c + 2)))) (sbd h A g (a, c, f, n, ml))) := by
  refine Ev.of hl (by decide) (Nat.le_of_ble_eq_true rfl) ?_
  refine g_aload_n (i := 0) dJ5_newCapacity_0f7a4_0 rfl rfl ?_
  refine g_getf dJ5_newCapacity_0f7a4_1 K_J4 (k := 0) fl_J5_15 (Nat.le_of_ble_eq_true rfl) sbd_22 rfl ?_
  refine g_alen dJ5_newCapacity_0f7a4_4 sbd_23 (by decide) rfl ?_
  refine g_istore_n (i := 2) dJ5_newCapacity_0f7a4_5 rfl (Nat.le_of_ble_eq_true rfl) ?_
  refine g_iload_n (i := 1) dJ5_newCapacity_0f7a4_6 rfl rfl ?_
  refine g_aload_n (i := 0) dJ5_newCapacity_0f7a4_7 rfl rfl ?_
  refine g_getf dJ5_newCapacity_0f7a4_8 K_J4 (k := 1) fl_J5_22 (Nat.le_of_ble_eq_true rfl) sbd_22 rfl ?_
  refine g_ishl dJ5_newCapacity_0f7a4_11 ?_
  rw [sb_shl0]
  refine g_istore_n (i := 3) dJ5_newCapacity_0f7a4_12 rfl (Nat.le_of_ble_eq_true rfl) ?_
  refine g_iload_n (i := 3) dJ5_newCapacity_0f7a4_13 rfl rfl ?_
  refine g_iload_n (i := 2) dJ5_newCapacity_0f7a4_14 rfl rfl ?_
  refine g_isub dJ5_newCapacity_0f7a4_15 ?_
  rw [nI_sub (by omega)]
  refine g_istore dJ5_newCapacity_0f7a4_16 (Nat.le_of_ble_eq_true rfl) ?_
  refine g_iload_n (i := 2) dJ5_newCapacity_0f7a4_18 rfl rfl ?_
  refine g_iload dJ5_newCapacity_0f7a4_19 rfl ?_
  refine g_iload_n (i := 2) dJ5_newCapacity_0f7a4_21 rfl rfl ?_
  refine g_iconst (v := 2) dJ5_newCapacity_0f7a4_22 (by decide) ?_
  refine g_aload_n (i := 0) dJ5_newCapacity_0f7a4_23 rfl rfl ?_
  refine g_getf dJ5_newCapacity_0f7a4_24 K_J4 (k := 1) fl_J5_22 (Nat.le_of_ble_eq_true rfl) sbd_22 rfl ?_
  refine g_ishl dJ5_newCapacity_0f7a4_27 ?_
  rw [sb_shl0]
  refine g_iadd dJ5_newCapacity_0f7a4_28 ?_
  rw [show nI c + 2 = nI (c + 2) from nI_add c 2]
  refine g_callS (ev_newLength hl (c := c) (k := q - c) (q := c + 2) (by omega) (by omega) (by omega)) dJ5_newCapacity_0f7a4_29 ml_J5_114 csJ8_newLength_cabcc rfl rfl (Nat.le_of_ble_eq_true rfl) (Nat.le_of_ble_eq_true rfl) (Nat.zero_le _) (Nat.zero_le _) (kr_rt ?_) kx_rt
  rw [show c + (c + 2) = 2 * c + 2 by omega]
  refine g_istore dJ5_newCapacity_0f7a4_32 (Nat.le_of_ble_eq_true rfl) ?_
  refine g_iload dJ5_newCapacity_0f7a4_34 rfl ?_
  refine g_ldc dJ5_newCapacity_0f7a4_36 co_J5_39 ?_
  refine g_icmp_ne (tgt := 51) dJ5_newCapacity_0f7a4_38 (by decide) (fun c38 => ?_) (fun c38 => ?_)
  · refine g_iload dJ5_newCapacity_0f7a4_51 rfl ?_
    refine g_aload_n (i := 0) dJ5_newCapacity_0f7a4_53 rfl rfl ?_
    refine g_getf dJ5_newCapacity_0f7a4_54 K_J4 (k := 1) fl_J5_22 (Nat.le_of_ble_eq_true rfl) sbd_22 rfl ?_
    refine g_ishr dJ5_newCapacity_0f7a4_57 ?_
    rw [sb_shr0]
    refine g_iret dJ5_newCapacity_0f7a4_58 rfl rfl ?_
    exact ⟨rfl, rfl⟩
  · exact absurd ((nI_inj (a := 2 * c + 2) (b := 2147483647) (by omega) (by omega)).mp (Decidable.of_not_not c38)) (by omega)

set_option maxRecDepth 100000 in
theorem ev_ensure {l : Launch} {G : GG} (hl : l.stackTraces = false) {A : AD} {g : Nat} {h : AH} {a c n m : Nat} {f : Nat → Int32} {ml : Int32} (hc : cOk c) (hm : m ≤ c + 11) (hm2 : m ≤ 142) (hf : sb_Fit f) :
    Ev l G 13 1 142 mJ5_ensureCapacityInternal_d00df [.ref (A 22 g), .int (nI m)] (sbd h A g (a, c, f, n, ml)) (RtX none (fun x : {B' : SB // isGr (a, c, f, n, ml) B' m} => sbd h A g x.1)) := by
  refine Ev.of hl (by decide) (Nat.le_of_ble_eq_true rfl) ?_
  refine g_aload_n (i := 0) dJ5_ensureCapacityInternal_d00df_0 rfl rfl ?_
  refine g_getf dJ5_ensureCapacityInternal_d00df_1 K_J4 (k := 0) fl_J5_15 (Nat.le_of_ble_eq_true rfl) sbd_22 rfl ?_
  refine g_alen dJ5_ensureCapacityInternal_d00df_4 sbd_23 (by decide) rfl ?_
  refine g_aload_n (i := 0) dJ5_ensureCapacityInternal_d00df_5 rfl rfl ?_
  refine g_getf dJ5_ensureCapacityInternal_d00df_6 K_J4 (k := 1) fl_J5_22 (Nat.le_of_ble_eq_true rfl) sbd_22 rfl ?_
  refine g_ishr dJ5_ensureCapacityInternal_d00df_9 ?_
  rw [sb_shr0]
  refine g_istore_n (i := 2) dJ5_ensureCapacityInternal_d00df_10 rfl (Nat.le_of_ble_eq_true rfl) ?_
  refine g_iload_n (i := 1) dJ5_ensureCapacityInternal_d00df_11 rfl rfl ?_
  refine g_iload_n (i := 2) dJ5_ensureCapacityInternal_d00df_12 rfl rfl ?_
  refine g_isub dJ5_ensureCapacityInternal_d00df_13 ?_
  refine g_if_le (tgt := 38) dJ5_ensureCapacityInternal_d00df_14 (by decide) (fun c14 => ?_) (fun c14 => ?_)
  · have hmc : m ≤ c := (sub_le0 (by omega) (by unfold cOk at hc; omega)).mp c14
    refine g_vret dJ5_ensureCapacityInternal_d00df_38 rfl ?_
    exact ⟨rfl, ⟨(a, c, f, n, ml), (if_pos hmc).symm, fun _ _ => rfl, hf, rfl⟩, rfl⟩
  · have hmc : c < m := by have := mt (sub_le0 (by omega) (by unfold cOk at hc; omega)).mpr c14; omega
    have hc9 : 16 ≤ c ∧ c ≤ 70 := by unfold cOk at hc; omega
    refine g_aload_n (i := 0) dJ5_ensureCapacityInternal_d00df_17 rfl rfl ?_
    refine g_aload_n (i := 0) dJ5_ensureCapacityInternal_d00df_18 rfl rfl ?_
    refine g_getf dJ5_ensureCapacityInternal_d00df_19 K_J4 (k := 0) fl_J5_15 (Nat.le_of_ble_eq_true rfl) sbd_22 rfl ?_
    refine g_aload_n (i := 0) dJ5_ensureCapacityInternal_d00df_22 rfl rfl ?_
    refine g_iload_n (i := 1) dJ5_ensureCapacityInternal_d00df_23 rfl rfl ?_
    refine g_callP (ev_newCapacity hl hmc hm hc9.1 hc9.2) dJ5_ensureCapacityInternal_d00df_24 ml_J5_104 cpJ5_newCapacity_0f7a4 K_J4 sbd_22 rfl rfl (Nat.le_of_ble_eq_true rfl) (Nat.le_of_ble_eq_true rfl) (Nat.zero_le _) (Nat.zero_le _) (kr_rt ?_) kx_rt
    refine g_aload_n (i := 0) dJ5_ensureCapacityInternal_d00df_27 rfl rfl ?_
    refine g_getf dJ5_ensureCapacityInternal_d00df_28 K_J4 (k := 1) fl_J5_22 (Nat.le_of_ble_eq_true rfl) ((up_role _ _ _ _ (by decide)).trans sbd_22) rfl ?_
    refine g_ishl dJ5_ensureCapacityInternal_d00df_31 ?_
    rw [sb_shl0]
    refine g_callS (ev_copyOf hl (q := 2 * c + 2) sbd_23 (by decide) (by omega) (by omega) hf) dJ5_ensureCapacityInternal_d00df_32 ml_J5_108 csJ7_copyOf_9075b rfl rfl (Nat.le_of_ble_eq_true rfl) (Nat.le_of_ble_eq_true rfl) (Nat.le_refl _) (show 2 * c + 2 ≤ 142 - 0 by omega) (kr_n (fun a9 => ?_)) kx_n
    refine g_putf dJ5_ensureCapacityInternal_d00df_35 K_J4 (k := 0) fl_J5_15 (Nat.le_of_ble_eq_true rfl) rfl ((up_role _ _ _ _ (by decide)).trans sbd_22) (Nat.le_of_ble_eq_true rfl) rfl rfl ?_
    refine sbd_new ?_
    refine g_vret dJ5_ensureCapacityInternal_d00df_38 rfl ?_
    exact ⟨rfl, ⟨(a9, 2 * c + 2, _, n, ml), (if_neg (by show ¬ m ≤ c; omega)).symm, fun k hk => sb_cpy0 hk, sb_fitC hf sb_fit0, rfl⟩, rfl⟩

