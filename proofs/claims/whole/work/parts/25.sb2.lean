/-! StringBuilder.append(int); the reading words (by wip/whole/gen/m11.py). -/
/-- b holds w's digits before p, behind n0, and else what a holds -/
def gcF (a : Nat → Int32) (n0 w : Nat) (b : Nat → Int32) : Prop := (∀ j, j < n0 ∨ n0 + sb_dg w ≤ j → b j = a j) ∧ (∀ i, i < sb_dg w → b (n0 + sb_dg w - 1 - i) = sb_b (48 + w / 10 ^ i % 10)) ∧ (sb_Fit a → sb_Fit b)
theorem gcF_1 {a : Nat → Int32} {n0 w : Nat} (h : w < 10) : gcF a n0 w (va_up a n0 (sb_b (48 + w % 10))) := by
  have hd : sb_dg w = 1 := if_pos h
  refine ⟨fun j hj => va_upN (by omega), fun i hi => ?_, fun hf => fitU hf (sb_fitB _)⟩
  obtain rfl : i = 0 := by omega
  rw [hd, Nat.pow_zero, Nat.div_one]
  exact va_upS
theorem gcF_2 {a : Nat → Int32} {n0 w : Nat} (h : 10 ≤ w) (h2 : w < 100) : gcF a n0 w (va_up (va_up a (n0 + 1) (sb_b (48 + w % 10))) n0 (sb_b (48 + w / 10))) := by
  have hd : sb_dg w = 2 := by rw [sb_dg, if_neg (by omega), if_pos h2]
  refine ⟨fun j hj => (va_upN (by omega)).trans (va_upN (by omega)), fun i hi => ?_, fun hf => fitU (fitU hf (sb_fitB _)) (sb_fitB _)⟩
  obtain rfl | rfl : i = 0 ∨ i = 1 := by omega
  · rw [hd, Nat.pow_zero, Nat.div_one]
    exact (va_upN (by omega)).trans va_upS
  · rw [hd, Nat.pow_one, show w / 10 % 10 = w / 10 by omega]
    exact va_upS
theorem gcF_s {a b : Nat → Int32} {n0 w p : Nat} (h : 100 ≤ w) (hw : w < 2 ^ 31) (hp : p = n0 + sb_dg w) (H : gcF (va_up (va_up a (p - 1) (sb_b (48 + w % 10))) (p - 1 - 1) (sb_b (48 + w / 10 % 10))) n0 (w / 100) b) : gcF a n0 w b := by
  obtain ⟨h1, h2, h3⟩ := H
  have hd := sb_dg100 h hw
  have hd2 := (sb_dg_in (w / 100)).1
  subst hp
  refine ⟨fun j hj => (h1 j (by omega)).trans ((va_upN (by omega)).trans (va_upN (by omega))), fun i hi => ?_, fun hf => h3 (fitU (fitU hf (sb_fitB _)) (sb_fitB _))⟩
  match i, hi with
  | 0, _ => rw [h1 _ (by omega), va_upN (by omega), Nat.sub_zero, va_upS, Nat.pow_zero, Nat.div_one]
  | 1, _ => rw [h1 _ (by omega), va_upS, Nat.pow_one]
  | k + 2, hi =>
    have h9 := h2 k (by omega)
    rw [show n0 + sb_dg (w / 100) - 1 - k = n0 + sb_dg w - 1 - (k + 2) by omega, Nat.div_div_eq_div_mul, show 100 * 10 ^ k = 10 ^ (k + 2) by rw [show k + 2 = k + 1 + 1 from rfl, Nat.pow_succ, Nat.pow_succ]; omega] at h9
    exact h9
theorem gcF_cat {t : Nat → Nat} {n v : Nat} {a b : Nat → Int32} (hL : sb_Lat t n a) (H : gcF a n v b) : sb_Lat (sb_cat t n (sb_dec v)) (n + sb_dg v) b := by
  refine sb_latPut hL (fun j hj => H.1 j (Or.inl hj)) (fun i hi => ?_)
  have h9 := H.2.1 (sb_dg v - 1 - i) (by omega)
  rw [show n + sb_dg v - 1 - (sb_dg v - 1 - i) = n + i by omega] at h9
  exact ⟨by unfold sb_dec; omega, h9⟩
theorem dg9 {v : Nat} (h : v < 1000000000) : sb_dg v ≤ 9 := by
  unfold sb_dg
  (repeat' split) <;> omega
theorem nar_b (k : Nat) : vp_nar .byte (Int32.ofNat k) = sb_b k := rfl

set_option maxRecDepth 100000 in
theorem ev_getChars {l : Launch} {G : GG} (hl : l.stackTraces = false) {A : AD} {g : Nat} {h : AH} {a c n n0 v p0 : Nat} {f0 : Nat → Int32} {ml : Int32} (hv : v < 1000000000) (hp0 : p0 = n0 + sb_dg v) (hc : p0 ≤ c) (h142 : c ≤ 142) :
    Ev l G 10 0 0 mJ6_getChars_ba4f3 [.int (nI v), .int (nI p0), .ref a] (sbd h A g (a, c, f0, n, ml)) (RtX (some (.int (nI n0))) (fun x : {b : Nat → Int32 // gcF f0 n0 v b} => sbd h A g (a, c, x.1, n, ml))) := by
  refine Ev.of hl (by decide) (Nat.le_of_ble_eq_true rfl) ?_
  have loop : ∀ (F w p : Nat) (f : Nat → Int32) (X Y : Option Value), w < F → w < 2 ^ 31 → p = n0 + sb_dg w → p ≤ c → (∀ b, gcF f n0 w b → gcF f0 n0 v b) → Go l G mJ6_getChars_ba4f3 10 0 0 (RtX (some (.int (nI n0))) (fun x : {b : Nat → Int32 // gcF f0 n0 v b} => sbd h A g (a, c, x.1, n, ml))) 22 [some (.int (-nI w)), some (.int (nI p0)), some (.ref a), X, Y, some (.int (nI p)), some (.int 0)] [] (sbd h A g (a, c, f, n, ml)) := by
    intro F
    induction F with
    | zero => intros; omega
    | succ F ih =>
      intro w p f X Y hF hw hp hpc hP
      refine g_iload_n (i := 0) dJ6_getChars_ba4f3_22 rfl rfl ?_
      refine g_bipush (v := (-100)) dJ6_getChars_ba4f3_23 (by decide) ?_
      refine g_icmp_gt (tgt := 72) dJ6_getChars_ba4f3_25 (by decide) (fun c25 => ?_) (fun c25 => ?_)
      · have h100 : w < 100 := (sb_nlt (a := 100) (by decide) hw).mp c25
        have e1 : -(-nI w) = nI w := Int32.neg_neg
        have hd9 := (sb_dg_in w).1
        refine g_aload_n (i := 2) dJ6_getChars_ba4f3_72 rfl rfl ?_
        refine g_iinc (w := (-1)) dJ6_getChars_ba4f3_73 (by decide) rfl (sb_m1 (by omega)) (Nat.le_of_ble_eq_true rfl) ?_
        refine g_iload dJ6_getChars_ba4f3_76 rfl ?_
        refine g_onesN (j := w) dJ6_getChars_ba4f3_78 fl_J6_83 dJ6_getChars_ba4f3_81 rfl dJ6_getChars_ba4f3_82 dJ6_getChars_ba4f3_83 (by rw [e1]; exact ix_nI (by omega)) h100 ?_
        refine g_bast dJ6_getChars_ba4f3_84 sbt_23 (ix_nI (j := p - 1) (by omega)) (show p - 1 < c by omega) (show _ = sb_b (48 + w % 10) from nar_b _) (Go.heap (sbd_b (B := (a, c, f, n, ml)) (f := va_up f (p - 1) (sb_b (48 + w % 10)))) ?_)
        refine g_iload_n (i := 0) dJ6_getChars_ba4f3_85 rfl rfl ?_
        refine g_bipush (v := (-9)) dJ6_getChars_ba4f3_86 (by decide) ?_
        refine g_icmp_ge (tgt := 104) dJ6_getChars_ba4f3_88 (by decide) (fun c88 => ?_) (fun c88 => ?_)
        · refine g_iload dJ6_getChars_ba4f3_104 rfl ?_
          refine g_if_eq (tgt := 118) dJ6_getChars_ba4f3_106 (by decide) (fun c106 => ?_) (fun c106 => ?_)
          · refine g_iload dJ6_getChars_ba4f3_118 rfl ?_
            refine g_iret dJ6_getChars_ba4f3_120 rfl rfl ?_
            have h9 : w ≤ 9 := (sb_nle (a := 9) (by decide) hw).mp c88
            have hd1 : sb_dg w = 1 := if_pos (show w < 10 by omega)
            rw [show p - 1 = n0 by omega]
            exact ⟨rfl, ⟨_, hP _ (gcF_1 (by omega))⟩, rfl⟩
          · exact absurd rfl c106
        · have hw10 : ¬ w ≤ 9 := fun z => c88 ((sb_nle (a := 9) (by decide) hw).mpr z)
          have hdz : sb_dg w = 2 := by rw [sb_dg, if_neg (by omega), if_pos h100]
          refine g_aload_n (i := 2) dJ6_getChars_ba4f3_91 rfl rfl ?_
          refine g_iinc (w := (-1)) dJ6_getChars_ba4f3_92 (by decide) rfl (sb_m1 (by omega)) (Nat.le_of_ble_eq_true rfl) ?_
          refine g_iload dJ6_getChars_ba4f3_95 rfl ?_
          refine g_tensN (j := w) dJ6_getChars_ba4f3_97 fl_J6_87 dJ6_getChars_ba4f3_100 rfl dJ6_getChars_ba4f3_101 dJ6_getChars_ba4f3_102 (by rw [e1]; exact ix_nI (by omega)) h100 ?_
          refine g_bast dJ6_getChars_ba4f3_103 sbt_23 (ix_nI (j := p - 1 - 1) (by omega)) (show p - 1 - 1 < c by omega) (show _ = sb_b (48 + w / 10) from nar_b _) (Go.heap (sbd_b (B := (a, c, va_up f (p - 1) (sb_b (48 + w % 10)), n, ml)) (f := va_up (va_up f (p - 1) (sb_b (48 + w % 10))) (p - 1 - 1) (sb_b (48 + w / 10)))) ?_)
          refine g_iload dJ6_getChars_ba4f3_104 rfl ?_
          refine g_if_eq (tgt := 118) dJ6_getChars_ba4f3_106 (by decide) (fun c106 => ?_) (fun c106 => ?_)
          · refine g_iload dJ6_getChars_ba4f3_118 rfl ?_
            refine g_iret dJ6_getChars_ba4f3_120 rfl rfl ?_
            have h9 : ¬ w ≤ 9 := fun z => c88 ((sb_nle (a := 9) (by decide) hw).mpr z)
            have hd1 : sb_dg w = 2 := by rw [sb_dg, if_neg (by omega), if_pos h100]
            rw [show p - 1 - 1 = n0 by omega, show p - 1 = n0 + 1 by omega]
            exact ⟨rfl, ⟨_, hP _ (gcF_2 (by omega) h100)⟩, rfl⟩
          · exact absurd rfl c106
      · have h100 : ¬ w < 100 := fun z => c25 ((sb_nlt (by decide) hw).mpr z)
        have hd := sb_dg100 (w := w) (by omega) hw
        have hd2 := (sb_dg_in (w / 100)).1
        have hd9 := (sb_dg_in w).1
        refine g_iload_n (i := 0) dJ6_getChars_ba4f3_28 rfl rfl ?_
        refine g_bipush (v := 100) dJ6_getChars_ba4f3_29 (by decide) ?_
        refine g_idiv dJ6_getChars_ba4f3_31 (by decide) ?_
        rw [sb_ndiv hw]
        refine g_istore_n (i := 3) dJ6_getChars_ba4f3_32 rfl (Nat.le_of_ble_eq_true rfl) ?_
        refine g_iload_n (i := 3) dJ6_getChars_ba4f3_33 rfl rfl ?_
        refine g_bipush (v := 100) dJ6_getChars_ba4f3_34 (by decide) ?_
        refine g_imul dJ6_getChars_ba4f3_36 ?_
        refine g_iload_n (i := 0) dJ6_getChars_ba4f3_37 rfl rfl ?_
        refine g_isub dJ6_getChars_ba4f3_38 ?_
        rw [sb_nrem hw]
        refine g_istore dJ6_getChars_ba4f3_39 (Nat.le_of_ble_eq_true rfl) ?_
        refine g_iload_n (i := 3) dJ6_getChars_ba4f3_41 rfl rfl ?_
        refine g_istore_n (i := 0) dJ6_getChars_ba4f3_42 rfl (Nat.le_of_ble_eq_true rfl) ?_
        refine g_aload_n (i := 2) dJ6_getChars_ba4f3_43 rfl rfl ?_
        refine g_iinc (w := (-1)) dJ6_getChars_ba4f3_44 (by decide) rfl (sb_m1 (by omega)) (Nat.le_of_ble_eq_true rfl) ?_
        refine g_iload dJ6_getChars_ba4f3_47 rfl ?_
        refine g_ones (ln := 0) (j := w % 100) dJ6_getChars_ba4f3_49 fl_J6_83 dJ6_getChars_ba4f3_52 rfl dJ6_getChars_ba4f3_54 (ix_nI (by omega)) (by omega) ?_
        refine g_bast dJ6_getChars_ba4f3_55 sbt_23 (ix_nI (j := p - 1) (by omega)) (show p - 1 < c by omega) (show _ = sb_b (48 + w % 10) by rw [nar_b, show w % 100 % 10 = w % 10 by omega]) (Go.heap (sbd_b (B := (a, c, f, n, ml)) (f := va_up f (p - 1) (sb_b (48 + w % 10)))) ?_)
        refine g_aload_n (i := 2) dJ6_getChars_ba4f3_56 rfl rfl ?_
        refine g_iinc (w := (-1)) dJ6_getChars_ba4f3_57 (by decide) rfl (sb_m1 (by omega)) (Nat.le_of_ble_eq_true rfl) ?_
        refine g_iload dJ6_getChars_ba4f3_60 rfl ?_
        refine g_tens (ln := 0) (j := w % 100) dJ6_getChars_ba4f3_62 fl_J6_87 dJ6_getChars_ba4f3_65 rfl dJ6_getChars_ba4f3_67 (ix_nI (by omega)) (by omega) ?_
        refine g_bast dJ6_getChars_ba4f3_68 sbt_23 (ix_nI (j := p - 1 - 1) (by omega)) (show p - 1 - 1 < c by omega) (show _ = sb_b (48 + w / 10 % 10) by rw [nar_b, show w % 100 / 10 = w / 10 % 10 by omega]) (Go.heap (sbd_b (B := (a, c, va_up f (p - 1) (sb_b (48 + w % 10)), n, ml)) (f := va_up (va_up f (p - 1) (sb_b (48 + w % 10))) (p - 1 - 1) (sb_b (48 + w / 10 % 10)))) ?_)
        refine g_goto (tgt := 22) dJ6_getChars_ba4f3_69 (by decide) ?_
        exact ih (w / 100) (p - 1 - 1) _ _ _ (by omega) (by omega) (by omega) (by omega) (fun b hb => hP b (gcF_s (by omega) hw hp hb))
  refine g_iload_n (i := 1) dJ6_getChars_ba4f3_0 rfl rfl ?_
  refine g_istore dJ6_getChars_ba4f3_1 (Nat.le_of_ble_eq_true rfl) ?_
  refine g_iload_n (i := 0) dJ6_getChars_ba4f3_3 rfl rfl ?_
  refine g_if_ge (tgt := 11) dJ6_getChars_ba4f3_4 (by decide) (fun c4 => ?_) (fun c4 => ?_)
  · refine g_iconst (v := 0) dJ6_getChars_ba4f3_11 (by decide) ?_
    refine g_istore dJ6_getChars_ba4f3_12 (Nat.le_of_ble_eq_true rfl) ?_
    refine g_iload dJ6_getChars_ba4f3_14 rfl ?_
    refine g_if_ne (tgt := 22) dJ6_getChars_ba4f3_16 (by decide) (fun c16 => ?_) (fun c16 => ?_)
    · exact absurd rfl c16
    · refine g_iload_n (i := 0) dJ6_getChars_ba4f3_19 rfl rfl ?_
      refine g_ineg dJ6_getChars_ba4f3_20 ?_
      refine g_istore_n (i := 0) dJ6_getChars_ba4f3_21 rfl (Nat.le_of_ble_eq_true rfl) ?_
      exact loop (v + 1) v p0 f0 _ _ (by omega) (by omega) hp0 hc (fun _ z => z)
  · exact absurd (nI_pos' (n := v) (by omega)) c4

set_option maxRecDepth 100000 in
theorem ev_appendI5 {l : Launch} {G : GG} (hl : l.stackTraces = false) {A : AD} {g : Nat} {h : AH} {a c n : Nat} {f : Nat → Int32} {ml : Int32} {t : Nat → Nat} (hn : n ≤ c) (hc : cOk c) (hL : sb_Lat t n f) (hf : sb_Fit f) {v : Nat} (hv : v < 1000000000) (h142 : n + sb_dg v ≤ 142) :
    Ev l G 14 1 142 mJ5_append_c97b9 [.ref (A 22 g), .int (nI v)] (sbd h A g (a, c, f, n, ml)) (RtX (some (.ref (A 22 g))) (fun x : {B' : SB // isTx B' (sb_cat t n (sb_dec v)) (n + sb_dg v)} => sbd h A g x.1)) := by
  refine Ev.of hl (by decide) (Nat.le_of_ble_eq_true rfl) ?_
  refine g_aload_n (i := 0) dJ5_append_c97b9_0 rfl rfl ?_
  refine g_getf dJ5_append_c97b9_1 K_J4 (k := 3) fl_J5_79 (Nat.le_of_ble_eq_true rfl) sbt_22 rfl ?_
  refine g_istore_n (i := 2) dJ5_append_c97b9_4 rfl (Nat.le_of_ble_eq_true rfl) ?_
  refine g_iload_n (i := 2) dJ5_append_c97b9_5 rfl rfl ?_
  refine g_iload_n (i := 1) dJ5_append_c97b9_6 rfl rfl ?_
  refine g_callS (ev_stringSize hl hv) dJ5_append_c97b9_7 ml_J5_245 csJ6_stringSize_0f7a4 rfl rfl (Nat.le_of_ble_eq_true rfl) (Nat.le_of_ble_eq_true rfl) (Nat.zero_le _) (Nat.zero_le _) (kr_rt ?_) kx_rt
  refine g_iadd dJ5_append_c97b9_10 ?_
  rw [nI_add]
  have hd9 := dg9 hv
  refine g_istore_n (i := 3) dJ5_append_c97b9_11 rfl (Nat.le_of_ble_eq_true rfl) ?_
  refine g_aload_n (i := 0) dJ5_append_c97b9_12 rfl rfl ?_
  refine g_iload_n (i := 3) dJ5_append_c97b9_13 rfl rfl ?_
  refine g_callP (ev_ensure hl hc (m := n + sb_dg v) (by omega) h142 hf) dJ5_append_c97b9_14 ml_J5_100 cpJ5_ensureCapacityInternal_d00df K_J4 sbt_22 rfl rfl (Nat.le_of_ble_eq_true rfl) (Nat.le_of_ble_eq_true rfl) (Nat.le_refl _) (Nat.le_refl _) (kr_xvm (fun x9 => ?_)) kx_x
  obtain ⟨⟨a', c', f', n', ml'⟩, hc', hk', hf', hn'⟩ := x9
  have en : n = n' := (congrArg Prod.fst hn').symm
  have em : ml = ml' := (congrArg Prod.snd hn').symm
  have hc2 : c' = grw c (n + sb_dg v) := hc'
  have hk2 : ∀ k, k < c → f' k = f k := hk'
  have hf2 : sb_Fit f' := hf'
  refine Go.heap (h' := sbd h A g (a', c', f', n', ml')) rfl ?_
  clear hc' hk' hf' hn'
  subst en; subst em
  have hg9 := grw_ge (c := c) (m := n + sb_dg v) (by omega) hc
  have hg8 := grw_ok hc h142
  rw [← hc2] at hg8 hg9
  refine g_aload_n (i := 0) dJ5_append_c97b9_17 rfl rfl ?_
  refine g_callQ (ev_isLatin1 hl) dJ5_append_c97b9_18 ml_J5_83 cqJ5_isLatin1_aae02 K_J4 sbt_22 rfl rfl (Nat.le_of_ble_eq_true rfl) (Nat.le_of_ble_eq_true rfl) (Nat.zero_le _) (Nat.zero_le _) (kr_rt ?_) kx_rt
  refine g_if_eq (tgt := 37) dJ5_append_c97b9_21 (by decide) (fun c21 => ?_) (fun c21 => ?_)
  · exact absurd c21 (by decide)
  · refine g_iload_n (i := 1) dJ5_append_c97b9_24 rfl rfl ?_
    refine g_iload_n (i := 3) dJ5_append_c97b9_25 rfl rfl ?_
    refine g_aload_n (i := 0) dJ5_append_c97b9_26 rfl rfl ?_
    refine g_getf dJ5_append_c97b9_27 K_J4 (k := 0) fl_J5_15 (Nat.le_of_ble_eq_true rfl) sbt_22 rfl ?_
    refine g_callS (ev_getChars hl (n0 := n) hv rfl hg9.1 (by unfold cOk at hg8; omega)) dJ5_append_c97b9_30 ml_J5_248 csJ6_getChars_ba4f3 rfl rfl (Nat.le_of_ble_eq_true rfl) (Nat.le_of_ble_eq_true rfl) (Nat.zero_le _) (Nat.zero_le _) (kr_x (fun x9 => ?_)) kx_x
    obtain ⟨b', hb'⟩ := x9
    refine Go.heap (h' := sbd h A g (a', c', b', n, ml)) rfl ?_
    refine g_pop dJ5_append_c97b9_33 rfl ?_
    refine g_goto (tgt := 48) dJ5_append_c97b9_34 (by decide) ?_
    refine g_aload_n (i := 0) dJ5_append_c97b9_48 rfl rfl ?_
    refine g_iload_n (i := 3) dJ5_append_c97b9_49 rfl rfl ?_
    refine g_putf dJ5_append_c97b9_50 K_J4 (k := 3) fl_J5_79 (Nat.le_of_ble_eq_true rfl) rfl sbt_22 (Nat.le_of_ble_eq_true rfl) rfl rfl (Go.heap (sbd_o (B := (a', c', b', n, ml)) (n := n + sb_dg v) (ml := ml)) ?_)
    refine g_aload_n (i := 0) dJ5_append_c97b9_53 rfl rfl ?_
    refine g_aret dJ5_append_c97b9_54 rfl (Or.inl ⟨_, rfl⟩) ?_
    exact ⟨rfl, ⟨(a', c', b', n + sb_dg v, ml), rfl, hg9.1, hg8, gcF_cat (sb_latKeep hL (fun j hj => hk2 j (by omega))) hb', hb'.2.2 hf2⟩, rfl⟩

set_option maxRecDepth 100000 in
theorem ev_appendI {l : Launch} {G : GG} (hl : l.stackTraces = false) {A : AD} {g : Nat} {h : AH} {a c n : Nat} {f : Nat → Int32} {ml : Int32} {t : Nat → Nat} (hn : n ≤ c) (hc : cOk c) (hL : sb_Lat t n f) (hf : sb_Fit f) {v : Nat} (hv : v < 1000000000) (h142 : n + sb_dg v ≤ 142) :
    Ev l G 15 1 142 mJ4_append_bf812 [.ref (A 22 g), .int (nI v)] (sbd h A g (a, c, f, n, ml)) (RtX (some (.ref (A 22 g))) (fun x : {B' : SB // isTx B' (sb_cat t n (sb_dec v)) (n + sb_dg v)} => sbd h A g x.1)) := by
  refine Ev.of hl (by decide) (Nat.le_of_ble_eq_true rfl) ?_
  refine g_aload_n (i := 0) dJ4_append_bf812_0 rfl rfl ?_
  refine g_iload_n (i := 1) dJ4_append_bf812_1 rfl rfl ?_
  refine g_callU (ev_appendI5 hl hn hc hL hf hv h142) dJ4_append_bf812_2 ml_J4_53 cuJ5_append_c97b9 K_J4 sbt_22 rfl rfl (Nat.le_of_ble_eq_true rfl) (Nat.le_of_ble_eq_true rfl) (Nat.le_refl _) (Nat.le_refl _) (kr_xm (fun x9 => ?_)) kx_x
  refine g_pop dJ4_append_bf812_5 rfl ?_
  refine g_aload_n (i := 0) dJ4_append_bf812_6 rfl rfl ?_
  refine g_aret dJ4_append_bf812_7 rfl (Or.inl ⟨_, rfl⟩) ?_
  exact ⟨rfl, x9, rfl⟩

theorem rdC : ∀ i, i < 4 → ∀ j, j < rdLen.getD i 0 → ((((rdByt.getD i []).getD j 0) &&& 255).toUInt32 % 65536).toInt32 = (rdByt.getD i []).getD j 0 := by decide +kernel
theorem rdN : ∀ i, i < 4 → ∀ j, j < rdLen.getD i 0 → narrow .char (.int ((rdByt.getD i []).getD j 0)) = .int ((rdByt.getD i []).getD j 0) := fun i hi j hj => by
  have h := rdC i hi j hj
  have h2 : ∀ i, i < 4 → ∀ j, j < rdLen.getD i 0 → (((rdByt.getD i []).getD j 0).toUInt32 % 65536).toInt32 = (rdByt.getD i []).getD j 0 := by decide +kernel
  exact congrArg Value.int (h2 i hi j hj)
theorem rdL : ∀ i, i < 4 → rdLen.getD i 0 < 8 := by decide

set_option maxRecDepth 100000 in
theorem ev_coderR {l : Launch} {G : GG} (hl : l.stackTraces = false) {h : AH} {i : Nat} (hi : i < 4) :
    Ev l G 10 0 0 mJ0_coder_7d493 [.ref (gK G i)] h (Rt (some (.int 0)) h) := by
  refine Ev.of hl (by decide) (Nat.le_of_ble_eq_true rfl) ?_
  refine g_compact dJ0_coder_7d493_0 fl_J0_38 ?_
  refine g_if_eq (tgt := 13) dJ0_coder_7d493_3 (by decide) (fun c3 => ?_) (fun c3 => ?_)
  · exact absurd c3 (by decide)
  · refine g_aload_n (i := 0) dJ0_coder_7d493_6 rfl rfl ?_
    refine g_coderR dJ0_coder_7d493_7 fl_J0_15 hi ?_
    refine g_goto (tgt := 14) dJ0_coder_7d493_10 (by decide) ?_
    refine g_iret dJ0_coder_7d493_14 rfl rfl ?_
    exact ⟨rfl, rfl⟩

set_option maxRecDepth 100000 in
theorem ev_isLatin1R {l : Launch} {G : GG} (hl : l.stackTraces = false) {h : AH} {i : Nat} (hi : i < 4) :
    Ev l G 10 0 0 mJ0_isLatin1_aae02 [.ref (gK G i)] h (Rt (some (.int 1)) h) := by
  refine Ev.of hl (by decide) (Nat.le_of_ble_eq_true rfl) ?_
  refine g_compact dJ0_isLatin1_aae02_0 fl_J0_38 ?_
  refine g_if_eq (tgt := 17) dJ0_isLatin1_aae02_3 (by decide) (fun c3 => ?_) (fun c3 => ?_)
  · exact absurd c3 (by decide)
  · refine g_aload_n (i := 0) dJ0_isLatin1_aae02_6 rfl rfl ?_
    refine g_coderR dJ0_isLatin1_aae02_7 fl_J0_15 hi ?_
    refine g_if_ne (tgt := 17) dJ0_isLatin1_aae02_10 (by decide) (fun c10 => ?_) (fun c10 => ?_)
    · exact absurd rfl c10
    · refine g_iconst (v := 1) dJ0_isLatin1_aae02_13 (by decide) ?_
      refine g_goto (tgt := 18) dJ0_isLatin1_aae02_14 (by decide) ?_
      refine g_iret dJ0_isLatin1_aae02_18 rfl rfl ?_
      exact ⟨rfl, rfl⟩

set_option maxRecDepth 100000 in
theorem ev_lengthR {l : Launch} {G : GG} (hl : l.stackTraces = false) {h : AH} {i : Nat} (hi : i < 4) :
    Ev l G 11 0 0 mJ0_length_8abf5 [.ref (gK G i)] h (Rt (some (.int (nI (rdLen.getD i 0)))) h) := by
  refine Ev.of hl (by decide) (Nat.le_of_ble_eq_true rfl) ?_
  refine g_aload_n (i := 0) dJ0_length_8abf5_0 rfl rfl ?_
  refine g_valueR dJ0_length_8abf5_1 fl_J0_9 hi ?_
  refine g_alenR dJ0_length_8abf5_4 hi ?_
  refine g_aload_n (i := 0) dJ0_length_8abf5_5 rfl rfl ?_
  refine g_callR (i := i) (ev_coderR hl hi) dJ0_length_8abf5_6 ml_J0_335 cvJ0_coder_7d493 rfl rfl hi rfl rfl (Nat.le_of_ble_eq_true rfl) (Nat.le_of_ble_eq_true rfl) (Nat.zero_le _) (Nat.zero_le _) (kr_rt ?_) kx_rt
  refine g_ishr dJ0_length_8abf5_9 ?_
  rw [sb_shr0]
  refine g_iret dJ0_length_8abf5_10 rfl rfl ?_
  exact ⟨rfl, rfl⟩

set_option maxRecDepth 100000 in
theorem ev_charAt1R {l : Launch} {G : GG} (hl : l.stackTraces = false) {h : AH} {i : Nat} (hi : i < 4) {j : Nat} (hj : j < rdLen.getD i 0) :
    Ev l G 12 0 0 mJ1_charAt_3b067 [.ref (gV G i), .int (nI j)] h (Rt (some (.int ((rdByt.getD i []).getD j 0))) h) := by
  refine Ev.of hl (by decide) (Nat.le_of_ble_eq_true rfl) ?_
  have hl8 := rdL i hi
  refine g_iload_n (i := 1) dJ1_charAt_3b067_0 rfl rfl ?_
  refine g_aload_n (i := 0) dJ1_charAt_3b067_1 rfl rfl ?_
  refine g_alenR dJ1_charAt_3b067_2 hi ?_
  refine g_callS (ev_checkIndex hl hj (by omega)) dJ1_charAt_3b067_3 ml_J1_9 csJ0_checkIndex_df160 rfl rfl (Nat.le_of_ble_eq_true rfl) (Nat.le_of_ble_eq_true rfl) (Nat.zero_le _) (Nat.zero_le _) (kr_vd ?_) kx_rt
  refine g_aload_n (i := 0) dJ1_charAt_3b067_6 rfl rfl ?_
  refine g_iload_n (i := 1) dJ1_charAt_3b067_7 rfl rfl ?_
  refine g_baldR (j := j) dJ1_charAt_3b067_8 hi (ix_nI (by omega)) hj ?_
  refine g_sipush (v := 255) dJ1_charAt_3b067_9 (by decide) ?_
  refine g_iand dJ1_charAt_3b067_12 ?_
  refine g_i2c dJ1_charAt_3b067_13 (rdC i hi j hj) ?_
  refine g_iret dJ1_charAt_3b067_14 rfl (rdN i hi j hj) ?_
  exact ⟨rfl, rfl⟩

set_option maxRecDepth 100000 in
theorem ev_charAtR {l : Launch} {G : GG} (hl : l.stackTraces = false) {h : AH} {i : Nat} (hi : i < 4) {j : Nat} (hj : j < rdLen.getD i 0) :
    Ev l G 14 0 0 mJ0_charAt_5068e [.ref (gK G i), .int (nI j)] h (Rt (some (.int ((rdByt.getD i []).getD j 0))) h) := by
  refine Ev.of hl (by decide) (Nat.le_of_ble_eq_true rfl) ?_
  refine g_aload_n (i := 0) dJ0_charAt_5068e_0 rfl rfl ?_
  refine g_callR (i := i) (ev_isLatin1R hl hi) dJ0_charAt_5068e_1 ml_J0_492 cvJ0_isLatin1_aae02 rfl rfl hi rfl rfl (Nat.le_of_ble_eq_true rfl) (Nat.le_of_ble_eq_true rfl) (Nat.zero_le _) (Nat.zero_le _) (kr_rt ?_) kx_rt
  refine g_if_eq (tgt := 16) dJ0_charAt_5068e_4 (by decide) (fun c4 => ?_) (fun c4 => ?_)
  · exact absurd c4 (by decide)
  · refine g_aload_n (i := 0) dJ0_charAt_5068e_7 rfl rfl ?_
    refine g_valueR dJ0_charAt_5068e_8 fl_J0_9 hi ?_
    refine g_iload_n (i := 1) dJ0_charAt_5068e_11 rfl rfl ?_
    refine g_callS (ev_charAt1R hl hi hj) dJ0_charAt_5068e_12 ml_J0_495 csJ1_charAt_3b067 rfl rfl (Nat.le_of_ble_eq_true rfl) (Nat.le_of_ble_eq_true rfl) (Nat.zero_le _) (Nat.zero_le _) (kr_rt ?_) kx_rt
    refine g_iret dJ0_charAt_5068e_15 rfl (rdN i hi j hj) ?_
    exact ⟨rfl, rfl⟩

