/-! CommandReader: words, commands, the text (by wip/whole/gen/m13.py). -/
section RU
variable {h : AH} {A : AD} {B : SB} {n p : Nat} {K : Nat → CM} {c : CM}
theorem rdh_25u {i : Nat} (hi : i < 10) : rdh h A (n, p, va_up K i c) B 25 i = some (A 25 i, .inr (1, [.int c.1, .int c.2.1, .int c.2.2.1, .int c.2.2.2])) := by
  rw [rdh_25 hi]
  simp only [va_up_self]
theorem rdh_cu {i : Nat} {c' : CM} (hi : i < 10) : up (rdh h A (n, p, va_up K i c) B) 25 i (cmO A i c') = rdh h A (n, p, va_up K i c') B := by
  rw [rdh_c hi]
  show rdh h A (n, p, va_up (va_up K i c) i c') B = _
  rw [va_up2]
end RU

set_option maxRecDepth 100000 in
theorem ev_readWord {l : Launch} {G : GG} (hl : l.stackTraces = false) {A : AD} {h : AH} {B : SB} {T : TX} (hT : tOk T) (hB : isTx B T.1 T.2) {n p : Nat} {K : Nat → CM} (hp : p ≤ T.2) {w : Nat} (hw : w < 4) :
    Ev l G 16 0 0 mX2_readWord [.ref (A 21 0), .ref (gK G w)] (rdh h A (n, p, K) B) (Rt (some (.int (if (rWd T w p).2 = true then 1 else 0))) (rdh h A (n, (rWd T w p).1, K) B)) := by
  refine Ev.of hl (by decide) (Nat.le_of_ble_eq_true rfl) ?_
  have hl8 := rdL w hw
  have loop : ∀ (j : Nat) (k p : Nat), k + j = rdLen.getD w 0 → p ≤ T.2 → Go l G mX2_readWord 16 0 0 (Rt (some (.int (if (wrd T (rdW w) j k p).2 = true then 1 else 0))) (rdh h A (n, (wrd T (rdW w) j k p).1, K) B)) 2 [some (.ref (A 21 0)), some (.ref (gK G w)), some (.int (nI k))] [] (rdh h A (n, p, K) B) := by
    intro j
    induction j with
    | zero =>
      intro k p hk hp
      refine g_iload_n (i := 2) dX2_readWord_2 rfl rfl ?_
      refine g_aload_n (i := 1) dX2_readWord_3 rfl rfl ?_
      refine g_callR (i := w) (ev_lengthR hl hw) dX2_readWord_4 ml_X2_111 cvJ0_length_8abf5 rfl rfl hw rfl rfl (Nat.le_of_ble_eq_true rfl) (Nat.le_of_ble_eq_true rfl) (Nat.zero_le _) (Nat.zero_le _) (kr_rt ?_) kx_rt
      refine g_icmp_ge (tgt := 30) dX2_readWord_7 (by decide) (fun c7 => ?_) (fun c7 => ?_)
      · refine g_iconst (v := 1) dX2_readWord_30 (by decide) ?_
        refine g_iret dX2_readWord_31 rfl rfl ?_
        exact ⟨rfl, rfl⟩
      · exact absurd ((le_nI (a := rdLen.getD w 0) (b := k) rfl (by omega) (by omega)).mpr (by omega)) c7
    | succ j ih =>
      intro k p hk hp
      refine g_iload_n (i := 2) dX2_readWord_2 rfl rfl ?_
      refine g_aload_n (i := 1) dX2_readWord_3 rfl rfl ?_
      refine g_callR (i := w) (ev_lengthR hl hw) dX2_readWord_4 ml_X2_111 cvJ0_length_8abf5 rfl rfl hw rfl rfl (Nat.le_of_ble_eq_true rfl) (Nat.le_of_ble_eq_true rfl) (Nat.zero_le _) (Nat.zero_le _) (kr_rt ?_) kx_rt
      refine g_icmp_ge (tgt := 30) dX2_readWord_7 (by decide) (fun c7 => ?_) (fun c7 => ?_)
      · exact absurd ((le_nI (a := rdLen.getD w 0) (b := k) rfl (by omega) (by omega)).mp c7) (by omega)
      · refine g_aload_n (i := 0) dX2_readWord_10 rfl rfl ?_
        refine g_aload_n (i := 1) dX2_readWord_11 rfl rfl ?_
        refine g_iload_n (i := 2) dX2_readWord_12 rfl rfl ?_
        refine g_callR (i := w) (ev_charAtR hl hw (j := k) (by omega)) dX2_readWord_13 ml_X2_114 cvJ0_charAt_5068e rfl rfl hw rfl rfl (Nat.le_of_ble_eq_true rfl) (Nat.le_of_ble_eq_true rfl) (Nat.zero_le _) (Nat.zero_le _) (kr_rt ?_) kx_rt
        refine g_callV (ev_readSign hl hT hB (S := (n, p, K)) hp (x := rdW w k)) dX2_readWord_16 ml_X2_48 cvX2_readSign K_X2 rfl rdh_21 rfl rfl (Nat.le_of_ble_eq_true rfl) (Nat.le_of_ble_eq_true rfl) (Nat.zero_le _) (Nat.zero_le _) (kr_rt ?_) kx_rt
        refine g_if_ne (tgt := 24) dX2_readWord_19 (by decide) (fun c19 => ?_) (fun c19 => ?_)
        · have hx : nxt T p (rdW w k) = true := ite_1 c19
          show Go l G mX2_readWord 16 _ _ _ _ _ _ (rdh h A (n, if nxt T p (rdW w k) = true then p + 1 else p, K) B)
          rw [if_pos hx]
          refine g_iinc (w := 1) dX2_readWord_24 (by decide) rfl (nI_succ k).symm (Nat.le_of_ble_eq_true rfl) ?_
          refine g_goto (tgt := 2) dX2_readWord_27 (by decide) ?_
          rw [show wrd T (rdW w) (j + 1) k p = wrd T (rdW w) j (k + 1) (p + 1) from if_pos hx]
          exact ih (k + 1) (p + 1) (by omega) (of_decide_eq_true hx).1
        · have hx : ¬ nxt T p (rdW w k) = true := ite_0 c19
          show Go l G mX2_readWord 16 _ _ _ _ _ _ (rdh h A (n, if nxt T p (rdW w k) = true then p + 1 else p, K) B)
          rw [if_neg hx]
          refine g_iconst (v := 0) dX2_readWord_22 (by decide) ?_
          refine g_iret dX2_readWord_23 rfl rfl ?_
          exact ⟨by rw [show wrd T (rdW w) (j + 1) k p = (p, false) from if_neg hx]; rfl, by rw [show wrd T (rdW w) (j + 1) k p = (p, false) from if_neg hx]⟩
  refine g_iconst (v := 0) dX2_readWord_0 (by decide) ?_
  refine g_istore_n (i := 2) dX2_readWord_1 rfl (Nat.le_of_ble_eq_true rfl) ?_
  exact loop _ 0 p (Nat.zero_add _) hp

set_option maxRecDepth 100000 in
theorem ev_readCell {l : Launch} {G : GG} (hl : l.stackTraces = false) {A : AD} {h : AH} {B : SB} {T : TX} (hT : tOk T) (hB : isTx B T.1 T.2) {n p : Nat} {K : Nat → CM} (hp : p ≤ T.2) {i : Nat} {c : CM} (hi : i < 10) :
    Ev l G 15 0 0 mX2_readCell [.ref (A 21 0), .ref (A 25 i)] (rdh h A (n, p, va_up K i c) B) (Rt (some (.int (if (rCell T p c).2.2 = true then 1 else 0))) (rdh h A (n, (rCell T p c).1, va_up K i (rCell T p c).2.1) B)) := by
  refine Ev.of hl (by decide) (Nat.le_of_ble_eq_true rfl) ?_
  refine g_aload_n (i := 1) dX2_readCell_0 rfl rfl ?_
  refine g_aload_n (i := 0) dX2_readCell_1 rfl rfl ?_
  refine g_callV (ev_readDigit hl hT hB (S := (n, p, va_up K i c)) hp) dX2_readCell_2 ml_X2_88 cvX2_readDigit K_X2 rfl rdh_21 rfl rfl (Nat.le_of_ble_eq_true rfl) (Nat.le_of_ble_eq_true rfl) (Nat.zero_le _) (Nat.zero_le _) (kr_rt ?_) kx_rt
  refine g_putN dX2_readCell_5 K_X1 (k := 1) fl_X2_91 (Nat.le_of_ble_eq_true rfl) rfl (rdh_25u hi) (Nat.le_of_ble_eq_true rfl) rfl rfl (Go.heap (rdh_cu (n := n) (p := digP T p) (c := c) (c' := (c.1, oI (dig T p), c.2.2)) hi) ?_)
  refine g_aload_n (i := 1) dX2_readCell_8 rfl rfl ?_
  refine g_getN dX2_readCell_9 K_X1 (k := 1) fl_X2_91 (Nat.le_of_ble_eq_true rfl) (rdh_25u hi) rfl ?_
  refine g_iconst (v := (-1)) dX2_readCell_12 (by decide) ?_
  refine g_icmp_ne (tgt := 18) dX2_readCell_13 (by decide) (fun c13 => ?_) (fun c13 => ?_)
  · obtain ⟨x, hd⟩ := oI_some c13
    refine Go.heap (h' := rdh h A (n, p + 1, va_up K i (c.1, nI x, c.2.2)) B) (by rw [digP_s hd, hd]; rfl) ?_
    refine g_aload_n (i := 1) dX2_readCell_18 rfl rfl ?_
    refine g_aload_n (i := 0) dX2_readCell_19 rfl rfl ?_
    refine g_callV (ev_readDigit hl hT hB (S := (n, (p + 1), va_up K i (c.1, nI x, c.2.2))) (by have := dig_le hd; show p + 1 ≤ T.2; omega)) dX2_readCell_20 ml_X2_88 cvX2_readDigit K_X2 rfl rdh_21 rfl rfl (Nat.le_of_ble_eq_true rfl) (Nat.le_of_ble_eq_true rfl) (Nat.zero_le _) (Nat.zero_le _) (kr_rt ?_) kx_rt
    refine g_putN dX2_readCell_23 K_X1 (k := 2) fl_X2_94 (Nat.le_of_ble_eq_true rfl) rfl (rdh_25u hi) (Nat.le_of_ble_eq_true rfl) rfl rfl (Go.heap (rdh_cu (n := n) (p := digP T (p + 1)) (c := (c.1, nI x, c.2.2)) (c' := (c.1, nI x, oI (dig T (p + 1)), c.2.2.2)) hi) ?_)
    refine g_aload_n (i := 1) dX2_readCell_26 rfl rfl ?_
    refine g_getN dX2_readCell_27 K_X1 (k := 2) fl_X2_94 (Nat.le_of_ble_eq_true rfl) (rdh_25u hi) rfl ?_
    refine g_iconst (v := (-1)) dX2_readCell_30 (by decide) ?_
    refine g_icmp_eq (tgt := 38) dX2_readCell_31 (by decide) (fun c31 => ?_) (fun c31 => ?_)
    · have hd2 := dig_none c31
      refine g_iconst (v := 0) dX2_readCell_38 (by decide) ?_
      refine g_iret dX2_readCell_39 rfl rfl ?_
      exact ⟨by rw [rCell_2 hd hd2]; rfl, by rw [rCell_2 hd hd2, digP_n hd2, hd2]; rfl⟩
    · obtain ⟨x2, hd2⟩ := oI_some c31
      refine g_iconst (v := 1) dX2_readCell_34 (by decide) ?_
      refine g_goto (tgt := 39) dX2_readCell_35 (by decide) ?_
      refine g_iret dX2_readCell_39 rfl rfl ?_
      exact ⟨by rw [rCell_3 hd hd2]; rfl, by rw [rCell_3 hd hd2, digP_s hd2, hd2]; rfl⟩
  · have hd := dig_none c13
    refine g_iconst (v := 0) dX2_readCell_16 (by decide) ?_
    refine g_iret dX2_readCell_17 rfl rfl ?_
    exact ⟨by rw [rCell_1 hd]; rfl, by rw [rCell_1 hd, digP_n hd, hd]; rfl⟩

set_option maxRecDepth 100000 in
theorem ev_readSide {l : Launch} {G : GG} (hl : l.stackTraces = false) {A : AD} {h : AH} {B : SB} {T : TX} (hT : tOk T) (hB : isTx B T.1 T.2) {n p : Nat} {K : Nat → CM} (hp : p ≤ T.2) {i : Nat} {c : CM} (hi : i < 10) :
    Ev l G 15 0 0 mX2_readSide [.ref (A 21 0), .ref (A 25 i)] (rdh h A (n, p, va_up K i c) B) (Rt (some (.int (if (rSide T p c).2.2 = true then 1 else 0))) (rdh h A (n, (rSide T p c).1, va_up K i (rSide T p c).2.1) B)) := by
  refine Ev.of hl (by decide) (Nat.le_of_ble_eq_true rfl) ?_
  refine g_aload_n (i := 1) dX2_readSide_0 rfl rfl ?_
  refine g_aload_n (i := 0) dX2_readSide_1 rfl rfl ?_
  refine g_callV (ev_readDigit hl hT hB (S := (n, p, va_up K i c)) hp) dX2_readSide_2 ml_X2_88 cvX2_readDigit K_X2 rfl rdh_21 rfl rfl (Nat.le_of_ble_eq_true rfl) (Nat.le_of_ble_eq_true rfl) (Nat.zero_le _) (Nat.zero_le _) (kr_rt ?_) kx_rt
  refine g_putN dX2_readSide_5 K_X1 (k := 1) fl_X2_91 (Nat.le_of_ble_eq_true rfl) rfl (rdh_25u hi) (Nat.le_of_ble_eq_true rfl) rfl rfl (Go.heap (rdh_cu (n := n) (p := digP T p) (c := c) (c' := (c.1, oI (dig T p), c.2.2)) hi) ?_)
  refine g_aload_n (i := 1) dX2_readSide_8 rfl rfl ?_
  refine g_getN dX2_readSide_9 K_X1 (k := 1) fl_X2_91 (Nat.le_of_ble_eq_true rfl) (rdh_25u hi) rfl ?_
  refine g_iconst (v := (-1)) dX2_readSide_12 (by decide) ?_
  refine g_icmp_eq (tgt := 20) dX2_readSide_13 (by decide) (fun c13 => ?_) (fun c13 => ?_)
  · have hd := dig_none c13
    refine g_iconst (v := 0) dX2_readSide_20 (by decide) ?_
    refine g_iret dX2_readSide_21 rfl rfl ?_
    exact ⟨by show _ = Sum.inl (some (Value.int (if (dig T p).isSome = true then 1 else 0))); rw [hd]; rfl, rfl⟩
  · obtain ⟨x, hd⟩ := oI_some c13
    refine g_iconst (v := 1) dX2_readSide_16 (by decide) ?_
    refine g_goto (tgt := 21) dX2_readSide_17 (by decide) ?_
    refine g_iret dX2_readSide_21 rfl rfl ?_
    exact ⟨by show _ = Sum.inl (some (Value.int (if (dig T p).isSome = true then 1 else 0))); rw [hd]; rfl, rfl⟩

set_option maxRecDepth 100000 in
theorem ev_readFirst {l : Launch} {G : GG} (hl : l.stackTraces = false) {A : AD} {h : AH} {B : SB} {T : TX} (hT : tOk T) (hB : isTx B T.1 T.2) {n p : Nat} {K : Nat → CM} (hp : p ≤ T.2) {i : Nat} {c : CM} (hi : i < 10) :
    Ev l G 16 0 0 mX2_readFirst [.ref (A 21 0), .ref (A 25 i)] (rdh h A (n, p, va_up K i c) B) (Rt (some (.int (if (rFirst T p c).2.2 = true then 1 else 0))) (rdh h A (n, (rFirst T p c).1, va_up K i (rFirst T p c).2.1) B)) := by
  refine Ev.of hl (by decide) (Nat.le_of_ble_eq_true rfl) ?_
  refine g_aload_n (i := 1) dX2_readFirst_0 rfl rfl ?_
  refine g_aload_n (i := 0) dX2_readFirst_1 rfl rfl ?_
  refine g_callV (ev_readNumber hl hT hB (S := (n, p, va_up K i c)) hp) dX2_readFirst_2 ml_X2_108 cvX2_readNumber K_X2 rfl rdh_21 rfl rfl (Nat.le_of_ble_eq_true rfl) (Nat.le_of_ble_eq_true rfl) (Nat.zero_le _) (Nat.zero_le _) (kr_rt ?_) kx_rt
  refine g_putN dX2_readFirst_5 K_X1 (k := 1) fl_X2_91 (Nat.le_of_ble_eq_true rfl) rfl (rdh_25u hi) (Nat.le_of_ble_eq_true rfl) rfl rfl (Go.heap (rdh_cu (n := n) (p := (num T p).1) (c := c) (c' := (c.1, oI (num T p).2, c.2.2)) hi) ?_)
  refine g_aload_n (i := 1) dX2_readFirst_8 rfl rfl ?_
  refine g_getN dX2_readFirst_9 K_X1 (k := 1) fl_X2_91 (Nat.le_of_ble_eq_true rfl) (rdh_25u hi) rfl ?_
  refine g_iconst (v := (-1)) dX2_readFirst_12 (by decide) ?_
  refine g_icmp_eq (tgt := 20) dX2_readFirst_13 (by decide) (fun c13 => ?_) (fun c13 => ?_)
  · have hd := num_none hp c13
    refine g_iconst (v := 0) dX2_readFirst_20 (by decide) ?_
    refine g_iret dX2_readFirst_21 rfl rfl ?_
    exact ⟨by show _ = Sum.inl (some (Value.int (if (num T p).2.isSome = true then 1 else 0))); rw [hd]; rfl, rfl⟩
  · obtain ⟨x, hd⟩ := oI_some c13
    refine g_iconst (v := 1) dX2_readFirst_16 (by decide) ?_
    refine g_goto (tgt := 21) dX2_readFirst_17 (by decide) ?_
    refine g_iret dX2_readFirst_21 rfl rfl ?_
    exact ⟨by show _ = Sum.inl (some (Value.int (if (num T p).2.isSome = true then 1 else 0))); rw [hd]; rfl, rfl⟩

set_option maxRecDepth 100000 in
theorem ev_readSecond {l : Launch} {G : GG} (hl : l.stackTraces = false) {A : AD} {h : AH} {B : SB} {T : TX} (hT : tOk T) (hB : isTx B T.1 T.2) {n p : Nat} {K : Nat → CM} (hp : p ≤ T.2) {i : Nat} {c : CM} (hi : i < 10) :
    Ev l G 16 0 0 mX2_readSecond [.ref (A 21 0), .ref (A 25 i)] (rdh h A (n, p, va_up K i c) B) (Rt (some (.int (if (rSecond T p c).2.2 = true then 1 else 0))) (rdh h A (n, (rSecond T p c).1, va_up K i (rSecond T p c).2.1) B)) := by
  refine Ev.of hl (by decide) (Nat.le_of_ble_eq_true rfl) ?_
  refine g_aload_n (i := 1) dX2_readSecond_0 rfl rfl ?_
  refine g_aload_n (i := 0) dX2_readSecond_1 rfl rfl ?_
  refine g_callV (ev_readNumber hl hT hB (S := (n, p, va_up K i c)) hp) dX2_readSecond_2 ml_X2_108 cvX2_readNumber K_X2 rfl rdh_21 rfl rfl (Nat.le_of_ble_eq_true rfl) (Nat.le_of_ble_eq_true rfl) (Nat.zero_le _) (Nat.zero_le _) (kr_rt ?_) kx_rt
  refine g_putN dX2_readSecond_5 K_X1 (k := 2) fl_X2_94 (Nat.le_of_ble_eq_true rfl) rfl (rdh_25u hi) (Nat.le_of_ble_eq_true rfl) rfl rfl (Go.heap (rdh_cu (n := n) (p := (num T p).1) (c := c) (c' := (c.1, c.2.1, oI (num T p).2, c.2.2.2)) hi) ?_)
  refine g_aload_n (i := 1) dX2_readSecond_8 rfl rfl ?_
  refine g_getN dX2_readSecond_9 K_X1 (k := 2) fl_X2_94 (Nat.le_of_ble_eq_true rfl) (rdh_25u hi) rfl ?_
  refine g_iconst (v := (-1)) dX2_readSecond_12 (by decide) ?_
  refine g_icmp_eq (tgt := 20) dX2_readSecond_13 (by decide) (fun c13 => ?_) (fun c13 => ?_)
  · have hd := num_none hp c13
    refine g_iconst (v := 0) dX2_readSecond_20 (by decide) ?_
    refine g_iret dX2_readSecond_21 rfl rfl ?_
    exact ⟨by show _ = Sum.inl (some (Value.int (if (num T p).2.isSome = true then 1 else 0))); rw [hd]; rfl, rfl⟩
  · obtain ⟨x, hd⟩ := oI_some c13
    refine g_iconst (v := 1) dX2_readSecond_16 (by decide) ?_
    refine g_goto (tgt := 21) dX2_readSecond_17 (by decide) ?_
    refine g_iret dX2_readSecond_21 rfl rfl ?_
    exact ⟨by show _ = Sum.inl (some (Value.int (if (num T p).2.isSome = true then 1 else 0))); rw [hd]; rfl, rfl⟩

set_option maxRecDepth 100000 in
theorem ev_readThird {l : Launch} {G : GG} (hl : l.stackTraces = false) {A : AD} {h : AH} {B : SB} {T : TX} (hT : tOk T) (hB : isTx B T.1 T.2) {n p : Nat} {K : Nat → CM} (hp : p ≤ T.2) {i : Nat} {c : CM} (hi : i < 10) :
    Ev l G 16 0 0 mX2_readThird [.ref (A 21 0), .ref (A 25 i)] (rdh h A (n, p, va_up K i c) B) (Rt (some (.int (if (rThird T p c).2.2 = true then 1 else 0))) (rdh h A (n, (rThird T p c).1, va_up K i (rThird T p c).2.1) B)) := by
  refine Ev.of hl (by decide) (Nat.le_of_ble_eq_true rfl) ?_
  refine g_aload_n (i := 1) dX2_readThird_0 rfl rfl ?_
  refine g_aload_n (i := 0) dX2_readThird_1 rfl rfl ?_
  refine g_callV (ev_readNumber hl hT hB (S := (n, p, va_up K i c)) hp) dX2_readThird_2 ml_X2_108 cvX2_readNumber K_X2 rfl rdh_21 rfl rfl (Nat.le_of_ble_eq_true rfl) (Nat.le_of_ble_eq_true rfl) (Nat.zero_le _) (Nat.zero_le _) (kr_rt ?_) kx_rt
  refine g_putN dX2_readThird_5 K_X1 (k := 3) fl_X2_105 (Nat.le_of_ble_eq_true rfl) rfl (rdh_25u hi) (Nat.le_of_ble_eq_true rfl) rfl rfl (Go.heap (rdh_cu (n := n) (p := (num T p).1) (c := c) (c' := (c.1, c.2.1, c.2.2.1, oI (num T p).2)) hi) ?_)
  refine g_aload_n (i := 1) dX2_readThird_8 rfl rfl ?_
  refine g_getN dX2_readThird_9 K_X1 (k := 3) fl_X2_105 (Nat.le_of_ble_eq_true rfl) (rdh_25u hi) rfl ?_
  refine g_iconst (v := (-1)) dX2_readThird_12 (by decide) ?_
  refine g_icmp_eq (tgt := 20) dX2_readThird_13 (by decide) (fun c13 => ?_) (fun c13 => ?_)
  · have hd := num_none hp c13
    refine g_iconst (v := 0) dX2_readThird_20 (by decide) ?_
    refine g_iret dX2_readThird_21 rfl rfl ?_
    exact ⟨by show _ = Sum.inl (some (Value.int (if (num T p).2.isSome = true then 1 else 0))); rw [hd]; rfl, rfl⟩
  · obtain ⟨x, hd⟩ := oI_some c13
    refine g_iconst (v := 1) dX2_readThird_16 (by decide) ?_
    refine g_goto (tgt := 21) dX2_readThird_17 (by decide) ?_
    refine g_iret dX2_readThird_21 rfl rfl ?_
    exact ⟨by show _ = Sum.inl (some (Value.int (if (num T p).2.isSome = true then 1 else 0))); rw [hd]; rfl, rfl⟩

set_option maxRecDepth 100000 in
theorem ev_readGround {l : Launch} {G : GG} (hl : l.stackTraces = false) {A : AD} {h : AH} {B : SB} {T : TX} (hT : tOk T) (hB : isTx B T.1 T.2) {n p : Nat} {K : Nat → CM} (hp : p ≤ T.2) {i : Nat} {c : CM} (hi : i < 10) :
    Ev l G 14 0 0 mX2_readGround [.ref (A 21 0), .ref (A 25 i)] (rdh h A (n, p, va_up K i c) B) (Rt (some (.int (if (rGround T p c).2.2 = true then 1 else 0))) (rdh h A (n, (rGround T p c).1, va_up K i (rGround T p c).2.1) B)) := by
  refine Ev.of hl (by decide) (Nat.le_of_ble_eq_true rfl) ?_
  obtain ⟨hB1, hB2, hB3, hB4, hB5⟩ := id hB
  have hc142 : B.2.1 ≤ 142 := by unfold cOk at hB3; omega
  refine g_aload_n (i := 0) dX2_readGround_0 rfl rfl ?_
  refine g_getf dX2_readGround_1 K_X2 (k := 3) fl_X2_28 (Nat.le_of_ble_eq_true rfl) rdh_21 rfl ?_
  refine g_aload_n (i := 0) dX2_readGround_4 rfl rfl ?_
  refine g_getf dX2_readGround_5 K_X2 (k := 0) fl_X2_12 (Nat.le_of_ble_eq_true rfl) rdh_21 rfl ?_
  refine g_callV (ev_length hl (g := 0) (B := B) (h := rdd h A (n, p, va_up K i c))) dX2_readGround_8 ml_X2_32 cvJ4_length_8abf5 K_J4 rfl rdh_22 rfl rfl (Nat.le_of_ble_eq_true rfl) (Nat.le_of_ble_eq_true rfl) (Nat.zero_le _) (Nat.zero_le _) (kr_rt ?_) kx_rt
  refine g_icmp_ge (tgt := 31) dX2_readGround_11 (by decide) (fun c11 => ?_) (fun c11 => ?_)
  · refine g_iconst (v := 0) dX2_readGround_31 (by decide) ?_
    refine g_iret dX2_readGround_32 rfl rfl ?_
    exact ⟨by rw [show rGround T p c = (p, c, false) from if_neg (fun q => absurd q.1 (by have := (le_nI (a := B.2.2.2.1) (b := p) rfl (by omega) (by omega)).mp c11; omega))]; rfl, by rw [show rGround T p c = (p, c, false) from if_neg (fun q => absurd q.1 (by have := (le_nI (a := B.2.2.2.1) (b := p) rfl (by omega) (by omega)).mp c11; omega))]; rfl⟩
  · have hp2 : p < T.2 := by have := mt (le_nI (a := B.2.2.2.1) (b := p) rfl (by omega) (by omega)).mpr c11; omega
    refine g_aload_n (i := 0) dX2_readGround_14 rfl rfl ?_
    refine g_getf dX2_readGround_15 K_X2 (k := 0) fl_X2_12 (Nat.le_of_ble_eq_true rfl) rdh_21 rfl ?_
    refine g_aload_n (i := 0) dX2_readGround_18 rfl rfl ?_
    refine g_getf dX2_readGround_19 K_X2 (k := 3) fl_X2_28 (Nat.le_of_ble_eq_true rfl) rdh_21 rfl ?_
    refine g_callV (ev_charAt hl (A := A) (g := 0) (h := rdd h A (n, p, va_up K i c)) (a := B.1) (c := B.2.1) (n := B.2.2.2.1) (f := B.2.2.1) (ml := B.2.2.2.2) (i := p) (q := T.1 p) (by omega) hc142 (by omega) (by have := hT p hp2; omega) (hB4 p hp2).2) dX2_readGround_22 ml_X2_97 cvJ4_charAt_5068e K_J4 rfl rdh_22 rfl rfl (Nat.le_of_ble_eq_true rfl) (Nat.le_of_ble_eq_true rfl) (Nat.zero_le _) (Nat.zero_le _) (kr_rt ?_) kx_rt
    refine g_callSN (ev_isGround hl) dX2_readGround_25 ml_X2_101 csX9_isGround rfl rfl rfl (Nat.le_of_ble_eq_true rfl) (Nat.le_of_ble_eq_true rfl) (Nat.zero_le _) (Nat.zero_le _) (kr_rt ?_) kx_rt
    refine g_if_ne (tgt := 33) dX2_readGround_28 (by decide) (fun c28 => ?_) (fun c28 => ?_)
    · have hg := ite_1 c28
      refine g_aload_n (i := 1) dX2_readGround_33 rfl rfl ?_
      refine g_aload_n (i := 0) dX2_readGround_34 rfl rfl ?_
      refine g_getf dX2_readGround_35 K_X2 (k := 0) fl_X2_12 (Nat.le_of_ble_eq_true rfl) rdh_21 rfl ?_
      refine g_aload_n (i := 0) dX2_readGround_38 rfl rfl ?_
      refine g_getf dX2_readGround_39 K_X2 (k := 3) fl_X2_28 (Nat.le_of_ble_eq_true rfl) rdh_21 rfl ?_
      refine g_callV (ev_charAt hl (A := A) (g := 0) (h := rdd h A (n, p, va_up K i c)) (a := B.1) (c := B.2.1) (n := B.2.2.2.1) (f := B.2.2.1) (ml := B.2.2.2.2) (i := p) (q := T.1 p) (by omega) hc142 (by omega) (by have := hT p hp2; omega) (hB4 p hp2).2) dX2_readGround_42 ml_X2_97 cvJ4_charAt_5068e K_J4 rfl rdh_22 rfl rfl (Nat.le_of_ble_eq_true rfl) (Nat.le_of_ble_eq_true rfl) (Nat.zero_le _) (Nat.zero_le _) (kr_rt ?_) kx_rt
      refine g_putN dX2_readGround_45 K_X1 (k := 3) fl_X2_105 (Nat.le_of_ble_eq_true rfl) rfl (rdh_25u hi) (Nat.le_of_ble_eq_true rfl) rfl rfl (Go.heap (rdh_cu (n := n) (p := p) (c := c) (c' := (c.1, c.2.1, c.2.2.1, nI (T.1 p))) hi) ?_)
      refine g_aload_n (i := 0) dX2_readGround_48 rfl rfl ?_
      refine g_dup dX2_readGround_49 rfl ?_
      refine g_getf dX2_readGround_50 K_X2 (k := 3) fl_X2_28 (Nat.le_of_ble_eq_true rfl) rdh_21 rfl ?_
      refine g_iconst (v := 1) dX2_readGround_53 (by decide) ?_
      refine g_iadd dX2_readGround_54 ?_
      rw [← nI_succ]
      refine g_putf dX2_readGround_55 K_X2 (k := 3) fl_X2_28 (Nat.le_of_ble_eq_true rfl) rfl rdh_21 (Nat.le_of_ble_eq_true rfl) rfl rfl (Go.heap (rdh_o (S := (n, p, va_up K i (c.1, c.2.1, c.2.2.1, nI (T.1 p)))) (n := n) (p := p + 1)) ?_)
      refine g_iconst (v := 1) dX2_readGround_58 (by decide) ?_
      refine g_iret dX2_readGround_59 rfl rfl ?_
      exact ⟨by rw [show rGround T p c = (p + 1, (c.1, c.2.1, c.2.2.1, nI (T.1 p)), true) from if_pos ⟨hp2, hg⟩]; rfl, by rw [show rGround T p c = (p + 1, (c.1, c.2.1, c.2.2.1, nI (T.1 p)), true) from if_pos ⟨hp2, hg⟩]⟩
    · refine g_iconst (v := 0) dX2_readGround_31 (by decide) ?_
      refine g_iret dX2_readGround_32 rfl rfl ?_
      exact ⟨by rw [show rGround T p c = (p, c, false) from if_neg (fun q => ite_0 c28 q.2)]; rfl, by rw [show rGround T p c = (p, c, false) from if_neg (fun q => ite_0 c28 q.2)]; rfl⟩

set_option maxRecDepth 100000 in
theorem ev_readCommand {l : Launch} {G : GG} (hl : l.stackTraces = false) {A : AD} {h : AH} {B : SB} {T : TX} (hT : tOk T) (hB : isTx B T.1 T.2) {n p : Nat} {K : Nat → CM} (hp : p ≤ T.2) {i : Nat} {c : CM} (hi : i < 10) :
    Ev l G 17 0 0 mX2_readCommand [.ref (A 21 0), .ref (A 25 i)] (rdh h A (n, p, va_up K i c) B) (Rt (some (.int (if (rCmd T p c).2.2 = true then 1 else 0))) (rdh h A (n, (rCmd T p c).1, va_up K i (rCmd T p c).2.1) B)) := by
  refine Ev.of hl (by decide) (Nat.le_of_ble_eq_true rfl) ?_
  refine g_aload_n (i := 0) dX2_readCommand_0 rfl rfl ?_
  refine g_bipush (v := 104) dX2_readCommand_1 (by decide) ?_
  refine g_callV (ev_isNext hl hT hB (S := (n, p, va_up K i c)) hp (x := 104)) dX2_readCommand_3 ml_X2_52 cvX2_isNext K_X2 rfl rdh_21 rfl rfl (Nat.le_of_ble_eq_true rfl) (Nat.le_of_ble_eq_true rfl) (Nat.zero_le _) (Nat.zero_le _) (kr_rt ?_) kx_rt
  refine g_if_eq (tgt := 54) dX2_readCommand_6 (by decide) (fun c6 => ?_) (fun c6 => ?_)
  · have n1 := ite_0 c6
    refine g_aload_n (i := 0) dX2_readCommand_54 rfl rfl ?_
    refine g_bipush (v := 103) dX2_readCommand_55 (by decide) ?_
    refine g_callV (ev_isNext hl hT hB (S := (n, p, va_up K i c)) hp (x := 103)) dX2_readCommand_57 ml_X2_52 cvX2_isNext K_X2 rfl rdh_21 rfl rfl (Nat.le_of_ble_eq_true rfl) (Nat.le_of_ble_eq_true rfl) (Nat.zero_le _) (Nat.zero_le _) (kr_rt ?_) kx_rt
    refine g_if_eq (tgt := 99) dX2_readCommand_60 (by decide) (fun c60 => ?_) (fun c60 => ?_)
    · have n2 := ite_0 c60
      refine g_aload_n (i := 0) dX2_readCommand_99 rfl rfl ?_
      refine g_bipush (v := 98) dX2_readCommand_100 (by decide) ?_
      refine g_callV (ev_isNext hl hT hB (S := (n, p, va_up K i c)) hp (x := 98)) dX2_readCommand_102 ml_X2_52 cvX2_isNext K_X2 rfl rdh_21 rfl rfl (Nat.le_of_ble_eq_true rfl) (Nat.le_of_ble_eq_true rfl) (Nat.zero_le _) (Nat.zero_le _) (kr_rt ?_) kx_rt
      refine g_if_eq (tgt := 153) dX2_readCommand_105 (by decide) (fun c105 => ?_) (fun c105 => ?_)
      · have n3 := ite_0 c105
        refine g_aload_n (i := 1) dX2_readCommand_153 rfl rfl ?_
        refine g_iconst (v := 3) dX2_readCommand_154 (by decide) ?_
        refine g_putN dX2_readCommand_155 K_X1 (k := 0) fl_X2_55 (Nat.le_of_ble_eq_true rfl) rfl (rdh_25u hi) (Nat.le_of_ble_eq_true rfl) rfl rfl (Go.heap (rdh_cu (n := n) (p := p) (c := c) (c' := (3, c.2)) hi) ?_)
        refine g_aload_n (i := 0) dX2_readCommand_158 rfl rfl ?_
        refine g_ldcR (i := 3) dX2_readCommand_159 (fun s h9 => h9.2.2.2.2.2.1.2.2.2.2) ?_
        refine g_callV (ev_readWord hl hT hB hp (w := 3) (by decide)) dX2_readCommand_161 ml_X2_60 cvX2_readWord K_X2 rfl rdh_21 rfl rfl (Nat.le_of_ble_eq_true rfl) (Nat.le_of_ble_eq_true rfl) (Nat.zero_le _) (Nat.zero_le _) (kr_rt ?_) kx_rt
        refine g_if_eq (tgt := 179) dX2_readCommand_164 (by decide) (fun c164 => ?_) (fun c164 => ?_)
        · refine g_iconst (v := 0) dX2_readCommand_179 (by decide) ?_
          refine g_iret dX2_readCommand_180 rfl rfl ?_
          have e := p_1 (c := c) n1 n2 n3 (ite_0 c164)
          exact ⟨by rw [e]; rfl, by rw [e]⟩
        · have w1 := ite_1 c164
          refine g_aload_n (i := 0) dX2_readCommand_167 rfl rfl ?_
          refine g_aload_n (i := 1) dX2_readCommand_168 rfl rfl ?_
          refine g_callV (ev_readFirst hl hT hB (show (rWd T 3 p).1 ≤ T.2 from wrd_le _ _ _ hp) (c := (3, c.2)) hi) dX2_readCommand_169 ml_X2_85 cvX2_readFirst K_X2 rfl rdh_21 rfl rfl (Nat.le_of_ble_eq_true rfl) (Nat.le_of_ble_eq_true rfl) (Nat.zero_le _) (Nat.zero_le _) (kr_rt ?_) kx_rt
          refine g_if_eq (tgt := 179) dX2_readCommand_172 (by decide) (fun c172 => ?_) (fun c172 => ?_)
          · refine g_iconst (v := 0) dX2_readCommand_179 (by decide) ?_
            refine g_iret dX2_readCommand_180 rfl rfl ?_
            have e := p_2 (c := c) n1 n2 n3 w1
            exact ⟨by rw [e]; show _ = Sum.inl (some (Value.int (if _ then 1 else 0))); rw [if_neg (ite_0 c172)], by rw [e]⟩
          · refine g_iconst (v := 1) dX2_readCommand_175 (by decide) ?_
            refine g_goto (tgt := 180) dX2_readCommand_176 (by decide) ?_
            refine g_iret dX2_readCommand_180 rfl rfl ?_
            have e := p_2 (c := c) n1 n2 n3 w1
            exact ⟨by rw [e]; show _ = Sum.inl (some (Value.int (if _ then 1 else 0))); rw [if_pos (ite_1 c172)], by rw [e]⟩
      · have n3 := ite_1 c105
        refine g_aload_n (i := 1) dX2_readCommand_108 rfl rfl ?_
        refine g_iconst (v := 2) dX2_readCommand_109 (by decide) ?_
        refine g_putN dX2_readCommand_110 K_X1 (k := 0) fl_X2_55 (Nat.le_of_ble_eq_true rfl) rfl (rdh_25u hi) (Nat.le_of_ble_eq_true rfl) rfl rfl (Go.heap (rdh_cu (n := n) (p := p) (c := c) (c' := (2, c.2)) hi) ?_)
        refine g_aload_n (i := 0) dX2_readCommand_113 rfl rfl ?_
        refine g_ldcR (i := 2) dX2_readCommand_114 (fun s h9 => h9.2.2.2.2.2.1.2.2.2.1) ?_
        refine g_callV (ev_readWord hl hT hB hp (w := 2) (by decide)) dX2_readCommand_116 ml_X2_60 cvX2_readWord K_X2 rfl rdh_21 rfl rfl (Nat.le_of_ble_eq_true rfl) (Nat.le_of_ble_eq_true rfl) (Nat.zero_le _) (Nat.zero_le _) (kr_rt ?_) kx_rt
        refine g_if_eq (tgt := 151) dX2_readCommand_119 (by decide) (fun c119 => ?_) (fun c119 => ?_)
        · refine g_iconst (v := 0) dX2_readCommand_151 (by decide) ?_
          refine g_iret dX2_readCommand_152 rfl rfl ?_
          have e := b_1 (c := c) n1 n2 n3 (ite_0 c119)
          exact ⟨by rw [e]; rfl, by rw [e]⟩
        · have w1 := ite_1 c119
          refine g_aload_n (i := 0) dX2_readCommand_122 rfl rfl ?_
          refine g_aload_n (i := 1) dX2_readCommand_123 rfl rfl ?_
          refine g_callV (ev_readSide hl hT hB (show (rWd T 2 p).1 ≤ T.2 from wrd_le _ _ _ hp) (c := (2, c.2)) hi) dX2_readCommand_124 ml_X2_77 cvX2_readSide K_X2 rfl rdh_21 rfl rfl (Nat.le_of_ble_eq_true rfl) (Nat.le_of_ble_eq_true rfl) (Nat.zero_le _) (Nat.zero_le _) (kr_rt ?_) kx_rt
          refine g_if_eq (tgt := 151) dX2_readCommand_127 (by decide) (fun c127 => ?_) (fun c127 => ?_)
          · refine g_iconst (v := 0) dX2_readCommand_151 (by decide) ?_
            refine g_iret dX2_readCommand_152 rfl rfl ?_
            have e := b_2 (c := c) n1 n2 n3 w1 rfl (ite_0 c127)
            exact ⟨by rw [e]; show _ = Sum.inl (some (Value.int (if _ then 1 else 0))); rw [if_neg (ite_0 c127)], by rw [e]⟩
          · have hr1 := ite_1 c127
            generalize hr : rSide T (rWd T 2 p).1 (2, c.2) = r at *
            have hrp : r.1 ≤ T.2 := by rw [← hr]; exact digP_le (wrd_le _ _ _ hp)
            refine g_aload_n (i := 0) dX2_readCommand_130 rfl rfl ?_
            refine g_bipush (v := 61) dX2_readCommand_131 (by decide) ?_
            refine g_callV (ev_readSign hl hT hB (S := (n, r.1, va_up K i r.2.1)) hrp (x := 61)) dX2_readCommand_133 ml_X2_48 cvX2_readSign K_X2 rfl rdh_21 rfl rfl (Nat.le_of_ble_eq_true rfl) (Nat.le_of_ble_eq_true rfl) (Nat.zero_le _) (Nat.zero_le _) (kr_rt ?_) kx_rt
            refine g_if_eq (tgt := 151) dX2_readCommand_136 (by decide) (fun c136 => ?_) (fun c136 => ?_)
            · refine g_iconst (v := 0) dX2_readCommand_151 (by decide) ?_
              refine g_iret dX2_readCommand_152 rfl rfl ?_
              have e := b_3 n1 n2 n3 w1 hr hr1 (ite_0 c136)
              exact ⟨by rw [e]; rfl, by rw [e, if_neg (ite_0 c136)]⟩
            · have s1 := ite_1 c136
              refine Go.heap (h' := (rdh h A (n, (r.1 + 1), va_up K i r.2.1) B)) (by rw [if_pos s1]) ?_
              refine g_aload_n (i := 0) dX2_readCommand_139 rfl rfl ?_
              refine g_aload_n (i := 1) dX2_readCommand_140 rfl rfl ?_
              refine g_callV (ev_readSecond hl hT hB (show r.1 + 1 ≤ T.2 from (of_decide_eq_true s1).1) hi) dX2_readCommand_141 ml_X2_80 cvX2_readSecond K_X2 rfl rdh_21 rfl rfl (Nat.le_of_ble_eq_true rfl) (Nat.le_of_ble_eq_true rfl) (Nat.zero_le _) (Nat.zero_le _) (kr_rt ?_) kx_rt
              refine g_if_eq (tgt := 151) dX2_readCommand_144 (by decide) (fun c144 => ?_) (fun c144 => ?_)
              · refine g_iconst (v := 0) dX2_readCommand_151 (by decide) ?_
                refine g_iret dX2_readCommand_152 rfl rfl ?_
                have e := b_4 n1 n2 n3 w1 hr hr1 s1
                exact ⟨by rw [e]; show _ = Sum.inl (some (Value.int (if _ then 1 else 0))); rw [if_neg (ite_0 c144)], by rw [e]⟩
              · refine g_iconst (v := 1) dX2_readCommand_147 (by decide) ?_
                refine g_goto (tgt := 152) dX2_readCommand_148 (by decide) ?_
                refine g_iret dX2_readCommand_152 rfl rfl ?_
                have e := b_4 n1 n2 n3 w1 hr hr1 s1
                exact ⟨by rw [e]; show _ = Sum.inl (some (Value.int (if _ then 1 else 0))); rw [if_pos (ite_1 c144)], by rw [e]⟩
    · have n2 := ite_1 c60
      refine g_aload_n (i := 1) dX2_readCommand_63 rfl rfl ?_
      refine g_iconst (v := 1) dX2_readCommand_64 (by decide) ?_
      refine g_putN dX2_readCommand_65 K_X1 (k := 0) fl_X2_55 (Nat.le_of_ble_eq_true rfl) rfl (rdh_25u hi) (Nat.le_of_ble_eq_true rfl) rfl rfl (Go.heap (rdh_cu (n := n) (p := p) (c := c) (c' := (1, c.2)) hi) ?_)
      refine g_aload_n (i := 0) dX2_readCommand_68 rfl rfl ?_
      refine g_ldcR (i := 1) dX2_readCommand_69 (fun s h9 => h9.2.2.2.2.2.1.2.2.1) ?_
      refine g_callV (ev_readWord hl hT hB hp (w := 1) (by decide)) dX2_readCommand_71 ml_X2_60 cvX2_readWord K_X2 rfl rdh_21 rfl rfl (Nat.le_of_ble_eq_true rfl) (Nat.le_of_ble_eq_true rfl) (Nat.zero_le _) (Nat.zero_le _) (kr_rt ?_) kx_rt
      refine g_if_eq (tgt := 97) dX2_readCommand_74 (by decide) (fun c74 => ?_) (fun c74 => ?_)
      · refine g_iconst (v := 0) dX2_readCommand_97 (by decide) ?_
        refine g_iret dX2_readCommand_98 rfl rfl ?_
        have e := g_1 (c := c) n1 n2 (ite_0 c74)
        exact ⟨by rw [e]; rfl, by rw [e]⟩
      · have w1 := ite_1 c74
        refine g_aload_n (i := 0) dX2_readCommand_77 rfl rfl ?_
        refine g_aload_n (i := 1) dX2_readCommand_78 rfl rfl ?_
        refine g_callV (ev_readCell hl hT hB (show (rWd T 1 p).1 ≤ T.2 from wrd_le _ _ _ hp) (c := (1, c.2)) hi) dX2_readCommand_79 ml_X2_64 cvX2_readCell K_X2 rfl rdh_21 rfl rfl (Nat.le_of_ble_eq_true rfl) (Nat.le_of_ble_eq_true rfl) (Nat.zero_le _) (Nat.zero_le _) (kr_rt ?_) kx_rt
        refine g_if_eq (tgt := 97) dX2_readCommand_82 (by decide) (fun c82 => ?_) (fun c82 => ?_)
        · refine g_iconst (v := 0) dX2_readCommand_97 (by decide) ?_
          refine g_iret dX2_readCommand_98 rfl rfl ?_
          have e := g_2 (c := c) n1 n2 w1 rfl (ite_0 c82)
          exact ⟨by rw [e]; show _ = Sum.inl (some (Value.int (if _ then 1 else 0))); rw [if_neg (ite_0 c82)], by rw [e]⟩
        · have hr1 := ite_1 c82
          generalize hr : rCell T (rWd T 1 p).1 (1, c.2) = r at *
          have hrp : r.1 ≤ T.2 := by rw [← hr]; exact cell_le _ _ (wrd_le _ _ _ hp)
          refine g_aload_n (i := 0) dX2_readCommand_85 rfl rfl ?_
          refine g_aload_n (i := 1) dX2_readCommand_86 rfl rfl ?_
          refine g_callV (ev_readGround hl hT hB hrp hi) dX2_readCommand_87 ml_X2_72 cvX2_readGround K_X2 rfl rdh_21 rfl rfl (Nat.le_of_ble_eq_true rfl) (Nat.le_of_ble_eq_true rfl) (Nat.zero_le _) (Nat.zero_le _) (kr_rt ?_) kx_rt
          refine g_if_eq (tgt := 97) dX2_readCommand_90 (by decide) (fun c90 => ?_) (fun c90 => ?_)
          · refine g_iconst (v := 0) dX2_readCommand_97 (by decide) ?_
            refine g_iret dX2_readCommand_98 rfl rfl ?_
            have e := g_3 n1 n2 w1 hr hr1
            exact ⟨by rw [e]; show _ = Sum.inl (some (Value.int (if _ then 1 else 0))); rw [if_neg (ite_0 c90)], by rw [e]⟩
          · refine g_iconst (v := 1) dX2_readCommand_93 (by decide) ?_
            refine g_goto (tgt := 98) dX2_readCommand_94 (by decide) ?_
            refine g_iret dX2_readCommand_98 rfl rfl ?_
            have e := g_3 n1 n2 w1 hr hr1
            exact ⟨by rw [e]; show _ = Sum.inl (some (Value.int (if _ then 1 else 0))); rw [if_pos (ite_1 c90)], by rw [e]⟩
  · have n1 := ite_1 c6
    refine g_aload_n (i := 1) dX2_readCommand_9 rfl rfl ?_
    refine g_iconst (v := 0) dX2_readCommand_10 (by decide) ?_
    refine g_putN dX2_readCommand_11 K_X1 (k := 0) fl_X2_55 (Nat.le_of_ble_eq_true rfl) rfl (rdh_25u hi) (Nat.le_of_ble_eq_true rfl) rfl rfl (Go.heap (rdh_cu (n := n) (p := p) (c := c) (c' := (0, c.2)) hi) ?_)
    refine g_aload_n (i := 0) dX2_readCommand_14 rfl rfl ?_
    refine g_ldcR (i := 0) dX2_readCommand_15 (fun s h9 => h9.2.2.2.2.2.1.2.1) ?_
    refine g_callV (ev_readWord hl hT hB hp (w := 0) (by decide)) dX2_readCommand_17 ml_X2_60 cvX2_readWord K_X2 rfl rdh_21 rfl rfl (Nat.le_of_ble_eq_true rfl) (Nat.le_of_ble_eq_true rfl) (Nat.zero_le _) (Nat.zero_le _) (kr_rt ?_) kx_rt
    refine g_if_eq (tgt := 52) dX2_readCommand_20 (by decide) (fun c20 => ?_) (fun c20 => ?_)
    · refine g_iconst (v := 0) dX2_readCommand_52 (by decide) ?_
      refine g_iret dX2_readCommand_53 rfl rfl ?_
      have e := h_1 (c := c) n1 (ite_0 c20)
      exact ⟨by rw [e]; rfl, by rw [e]⟩
    · have w1 := ite_1 c20
      refine g_aload_n (i := 0) dX2_readCommand_23 rfl rfl ?_
      refine g_aload_n (i := 1) dX2_readCommand_24 rfl rfl ?_
      refine g_callV (ev_readCell hl hT hB (show (rWd T 0 p).1 ≤ T.2 from wrd_le _ _ _ hp) (c := (0, c.2)) hi) dX2_readCommand_25 ml_X2_64 cvX2_readCell K_X2 rfl rdh_21 rfl rfl (Nat.le_of_ble_eq_true rfl) (Nat.le_of_ble_eq_true rfl) (Nat.zero_le _) (Nat.zero_le _) (kr_rt ?_) kx_rt
      refine g_if_eq (tgt := 52) dX2_readCommand_28 (by decide) (fun c28 => ?_) (fun c28 => ?_)
      · refine g_iconst (v := 0) dX2_readCommand_52 (by decide) ?_
        refine g_iret dX2_readCommand_53 rfl rfl ?_
        have e := h_2 (c := c) n1 w1 rfl (ite_0 c28)
        exact ⟨by rw [e]; show _ = Sum.inl (some (Value.int (if _ then 1 else 0))); rw [if_neg (ite_0 c28)], by rw [e]⟩
      · have hr1 := ite_1 c28
        generalize hr : rCell T (rWd T 0 p).1 (0, c.2) = r at *
        have hrp : r.1 ≤ T.2 := by rw [← hr]; exact cell_le _ _ (wrd_le _ _ _ hp)
        refine g_aload_n (i := 0) dX2_readCommand_31 rfl rfl ?_
        refine g_bipush (v := 43) dX2_readCommand_32 (by decide) ?_
        refine g_callV (ev_readSign hl hT hB (S := (n, r.1, va_up K i r.2.1)) hrp (x := 43)) dX2_readCommand_34 ml_X2_48 cvX2_readSign K_X2 rfl rdh_21 rfl rfl (Nat.le_of_ble_eq_true rfl) (Nat.le_of_ble_eq_true rfl) (Nat.zero_le _) (Nat.zero_le _) (kr_rt ?_) kx_rt
        refine g_if_eq (tgt := 52) dX2_readCommand_37 (by decide) (fun c37 => ?_) (fun c37 => ?_)
        · refine g_iconst (v := 0) dX2_readCommand_52 (by decide) ?_
          refine g_iret dX2_readCommand_53 rfl rfl ?_
          have e := h_3 n1 w1 hr hr1 (ite_0 c37)
          exact ⟨by rw [e]; rfl, by rw [e, if_neg (ite_0 c37)]⟩
        · have s1 := ite_1 c37
          refine Go.heap (h' := (rdh h A (n, (r.1 + 1), va_up K i r.2.1) B)) (by rw [if_pos s1]) ?_
          refine g_aload_n (i := 0) dX2_readCommand_40 rfl rfl ?_
          refine g_aload_n (i := 1) dX2_readCommand_41 rfl rfl ?_
          refine g_callV (ev_readThird hl hT hB (show r.1 + 1 ≤ T.2 from (of_decide_eq_true s1).1) hi) dX2_readCommand_42 ml_X2_67 cvX2_readThird K_X2 rfl rdh_21 rfl rfl (Nat.le_of_ble_eq_true rfl) (Nat.le_of_ble_eq_true rfl) (Nat.zero_le _) (Nat.zero_le _) (kr_rt ?_) kx_rt
          refine g_if_eq (tgt := 52) dX2_readCommand_45 (by decide) (fun c45 => ?_) (fun c45 => ?_)
          · refine g_iconst (v := 0) dX2_readCommand_52 (by decide) ?_
            refine g_iret dX2_readCommand_53 rfl rfl ?_
            have e := h_4 n1 w1 hr hr1 s1
            exact ⟨by rw [e]; show _ = Sum.inl (some (Value.int (if _ then 1 else 0))); rw [if_neg (ite_0 c45)], by rw [e]⟩
          · refine g_iconst (v := 1) dX2_readCommand_48 (by decide) ?_
            refine g_goto (tgt := 53) dX2_readCommand_49 (by decide) ?_
            refine g_iret dX2_readCommand_53 rfl rfl ?_
            have e := h_4 n1 w1 hr hr1 s1
            exact ⟨by rw [e]; show _ = Sum.inl (some (Value.int (if _ then 1 else 0))); rw [if_pos (ite_1 c45)], by rw [e]⟩

set_option maxRecDepth 100000 in
theorem ev_readText {l : Launch} {G : GG} (hl : l.stackTraces = false) {A : AD} {h : AH} {B : SB} {T : TX} (hT : tOk T) (hB : isTx B T.1 T.2) {n p : Nat} {K : Nat → CM} :
    Ev l G 18 0 0 mX2_readText [.ref (A 21 0)] (rdh h A (n, p, K) B) (Rt (some (.int (if (rTxt T 10 0 0 K).1 = true then 1 else 0))) (rdh h A (rTxt T 10 0 0 K).2 B)) := by
  refine Ev.of hl (by decide) (Nat.le_of_ble_eq_true rfl) ?_
  obtain ⟨hB1, hB2, hB3, hB4, hB5⟩ := id hB
  have hc142 : B.2.1 ≤ 142 := by unfold cOk at hB3; omega
  have loop : ∀ (j : Nat) (n p : Nat) (K : Nat → CM), n + j = 10 → p ≤ T.2 → Go l G mX2_readText 18 0 0 (Rt (some (.int (if (rTxt T j n p K).1 = true then 1 else 0))) (rdh h A (rTxt T j n p K).2 B)) 10 [some (.ref (A 21 0))] [] (rdh h A (n, p, K) B) := by
    intro j
    induction j with
    | zero =>
      intro n p K hn hp
      refine g_aload_n (i := 0) dX2_readText_10 rfl rfl ?_
      refine g_getf dX2_readText_11 K_X2 (k := 2) fl_X2_24 (Nat.le_of_ble_eq_true rfl) rdh_21 rfl ?_
      refine g_aload_n (i := 0) dX2_readText_14 rfl rfl ?_
      refine g_getf dX2_readText_15 K_X2 (k := 1) fl_X2_20 (Nat.le_of_ble_eq_true rfl) rdh_21 rfl ?_
      refine g_alen dX2_readText_18 rdh_24 (by decide) (show Int32.ofNat 10 = nI 10 from rfl) ?_
      refine g_icmp_ge (tgt := 79) dX2_readText_19 (by decide) (fun c19 => ?_) (fun c19 => ?_)
      · refine g_iconst (v := 0) dX2_readText_79 (by decide) ?_
        refine g_iret dX2_readText_80 rfl rfl ?_
        exact ⟨rfl, rfl⟩
      · exact absurd ((le_nI (a := 10) (b := n) rfl (by omega) (by omega)).mpr (by omega)) c19
    | succ j ih =>
      intro n p K hn hp
      have hcp := cmd_le p (K n) hp
      have hT142 : T.2 ≤ 142 := Nat.le_trans hB2 hc142
      refine g_aload_n (i := 0) dX2_readText_10 rfl rfl ?_
      refine g_getf dX2_readText_11 K_X2 (k := 2) fl_X2_24 (Nat.le_of_ble_eq_true rfl) rdh_21 rfl ?_
      refine g_aload_n (i := 0) dX2_readText_14 rfl rfl ?_
      refine g_getf dX2_readText_15 K_X2 (k := 1) fl_X2_20 (Nat.le_of_ble_eq_true rfl) rdh_21 rfl ?_
      refine g_alen dX2_readText_18 rdh_24 (by decide) (show Int32.ofNat 10 = nI 10 from rfl) ?_
      refine g_icmp_ge (tgt := 79) dX2_readText_19 (by decide) (fun c19 => ?_) (fun c19 => ?_)
      · exact absurd ((le_nI (a := 10) (b := n) rfl (by omega) (by omega)).mp c19) (by omega)
      · refine Go.heap (h' := rdh h A (n, p, va_up K n (K n)) B) (by rw [va_self]) ?_
        refine g_aload_n (i := 0) dX2_readText_22 rfl rfl ?_
        refine g_aload_n (i := 0) dX2_readText_23 rfl rfl ?_
        refine g_getf dX2_readText_24 K_X2 (k := 1) fl_X2_20 (Nat.le_of_ble_eq_true rfl) rdh_21 rfl ?_
        refine g_aload_n (i := 0) dX2_readText_27 rfl rfl ?_
        refine g_getf dX2_readText_28 K_X2 (k := 2) fl_X2_24 (Nat.le_of_ble_eq_true rfl) rdh_21 rfl ?_
        refine g_aald dX2_readText_31 rdh_24 (by decide) rfl (ix_nI (j := n) (by omega)) (by omega) rfl ?_
        refine g_callV (ev_readCommand hl hT hB hp (K := K) (i := n) (c := K n) (by omega)) dX2_readText_32 ml_X2_44 cvX2_readCommand K_X2 rfl rdh_21 rfl rfl (Nat.le_of_ble_eq_true rfl) (Nat.le_of_ble_eq_true rfl) (Nat.zero_le _) (Nat.zero_le _) (kr_rt ?_) kx_rt
        refine g_if_ne (tgt := 40) dX2_readText_35 (by decide) (fun c35 => ?_) (fun c35 => ?_)
        · have h1 := ite_1 c35
          refine g_aload_n (i := 0) dX2_readText_40 rfl rfl ?_
          refine g_dup dX2_readText_41 rfl ?_
          refine g_getf dX2_readText_42 K_X2 (k := 2) fl_X2_24 (Nat.le_of_ble_eq_true rfl) rdh_21 rfl ?_
          refine g_iconst (v := 1) dX2_readText_45 (by decide) ?_
          refine g_iadd dX2_readText_46 ?_
          rw [← nI_succ]
          refine g_putf dX2_readText_47 K_X2 (k := 2) fl_X2_24 (Nat.le_of_ble_eq_true rfl) rfl rdh_21 (Nat.le_of_ble_eq_true rfl) rfl rfl (Go.heap (rdh_o (S := (n, (rCmd T p (K n)).1, (va_up K n (rCmd T p (K n)).2.1))) (n := n + 1) (p := (rCmd T p (K n)).1)) ?_)
          refine g_aload_n (i := 0) dX2_readText_50 rfl rfl ?_
          refine g_bipush (v := 59) dX2_readText_51 (by decide) ?_
          refine g_callV (ev_readSign hl hT hB (S := (n + 1, (rCmd T p (K n)).1, (va_up K n (rCmd T p (K n)).2.1))) (cmd_le _ _ hp) (x := 59)) dX2_readText_53 ml_X2_48 cvX2_readSign K_X2 rfl rdh_21 rfl rfl (Nat.le_of_ble_eq_true rfl) (Nat.le_of_ble_eq_true rfl) (Nat.zero_le _) (Nat.zero_le _) (kr_rt ?_) kx_rt
          refine g_if_ne (tgt := 10) dX2_readText_56 (by decide) (fun c56 => ?_) (fun c56 => ?_)
          · have s1 := ite_1 c56
            refine Go.heap (h' := rdh h A (n + 1, (rCmd T p (K n)).1 + 1, (va_up K n (rCmd T p (K n)).2.1)) B) (by rw [if_pos s1]) ?_
            rw [show rTxt T (j + 1) n p K = rTxt T j (n + 1) ((rCmd T p (K n)).1 + 1) (va_up K n (rCmd T p (K n)).2.1) by rw [rTxt, if_pos h1, if_pos s1]]
            exact ih (n + 1) _ _ (by omega) (of_decide_eq_true s1).1
          · have s1 := ite_0 c56
            refine Go.heap (h' := rdh h A (n + 1, (rCmd T p (K n)).1, (va_up K n (rCmd T p (K n)).2.1)) B) (by rw [if_neg s1]) ?_
            refine g_aload_n (i := 0) dX2_readText_59 rfl rfl ?_
            refine g_getf dX2_readText_60 K_X2 (k := 3) fl_X2_28 (Nat.le_of_ble_eq_true rfl) rdh_21 rfl ?_
            refine g_aload_n (i := 0) dX2_readText_63 rfl rfl ?_
            refine g_getf dX2_readText_64 K_X2 (k := 0) fl_X2_12 (Nat.le_of_ble_eq_true rfl) rdh_21 rfl ?_
            refine g_callV (ev_length hl (g := 0) (B := B)) dX2_readText_67 ml_X2_32 cvJ4_length_8abf5 K_J4 rfl rdh_22 rfl rfl (Nat.le_of_ble_eq_true rfl) (Nat.le_of_ble_eq_true rfl) (Nat.zero_le _) (Nat.zero_le _) (kr_rt ?_) kx_rt
            refine g_icmp_ne (tgt := 77) dX2_readText_70 (by decide) (fun c70 => ?_) (fun c70 => ?_)
            · refine g_iconst (v := 0) dX2_readText_77 (by decide) ?_
              refine g_iret dX2_readText_78 rfl rfl ?_
              have e : rTxt T (j + 1) n p K = (decide ((rCmd T p (K n)).1 = T.2), n + 1, (rCmd T p (K n)).1, (va_up K n (rCmd T p (K n)).2.1)) := by rw [rTxt, if_pos h1, if_neg s1]
              have hx : ¬ (rCmd T p (K n)).1 = T.2 := fun z => c70 (by rw [hB.1]; exact congrArg nI z)
              exact ⟨by rw [e, decide_eq_false hx]; rfl, by rw [e]; rfl⟩
            · refine g_iconst (v := 1) dX2_readText_73 (by decide) ?_
              refine g_goto (tgt := 78) dX2_readText_74 (by decide) ?_
              refine g_iret dX2_readText_78 rfl rfl ?_
              have e : rTxt T (j + 1) n p K = (decide ((rCmd T p (K n)).1 = T.2), n + 1, (rCmd T p (K n)).1, (va_up K n (rCmd T p (K n)).2.1)) := by rw [rTxt, if_pos h1, if_neg s1]
              have hx : (rCmd T p (K n)).1 = T.2 := (nI_inj (by omega) (by omega)).mp (by rw [← hB.1]; exact c70)
              exact ⟨by rw [e, decide_eq_true hx]; rfl, by rw [e]; rfl⟩
        · have h1 := ite_0 c35
          refine g_iconst (v := 0) dX2_readText_38 (by decide) ?_
          refine g_iret dX2_readText_39 rfl rfl ?_
          have e : rTxt T (j + 1) n p K = (false, n, (rCmd T p (K n)).1, (va_up K n (rCmd T p (K n)).2.1)) := by rw [rTxt, if_neg h1]
          exact ⟨by rw [e]; rfl, by rw [e]⟩
  refine g_aload_n (i := 0) dX2_readText_0 rfl rfl ?_
  refine g_iconst (v := 0) dX2_readText_1 (by decide) ?_
  refine g_putf dX2_readText_2 K_X2 (k := 3) fl_X2_28 (Nat.le_of_ble_eq_true rfl) rfl rdh_21 (Nat.le_of_ble_eq_true rfl) rfl rfl (Go.heap (rdh_o (S := (n, p, K)) (n := n) (p := 0)) ?_)
  refine g_aload_n (i := 0) dX2_readText_5 rfl rfl ?_
  refine g_iconst (v := 0) dX2_readText_6 (by decide) ?_
  refine g_putf dX2_readText_7 K_X2 (k := 2) fl_X2_24 (Nat.le_of_ble_eq_true rfl) rfl rdh_21 (Nat.le_of_ble_eq_true rfl) rfl rfl (Go.heap (rdh_o (S := (n, 0, K)) (n := 0) (p := 0)) ?_)
  exact loop 10 0 0 K rfl (Nat.zero_le _)

set_option maxRecDepth 100000 in
theorem ev_isFull {l : Launch} {G : GG} (hl : l.stackTraces = false) {A : AD} {h : AH} {S : RS} {B : SB} {T : TX} (hB : isTx B T.1 T.2) :
    Ev l G 12 0 0 mX2_isFull [.ref (A 21 0)] (rdh h A S B) (Rt (some (.int (if 60 ≤ T.2 then 1 else 0))) (rdh h A S B)) := by
  refine Ev.of hl (by decide) (Nat.le_of_ble_eq_true rfl) ?_
  obtain ⟨hB1, hB2, hB3, hB4, hB5⟩ := id hB
  have hc142 : B.2.1 ≤ 142 := by unfold cOk at hB3; omega
  refine g_aload_n (i := 0) dX2_isFull_0 rfl rfl ?_
  refine g_getf dX2_isFull_1 K_X2 (k := 0) fl_X2_12 (Nat.le_of_ble_eq_true rfl) rdh_21 rfl ?_
  refine g_callV (ev_length hl (g := 0) (B := B) (h := rdd h A S)) dX2_isFull_4 ml_X2_32 cvJ4_length_8abf5 K_J4 rfl rdh_22 rfl rfl (Nat.le_of_ble_eq_true rfl) (Nat.le_of_ble_eq_true rfl) (Nat.zero_le _) (Nat.zero_le _) (kr_rt ?_) kx_rt
  refine g_bipush (v := 60) dX2_isFull_7 (by decide) ?_
  refine g_icmp_lt (tgt := 16) dX2_isFull_9 (by decide) (fun c9 => ?_) (fun c9 => ?_)
  · refine g_iconst (v := 0) dX2_isFull_16 (by decide) ?_
    refine g_iret dX2_isFull_17 rfl rfl ?_
    exact ⟨by rw [if_neg (fun q => absurd ((lt_nI (a := B.2.2.2.1) (b := 60) rfl (by omega) (by omega)).mp c9) (by omega))], rfl⟩
  · refine g_iconst (v := 1) dX2_isFull_12 (by decide) ?_
    refine g_goto (tgt := 17) dX2_isFull_13 (by decide) ?_
    refine g_iret dX2_isFull_17 rfl rfl ?_
    exact ⟨by rw [if_pos (by have := mt (lt_nI (a := B.2.2.2.1) (b := 60) rfl (by omega) (by omega)).mpr c9; omega)], rfl⟩

set_option maxRecDepth 100000 in
theorem ev_addCharacter {l : Launch} {G : GG} (hl : l.stackTraces = false) {A : AD} {h : AH} {S : RS} {B : SB} {T : TX} (hB : isTx B T.1 T.2) {q : Nat} (hq : q < 256) (hn : T.2 + 1 ≤ 142) :
    Ev l G 18 1 142 mX2_addCharacter [.ref (A 21 0), .int (nI q)] (rdh h A S B) (RtX (some (.int (nI (T.2 + 1)))) (fun x : {B' : SB // isTx B' (sb_cat T.1 T.2 (fun _ => q)) (T.2 + 1)} => rdh h A S x.1)) := by
  refine Ev.of hl (by decide) (Nat.le_of_ble_eq_true rfl) ?_
  obtain ⟨hB1, hB2, hB3, hB4, hB5⟩ := id hB
  refine Go.heap (h' := rdh h A S (B.1, B.2.1, B.2.2.1, T.2, B.2.2.2.2)) (by rw [← hB1]) ?_
  refine g_aload_n (i := 0) dX2_addCharacter_0 rfl rfl ?_
  refine g_getf dX2_addCharacter_1 K_X2 (k := 0) fl_X2_12 (Nat.le_of_ble_eq_true rfl) rdh_21 rfl ?_
  refine g_iload_n (i := 1) dX2_addCharacter_4 rfl rfl ?_
  refine g_callV (ev_appendC hl (A := A) (g := 0) (h := rdd h A S) (a := B.1) (c := B.2.1) (n := T.2) (f := B.2.2.1) (ml := B.2.2.2.2) (t := T.1) hB2 hB3 hB4 hB5 hq hn) dX2_addCharacter_5 ml_X2_36 cvJ4_append_cf468 K_J4 rfl rdh_22 rfl rfl (Nat.le_of_ble_eq_true rfl) (Nat.le_of_ble_eq_true rfl) (Nat.le_refl _) (Nat.le_refl _) (kr_xm (fun x9 => ?_)) kx_x
  obtain ⟨B9, hB9⟩ := x9
  refine Go.heap (h' := rdh h A S B9) rfl ?_
  refine g_pop dX2_addCharacter_8 rfl ?_
  refine g_aload_n (i := 0) dX2_addCharacter_9 rfl rfl ?_
  refine g_getf dX2_addCharacter_10 K_X2 (k := 0) fl_X2_12 (Nat.le_of_ble_eq_true rfl) rdh_21 rfl ?_
  refine g_callV (ev_length hl (g := 0) (B := B9) (h := rdd h A S)) dX2_addCharacter_13 ml_X2_32 cvJ4_length_8abf5 K_J4 rfl rdh_22 rfl rfl (Nat.le_of_ble_eq_true rfl) (Nat.le_of_ble_eq_true rfl) (Nat.zero_le _) (Nat.zero_le _) (kr_rt ?_) kx_rt
  rw [hB9.1]
  refine g_iret dX2_addCharacter_16 rfl rfl ?_
  exact ⟨rfl, ⟨B9, hB9⟩, rfl⟩

set_option maxRecDepth 100000 in
theorem ev_clear {l : Launch} {G : GG} (hl : l.stackTraces = false) {A : AD} {h : AH} {S : RS} {B : SB} {T : TX} (hB : isTx B T.1 T.2) :
    Ev l G 32 1 142 mX2_clear [.ref (A 21 0)] (rdh h A S B) (RtX none (fun x : {B' : SB // isTx B' T.1 0} => rdh h A S x.1)) := by
  refine Ev.of hl (by decide) (Nat.le_of_ble_eq_true rfl) ?_
  obtain ⟨hB1, hB2, hB3, hB4, hB5⟩ := id hB
  refine Go.heap (h' := rdh h A S (B.1, B.2.1, B.2.2.1, T.2, B.2.2.2.2)) (by rw [← hB1]) ?_
  refine g_aload_n (i := 0) dX2_clear_0 rfl rfl ?_
  refine g_getf dX2_clear_1 K_X2 (k := 0) fl_X2_12 (Nat.le_of_ble_eq_true rfl) rdh_21 rfl ?_
  refine g_iconst (v := 0) dX2_clear_4 (by decide) ?_
  refine g_callV (ev_setLength hl (A := A) (g := 0) (h := rdd h A S) (a := B.1) (c := B.2.1) (n := T.2) (f := B.2.2.1) (ml := B.2.2.2.2) (t := T.1) hB2 hB3 hB4 hB5) dX2_clear_5 ml_X2_40 cvJ4_setLength_d00df K_J4 rfl rdh_22 rfl rfl (Nat.le_of_ble_eq_true rfl) (Nat.le_of_ble_eq_true rfl) (Nat.le_refl _) (Nat.le_refl _) (kr_xvm (fun x9 => ?_)) kx_x
  refine g_vret dX2_clear_8 rfl ?_
  exact ⟨rfl, x9, rfl⟩

set_option maxRecDepth 100000 in
theorem ev_position {l : Launch} {G : GG} (hl : l.stackTraces = false) {A : AD} {h : AH} {S : RS} {B : SB} :
    Ev l G 10 0 0 mX2_position [.ref (A 21 0)] (rdh h A S B) (Rt (some (.int (nI S.2.1))) (rdh h A S B)) := by
  refine Ev.of hl (by decide) (Nat.le_of_ble_eq_true rfl) ?_
  refine g_aload_n (i := 0) dX2_position_0 rfl rfl ?_
  refine g_getf dX2_position_1 K_X2 (k := 3) fl_X2_28 (Nat.le_of_ble_eq_true rfl) rdh_21 rfl ?_
  refine g_iret dX2_position_4 rfl rfl ?_
  exact ⟨rfl, rfl⟩

set_option maxRecDepth 100000 in
theorem ev_commandCount {l : Launch} {G : GG} (hl : l.stackTraces = false) {A : AD} {h : AH} {S : RS} {B : SB} :
    Ev l G 10 0 0 mX2_commandCount [.ref (A 21 0)] (rdh h A S B) (Rt (some (.int (nI S.1))) (rdh h A S B)) := by
  refine Ev.of hl (by decide) (Nat.le_of_ble_eq_true rfl) ?_
  refine g_aload_n (i := 0) dX2_commandCount_0 rfl rfl ?_
  refine g_getf dX2_commandCount_1 K_X2 (k := 2) fl_X2_24 (Nat.le_of_ble_eq_true rfl) rdh_21 rfl ?_
  refine g_iret dX2_commandCount_4 rfl rfl ?_
  exact ⟨rfl, rfl⟩

set_option maxRecDepth 100000 in
theorem ev_commandAt {l : Launch} {G : GG} (hl : l.stackTraces = false) {A : AD} {h : AH} {S : RS} {B : SB} {i : Nat} (hi : i < 10) :
    Ev l G 10 0 0 mX2_commandAt [.ref (A 21 0), .int (nI i)] (rdh h A S B) (Rt (some (.ref (A 25 i))) (rdh h A S B)) := by
  refine Ev.of hl (by decide) (Nat.le_of_ble_eq_true rfl) ?_
  refine g_aload_n (i := 0) dX2_commandAt_0 rfl rfl ?_
  refine g_getf dX2_commandAt_1 K_X2 (k := 1) fl_X2_20 (Nat.le_of_ble_eq_true rfl) rdh_21 rfl ?_
  refine g_iload_n (i := 1) dX2_commandAt_4 rfl rfl ?_
  refine g_aald dX2_commandAt_5 rdh_24 (by decide) rfl (ix_nI (j := i) (by omega)) hi rfl ?_
  refine g_aret dX2_commandAt_6 rfl (Or.inl ⟨_, rfl⟩) ?_
  exact ⟨rfl, rfl⟩

