/-! CellHeap (by wip/whole/gen/m7.py). -/
theorem lgc3 {x y : Int64} : (y < x ∧ ¬ x < y ∧ lg_cmp x y = 1) ∨ (x = y ∧ ¬ x < y ∧ ¬ y < x ∧ lg_cmp x y = 0) ∨ (x < y ∧ ¬ y < x ∧ lg_cmp x y = -1) := by
  unfold lg_cmp
  by_cases h : y < x
  · exact Or.inl ⟨h, fun q => Int64.lt_irrefl (Int64.lt_trans h q), if_pos h⟩
  · by_cases e : x = y
    · exact Or.inr (Or.inl ⟨e, fun q => by rw [e] at q; exact Int64.lt_irrefl q, h, by rw [if_neg h, if_pos e]⟩)
    · refine Or.inr (Or.inr ⟨?_, h, by rw [if_neg h, if_neg e]⟩)
      rw [Int64.lt_iff_toInt_lt] at *
      have : x.toInt ≠ y.toInt := fun z => e (Int64.toInt_inj.mp z)
      omega
theorem lgc_lt {x y : Int64} : lg_cmp x y < 0 ↔ x < y := by
  rcases lgc3 (x := x) (y := y) with ⟨h1, h2, h3⟩ | ⟨h1, h2, -, h3⟩ | ⟨h1, h2, h3⟩
  · exact ⟨fun q => absurd (h3 ▸ q) (by decide), fun q => absurd q h2⟩
  · exact ⟨fun q => absurd (h3 ▸ q) (by decide), fun q => absurd q h2⟩
  · exact ⟨fun _ => h1, fun _ => by rw [h3]; decide⟩
theorem lgc_ge {x y : Int64} : 0 ≤ lg_cmp x y ↔ ¬ x < y := by
  rcases lgc3 (x := x) (y := y) with ⟨h1, h2, h3⟩ | ⟨h1, h2, -, h3⟩ | ⟨h1, h2, h3⟩
  · exact ⟨fun _ => h2, fun _ => by rw [h3]; decide⟩
  · exact ⟨fun _ => h2, fun _ => by rw [h3]; decide⟩
  · exact ⟨fun q => absurd (h3 ▸ q) (by decide), fun q => absurd h1 q⟩
theorem lgc_le {x y : Int64} : lg_cmp x y ≤ 0 ↔ ¬ y < x := by
  rcases lgc3 (x := x) (y := y) with ⟨h1, h2, h3⟩ | ⟨h1, -, h2, h3⟩ | ⟨h1, h2, h3⟩
  · exact ⟨fun q => absurd (h3 ▸ q) (by decide), fun q => absurd h1 q⟩
  · exact ⟨fun _ => h2, fun _ => by rw [h3]; decide⟩
  · exact ⟨fun _ => h2, fun _ => by rw [h3]; decide⟩
abbrev HS : Type := Nat × (Nat → Int64)
def hpO (A : AD) (n : Nat) : Nat × AC := (A 13 0, .inr (0, [.ref (A 14 0), .int (nI n)]))
def hp (h : AH) (A : AD) (S : HS) : AH := up (up h 13 0 (hpO A S.1)) 14 0 (lArr (A 14 0) 64 S.2)
theorem hp_14 (h : AH) (A : AD) (S : HS) : hp h A S 14 0 = some (lArr (A 14 0) 64 S.2) := up_same _ _ _ _
theorem hp_13 (h : AH) (A : AD) (S : HS) : hp h A S 13 0 = some (hpO A S.1) := (up_role _ _ _ _ (by decide)).trans (up_same _ _ _ _)
theorem hp_n (h : AH) (A : AD) (S : HS) (n : Nat) : up (hp h A S) 13 0 (hpO A n) = hp h A (n, S.2) := by
  unfold hp; rw [up_comm _ _ _ _ _ (by decide), up_up]
theorem hp_f (h : AH) (A : AD) (S : HS) (f : Nat → Int64) : up (hp h A S) 14 0 (lArr (A 14 0) 64 f) = hp h A (S.1, f) := by
  unfold hp; rw [up_up]
theorem hp_map {h : AH} {A : AD} {g : Nat} {m : MS} (H : isMap h A g m) (S : HS) : isMap (hp h A S) A g m := (H.role (by decide)).role (by decide)
theorem hpA : ∀ q, q < 65 → (nI q - 1) / 2 = nI ((q - 1) / 2) ∧ 2 * nI q + 1 = nI (2 * q + 1) ∧ (nI (q + 1) - 1 = nI q) := by decide +kernel
def ent (v : Int32) (c : Nat) : Int64 := (v.toInt64 <<< ((6 : Int32).toInt64 &&& 63)) ||| (nI c).toInt64
def putL (e : Int64) : Nat → Nat → (Nat → Int64) → (Nat → Int64)
  | 0, q, f => va_up f q e
  | j + 1, q, f => if q ≠ 0 ∧ e < f ((q - 1) / 2) then putL e j ((q - 1) / 2) (va_up f q (f ((q - 1) / 2))) else va_up f q e
def putH (v : Int32) (c : Nat) (S : HS) : HS := if S.1 < 64 then (S.1 + 1, putL (ent v c) S.1 S.1 S.2) else S
def chd (n : Nat) (f : Nat → Int64) (q : Nat) : Nat := if 2 * q + 1 + 1 < n ∧ f (2 * q + 1 + 1) < f (2 * q + 1) then 2 * q + 1 + 1 else 2 * q + 1
def sftL (la : Int64) (n : Nat) : Nat → Nat → (Nat → Int64) → (Nat → Int64)
  | 0, q, f => va_up f q la
  | j + 1, q, f => if 2 * q + 1 < n then (if f (chd n f q) < la then sftL la n j (chd n f q) (va_up f q (f (chd n f q))) else va_up f q la) else va_up f q la
def takH (S : HS) : Int64 × HS := if S.1 = 0 then (-1, S) else (S.2 0, S.1 - 1, sftL (S.2 (S.1 - 1)) (S.1 - 1) 64 0 S.2)
theorem putH_le {v : Int32} {c : Nat} {S : HS} (h : S.1 ≤ 64) : (putH v c S).1 ≤ 64 := by
  unfold putH
  split
  · show S.1 + 1 ≤ 64; omega
  · exact h
theorem takH_le {S : HS} (h : S.1 ≤ 64) : (takH S).2.1 ≤ 64 := by
  unfold takH
  split
  · exact h
  · show S.1 - 1 ≤ 64; omega
/-- the first k sides of the cell c -/
def pnN (m : MS) (c : Nat) (v : Int32) (R : Int64) (S : HS) : Nat → Int64 × HS
  | 0 => (R, S)
  | k + 1 => match nb c k with
    | none => pnN m c v R S k
    | some n => if m.1 n = 35 then pnN m c v R S k else if inJ (pnN m c v R S k).1 (nI n) then pnN m c v R S k else
        ((pnN m c v R S k).1 ||| bitJ (nI n), putH (if v < m.2.1 n then m.2.1 n else v) n (pnN m c v R S k).2)
theorem pnN_le {m : MS} {c : Nat} {v : Int32} {R : Int64} {S : HS} (h : S.1 ≤ 64) : ∀ k, (pnN m c v R S k).2.1 ≤ 64
  | 0 => h
  | k + 1 => by
    rw [pnN]
    split
    · exact pnN_le h k
    · split
      · exact pnN_le h k
      · split
        · exact pnN_le h k
        · exact putH_le (pnN_le h k)
section PN
variable {m : MS} {c : Nat} {v : Int32} {R : Int64} {S : HS} {k n : Nat}
theorem pnN_0 (en : nb c k = none) : pnN m c v R S (k + 1) = pnN m c v R S k := by rw [pnN, en]
theorem pnN_r (en : nb c k = some n) (hr : m.1 n = 35) : pnN m c v R S (k + 1) = pnN m c v R S k := by
  rw [pnN, en]
  exact if_pos hr
theorem pnN_i (en : nb c k = some n) (hr : ¬ m.1 n = 35) (hi : inJ (pnN m c v R S k).1 (nI n)) : pnN m c v R S (k + 1) = pnN m c v R S k := by
  rw [pnN, en]
  exact (if_neg hr).trans (if_pos hi)
theorem pnN_p (en : nb c k = some n) (hr : ¬ m.1 n = 35) (hi : ¬ inJ (pnN m c v R S k).1 (nI n)) : pnN m c v R S (k + 1) = ((pnN m c v R S k).1 ||| bitJ (nI n), putH (if v < m.2.1 n then m.2.1 n else v) n (pnN m c v R S k).2) := by
  rw [pnN, en]
  exact (if_neg hr).trans (if_neg hi)
end PN
def cN (e : Int64) : Nat := (e &&& 63).toBitVec.toNat
theorem cN_lt (e : Int64) : cN e < 64 := by
  unfold cN
  rw [Int64.toBitVec_and, BitVec.toNat_and]
  exact Nat.lt_of_le_of_lt Nat.and_le_right (by decide)
theorem cN_eq (e : Int64) : (e &&& 63).toInt32 = nI (cN e) := by
  have h := cN_lt e
  unfold cN at *
  generalize hx : (e &&& 63) = x at *
  rw [← Int32.toBitVec_inj]
  apply BitVec.eq_of_toNat_eq
  show (x.toBitVec.signExtend 32).toNat = (nI x.toBitVec.toNat).toBitVec.toNat
  rw [BitVec.signExtend_eq_setWidth_of_le _ (by decide), BitVec.toNat_setWidth]
  have h3 : (nI x.toBitVec.toNat).toBitVec.toNat = x.toBitVec.toNat % 2 ^ 32 := by
    show (BitVec.ofNat 32 _).toNat = _
    rw [BitVec.toNat_ofNat]
  rw [h3]
def fpN (m : MS) (to : Nat) : Nat → Int64 → HS → Int32
  | 0, _, _ => -1
  | j + 1, R, S => if (takH S).1 = -1 then -1 else if cN (takH S).1 = to then ((takH S).1 >>> ((6 : Int32).toInt64 &&& 63)).toInt32 else
      fpN m to j (pnN m (cN (takH S).1) ((takH S).1 >>> ((6 : Int32).toInt64 &&& 63)).toInt32 R (takH S).2 4).1 (pnN m (cN (takH S).1) ((takH S).1 >>> ((6 : Int32).toInt64 &&& 63)).toInt32 R (takH S).2 4).2
def fpJ (m : MS) (fm to : Nat) (f : Nat → Int64) : Int32 :=
  if m.1 fm = 35 then fpN m to 64 0 (0, f) else if bitJ (nI fm) = 0 then fpN m to 64 (bitJ (nI fm)) (0, f) else fpN m to 64 (bitJ (nI fm)) (putH (m.2.1 fm) fm (0, f))

set_option maxRecDepth 100000 in
theorem ev_put {l : Launch} {G : GG} (hl : l.stackTraces = false) {A : AD} {h : AH} {S : HS} (hS : S.1 ≤ 64) {v : Int32} {c : Nat} :
    Ev l G 10 0 0 mX0_put [.ref (A 13 0), .int v, .int (nI c)] (hp h A S) (Rt none (hp h A (putH v c S))) := by
  refine Ev.of hl (by decide) (Nat.le_of_ble_eq_true rfl) ?_
  obtain ⟨n, f⟩ := S
  have loopA : ∀ (e : Int64), ∀ (j : Nat) (q : Nat) (f : Nat → Int64), q ≤ j → q < 64 → Go l G mX0_put 10 0 0 (Rt none (hp h A (n + 1, putL e j q f))) 33 [some (.ref (A 13 0)), some (.int v), some (.int (nI c)), some (.long e), none, some (.int (nI q)), some (.int (nI ((q - 1) / 2)))] [] (hp h A (n, f)) := by
    intro e
    have loop : ∀ (j : Nat) (q : Nat) (f : Nat → Int64), q ≤ j → q < 64 → Go l G mX0_put 10 0 0 (Rt none (hp h A (n + 1, putL e j q f))) 33 [some (.ref (A 13 0)), some (.int v), some (.int (nI c)), some (.long e), none, some (.int (nI q)), some (.int (nI ((q - 1) / 2)))] [] (hp h A (n, f)) := by
      intro j
      induction j with
      | zero =>
        intro q f hj hq
        refine g_iload dX0_put_33 rfl ?_
        refine g_if_le (tgt := 79) dX0_put_35 (by decide) (fun c35 => ?_) (fun c35 => ?_)
        · refine g_aload_n (i := 0) dX0_put_79 rfl rfl ?_
          refine g_getf dX0_put_80 K_X0 (k := 0) fl_X0_9 (Nat.le_of_ble_eq_true rfl) (hp_13 _ _ _) rfl ?_
          refine g_iload dX0_put_83 rfl ?_
          refine g_lload_n (i := 3) dX0_put_85 rfl rfl ?_
          refine g_last dX0_put_86 (hp_14 _ _ _) (ix_nI (by omega)) (by omega) rfl (Go.heap (hp_f _ _ _ _) ?_)
          refine g_aload_n (i := 0) dX0_put_87 rfl rfl ?_
          refine g_dup dX0_put_88 rfl ?_
          refine g_getf dX0_put_89 K_X0 (k := 1) fl_X0_15 (Nat.le_of_ble_eq_true rfl) (hp_13 _ _ _) rfl ?_
          refine g_iconst (v := 1) dX0_put_92 (by decide) ?_
          refine g_iadd dX0_put_93 ?_
          rw [← nI_succ]
          refine g_putf dX0_put_94 K_X0 (k := 1) fl_X0_15 (Nat.le_of_ble_eq_true rfl) rfl (hp_13 _ _ _) (Nat.le_of_ble_eq_true rfl) rfl rfl (Go.heap (hp_n _ _ _ _) ?_)
          refine g_vret dX0_put_97 rfl ?_
          exact ⟨rfl, by rw [show q = 0 by omega]; rfl⟩
        · exact absurd ((nI_le' (a := q) (b := 0) rfl (by omega) (by omega)).mpr (by omega)) c35
      | succ j ih =>
        intro q f hj hq
        refine g_iload dX0_put_33 rfl ?_
        refine g_if_le (tgt := 79) dX0_put_35 (by decide) (fun c35 => ?_) (fun c35 => ?_)
        · refine g_aload_n (i := 0) dX0_put_79 rfl rfl ?_
          refine g_getf dX0_put_80 K_X0 (k := 0) fl_X0_9 (Nat.le_of_ble_eq_true rfl) (hp_13 _ _ _) rfl ?_
          refine g_iload dX0_put_83 rfl ?_
          refine g_lload_n (i := 3) dX0_put_85 rfl rfl ?_
          refine g_last dX0_put_86 (hp_14 _ _ _) (ix_nI (by omega)) (by omega) rfl (Go.heap (hp_f _ _ _ _) ?_)
          refine g_aload_n (i := 0) dX0_put_87 rfl rfl ?_
          refine g_dup dX0_put_88 rfl ?_
          refine g_getf dX0_put_89 K_X0 (k := 1) fl_X0_15 (Nat.le_of_ble_eq_true rfl) (hp_13 _ _ _) rfl ?_
          refine g_iconst (v := 1) dX0_put_92 (by decide) ?_
          refine g_iadd dX0_put_93 ?_
          rw [← nI_succ]
          refine g_putf dX0_put_94 K_X0 (k := 1) fl_X0_15 (Nat.le_of_ble_eq_true rfl) rfl (hp_13 _ _ _) (Nat.le_of_ble_eq_true rfl) rfl rfl (Go.heap (hp_n _ _ _ _) ?_)
          refine g_vret dX0_put_97 rfl ?_
          exact ⟨rfl, by rw [putL, if_neg (fun z => z.1 (by have := (nI_le' (a := q) (b := 0) rfl (by omega) (by omega)).mp c35; omega))]⟩
        · refine g_aload_n (i := 0) dX0_put_38 rfl rfl ?_
          refine g_getf dX0_put_39 K_X0 (k := 0) fl_X0_9 (Nat.le_of_ble_eq_true rfl) (hp_13 _ _ _) rfl ?_
          refine g_iload dX0_put_42 rfl ?_
          refine g_lald dX0_put_44 (hp_14 _ _ _) (ix_nI (by omega)) (by omega) ?_
          refine g_lload_n (i := 3) dX0_put_45 rfl rfl ?_
          refine g_lcmp dX0_put_46 ?_
          refine g_if_le (tgt := 79) dX0_put_47 (by decide) (fun c47 => ?_) (fun c47 => ?_)
          · refine g_aload_n (i := 0) dX0_put_79 rfl rfl ?_
            refine g_getf dX0_put_80 K_X0 (k := 0) fl_X0_9 (Nat.le_of_ble_eq_true rfl) (hp_13 _ _ _) rfl ?_
            refine g_iload dX0_put_83 rfl ?_
            refine g_lload_n (i := 3) dX0_put_85 rfl rfl ?_
            refine g_last dX0_put_86 (hp_14 _ _ _) (ix_nI (by omega)) (by omega) rfl (Go.heap (hp_f _ _ _ _) ?_)
            refine g_aload_n (i := 0) dX0_put_87 rfl rfl ?_
            refine g_dup dX0_put_88 rfl ?_
            refine g_getf dX0_put_89 K_X0 (k := 1) fl_X0_15 (Nat.le_of_ble_eq_true rfl) (hp_13 _ _ _) rfl ?_
            refine g_iconst (v := 1) dX0_put_92 (by decide) ?_
            refine g_iadd dX0_put_93 ?_
            rw [← nI_succ]
            refine g_putf dX0_put_94 K_X0 (k := 1) fl_X0_15 (Nat.le_of_ble_eq_true rfl) rfl (hp_13 _ _ _) (Nat.le_of_ble_eq_true rfl) rfl rfl (Go.heap (hp_n _ _ _ _) ?_)
            refine g_vret dX0_put_97 rfl ?_
            exact ⟨rfl, by rw [putL, if_neg (fun z => (lgc_le.mp c47) z.2)]⟩
          · refine g_aload_n (i := 0) dX0_put_50 rfl rfl ?_
            refine g_getf dX0_put_51 K_X0 (k := 0) fl_X0_9 (Nat.le_of_ble_eq_true rfl) (hp_13 _ _ _) rfl ?_
            refine g_iload dX0_put_54 rfl ?_
            refine g_aload_n (i := 0) dX0_put_56 rfl rfl ?_
            refine g_getf dX0_put_57 K_X0 (k := 0) fl_X0_9 (Nat.le_of_ble_eq_true rfl) (hp_13 _ _ _) rfl ?_
            refine g_iload dX0_put_60 rfl ?_
            refine g_lald dX0_put_62 (hp_14 _ _ _) (ix_nI (by omega)) (by omega) ?_
            refine g_last dX0_put_63 (hp_14 _ _ _) (ix_nI (by omega)) (by omega) rfl (Go.heap (hp_f _ _ _ _) ?_)
            refine g_iload dX0_put_64 rfl ?_
            refine g_istore dX0_put_66 (Nat.le_of_ble_eq_true rfl) ?_
            refine g_iload dX0_put_68 rfl ?_
            refine g_iconst (v := 1) dX0_put_70 (by decide) ?_
            refine g_isub dX0_put_71 ?_
            refine g_iconst (v := 2) dX0_put_72 (by decide) ?_
            refine g_idiv dX0_put_73 (by decide) ?_
            rw [(hpA ((q - 1) / 2) (by omega)).1]
            refine g_istore dX0_put_74 (Nat.le_of_ble_eq_true rfl) ?_
            refine g_goto (tgt := 33) dX0_put_76 (by decide) ?_
            have hq0 : q ≠ 0 := fun z => c35 (by rw [z]; decide)
            have z := ih ((q - 1) / 2) (va_up f q (f ((q - 1) / 2))) (by omega) (by omega)
            rw [← show putL e (j + 1) q f = _ from if_pos ⟨hq0, Decidable.of_not_not fun z => c47 (lgc_le.mpr z)⟩] at z
            exact z
    exact loop
  have rest : n < 64 → Go l G mX0_put 10 0 0 (Rt none (hp h A (n + 1, putL (ent v c) n n f))) 10 [some (.ref (A 13 0)), some (.int v), some (.int (nI c)), none, none, none, none] [] (hp h A (n, f)) := by
    intro hn
    refine g_iload_n (i := 1) dX0_put_10 rfl rfl ?_
    refine g_i2l dX0_put_11 ?_
    refine g_bipush (v := 6) dX0_put_12 (by decide) ?_
    refine g_lshl dX0_put_14 ?_
    refine g_iload_n (i := 2) dX0_put_15 rfl rfl ?_
    refine g_i2l dX0_put_16 ?_
    refine g_lor dX0_put_17 ?_
    refine g_lstore_n (i := 3) dX0_put_18 rfl (Nat.le_of_ble_eq_true rfl) ?_
    refine g_aload_n (i := 0) dX0_put_19 rfl rfl ?_
    refine g_getf dX0_put_20 K_X0 (k := 1) fl_X0_15 (Nat.le_of_ble_eq_true rfl) (hp_13 _ _ _) rfl ?_
    refine g_istore dX0_put_23 (Nat.le_of_ble_eq_true rfl) ?_
    refine g_iload dX0_put_25 rfl ?_
    refine g_iconst (v := 1) dX0_put_27 (by decide) ?_
    refine g_isub dX0_put_28 ?_
    refine g_iconst (v := 2) dX0_put_29 (by decide) ?_
    refine g_idiv dX0_put_30 (by decide) ?_
    rw [(hpA n (by omega)).1]
    refine g_istore dX0_put_31 (Nat.le_of_ble_eq_true rfl) ?_
    exact loopA _ n n f (Nat.le_refl _) hn
  refine g_aload_n (i := 0) dX0_put_0 rfl rfl ?_
  refine g_getf dX0_put_1 K_X0 (k := 1) fl_X0_15 (Nat.le_of_ble_eq_true rfl) (hp_13 _ _ _) rfl ?_
  refine g_bipush (v := 64) dX0_put_4 (by decide) ?_
  refine g_icmp_lt (tgt := 10) dX0_put_6 (by decide) (fun c6 => ?_) (fun c6 => ?_)
  · have hn : n < 64 := (nI_lt' (a := n) (b := 64) rfl (by omega) (by omega)).mp c6
    have eP : putH v c (n, f) = (n + 1, putL (ent v c) n n f) := if_pos hn
    rw [eP]
    exact rest hn
  · refine g_vret dX0_put_9 rfl ?_
    exact ⟨rfl, by rw [putH, if_neg (by have := mt (nI_lt' (a := n) (b := 64) rfl (by omega) (by omega)).mpr c6; omega)]⟩

set_option maxRecDepth 100000 in
theorem ev_takeLeast {l : Launch} {G : GG} (hl : l.stackTraces = false) {A : AD} {h : AH} {S : HS} (hS : S.1 ≤ 64) :
    Ev l G 10 0 0 mX0_takeLeast [.ref (A 13 0)] (hp h A S) (Rt (some (.long (takH S).1)) (hp h A (takH S).2)) := by
  refine Ev.of hl (by decide) (Nat.le_of_ble_eq_true rfl) ?_
  obtain ⟨n, f⟩ := S
  have hS : n ≤ 64 := hS
  have loopA : ∀ (n : Nat) (_ : n < 64) (least la : Int64), ∀ (j : Nat) (q : Nat) (f : Nat → Int64) (X : Option Value), 64 ≤ q + j → q < 64 → Go l G mX0_takeLeast 10 0 0 (Rt (some (.long least)) (hp h A (n, sftL la n j q f))) 44 [some (.ref (A 13 0)), some (.long least), none, some (.long la), none, some (.int (nI q)), some (.int (nI (2 * q + 1))), X] [] (hp h A (n, f)) := by
    intro n hn least la
    have loop : ∀ (j : Nat) (q : Nat) (f : Nat → Int64) (X : Option Value), 64 ≤ q + j → q < 64 → Go l G mX0_takeLeast 10 0 0 (Rt (some (.long least)) (hp h A (n, sftL la n j q f))) 44 [some (.ref (A 13 0)), some (.long least), none, some (.long la), none, some (.int (nI q)), some (.int (nI (2 * q + 1))), X] [] (hp h A (n, f)) := by
      intro j
      induction j with
      | zero => intros; omega
      | succ j ih =>
        intro q f X hj hq
        refine g_iload dX0_takeLeast_44 rfl ?_
        refine g_aload_n (i := 0) dX0_takeLeast_46 rfl rfl ?_
        refine g_getf dX0_takeLeast_47 K_X0 (k := 1) fl_X0_15 (Nat.le_of_ble_eq_true rfl) (hp_13 _ _ _) rfl ?_
        refine g_icmp_ge (tgt := 139) dX0_takeLeast_50 (by decide) (fun c50 => ?_) (fun c50 => ?_)
        · refine g_aload_n (i := 0) dX0_takeLeast_139 rfl rfl ?_
          refine g_getf dX0_takeLeast_140 K_X0 (k := 0) fl_X0_9 (Nat.le_of_ble_eq_true rfl) (hp_13 _ _ _) rfl ?_
          refine g_iload dX0_takeLeast_143 rfl ?_
          refine g_lload_n (i := 3) dX0_takeLeast_145 rfl rfl ?_
          refine g_last dX0_takeLeast_146 (hp_14 _ _ _) (ix_nI (by omega)) (by omega) rfl (Go.heap (hp_f _ _ _ _) ?_)
          refine g_lload_n (i := 1) dX0_takeLeast_147 rfl rfl ?_
          refine g_lret dX0_takeLeast_148 rfl ?_
          exact ⟨rfl, by rw [sftL, if_neg (by have := (le_nI (a := n) (b := 2 * q + 1) rfl (by omega) (by omega)).mp c50; omega)]⟩
        · have hb : 2 * q + 1 < n := by have := mt (le_nI (a := n) (b := 2 * q + 1) rfl (by omega) (by omega)).mpr c50; omega
          refine g_iload dX0_takeLeast_53 rfl ?_
          refine g_iconst (v := 1) dX0_takeLeast_55 (by decide) ?_
          refine g_iadd dX0_takeLeast_56 ?_
          rw [← nI_succ]
          refine g_aload_n (i := 0) dX0_takeLeast_57 rfl rfl ?_
          refine g_getf dX0_takeLeast_58 K_X0 (k := 1) fl_X0_15 (Nat.le_of_ble_eq_true rfl) (hp_13 _ _ _) rfl ?_
          have hq62 : q < 64 := hq
          refine g_icmp_ge (tgt := 91) dX0_takeLeast_61 (by decide) (fun c61 => ?_) (fun c61 => ?_)
          · refine g_iload dX0_takeLeast_91 rfl ?_
            have hch : chd n f q = 2 * q + 1 := if_neg (fun z => absurd z.1 (by have := (le_nI (a := n) (b := 2 * q + 1 + 1) rfl (by omega) (by omega)).mp c61; omega))
            refine g_istore dX0_takeLeast_93 (Nat.le_of_ble_eq_true rfl) ?_
            refine g_aload_n (i := 0) dX0_takeLeast_95 rfl rfl ?_
            refine g_getf dX0_takeLeast_96 K_X0 (k := 0) fl_X0_9 (Nat.le_of_ble_eq_true rfl) (hp_13 _ _ _) rfl ?_
            refine g_iload dX0_takeLeast_99 rfl ?_
            refine g_lald dX0_takeLeast_101 (hp_14 _ _ _) (ix_nI (by omega)) (by omega) ?_
            refine g_lload_n (i := 3) dX0_takeLeast_102 rfl rfl ?_
            refine g_lcmp dX0_takeLeast_103 ?_
            refine g_if_lt (tgt := 110) dX0_takeLeast_104 (by decide) (fun c104 => ?_) (fun c104 => ?_)
            · refine g_aload_n (i := 0) dX0_takeLeast_110 rfl rfl ?_
              refine g_getf dX0_takeLeast_111 K_X0 (k := 0) fl_X0_9 (Nat.le_of_ble_eq_true rfl) (hp_13 _ _ _) rfl ?_
              refine g_iload dX0_takeLeast_114 rfl ?_
              refine g_aload_n (i := 0) dX0_takeLeast_116 rfl rfl ?_
              refine g_getf dX0_takeLeast_117 K_X0 (k := 0) fl_X0_9 (Nat.le_of_ble_eq_true rfl) (hp_13 _ _ _) rfl ?_
              refine g_iload dX0_takeLeast_120 rfl ?_
              refine g_lald dX0_takeLeast_122 (hp_14 _ _ _) (ix_nI (by omega)) (by omega) ?_
              refine g_last dX0_takeLeast_123 (hp_14 _ _ _) (ix_nI (by omega)) (by omega) rfl (Go.heap (hp_f _ _ _ _) ?_)
              refine g_iload dX0_takeLeast_124 rfl ?_
              refine g_istore dX0_takeLeast_126 (Nat.le_of_ble_eq_true rfl) ?_
              refine g_iconst (v := 2) dX0_takeLeast_128 (by decide) ?_
              refine g_iload dX0_takeLeast_129 rfl ?_
              refine g_imul dX0_takeLeast_131 ?_
              refine g_iconst (v := 1) dX0_takeLeast_132 (by decide) ?_
              refine g_iadd dX0_takeLeast_133 ?_
              rw [(hpA (2 * q + 1) (by omega)).2.1]
              refine g_istore dX0_takeLeast_134 (Nat.le_of_ble_eq_true rfl) ?_
              refine g_goto (tgt := 44) dX0_takeLeast_136 (by decide) ?_
              have z := ih (2 * q + 1) (va_up f q (f (2 * q + 1))) (some (.int (nI (2 * q + 1)))) (by omega) (by omega)
              rw [← show sftL la n (j + 1) q f = sftL la n j (2 * q + 1) (va_up f q (f (2 * q + 1))) from by rw [sftL, if_pos hb, hch, if_pos (lgc_lt.mp c104)]] at z
              exact z
            · refine g_goto (tgt := 139) dX0_takeLeast_107 (by decide) ?_
              refine g_aload_n (i := 0) dX0_takeLeast_139 rfl rfl ?_
              refine g_getf dX0_takeLeast_140 K_X0 (k := 0) fl_X0_9 (Nat.le_of_ble_eq_true rfl) (hp_13 _ _ _) rfl ?_
              refine g_iload dX0_takeLeast_143 rfl ?_
              refine g_lload_n (i := 3) dX0_takeLeast_145 rfl rfl ?_
              refine g_last dX0_takeLeast_146 (hp_14 _ _ _) (ix_nI (by omega)) (by omega) rfl (Go.heap (hp_f _ _ _ _) ?_)
              refine g_lload_n (i := 1) dX0_takeLeast_147 rfl rfl ?_
              refine g_lret dX0_takeLeast_148 rfl ?_
              exact ⟨rfl, by rw [sftL, if_pos hb, hch, if_neg (fun z => c104 (lgc_lt.mpr z))]⟩
          · refine g_aload_n (i := 0) dX0_takeLeast_64 rfl rfl ?_
            refine g_getf dX0_takeLeast_65 K_X0 (k := 0) fl_X0_9 (Nat.le_of_ble_eq_true rfl) (hp_13 _ _ _) rfl ?_
            refine g_iload dX0_takeLeast_68 rfl ?_
            refine g_iconst (v := 1) dX0_takeLeast_70 (by decide) ?_
            refine g_iadd dX0_takeLeast_71 ?_
            rw [← nI_succ]
            refine g_lald dX0_takeLeast_72 (hp_14 _ _ _) (ix_nI (by omega)) (by omega) ?_
            refine g_aload_n (i := 0) dX0_takeLeast_73 rfl rfl ?_
            refine g_getf dX0_takeLeast_74 K_X0 (k := 0) fl_X0_9 (Nat.le_of_ble_eq_true rfl) (hp_13 _ _ _) rfl ?_
            refine g_iload dX0_takeLeast_77 rfl ?_
            refine g_lald dX0_takeLeast_79 (hp_14 _ _ _) (ix_nI (by omega)) (by omega) ?_
            refine g_lcmp dX0_takeLeast_80 ?_
            refine g_if_ge (tgt := 91) dX0_takeLeast_81 (by decide) (fun c81 => ?_) (fun c81 => ?_)
            · refine g_iload dX0_takeLeast_91 rfl ?_
              have hch : chd n f q = 2 * q + 1 := if_neg (fun z => lgc_ge.mp c81 z.2)
              refine g_istore dX0_takeLeast_93 (Nat.le_of_ble_eq_true rfl) ?_
              refine g_aload_n (i := 0) dX0_takeLeast_95 rfl rfl ?_
              refine g_getf dX0_takeLeast_96 K_X0 (k := 0) fl_X0_9 (Nat.le_of_ble_eq_true rfl) (hp_13 _ _ _) rfl ?_
              refine g_iload dX0_takeLeast_99 rfl ?_
              refine g_lald dX0_takeLeast_101 (hp_14 _ _ _) (ix_nI (by omega)) (by omega) ?_
              refine g_lload_n (i := 3) dX0_takeLeast_102 rfl rfl ?_
              refine g_lcmp dX0_takeLeast_103 ?_
              refine g_if_lt (tgt := 110) dX0_takeLeast_104 (by decide) (fun c104 => ?_) (fun c104 => ?_)
              · refine g_aload_n (i := 0) dX0_takeLeast_110 rfl rfl ?_
                refine g_getf dX0_takeLeast_111 K_X0 (k := 0) fl_X0_9 (Nat.le_of_ble_eq_true rfl) (hp_13 _ _ _) rfl ?_
                refine g_iload dX0_takeLeast_114 rfl ?_
                refine g_aload_n (i := 0) dX0_takeLeast_116 rfl rfl ?_
                refine g_getf dX0_takeLeast_117 K_X0 (k := 0) fl_X0_9 (Nat.le_of_ble_eq_true rfl) (hp_13 _ _ _) rfl ?_
                refine g_iload dX0_takeLeast_120 rfl ?_
                refine g_lald dX0_takeLeast_122 (hp_14 _ _ _) (ix_nI (by omega)) (by omega) ?_
                refine g_last dX0_takeLeast_123 (hp_14 _ _ _) (ix_nI (by omega)) (by omega) rfl (Go.heap (hp_f _ _ _ _) ?_)
                refine g_iload dX0_takeLeast_124 rfl ?_
                refine g_istore dX0_takeLeast_126 (Nat.le_of_ble_eq_true rfl) ?_
                refine g_iconst (v := 2) dX0_takeLeast_128 (by decide) ?_
                refine g_iload dX0_takeLeast_129 rfl ?_
                refine g_imul dX0_takeLeast_131 ?_
                refine g_iconst (v := 1) dX0_takeLeast_132 (by decide) ?_
                refine g_iadd dX0_takeLeast_133 ?_
                rw [(hpA (2 * q + 1) (by omega)).2.1]
                refine g_istore dX0_takeLeast_134 (Nat.le_of_ble_eq_true rfl) ?_
                refine g_goto (tgt := 44) dX0_takeLeast_136 (by decide) ?_
                have z := ih (2 * q + 1) (va_up f q (f (2 * q + 1))) (some (.int (nI (2 * q + 1)))) (by omega) (by omega)
                rw [← show sftL la n (j + 1) q f = sftL la n j (2 * q + 1) (va_up f q (f (2 * q + 1))) from by rw [sftL, if_pos hb, hch, if_pos (lgc_lt.mp c104)]] at z
                exact z
              · refine g_goto (tgt := 139) dX0_takeLeast_107 (by decide) ?_
                refine g_aload_n (i := 0) dX0_takeLeast_139 rfl rfl ?_
                refine g_getf dX0_takeLeast_140 K_X0 (k := 0) fl_X0_9 (Nat.le_of_ble_eq_true rfl) (hp_13 _ _ _) rfl ?_
                refine g_iload dX0_takeLeast_143 rfl ?_
                refine g_lload_n (i := 3) dX0_takeLeast_145 rfl rfl ?_
                refine g_last dX0_takeLeast_146 (hp_14 _ _ _) (ix_nI (by omega)) (by omega) rfl (Go.heap (hp_f _ _ _ _) ?_)
                refine g_lload_n (i := 1) dX0_takeLeast_147 rfl rfl ?_
                refine g_lret dX0_takeLeast_148 rfl ?_
                exact ⟨rfl, by rw [sftL, if_pos hb, hch, if_neg (fun z => c104 (lgc_lt.mpr z))]⟩
            · refine g_iload dX0_takeLeast_84 rfl ?_
              refine g_iconst (v := 1) dX0_takeLeast_86 (by decide) ?_
              refine g_iadd dX0_takeLeast_87 ?_
              rw [← nI_succ]
              refine g_goto (tgt := 93) dX0_takeLeast_88 (by decide) ?_
              have hch : chd n f q = 2 * q + 1 + 1 := if_pos ⟨(by have := mt (le_nI (a := n) (b := 2 * q + 1 + 1) rfl (by omega) (by omega)).mpr c61; omega), Decidable.of_not_not fun z => c81 (lgc_ge.mpr z)⟩
              refine g_istore dX0_takeLeast_93 (Nat.le_of_ble_eq_true rfl) ?_
              refine g_aload_n (i := 0) dX0_takeLeast_95 rfl rfl ?_
              refine g_getf dX0_takeLeast_96 K_X0 (k := 0) fl_X0_9 (Nat.le_of_ble_eq_true rfl) (hp_13 _ _ _) rfl ?_
              refine g_iload dX0_takeLeast_99 rfl ?_
              refine g_lald dX0_takeLeast_101 (hp_14 _ _ _) (ix_nI (by omega)) (by omega) ?_
              refine g_lload_n (i := 3) dX0_takeLeast_102 rfl rfl ?_
              refine g_lcmp dX0_takeLeast_103 ?_
              refine g_if_lt (tgt := 110) dX0_takeLeast_104 (by decide) (fun c104 => ?_) (fun c104 => ?_)
              · refine g_aload_n (i := 0) dX0_takeLeast_110 rfl rfl ?_
                refine g_getf dX0_takeLeast_111 K_X0 (k := 0) fl_X0_9 (Nat.le_of_ble_eq_true rfl) (hp_13 _ _ _) rfl ?_
                refine g_iload dX0_takeLeast_114 rfl ?_
                refine g_aload_n (i := 0) dX0_takeLeast_116 rfl rfl ?_
                refine g_getf dX0_takeLeast_117 K_X0 (k := 0) fl_X0_9 (Nat.le_of_ble_eq_true rfl) (hp_13 _ _ _) rfl ?_
                refine g_iload dX0_takeLeast_120 rfl ?_
                refine g_lald dX0_takeLeast_122 (hp_14 _ _ _) (ix_nI (by omega)) (by omega) ?_
                refine g_last dX0_takeLeast_123 (hp_14 _ _ _) (ix_nI (by omega)) (by omega) rfl (Go.heap (hp_f _ _ _ _) ?_)
                refine g_iload dX0_takeLeast_124 rfl ?_
                refine g_istore dX0_takeLeast_126 (Nat.le_of_ble_eq_true rfl) ?_
                refine g_iconst (v := 2) dX0_takeLeast_128 (by decide) ?_
                refine g_iload dX0_takeLeast_129 rfl ?_
                refine g_imul dX0_takeLeast_131 ?_
                refine g_iconst (v := 1) dX0_takeLeast_132 (by decide) ?_
                refine g_iadd dX0_takeLeast_133 ?_
                rw [(hpA (2 * q + 1 + 1) (by omega)).2.1]
                refine g_istore dX0_takeLeast_134 (Nat.le_of_ble_eq_true rfl) ?_
                refine g_goto (tgt := 44) dX0_takeLeast_136 (by decide) ?_
                have z := ih (2 * q + 1 + 1) (va_up f q (f (2 * q + 1 + 1))) (some (.int (nI (2 * q + 1 + 1)))) (by omega) (by omega)
                rw [← show sftL la n (j + 1) q f = sftL la n j (2 * q + 1 + 1) (va_up f q (f (2 * q + 1 + 1))) from by rw [sftL, if_pos hb, hch, if_pos (lgc_lt.mp c104)]] at z
                exact z
              · refine g_goto (tgt := 139) dX0_takeLeast_107 (by decide) ?_
                refine g_aload_n (i := 0) dX0_takeLeast_139 rfl rfl ?_
                refine g_getf dX0_takeLeast_140 K_X0 (k := 0) fl_X0_9 (Nat.le_of_ble_eq_true rfl) (hp_13 _ _ _) rfl ?_
                refine g_iload dX0_takeLeast_143 rfl ?_
                refine g_lload_n (i := 3) dX0_takeLeast_145 rfl rfl ?_
                refine g_last dX0_takeLeast_146 (hp_14 _ _ _) (ix_nI (by omega)) (by omega) rfl (Go.heap (hp_f _ _ _ _) ?_)
                refine g_lload_n (i := 1) dX0_takeLeast_147 rfl rfl ?_
                refine g_lret dX0_takeLeast_148 rfl ?_
                exact ⟨rfl, by rw [sftL, if_pos hb, hch, if_neg (fun z => c104 (lgc_lt.mpr z))]⟩
    exact loop
  have rest : ∀ n1, n1 < 64 → Go l G mX0_takeLeast 10 0 0 (Rt (some (.long (f 0))) (hp h A (n1, sftL (f n1) n1 64 0 f))) 11 [some (.ref (A 13 0)), none, none, none, none, none, none, none] [] (hp h A (n1 + 1, f)) := by
    intro n1 hn1
    refine g_aload_n (i := 0) dX0_takeLeast_11 rfl rfl ?_
    refine g_getf dX0_takeLeast_12 K_X0 (k := 0) fl_X0_9 (Nat.le_of_ble_eq_true rfl) (hp_13 _ _ _) rfl ?_
    refine g_iconst (v := 0) dX0_takeLeast_15 (by decide) ?_
    refine g_lald dX0_takeLeast_16 (hp_14 _ _ _) (ix_nI (j := 0) (by decide)) (by decide) ?_
    refine g_lstore_n (i := 1) dX0_takeLeast_17 rfl (Nat.le_of_ble_eq_true rfl) ?_
    refine g_aload_n (i := 0) dX0_takeLeast_18 rfl rfl ?_
    refine g_dup dX0_takeLeast_19 rfl ?_
    refine g_getf dX0_takeLeast_20 K_X0 (k := 1) fl_X0_15 (Nat.le_of_ble_eq_true rfl) (hp_13 _ _ _) rfl ?_
    refine g_iconst (v := 1) dX0_takeLeast_23 (by decide) ?_
    refine g_isub dX0_takeLeast_24 ?_
    rw [(hpA n1 (by omega)).2.2]
    refine g_putf dX0_takeLeast_25 K_X0 (k := 1) fl_X0_15 (Nat.le_of_ble_eq_true rfl) rfl (hp_13 _ _ _) (Nat.le_of_ble_eq_true rfl) rfl rfl (Go.heap (hp_n _ _ _ _) ?_)
    refine g_aload_n (i := 0) dX0_takeLeast_28 rfl rfl ?_
    refine g_getf dX0_takeLeast_29 K_X0 (k := 0) fl_X0_9 (Nat.le_of_ble_eq_true rfl) (hp_13 _ _ _) rfl ?_
    refine g_aload_n (i := 0) dX0_takeLeast_32 rfl rfl ?_
    refine g_getf dX0_takeLeast_33 K_X0 (k := 1) fl_X0_15 (Nat.le_of_ble_eq_true rfl) (hp_13 _ _ _) rfl ?_
    refine g_lald dX0_takeLeast_36 (hp_14 _ _ _) (ix_nI (by omega)) (by omega) ?_
    refine g_lstore_n (i := 3) dX0_takeLeast_37 rfl (Nat.le_of_ble_eq_true rfl) ?_
    refine g_iconst (v := 0) dX0_takeLeast_38 (by decide) ?_
    refine g_istore dX0_takeLeast_39 (Nat.le_of_ble_eq_true rfl) ?_
    refine g_iconst (v := 1) dX0_takeLeast_41 (by decide) ?_
    refine g_istore dX0_takeLeast_42 (Nat.le_of_ble_eq_true rfl) ?_
    exact loopA n1 hn1 _ _ 64 0 f _ (by omega) (by omega)
  refine g_aload_n (i := 0) dX0_takeLeast_0 rfl rfl ?_
  refine g_getf dX0_takeLeast_1 K_X0 (k := 1) fl_X0_15 (Nat.le_of_ble_eq_true rfl) (hp_13 _ _ _) rfl ?_
  refine g_if_gt (tgt := 11) dX0_takeLeast_4 (by decide) (fun c4 => ?_) (fun c4 => ?_)
  · have hn0 : n ≠ 0 := fun z => by subst z; exact absurd (show (0 : Int32) < nI 0 from c4) (by decide)
    obtain ⟨n1, rfl⟩ : ∃ n1, n = n1 + 1 := ⟨n - 1, by omega⟩
    rw [show takH (n1 + 1, f) = (f 0, n1, sftL (f n1) n1 64 0 f) from if_neg hn0]
    exact rest n1 (by omega)
  · refine g_ldc2 dX0_takeLeast_7 co_X0_43 ?_
    refine g_lret dX0_takeLeast_10 rfl ?_
    have hn0 : n = 0 := by have := mt (nI_lt' (a := 0) (b := n) rfl (by omega) (by omega)).mpr c4; omega
    subst hn0
    exact ⟨rfl, rfl⟩

set_option maxRecDepth 100000 in
theorem ev_putNeighbours {l : Launch} {G : GG} (hl : l.stackTraces = false) {A : AD} {g : Nat} {m : MS} {h : AH} (H : isMap h A g m) {S : HS} (hS : S.1 ≤ 64) {R : Int64} {v : Int32} {c : Nat} (hc : c < 64) :
    Ev l G 11 0 0 mX0_putNeighbours [.ref (A 13 0), .ref (A 0 g), .int (nI c), .int v, .long R] (hp h A S) (Rt (some (.long (pnN m c v R S 4).1)) (hp h A (pnN m c v R S 4).2)) := by
  refine Ev.of hl (by decide) (Nat.le_of_ble_eq_true rfl) ?_
  have loop : ∀ (n9 : Nat) (k : Nat) (X : Option Value), 4 - k < n9 → k ≤ 4 → Go l G mX0_putNeighbours 11 0 0 (Rt (some (.long (pnN m c v R S 4).1)) (hp h A (pnN m c v R S 4).2)) 7 [some (.ref (A 13 0)), some (.ref (A 0 g)), some (.int (nI c)), some (.int v), some (.long R), none, some (.long (pnN m c v R S k).1), none, some (.int (nI k)), X] [] (hp h A (pnN m c v R S k).2) := by
    intro n9
    induction n9 with
    | zero => intros; omega
    | succ n9 ih =>
      intro k X hf hk
      refine g_iload dX0_putNeighbours_7 rfl ?_
      refine g_iconst (v := 4) dX0_putNeighbours_9 (by decide) ?_
      refine g_icmp_ge (tgt := 79) dX0_putNeighbours_10 (by decide) (fun c10 => ?_) (fun c10 => ?_)
      · refine g_lload dX0_putNeighbours_79 rfl ?_
        refine g_lret dX0_putNeighbours_81 rfl ?_
        exact ⟨by rw [show k = 4 by have := (le_nI (a := 4) rfl (by omega) (by omega)).mp c10; omega], by rw [show k = 4 by have := (le_nI (a := 4) rfl (by omega) (by omega)).mp c10; omega]⟩
      · have hk2 : k < 4 := by have := mt (le_nI (a := 4) (b := k) rfl (by omega) (by omega)).mpr c10; omega
        refine g_iload_n (i := 2) dX0_putNeighbours_13 rfl rfl ?_
        refine g_iload dX0_putNeighbours_14 rfl ?_
        refine g_callSN (ev_neighbourOf hl hc hk2) dX0_putNeighbours_16 ml_X0_51 csX9_neighbourOf rfl rfl rfl (Nat.le_of_ble_eq_true rfl) (Nat.le_of_ble_eq_true rfl) (Nat.zero_le _) (Nat.zero_le _) (kr_rt ?_) kx_rt
        refine g_istore dX0_putNeighbours_19 (Nat.le_of_ble_eq_true rfl) ?_
        refine g_iload dX0_putNeighbours_21 rfl ?_
        refine g_iconst (v := (-1)) dX0_putNeighbours_23 (by decide) ?_
        refine g_icmp_eq (tgt := 73) dX0_putNeighbours_24 (by decide) (fun c24 => ?_) (fun c24 => ?_)
        · refine g_iinc (w := 1) dX0_putNeighbours_73 (by decide) rfl (nI_succ k).symm (Nat.le_of_ble_eq_true rfl) ?_
          refine g_goto (tgt := 7) dX0_putNeighbours_76 (by decide) ?_
          have en := (nbS c hc k hk2).2 c24
          have z := ih (k + 1) (some (.int (oI (nb c k)))) (by omega) (by omega)
          rw [pnN_0 en] at z
          exact z
        · obtain ⟨n, hn, en⟩ := (nbS c hc k hk2).1 c24
          rw [en]
          show Go l G mX0_putNeighbours 11 0 0 _ _ [_, _, _, _, _, _, _, _, _, some (.int (nI n))] _ _
          refine g_aload_n (i := 1) dX0_putNeighbours_27 rfl rfl ?_
          refine g_iload dX0_putNeighbours_28 rfl ?_
          refine g_callV (ev_isRock hl (hp_map H _) (ix_nI (by omega)) hn) dX0_putNeighbours_30 ml_X0_19 cvX3_isRock K_X3 rfl (hp_map H _).1 rfl rfl (Nat.le_of_ble_eq_true rfl) (Nat.le_of_ble_eq_true rfl) (Nat.zero_le _) (Nat.zero_le _) (kr_rt ?_) kx_rt
          refine g_if_ne (tgt := 73) dX0_putNeighbours_33 (by decide) (fun c33 => ?_) (fun c33 => ?_)
          · refine g_iinc (w := 1) dX0_putNeighbours_73 (by decide) rfl (nI_succ k).symm (Nat.le_of_ble_eq_true rfl) ?_
            refine g_goto (tgt := 7) dX0_putNeighbours_76 (by decide) ?_
            have z := ih (k + 1) (some (.int (nI n))) (by omega) (by omega)
            rw [pnN_r en (ite_1 c33)] at z
            exact z
          · refine g_lload dX0_putNeighbours_36 rfl ?_
            refine g_iload dX0_putNeighbours_38 rfl ?_
            refine g_callS (ev_isIn hl) dX0_putNeighbours_40 ml_X0_55 csX6_isIn rfl rfl (Nat.le_of_ble_eq_true rfl) (Nat.le_of_ble_eq_true rfl) (Nat.zero_le _) (Nat.zero_le _) (kr_rt ?_) kx_rt
            refine g_if_ne (tgt := 73) dX0_putNeighbours_43 (by decide) (fun c43 => ?_) (fun c43 => ?_)
            · refine g_iinc (w := 1) dX0_putNeighbours_73 (by decide) rfl (nI_succ k).symm (Nat.le_of_ble_eq_true rfl) ?_
              refine g_goto (tgt := 7) dX0_putNeighbours_76 (by decide) ?_
              have z := ih (k + 1) (some (.int (nI n))) (by omega) (by omega)
              rw [pnN_i en (ite_0 c33) (ite_1 c43)] at z
              exact z
            · refine g_lload dX0_putNeighbours_46 rfl ?_
              refine g_iload dX0_putNeighbours_48 rfl ?_
              refine g_callS (ev_bitOf hl) dX0_putNeighbours_50 ml_X0_25 csX6_bitOf rfl rfl (Nat.le_of_ble_eq_true rfl) (Nat.le_of_ble_eq_true rfl) (Nat.zero_le _) (Nat.zero_le _) (kr_rt ?_) kx_rt
              refine g_lor dX0_putNeighbours_53 ?_
              refine g_lstore dX0_putNeighbours_54 (Nat.le_of_ble_eq_true rfl) ?_
              refine g_aload_n (i := 0) dX0_putNeighbours_56 rfl rfl ?_
              refine g_iload_n (i := 3) dX0_putNeighbours_57 rfl rfl ?_
              refine g_aload_n (i := 1) dX0_putNeighbours_58 rfl rfl ?_
              refine g_getN dX0_putNeighbours_59 K_X3 (k := 1) fl_X0_31 (Nat.le_of_ble_eq_true rfl) (hp_map H _).1 rfl ?_
              refine g_iload dX0_putNeighbours_62 rfl ?_
              refine g_iald dX0_putNeighbours_64 (hp_map H _).2.2.1 (ix_nI (by omega)) hn ?_
              refine g_max dX0_putNeighbours_65 ml_X0_59 w_static_yJ9_max_7cf53 w_init_java_lang_Math w_code_Math_max (Nat.le_of_ble_eq_true rfl) (Nat.le_of_ble_eq_true rfl) ?_
              refine g_iload dX0_putNeighbours_68 rfl ?_
              refine g_callV (ev_put hl (pnN_le hS k)) dX0_putNeighbours_70 ml_X0_35 cvX0_put K_X0 rfl (hp_13 _ _ _) rfl rfl (Nat.le_of_ble_eq_true rfl) (Nat.le_of_ble_eq_true rfl) (Nat.zero_le _) (Nat.zero_le _) (kr_vd ?_) kx_rt
              refine g_iinc (w := 1) dX0_putNeighbours_73 (by decide) rfl (nI_succ k).symm (Nat.le_of_ble_eq_true rfl) ?_
              refine g_goto (tgt := 7) dX0_putNeighbours_76 (by decide) ?_
              have z := ih (k + 1) (some (.int (nI n))) (by omega) (by omega)
              rw [pnN_p en (ite_0 c33) (ite_0 c43)] at z
              exact z
  refine g_lload dX0_putNeighbours_0 rfl ?_
  refine g_lstore dX0_putNeighbours_2 (Nat.le_of_ble_eq_true rfl) ?_
  refine g_iconst (v := 0) dX0_putNeighbours_4 (by decide) ?_
  refine g_istore dX0_putNeighbours_5 (Nat.le_of_ble_eq_true rfl) ?_
  exact loop 5 0 _ (by omega) (by omega)

set_option maxRecDepth 100000 in
theorem ev_findPeak {l : Launch} {G : GG} (hl : l.stackTraces = false) {A : AD} {g : Nat} {m : MS} {h : AH} (H : isMap h A g m) {S : HS} {fm to : Nat} (hf : fm < 64) (ht : to < 64) :
    Ev l G 12 0 0 mX0_findPeak [.ref (A 13 0), .ref (A 0 g), .int (nI fm), .int (nI to)] (hp h A S) (RtX (some (.int (fpJ m fm to S.2))) (fun S => hp h A S)) := by
  refine Ev.of hl (by decide) (Nat.le_of_ble_eq_true rfl) ?_
  have loopA : ∀ (o : Int64), ∀ (j : Nat) (k : Nat) (R : Int64) (S : HS) (X Y Z : Option Value), S.1 ≤ 64 → k + j = 64 → Go l G mX0_findPeak 12 0 0 (RtX (some (.int (fpN m to j R S))) (fun S => hp h A S)) 48 [some (.ref (A 13 0)), some (.ref (A 0 g)), some (.int (nI fm)), some (.int (nI to)), some (.long o), none, some (.long R), none, some (.int (nI k)), X, none, Y, Z] [] (hp h A S) := by
    intro o
    have loop : ∀ (j : Nat) (k : Nat) (R : Int64) (S : HS) (X Y Z : Option Value), S.1 ≤ 64 → k + j = 64 → Go l G mX0_findPeak 12 0 0 (RtX (some (.int (fpN m to j R S))) (fun S => hp h A S)) 48 [some (.ref (A 13 0)), some (.ref (A 0 g)), some (.int (nI fm)), some (.int (nI to)), some (.long o), none, some (.long R), none, some (.int (nI k)), X, none, Y, Z] [] (hp h A S) := by
      intro j
      induction j with
      | zero =>
        intro k R S X Y Z hS hk
        refine g_iload dX0_findPeak_48 rfl ?_
        refine g_bipush (v := 64) dX0_findPeak_50 (by decide) ?_
        refine g_icmp_ge (tgt := 117) dX0_findPeak_52 (by decide) (fun c52 => ?_) (fun c52 => ?_)
        · refine g_iconst (v := (-1)) dX0_findPeak_117 (by decide) ?_
          refine g_iret dX0_findPeak_118 rfl rfl ?_
          exact ⟨rfl, _, rfl⟩
        · exact absurd ((le_nI (a := 64) (b := k) rfl (by omega) (by omega)).mpr (by omega)) c52
      | succ j ih =>
        intro k R S X Y Z hS hk
        refine g_iload dX0_findPeak_48 rfl ?_
        refine g_bipush (v := 64) dX0_findPeak_50 (by decide) ?_
        refine g_icmp_ge (tgt := 117) dX0_findPeak_52 (by decide) (fun c52 => ?_) (fun c52 => ?_)
        · exact absurd ((le_nI (a := 64) (b := k) rfl (by omega) (by omega)).mp c52) (by omega)
        · refine g_aload_n (i := 0) dX0_findPeak_55 rfl rfl ?_
          refine g_callV (ev_takeLeast hl hS) dX0_findPeak_56 ml_X0_39 cvX0_takeLeast K_X0 rfl (hp_13 _ _ _) rfl rfl (Nat.le_of_ble_eq_true rfl) (Nat.le_of_ble_eq_true rfl) (Nat.zero_le _) (Nat.zero_le _) (kr_rt ?_) kx_rt
          refine g_lstore dX0_findPeak_59 (Nat.le_of_ble_eq_true rfl) ?_
          refine g_lload dX0_findPeak_61 rfl ?_
          refine g_ldc2 dX0_findPeak_63 co_X0_43 ?_
          refine g_lcmp dX0_findPeak_66 ?_
          refine g_if_ne (tgt := 72) dX0_findPeak_67 (by decide) (fun c67 => ?_) (fun c67 => ?_)
          · refine g_lload dX0_findPeak_72 rfl ?_
            refine g_ldc2 dX0_findPeak_74 co_X0_45 ?_
            refine g_land dX0_findPeak_77 ?_
            refine g_l2i dX0_findPeak_78 ?_
            rw [cN_eq]
            refine g_istore dX0_findPeak_79 (Nat.le_of_ble_eq_true rfl) ?_
            refine g_lload dX0_findPeak_81 rfl ?_
            refine g_bipush (v := 6) dX0_findPeak_83 (by decide) ?_
            refine g_lshr dX0_findPeak_85 ?_
            refine g_l2i dX0_findPeak_86 ?_
            refine g_istore dX0_findPeak_87 (Nat.le_of_ble_eq_true rfl) ?_
            refine g_iload dX0_findPeak_89 rfl ?_
            refine g_iload_n (i := 3) dX0_findPeak_91 rfl rfl ?_
            refine g_icmp_ne (tgt := 98) dX0_findPeak_92 (by decide) (fun c92 => ?_) (fun c92 => ?_)
            · refine g_aload_n (i := 0) dX0_findPeak_98 rfl rfl ?_
              refine g_aload_n (i := 1) dX0_findPeak_99 rfl rfl ?_
              refine g_iload dX0_findPeak_100 rfl ?_
              refine g_iload dX0_findPeak_102 rfl ?_
              refine g_lload dX0_findPeak_104 rfl ?_
              refine g_callV (ev_putNeighbours hl H (takH_le hS) (cN_lt _)) dX0_findPeak_106 ml_X0_47 cvX0_putNeighbours K_X0 rfl (hp_13 _ _ _) rfl rfl (Nat.le_of_ble_eq_true rfl) (Nat.le_of_ble_eq_true rfl) (Nat.zero_le _) (Nat.zero_le _) (kr_rt ?_) kx_rt
              refine g_lstore dX0_findPeak_109 (Nat.le_of_ble_eq_true rfl) ?_
              refine g_iinc (w := 1) dX0_findPeak_111 (by decide) rfl (nI_succ k).symm (Nat.le_of_ble_eq_true rfl) ?_
              refine g_goto (tgt := 48) dX0_findPeak_114 (by decide) ?_
              rw [show fpN m to (j + 1) R S = fpN m to j (pnN m (cN (takH S).1) (((takH S).1 >>> ((6 : Int32).toInt64 &&& 63)).toInt32) R (takH S).2 4).1 (pnN m (cN (takH S).1) (((takH S).1 >>> ((6 : Int32).toInt64 &&& 63)).toInt32) R (takH S).2 4).2 from by rw [fpN, if_neg (fun z => c67 (lgc0.mpr z)), if_neg (fun z => c92 (by rw [z]))]]
              exact ih (k + 1) _ _ _ _ _ (pnN_le (takH_le hS) 4) (by omega)
            · refine g_iload dX0_findPeak_95 rfl ?_
              refine g_iret dX0_findPeak_97 rfl rfl ?_
              exact ⟨by rw [fpN, if_neg (fun z => c67 (lgc0.mpr z)), if_pos ((nI_inj (by have := cN_lt (takH S).1; omega) (by omega)).mp c92)], _, rfl⟩
          · refine g_iconst (v := (-1)) dX0_findPeak_70 (by decide) ?_
            refine g_iret dX0_findPeak_71 rfl rfl ?_
            exact ⟨by rw [fpN, if_pos (lgc0.mp c67)], _, rfl⟩
    exact loop
  refine g_aload_n (i := 0) dX0_findPeak_0 rfl rfl ?_
  refine g_iconst (v := 0) dX0_findPeak_1 (by decide) ?_
  refine g_putf dX0_findPeak_2 K_X0 (k := 1) fl_X0_15 (Nat.le_of_ble_eq_true rfl) rfl (hp_13 _ _ _) (Nat.le_of_ble_eq_true rfl) rfl rfl (Go.heap (hp_n _ _ _ 0) ?_)
  refine g_aload_n (i := 1) dX0_findPeak_5 rfl rfl ?_
  refine g_iload_n (i := 2) dX0_findPeak_6 rfl rfl ?_
  refine g_callV (ev_isRock hl (hp_map H _) (ix_nI (by omega)) hf) dX0_findPeak_7 ml_X0_19 cvX3_isRock K_X3 rfl (hp_map H _).1 rfl rfl (Nat.le_of_ble_eq_true rfl) (Nat.le_of_ble_eq_true rfl) (Nat.zero_le _) (Nat.zero_le _) (kr_rt ?_) kx_rt
  refine g_if_eq (tgt := 17) dX0_findPeak_10 (by decide) (fun c10 => ?_) (fun c10 => ?_)
  · refine g_iload_n (i := 2) dX0_findPeak_17 rfl rfl ?_
    refine g_callS (ev_bitOf hl) dX0_findPeak_18 ml_X0_25 csX6_bitOf rfl rfl (Nat.le_of_ble_eq_true rfl) (Nat.le_of_ble_eq_true rfl) (Nat.zero_le _) (Nat.zero_le _) (kr_rt ?_) kx_rt
    refine g_lstore dX0_findPeak_21 (Nat.le_of_ble_eq_true rfl) ?_
    refine g_lload dX0_findPeak_23 rfl ?_
    refine g_lstore dX0_findPeak_25 (Nat.le_of_ble_eq_true rfl) ?_
    refine g_lload dX0_findPeak_27 rfl ?_
    refine g_lconst (v := 0) dX0_findPeak_29 (by decide) ?_
    refine g_lcmp dX0_findPeak_30 ?_
    refine g_if_eq (tgt := 45) dX0_findPeak_31 (by decide) (fun c31 => ?_) (fun c31 => ?_)
    · refine g_iconst (v := 0) dX0_findPeak_45 (by decide) ?_
      refine g_istore dX0_findPeak_46 (Nat.le_of_ble_eq_true rfl) ?_
      rw [show fpJ m fm to S.2 = _ from (if_neg (ite_0 c10)).trans (if_pos (lgc0.mp c31))]
      exact loopA _ 64 0 _ _ _ _ _ (Nat.zero_le 64) (by omega)
    · refine g_aload_n (i := 0) dX0_findPeak_34 rfl rfl ?_
      refine g_aload_n (i := 1) dX0_findPeak_35 rfl rfl ?_
      refine g_getN dX0_findPeak_36 K_X3 (k := 1) fl_X0_31 (Nat.le_of_ble_eq_true rfl) (hp_map H _).1 rfl ?_
      refine g_iload_n (i := 2) dX0_findPeak_39 rfl rfl ?_
      refine g_iald dX0_findPeak_40 (hp_map H _).2.2.1 (ix_nI (by omega)) hf ?_
      refine g_iload_n (i := 2) dX0_findPeak_41 rfl rfl ?_
      refine g_callV (ev_put hl (S := (0, S.2)) (Nat.zero_le 64)) dX0_findPeak_42 ml_X0_35 cvX0_put K_X0 rfl (hp_13 _ _ _) rfl rfl (Nat.le_of_ble_eq_true rfl) (Nat.le_of_ble_eq_true rfl) (Nat.zero_le _) (Nat.zero_le _) (kr_vd ?_) kx_rt
      refine g_iconst (v := 0) dX0_findPeak_45 (by decide) ?_
      refine g_istore dX0_findPeak_46 (Nat.le_of_ble_eq_true rfl) ?_
      rw [show fpJ m fm to S.2 = _ from (if_neg (ite_0 c10)).trans (if_neg (fun z => c31 (lgc0.mpr z)))]
      exact loopA _ 64 0 _ _ _ _ _ (putH_le (Nat.zero_le 64)) (by omega)
  · refine g_lconst (v := 0) dX0_findPeak_13 (by decide) ?_
    refine g_goto (tgt := 21) dX0_findPeak_14 (by decide) ?_
    refine g_lstore dX0_findPeak_21 (Nat.le_of_ble_eq_true rfl) ?_
    refine g_lload dX0_findPeak_23 rfl ?_
    refine g_lstore dX0_findPeak_25 (Nat.le_of_ble_eq_true rfl) ?_
    refine g_lload dX0_findPeak_27 rfl ?_
    refine g_lconst (v := 0) dX0_findPeak_29 (by decide) ?_
    refine g_lcmp dX0_findPeak_30 ?_
    refine g_if_eq (tgt := 45) dX0_findPeak_31 (by decide) (fun c31 => ?_) (fun c31 => ?_)
    · refine g_iconst (v := 0) dX0_findPeak_45 (by decide) ?_
      refine g_istore dX0_findPeak_46 (Nat.le_of_ble_eq_true rfl) ?_
      rw [show fpJ m fm to S.2 = _ from if_pos (ite_1 c10)]
      exact loopA _ 64 0 _ _ _ _ _ (Nat.zero_le 64) (by omega)
    · refine g_aload_n (i := 0) dX0_findPeak_34 rfl rfl ?_
      refine g_aload_n (i := 1) dX0_findPeak_35 rfl rfl ?_
      refine g_getN dX0_findPeak_36 K_X3 (k := 1) fl_X0_31 (Nat.le_of_ble_eq_true rfl) (hp_map H _).1 rfl ?_
      refine g_iload_n (i := 2) dX0_findPeak_39 rfl rfl ?_
      refine g_iald dX0_findPeak_40 (hp_map H _).2.2.1 (ix_nI (by omega)) hf ?_
      refine g_iload_n (i := 2) dX0_findPeak_41 rfl rfl ?_
      refine g_callV (ev_put hl (S := (0, S.2)) (Nat.zero_le 64)) dX0_findPeak_42 ml_X0_35 cvX0_put K_X0 rfl (hp_13 _ _ _) rfl rfl (Nat.le_of_ble_eq_true rfl) (Nat.le_of_ble_eq_true rfl) (Nat.zero_le _) (Nat.zero_le _) (kr_vd ?_) kx_rt
      refine g_iconst (v := 0) dX0_findPeak_45 (by decide) ?_
      refine g_istore dX0_findPeak_46 (Nat.le_of_ble_eq_true rfl) ?_
      exact absurd (lgc0.mpr rfl) c31

