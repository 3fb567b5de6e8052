/-! Shapes, neighbourOf, Long.bitCount (by wip/whole/gen/m3.py). -/
theorem lgc0 {x y : Int64} : lg_cmp x y = 0 ↔ x = y := by
  unfold lg_cmp
  constructor
  · intro h
    split at h
    · exact absurd h (by decide)
    · split at h
      · assumption
      · exact absurd h (by decide)
  · rintro rfl
    rw [if_neg (Int64.lt_irrefl), if_pos rfl]
abbrev inJ (b : Int64) (i : Int32) : Prop := ¬ ((b.toUInt64 >>> (i.toInt64.toUInt64 &&& Int64.toUInt64 63)).toInt64 &&& 1) = 0
def nb (c s : Nat) : Option Nat := match s with
  | 0 => if 0 < c / 8 then some (c - 8) else none
  | 1 => if c % 8 < 7 then some (c + 1) else none
  | 2 => if c / 8 < 7 then some (c + 8) else none
  | 3 => if 0 < c % 8 then some (c - 1) else none
  | _ => none
def oI (o : Option Nat) : Int32 := match o with
  | some n => nI n
  | none => -1
theorem nbF : ∀ c, c < 64 → (nI c - nI c / 8 * 8 = nI (c % 8) ∧ nI c / 8 = nI (c / 8)) ∧ (¬ nI (c / 8) ≤ 0 → nI c - 8 = oI (nb c 0)) ∧ (nI (c / 8) ≤ 0 → -1 = oI (nb c 0)) ∧ (¬ 7 ≤ nI (c % 8) → nI c + 1 = oI (nb c 1)) ∧ (7 ≤ nI (c % 8) → -1 = oI (nb c 1)) ∧
    (¬ 7 ≤ nI (c / 8) → nI c + 8 = oI (nb c 2)) ∧ (7 ≤ nI (c / 8) → -1 = oI (nb c 2)) ∧ (¬ nI (c % 8) ≤ 0 → nI c - 1 = oI (nb c 3)) ∧ (nI (c % 8) ≤ 0 → -1 = oI (nb c 3)) := by decide +kernel
theorem nbS : ∀ c, c < 64 → ∀ s, s < 4 → (¬ oI (nb c s) = -1 → ∃ n, n < 64 ∧ nb c s = some n) ∧ (oI (nb c s) = -1 → nb c s = none) := by
  intro c hc s hs
  have h : ∀ o : Option Nat, (∀ n, o = some n → n < 72) → (¬ oI o = -1 → ∃ n, o = some n) ∧ (oI o = -1 → o = none) := by
    intro o ho
    cases o with
    | none => exact ⟨fun q => absurd rfl q, fun _ => rfl⟩
    | some n => exact ⟨fun _ => ⟨n, rfl⟩, fun q => by
        have h1 := nI_toInt (n := n) (by have := ho n rfl; omega)
        have q' : nI n = -1 := q
        rw [q'] at h1
        have h2 : (-1 : Int32).toInt = -1 := by decide
        omega⟩
  have hb : ∀ n, nb c s = some n → n < 64 := by
    intro n hn
    unfold nb at hn
    split at hn <;> first | (split at hn <;> first | (cases hn; omega) | cases hn) | cases hn
  exact ⟨fun q => by obtain ⟨n, hn⟩ := (h _ (fun n hn => by have := hb n hn; omega)).1 q; exact ⟨n, hb n hn, hn⟩, (h _ (fun n hn => by have := hb n hn; omega)).2⟩
def wRow (c : Int64) : Int64 := c ||| ((c &&& 9187201950435737471) <<< ((1 : Int32).toInt64 &&& 63)) ||| (((c &&& (-72340172838076674)).toUInt64 >>> ((1 : Int32).toInt64.toUInt64 &&& Int64.toUInt64 63)).toInt64)
def wCol (c : Int64) : Int64 := c ||| (c <<< ((8 : Int32).toInt64 &&& 63)) ||| ((c.toUInt64 >>> ((8 : Int32).toInt64.toUInt64 &&& Int64.toUInt64 63)).toInt64)
def fillN (cs : Int64) : Nat → Int64 → Int64
  | 0, f => f
  | n + 1, f => if (wRow f ||| wCol f) &&& cs = f then f else fillN cs n ((wRow f ||| wCol f) &&& cs)
def fillC (cs : Int64) : Nat → Int64 → Int64
  | 0, f => f
  | n + 1, f => if wCol (wRow f) &&& cs = f then f else fillC cs n (wCol (wRow f) &&& cs)
def fillJ (sd cs : Int64) : Int64 := fillN cs 64 (sd &&& cs)
def fillK (sd cs : Int64) : Int64 := fillC cs 64 (sd &&& cs)
/-- regions from cell k on: n cells to look at, those left, those counted -/
def regN : Nat → Nat → Int64 → Int32 → Int32
  | 0, _, _, n => n
  | j + 1, k, lf, n => if inJ lf (nI k) then regN j (k + 1) (lf &&& (fillJ (bitJ (nI k)) lf ^^^ (-1))) (n + 1) else regN j (k + 1) lf n
def holN : Nat → Nat → Int64 → Int32 → Int32
  | 0, _, _, n => n
  | j + 1, k, lf, n => if inJ lf (nI k) then (if fillK (bitJ (nI k)) lf &&& (-35604928818740737) = 0 then holN j (k + 1) (lf &&& (fillK (bitJ (nI k)) lf ^^^ (-1))) (n + 1) else holN j (k + 1) (lf &&& (fillK (bitJ (nI k)) lf ^^^ (-1))) n) else holN j (k + 1) lf n
abbrev plP (b : Int64) (x y : Int32) : Prop := cellB x y ∧ inJ b (8 * y + x)
def plJ (b : Int64) (x y : Int32) : Int32 := if plP b x y then 1 else 0
def corJ (b : Int64) (x y : Int32) : Int32 :=
  if plJ b x y + plJ b (x + 1) y + plJ b x (y + 1) + plJ b (x + 1) (y + 1) = 2 then (if plJ b x y = plJ b (x + 1) (y + 1) then 2 else 0)
  else if plJ b x y + plJ b (x + 1) y + plJ b x (y + 1) + plJ b (x + 1) (y + 1) = 1 then 1 else if plJ b x y + plJ b (x + 1) y + plJ b x (y + 1) + plJ b (x + 1) (y + 1) = 3 then -1 else 0
def sqRow (b : Int64) (y : Int32) : Nat → Int32 → Int32 → Int32
  | 0, _, n => n
  | j + 1, x, n => sqRow b y j (x + 1) (n + corJ b x y)
def sqAll (b : Int64) : Nat → Int32 → Int32 → Int32
  | 0, _, n => n
  | j + 1, y, n => sqAll b j (y + 1) (sqRow b y 9 (-1) n)
def freeN (b : Int64) (c : Nat) : Nat → Int32
  | 0 => 0
  | k + 1 => match nb c k with
    | none => freeN b c k + 1
    | some n => if inJ b (nI n) then freeN b c k else freeN b c k + 1
def conN (b : Int64) : Nat → Int32
  | 0 => 0
  | k + 1 => if inJ b (nI k) then conN b k + freeN b k 4 else conN b k

set_option maxRecDepth 100000 in
theorem ev_isIn {l : Launch} {G : GG} (hl : l.stackTraces = false) {b : Int64} {i : Int32} {h : AH} :
    Ev l G 10 0 0 mX6_isIn [.long b, .int i] h (Rt (some (.int (if inJ b i then 1 else 0))) h) := by
  refine Ev.of hl (by decide) (Nat.le_of_ble_eq_true rfl) ?_
  refine g_lload_n (i := 0) dX6_isIn_0 rfl rfl ?_
  refine g_iload_n (i := 2) dX6_isIn_1 rfl rfl ?_
  refine g_lushr dX6_isIn_2 ?_
  refine g_lconst (v := 1) dX6_isIn_3 (by decide) ?_
  refine g_land dX6_isIn_4 ?_
  refine g_lconst (v := 0) dX6_isIn_5 (by decide) ?_
  refine g_lcmp dX6_isIn_6 ?_
  refine g_if_eq (tgt := 14) dX6_isIn_7 (by decide) (fun c7 => ?_) (fun c7 => ?_)
  · refine g_iconst (v := 0) dX6_isIn_14 (by decide) ?_
    refine g_iret dX6_isIn_15 rfl rfl ?_
    exact ⟨by rw [if_neg (fun q => q (lgc0.mp c7))], rfl⟩
  · refine g_iconst (v := 1) dX6_isIn_10 (by decide) ?_
    refine g_goto (tgt := 15) dX6_isIn_11 (by decide) ?_
    refine g_iret dX6_isIn_15 rfl rfl ?_
    exact ⟨by rw [if_pos (fun q => c7 (lgc0.mpr q))], rfl⟩

set_option maxRecDepth 100000 in
theorem ev_withinRows {l : Launch} {G : GG} (hl : l.stackTraces = false) {b : Int64} {h : AH} :
    Ev l G 10 0 0 mX6_withinRows [.long b] h (Rt (some (.long (wRow b))) h) := by
  refine Ev.of hl (by decide) (Nat.le_of_ble_eq_true rfl) ?_
  refine g_lload_n (i := 0) dX6_withinRows_0 rfl rfl ?_
  refine g_lload_n (i := 0) dX6_withinRows_1 rfl rfl ?_
  refine g_ldc2 dX6_withinRows_2 co_X6_18 ?_
  refine g_land dX6_withinRows_5 ?_
  refine g_iconst (v := 1) dX6_withinRows_6 (by decide) ?_
  refine g_lshl dX6_withinRows_7 ?_
  refine g_lor dX6_withinRows_8 ?_
  refine g_lload_n (i := 0) dX6_withinRows_9 rfl rfl ?_
  refine g_ldc2 dX6_withinRows_10 co_X6_20 ?_
  refine g_land dX6_withinRows_13 ?_
  refine g_iconst (v := 1) dX6_withinRows_14 (by decide) ?_
  refine g_lushr dX6_withinRows_15 ?_
  refine g_lor dX6_withinRows_16 ?_
  refine g_lret dX6_withinRows_17 rfl ?_
  exact ⟨rfl, rfl⟩

set_option maxRecDepth 100000 in
theorem ev_withinColumns {l : Launch} {G : GG} (hl : l.stackTraces = false) {b : Int64} {h : AH} :
    Ev l G 10 0 0 mX6_withinColumns [.long b] h (Rt (some (.long (wCol b))) h) := by
  refine Ev.of hl (by decide) (Nat.le_of_ble_eq_true rfl) ?_
  refine g_lload_n (i := 0) dX6_withinColumns_0 rfl rfl ?_
  refine g_lload_n (i := 0) dX6_withinColumns_1 rfl rfl ?_
  refine g_bipush (v := 8) dX6_withinColumns_2 (by decide) ?_
  refine g_lshl dX6_withinColumns_4 ?_
  refine g_lor dX6_withinColumns_5 ?_
  refine g_lload_n (i := 0) dX6_withinColumns_6 rfl rfl ?_
  refine g_bipush (v := 8) dX6_withinColumns_7 (by decide) ?_
  refine g_lushr dX6_withinColumns_9 ?_
  refine g_lor dX6_withinColumns_10 ?_
  refine g_lret dX6_withinColumns_11 rfl ?_
  exact ⟨rfl, rfl⟩

set_option maxRecDepth 100000 in
theorem ev_fillJ {l : Launch} {G : GG} (hl : l.stackTraces = false) {sd cs : Int64} {h : AH} :
    Ev l G 11 0 0 mX6_fill [.long sd, .long cs] h (Rt (some (.long (fillJ sd cs))) h) := by
  refine Ev.of hl (by decide) (Nat.le_of_ble_eq_true rfl) ?_
  have loop : ∀ (j : Nat) (k : Nat) (f : Int64) (X Y : Option Value), k + j = 64 → Go l G mX6_fill 11 0 0 (Rt (some (.long (fillN cs j f))) h) 8 [some (.long sd), none, some (.long cs), none, some (.long f), none, some (.int (nI k)), X, Y] [] h := by
    intro j
    induction j with
    | zero =>
      intro k f X Y hk
      refine g_iload dX6_fill_8 rfl ?_
      refine g_bipush (v := 64) dX6_fill_10 (by decide) ?_
      refine g_icmp_ge (tgt := 51) dX6_fill_12 (by decide) (fun c12 => ?_) (fun c12 => ?_)
      · refine g_lload dX6_fill_51 rfl ?_
        refine g_lret dX6_fill_53 rfl ?_
        exact ⟨rfl, rfl⟩
      · exact absurd ((le_nI (a := 64) (b := k) rfl (by omega) (by omega)).mpr (by omega)) c12
    | succ j ih =>
      intro k f X Y hk
      refine g_iload dX6_fill_8 rfl ?_
      refine g_bipush (v := 64) dX6_fill_10 (by decide) ?_
      refine g_icmp_ge (tgt := 51) dX6_fill_12 (by decide) (fun c12 => ?_) (fun c12 => ?_)
      · exact absurd ((le_nI (a := 64) (b := k) rfl (by omega) (by omega)).mp c12) (by omega)
      · refine g_lload dX6_fill_15 rfl ?_
        refine g_callS (ev_withinRows hl) dX6_fill_17 ml_X6_11 csX6_withinRows rfl rfl (Nat.le_of_ble_eq_true rfl) (Nat.le_of_ble_eq_true rfl) (Nat.zero_le _) (Nat.zero_le _) (kr_rt ?_) kx_rt
        refine g_lload dX6_fill_20 rfl ?_
        refine g_callS (ev_withinColumns hl) dX6_fill_22 ml_X6_15 csX6_withinColumns rfl rfl (Nat.le_of_ble_eq_true rfl) (Nat.le_of_ble_eq_true rfl) (Nat.zero_le _) (Nat.zero_le _) (kr_rt ?_) kx_rt
        refine g_lor dX6_fill_25 ?_
        refine g_lload_n (i := 2) dX6_fill_26 rfl rfl ?_
        refine g_land dX6_fill_27 ?_
        refine g_lstore dX6_fill_28 (Nat.le_of_ble_eq_true rfl) ?_
        refine g_lload dX6_fill_30 rfl ?_
        refine g_lload dX6_fill_32 rfl ?_
        refine g_lcmp dX6_fill_34 ?_
        refine g_if_ne (tgt := 41) dX6_fill_35 (by decide) (fun c35 => ?_) (fun c35 => ?_)
        · refine g_lload dX6_fill_41 rfl ?_
          refine g_lstore dX6_fill_43 (Nat.le_of_ble_eq_true rfl) ?_
          refine g_iinc (w := 1) dX6_fill_45 (by decide) rfl (nI_succ k).symm (Nat.le_of_ble_eq_true rfl) ?_
          refine g_goto (tgt := 8) dX6_fill_48 (by decide) ?_
          have z := ih (k + 1) ((wRow f ||| wCol f) &&& cs) (some (.long ((wRow f ||| wCol f) &&& cs))) none (by omega)
          rw [← show fillN cs (j + 1) f = _ from if_neg (fun q => c35 (lgc0.mpr q))] at z
          exact z
        · refine g_lload dX6_fill_38 rfl ?_
          refine g_lret dX6_fill_40 rfl ?_
          exact ⟨by rw [fillN, if_pos (lgc0.mp c35)], rfl⟩
  refine g_lload_n (i := 0) dX6_fill_0 rfl rfl ?_
  refine g_lload_n (i := 2) dX6_fill_1 rfl rfl ?_
  refine g_land dX6_fill_2 ?_
  refine g_lstore dX6_fill_3 (Nat.le_of_ble_eq_true rfl) ?_
  refine g_iconst (v := 0) dX6_fill_5 (by decide) ?_
  refine g_istore dX6_fill_6 (Nat.le_of_ble_eq_true rfl) ?_
  exact loop 64 0 _ _ _ rfl

set_option maxRecDepth 100000 in
theorem ev_fillK {l : Launch} {G : GG} (hl : l.stackTraces = false) {sd cs : Int64} {h : AH} :
    Ev l G 11 0 0 mX6_fillByCorners [.long sd, .long cs] h (Rt (some (.long (fillK sd cs))) h) := by
  refine Ev.of hl (by decide) (Nat.le_of_ble_eq_true rfl) ?_
  have loop : ∀ (j : Nat) (k : Nat) (f : Int64) (X Y : Option Value), k + j = 64 → Go l G mX6_fillByCorners 11 0 0 (Rt (some (.long (fillC cs j f))) h) 8 [some (.long sd), none, some (.long cs), none, some (.long f), none, some (.int (nI k)), X, Y] [] h := by
    intro j
    induction j with
    | zero =>
      intro k f X Y hk
      refine g_iload dX6_fillByCorners_8 rfl ?_
      refine g_bipush (v := 64) dX6_fillByCorners_10 (by decide) ?_
      refine g_icmp_ge (tgt := 48) dX6_fillByCorners_12 (by decide) (fun c12 => ?_) (fun c12 => ?_)
      · refine g_lload dX6_fillByCorners_48 rfl ?_
        refine g_lret dX6_fillByCorners_50 rfl ?_
        exact ⟨rfl, rfl⟩
      · exact absurd ((le_nI (a := 64) (b := k) rfl (by omega) (by omega)).mpr (by omega)) c12
    | succ j ih =>
      intro k f X Y hk
      refine g_iload dX6_fillByCorners_8 rfl ?_
      refine g_bipush (v := 64) dX6_fillByCorners_10 (by decide) ?_
      refine g_icmp_ge (tgt := 48) dX6_fillByCorners_12 (by decide) (fun c12 => ?_) (fun c12 => ?_)
      · exact absurd ((le_nI (a := 64) (b := k) rfl (by omega) (by omega)).mp c12) (by omega)
      · refine g_lload dX6_fillByCorners_15 rfl ?_
        refine g_callS (ev_withinRows hl) dX6_fillByCorners_17 ml_X6_11 csX6_withinRows rfl rfl (Nat.le_of_ble_eq_true rfl) (Nat.le_of_ble_eq_true rfl) (Nat.zero_le _) (Nat.zero_le _) (kr_rt ?_) kx_rt
        refine g_callS (ev_withinColumns hl) dX6_fillByCorners_20 ml_X6_15 csX6_withinColumns rfl rfl (Nat.le_of_ble_eq_true rfl) (Nat.le_of_ble_eq_true rfl) (Nat.zero_le _) (Nat.zero_le _) (kr_rt ?_) kx_rt
        refine g_lload_n (i := 2) dX6_fillByCorners_23 rfl rfl ?_
        refine g_land dX6_fillByCorners_24 ?_
        refine g_lstore dX6_fillByCorners_25 (Nat.le_of_ble_eq_true rfl) ?_
        refine g_lload dX6_fillByCorners_27 rfl ?_
        refine g_lload dX6_fillByCorners_29 rfl ?_
        refine g_lcmp dX6_fillByCorners_31 ?_
        refine g_if_ne (tgt := 38) dX6_fillByCorners_32 (by decide) (fun c32 => ?_) (fun c32 => ?_)
        · refine g_lload dX6_fillByCorners_38 rfl ?_
          refine g_lstore dX6_fillByCorners_40 (Nat.le_of_ble_eq_true rfl) ?_
          refine g_iinc (w := 1) dX6_fillByCorners_42 (by decide) rfl (nI_succ k).symm (Nat.le_of_ble_eq_true rfl) ?_
          refine g_goto (tgt := 8) dX6_fillByCorners_45 (by decide) ?_
          have z := ih (k + 1) (wCol (wRow f) &&& cs) (some (.long (wCol (wRow f) &&& cs))) none (by omega)
          rw [← show fillC cs (j + 1) f = _ from if_neg (fun q => c32 (lgc0.mpr q))] at z
          exact z
        · refine g_lload dX6_fillByCorners_35 rfl ?_
          refine g_lret dX6_fillByCorners_37 rfl ?_
          exact ⟨by rw [fillC, if_pos (lgc0.mp c32)], rfl⟩
  refine g_lload_n (i := 0) dX6_fillByCorners_0 rfl rfl ?_
  refine g_lload_n (i := 2) dX6_fillByCorners_1 rfl rfl ?_
  refine g_land dX6_fillByCorners_2 ?_
  refine g_lstore dX6_fillByCorners_3 (Nat.le_of_ble_eq_true rfl) ?_
  refine g_iconst (v := 0) dX6_fillByCorners_5 (by decide) ?_
  refine g_istore dX6_fillByCorners_6 (Nat.le_of_ble_eq_true rfl) ?_
  exact loop 64 0 _ _ _ rfl

set_option maxRecDepth 100000 in
theorem ev_countRegions {l : Launch} {G : GG} (hl : l.stackTraces = false) {b : Int64} {h : AH} :
    Ev l G 12 0 0 mX6_countRegions [.long b] h (Rt (some (.int (regN 64 0 b 0))) h) := by
  refine Ev.of hl (by decide) (Nat.le_of_ble_eq_true rfl) ?_
  have loop : ∀ (j : Nat) (k : Nat) (lf : Int64) (n : Int32), k + j = 64 → Go l G mX6_countRegions 12 0 0 (Rt (some (.int (regN j k lf n))) h) 8 [some (.long b), none, some (.long lf), none, some (.int n), some (.int (nI k))] [] h := by
    intro j
    induction j with
    | zero =>
      intro k lf n hk
      refine g_iload dX6_countRegions_8 rfl ?_
      refine g_bipush (v := 64) dX6_countRegions_10 (by decide) ?_
      refine g_icmp_ge (tgt := 49) dX6_countRegions_12 (by decide) (fun c12 => ?_) (fun c12 => ?_)
      · refine g_iload dX6_countRegions_49 rfl ?_
        refine g_iret dX6_countRegions_51 rfl rfl ?_
        exact ⟨rfl, rfl⟩
      · exact absurd ((le_nI (a := 64) (b := k) rfl (by omega) (by omega)).mpr (by omega)) c12
    | succ j ih =>
      intro k lf n hk
      refine g_iload dX6_countRegions_8 rfl ?_
      refine g_bipush (v := 64) dX6_countRegions_10 (by decide) ?_
      refine g_icmp_ge (tgt := 49) dX6_countRegions_12 (by decide) (fun c12 => ?_) (fun c12 => ?_)
      · exact absurd ((le_nI (a := 64) (b := k) rfl (by omega) (by omega)).mp c12) (by omega)
      · refine g_lload_n (i := 2) dX6_countRegions_15 rfl rfl ?_
        refine g_iload dX6_countRegions_16 rfl ?_
        refine g_callS (ev_isIn hl) dX6_countRegions_18 ml_X6_22 csX6_isIn rfl rfl (Nat.le_of_ble_eq_true rfl) (Nat.le_of_ble_eq_true rfl) (Nat.zero_le _) (Nat.zero_le _) (kr_rt ?_) kx_rt
        refine g_if_eq (tgt := 43) dX6_countRegions_21 (by decide) (fun c21 => ?_) (fun c21 => ?_)
        · refine g_iinc (w := 1) dX6_countRegions_43 (by decide) rfl (nI_succ k).symm (Nat.le_of_ble_eq_true rfl) ?_
          refine g_goto (tgt := 8) dX6_countRegions_46 (by decide) ?_
          have z := ih (k + 1) lf n (by omega)
          rw [← show regN (j + 1) k lf n = _ from if_neg (ite_0 c21)] at z
          exact z
        · refine g_lload_n (i := 2) dX6_countRegions_24 rfl rfl ?_
          refine g_iload dX6_countRegions_25 rfl ?_
          refine g_callS (ev_bitOf hl) dX6_countRegions_27 ml_X6_26 csX6_bitOf rfl rfl (Nat.le_of_ble_eq_true rfl) (Nat.le_of_ble_eq_true rfl) (Nat.zero_le _) (Nat.zero_le _) (kr_rt ?_) kx_rt
          refine g_lload_n (i := 2) dX6_countRegions_30 rfl rfl ?_
          refine g_callS (ev_fillJ hl) dX6_countRegions_31 ml_X6_30 csX6_fill rfl rfl (Nat.le_of_ble_eq_true rfl) (Nat.le_of_ble_eq_true rfl) (Nat.zero_le _) (Nat.zero_le _) (kr_rt ?_) kx_rt
          refine g_ldc2 dX6_countRegions_34 co_X6_34 ?_
          refine g_lxor dX6_countRegions_37 ?_
          refine g_land dX6_countRegions_38 ?_
          refine g_lstore_n (i := 2) dX6_countRegions_39 rfl (Nat.le_of_ble_eq_true rfl) ?_
          refine g_iinc (w := 1) dX6_countRegions_40 (by decide) rfl rfl (Nat.le_of_ble_eq_true rfl) ?_
          refine g_iinc (w := 1) dX6_countRegions_43 (by decide) rfl (nI_succ k).symm (Nat.le_of_ble_eq_true rfl) ?_
          refine g_goto (tgt := 8) dX6_countRegions_46 (by decide) ?_
          have z := ih (k + 1) (lf &&& (fillJ (bitJ (nI k)) lf ^^^ (-1))) (n + 1) (by omega)
          rw [← show regN (j + 1) k lf n = _ from if_pos (ite_1 c21)] at z
          exact z
  refine g_lload_n (i := 0) dX6_countRegions_0 rfl rfl ?_
  refine g_lstore_n (i := 2) dX6_countRegions_1 rfl (Nat.le_of_ble_eq_true rfl) ?_
  refine g_iconst (v := 0) dX6_countRegions_2 (by decide) ?_
  refine g_istore dX6_countRegions_3 (Nat.le_of_ble_eq_true rfl) ?_
  refine g_iconst (v := 0) dX6_countRegions_5 (by decide) ?_
  refine g_istore dX6_countRegions_6 (Nat.le_of_ble_eq_true rfl) ?_
  exact loop 64 0 _ _ rfl

set_option maxRecDepth 100000 in
theorem ev_countHoles {l : Launch} {G : GG} (hl : l.stackTraces = false) {b : Int64} {h : AH} :
    Ev l G 12 0 0 mX6_countHoles [.long b] h (Rt (some (.int (holN 64 0 (b ^^^ (-1)) 0))) h) := by
  refine Ev.of hl (by decide) (Nat.le_of_ble_eq_true rfl) ?_
  have loop : ∀ (j : Nat) (k : Nat) (lf : Int64) (n : Int32) (X Y : Option Value), k + j = 64 → Go l G mX6_countHoles 12 0 0 (Rt (some (.int (holN j k lf n))) h) 12 [some (.long b), none, some (.long lf), none, some (.int n), some (.int (nI k)), X, Y] [] h := by
    intro j
    induction j with
    | zero =>
      intro k lf n X Y hk
      refine g_iload dX6_countHoles_12 rfl ?_
      refine g_bipush (v := 64) dX6_countHoles_14 (by decide) ?_
      refine g_icmp_ge (tgt := 68) dX6_countHoles_16 (by decide) (fun c16 => ?_) (fun c16 => ?_)
      · refine g_iload dX6_countHoles_68 rfl ?_
        refine g_iret dX6_countHoles_70 rfl rfl ?_
        exact ⟨rfl, rfl⟩
      · exact absurd ((le_nI (a := 64) (b := k) rfl (by omega) (by omega)).mpr (by omega)) c16
    | succ j ih =>
      intro k lf n X Y hk
      refine g_iload dX6_countHoles_12 rfl ?_
      refine g_bipush (v := 64) dX6_countHoles_14 (by decide) ?_
      refine g_icmp_ge (tgt := 68) dX6_countHoles_16 (by decide) (fun c16 => ?_) (fun c16 => ?_)
      · exact absurd ((le_nI (a := 64) (b := k) rfl (by omega) (by omega)).mp c16) (by omega)
      · refine g_lload_n (i := 2) dX6_countHoles_19 rfl rfl ?_
        refine g_iload dX6_countHoles_20 rfl ?_
        refine g_callS (ev_isIn hl) dX6_countHoles_22 ml_X6_22 csX6_isIn rfl rfl (Nat.le_of_ble_eq_true rfl) (Nat.le_of_ble_eq_true rfl) (Nat.zero_le _) (Nat.zero_le _) (kr_rt ?_) kx_rt
        refine g_if_eq (tgt := 62) dX6_countHoles_25 (by decide) (fun c25 => ?_) (fun c25 => ?_)
        · refine g_iinc (w := 1) dX6_countHoles_62 (by decide) rfl (nI_succ k).symm (Nat.le_of_ble_eq_true rfl) ?_
          refine g_goto (tgt := 12) dX6_countHoles_65 (by decide) ?_
          have z := ih (k + 1) lf n X Y (by omega)
          rw [← show holN (j + 1) k lf n = _ from if_neg (ite_0 c25)] at z
          exact z
        · refine g_iload dX6_countHoles_28 rfl ?_
          refine g_callS (ev_bitOf hl) dX6_countHoles_30 ml_X6_26 csX6_bitOf rfl rfl (Nat.le_of_ble_eq_true rfl) (Nat.le_of_ble_eq_true rfl) (Nat.zero_le _) (Nat.zero_le _) (kr_rt ?_) kx_rt
          refine g_lload_n (i := 2) dX6_countHoles_33 rfl rfl ?_
          refine g_callS (ev_fillK hl) dX6_countHoles_34 ml_X6_36 csX6_fillByCorners rfl rfl (Nat.le_of_ble_eq_true rfl) (Nat.le_of_ble_eq_true rfl) (Nat.zero_le _) (Nat.zero_le _) (kr_rt ?_) kx_rt
          refine g_lstore dX6_countHoles_37 (Nat.le_of_ble_eq_true rfl) ?_
          refine g_lload_n (i := 2) dX6_countHoles_39 rfl rfl ?_
          refine g_lload dX6_countHoles_40 rfl ?_
          refine g_ldc2 dX6_countHoles_42 co_X6_34 ?_
          refine g_lxor dX6_countHoles_45 ?_
          refine g_land dX6_countHoles_46 ?_
          refine g_lstore_n (i := 2) dX6_countHoles_47 rfl (Nat.le_of_ble_eq_true rfl) ?_
          refine g_lload dX6_countHoles_48 rfl ?_
          refine g_ldc2 dX6_countHoles_50 co_X6_39 ?_
          refine g_land dX6_countHoles_53 ?_
          refine g_lconst (v := 0) dX6_countHoles_54 (by decide) ?_
          refine g_lcmp dX6_countHoles_55 ?_
          refine g_if_ne (tgt := 62) dX6_countHoles_56 (by decide) (fun c56 => ?_) (fun c56 => ?_)
          · refine g_iinc (w := 1) dX6_countHoles_62 (by decide) rfl (nI_succ k).symm (Nat.le_of_ble_eq_true rfl) ?_
            refine g_goto (tgt := 12) dX6_countHoles_65 (by decide) ?_
            have z := ih (k + 1) (lf &&& (fillK (bitJ (nI k)) lf ^^^ (-1))) n (some (.long (fillK (bitJ (nI k)) lf))) none (by omega)
            rw [← show holN (j + 1) k lf n = _ from (if_pos (ite_1 c25)).trans (if_neg (fun q => c56 (lgc0.mpr q)))] at z
            exact z
          · refine g_iinc (w := 1) dX6_countHoles_59 (by decide) rfl rfl (Nat.le_of_ble_eq_true rfl) ?_
            refine g_iinc (w := 1) dX6_countHoles_62 (by decide) rfl (nI_succ k).symm (Nat.le_of_ble_eq_true rfl) ?_
            refine g_goto (tgt := 12) dX6_countHoles_65 (by decide) ?_
            have z := ih (k + 1) (lf &&& (fillK (bitJ (nI k)) lf ^^^ (-1))) (n + 1) (some (.long (fillK (bitJ (nI k)) lf))) none (by omega)
            rw [← show holN (j + 1) k lf n = _ from (if_pos (ite_1 c25)).trans (if_pos (lgc0.mp c56))] at z
            exact z
  refine g_lload_n (i := 0) dX6_countHoles_0 rfl rfl ?_
  refine g_ldc2 dX6_countHoles_1 co_X6_34 ?_
  refine g_lxor dX6_countHoles_4 ?_
  refine g_lstore_n (i := 2) dX6_countHoles_5 rfl (Nat.le_of_ble_eq_true rfl) ?_
  refine g_iconst (v := 0) dX6_countHoles_6 (by decide) ?_
  refine g_istore dX6_countHoles_7 (Nat.le_of_ble_eq_true rfl) ?_
  refine g_iconst (v := 0) dX6_countHoles_9 (by decide) ?_
  refine g_istore dX6_countHoles_10 (Nat.le_of_ble_eq_true rfl) ?_
  exact loop 64 0 _ _ _ _ rfl

set_option maxRecDepth 100000 in
theorem ev_placeOf {l : Launch} {G : GG} (hl : l.stackTraces = false) {b : Int64} {x y : Int32} {h : AH} :
    Ev l G 11 0 0 mX6_placeOf [.long b, .int x, .int y] h (Rt (some (.int (plJ b x y))) h) := by
  refine Ev.of hl (by decide) (Nat.le_of_ble_eq_true rfl) ?_
  refine g_iload_n (i := 2) dX6_placeOf_0 rfl rfl ?_
  refine g_iload_n (i := 3) dX6_placeOf_1 rfl rfl ?_
  refine g_callSN (ev_isCell hl) dX6_placeOf_2 ml_X6_48 csX9_isCell rfl rfl rfl (Nat.le_of_ble_eq_true rfl) (Nat.le_of_ble_eq_true rfl) (Nat.zero_le _) (Nat.zero_le _) (kr_rt ?_) kx_rt
  refine g_if_eq (tgt := 24) dX6_placeOf_5 (by decide) (fun c5 => ?_) (fun c5 => ?_)
  · refine g_iconst (v := 0) dX6_placeOf_24 (by decide) ?_
    refine g_iret dX6_placeOf_25 rfl rfl ?_
    exact ⟨by rw [plJ, if_neg (fun q => ite_0 c5 q.1)], rfl⟩
  · refine g_lload_n (i := 0) dX6_placeOf_8 rfl rfl ?_
    refine g_iload_n (i := 2) dX6_placeOf_9 rfl rfl ?_
    refine g_iload_n (i := 3) dX6_placeOf_10 rfl rfl ?_
    refine g_callSN (ev_cellOf hl) dX6_placeOf_11 ml_X6_52 csX9_cellOf rfl rfl rfl (Nat.le_of_ble_eq_true rfl) (Nat.le_of_ble_eq_true rfl) (Nat.zero_le _) (Nat.zero_le _) (kr_rt ?_) kx_rt
    refine g_callS (ev_isIn hl) dX6_placeOf_14 ml_X6_22 csX6_isIn rfl rfl (Nat.le_of_ble_eq_true rfl) (Nat.le_of_ble_eq_true rfl) (Nat.zero_le _) (Nat.zero_le _) (kr_rt ?_) kx_rt
    refine g_if_eq (tgt := 24) dX6_placeOf_17 (by decide) (fun c17 => ?_) (fun c17 => ?_)
    · refine g_iconst (v := 0) dX6_placeOf_24 (by decide) ?_
      refine g_iret dX6_placeOf_25 rfl rfl ?_
      exact ⟨by rw [plJ, if_neg (fun q => ite_0 c17 q.2)], rfl⟩
    · refine g_iconst (v := 1) dX6_placeOf_20 (by decide) ?_
      refine g_goto (tgt := 25) dX6_placeOf_21 (by decide) ?_
      refine g_iret dX6_placeOf_25 rfl rfl ?_
      exact ⟨by rw [plJ, if_pos ⟨ite_1 c5, ite_1 c17⟩], rfl⟩

set_option maxRecDepth 100000 in
theorem ev_cornersOfSquare {l : Launch} {G : GG} (hl : l.stackTraces = false) {b : Int64} {x y : Int32} {h : AH} :
    Ev l G 12 0 0 mX6_cornersOfSquare [.long b, .int x, .int y] h (Rt (some (.int (corJ b x y))) h) := by
  refine Ev.of hl (by decide) (Nat.le_of_ble_eq_true rfl) ?_
  refine g_lload_n (i := 0) dX6_cornersOfSquare_0 rfl rfl ?_
  refine g_iload_n (i := 2) dX6_cornersOfSquare_1 rfl rfl ?_
  refine g_iload_n (i := 3) dX6_cornersOfSquare_2 rfl rfl ?_
  refine g_callS (ev_placeOf hl) dX6_cornersOfSquare_3 ml_X6_45 csX6_placeOf rfl rfl (Nat.le_of_ble_eq_true rfl) (Nat.le_of_ble_eq_true rfl) (Nat.zero_le _) (Nat.zero_le _) (kr_rt ?_) kx_rt
  refine g_istore dX6_cornersOfSquare_6 (Nat.le_of_ble_eq_true rfl) ?_
  refine g_lload_n (i := 0) dX6_cornersOfSquare_8 rfl rfl ?_
  refine g_iload_n (i := 2) dX6_cornersOfSquare_9 rfl rfl ?_
  refine g_iconst (v := 1) dX6_cornersOfSquare_10 (by decide) ?_
  refine g_iadd dX6_cornersOfSquare_11 ?_
  refine g_iload_n (i := 3) dX6_cornersOfSquare_12 rfl rfl ?_
  refine g_callS (ev_placeOf hl) dX6_cornersOfSquare_13 ml_X6_45 csX6_placeOf rfl rfl (Nat.le_of_ble_eq_true rfl) (Nat.le_of_ble_eq_true rfl) (Nat.zero_le _) (Nat.zero_le _) (kr_rt ?_) kx_rt
  refine g_istore dX6_cornersOfSquare_16 (Nat.le_of_ble_eq_true rfl) ?_
  refine g_lload_n (i := 0) dX6_cornersOfSquare_18 rfl rfl ?_
  refine g_iload_n (i := 2) dX6_cornersOfSquare_19 rfl rfl ?_
  refine g_iload_n (i := 3) dX6_cornersOfSquare_20 rfl rfl ?_
  refine g_iconst (v := 1) dX6_cornersOfSquare_21 (by decide) ?_
  refine g_iadd dX6_cornersOfSquare_22 ?_
  refine g_callS (ev_placeOf hl) dX6_cornersOfSquare_23 ml_X6_45 csX6_placeOf rfl rfl (Nat.le_of_ble_eq_true rfl) (Nat.le_of_ble_eq_true rfl) (Nat.zero_le _) (Nat.zero_le _) (kr_rt ?_) kx_rt
  refine g_istore dX6_cornersOfSquare_26 (Nat.le_of_ble_eq_true rfl) ?_
  refine g_lload_n (i := 0) dX6_cornersOfSquare_28 rfl rfl ?_
  refine g_iload_n (i := 2) dX6_cornersOfSquare_29 rfl rfl ?_
  refine g_iconst (v := 1) dX6_cornersOfSquare_30 (by decide) ?_
  refine g_iadd dX6_cornersOfSquare_31 ?_
  refine g_iload_n (i := 3) dX6_cornersOfSquare_32 rfl rfl ?_
  refine g_iconst (v := 1) dX6_cornersOfSquare_33 (by decide) ?_
  refine g_iadd dX6_cornersOfSquare_34 ?_
  refine g_callS (ev_placeOf hl) dX6_cornersOfSquare_35 ml_X6_45 csX6_placeOf rfl rfl (Nat.le_of_ble_eq_true rfl) (Nat.le_of_ble_eq_true rfl) (Nat.zero_le _) (Nat.zero_le _) (kr_rt ?_) kx_rt
  refine g_istore dX6_cornersOfSquare_38 (Nat.le_of_ble_eq_true rfl) ?_
  refine g_iload dX6_cornersOfSquare_40 rfl ?_
  refine g_iload dX6_cornersOfSquare_42 rfl ?_
  refine g_iadd dX6_cornersOfSquare_44 ?_
  refine g_iload dX6_cornersOfSquare_45 rfl ?_
  refine g_iadd dX6_cornersOfSquare_47 ?_
  refine g_iload dX6_cornersOfSquare_48 rfl ?_
  refine g_iadd dX6_cornersOfSquare_50 ?_
  refine g_istore dX6_cornersOfSquare_51 (Nat.le_of_ble_eq_true rfl) ?_
  refine g_iload dX6_cornersOfSquare_53 rfl ?_
  refine g_iconst (v := 2) dX6_cornersOfSquare_55 (by decide) ?_
  refine g_icmp_ne (tgt := 72) dX6_cornersOfSquare_56 (by decide) (fun c56 => ?_) (fun c56 => ?_)
  · refine g_iload dX6_cornersOfSquare_72 rfl ?_
    refine g_iconst (v := 1) dX6_cornersOfSquare_74 (by decide) ?_
    refine g_icmp_ne (tgt := 82) dX6_cornersOfSquare_75 (by decide) (fun c75 => ?_) (fun c75 => ?_)
    · refine g_iload dX6_cornersOfSquare_82 rfl ?_
      refine g_iconst (v := 3) dX6_cornersOfSquare_84 (by decide) ?_
      refine g_icmp_ne (tgt := 92) dX6_cornersOfSquare_85 (by decide) (fun c85 => ?_) (fun c85 => ?_)
      · refine g_iconst (v := 0) dX6_cornersOfSquare_92 (by decide) ?_
        refine g_iret dX6_cornersOfSquare_93 rfl rfl ?_
        exact ⟨by rw [corJ, if_neg c56, if_neg c75, if_neg c85], rfl⟩
      · refine g_iconst (v := (-1)) dX6_cornersOfSquare_88 (by decide) ?_
        refine g_goto (tgt := 93) dX6_cornersOfSquare_89 (by decide) ?_
        refine g_iret dX6_cornersOfSquare_93 rfl rfl ?_
        exact ⟨by rw [corJ, if_neg c56, if_neg c75, if_pos c85], rfl⟩
    · refine g_iconst (v := 1) dX6_cornersOfSquare_78 (by decide) ?_
      refine g_goto (tgt := 93) dX6_cornersOfSquare_79 (by decide) ?_
      refine g_iret dX6_cornersOfSquare_93 rfl rfl ?_
      exact ⟨by rw [corJ, if_neg c56, if_pos c75], rfl⟩
  · refine g_iload dX6_cornersOfSquare_59 rfl ?_
    refine g_iload dX6_cornersOfSquare_61 rfl ?_
    refine g_icmp_ne (tgt := 70) dX6_cornersOfSquare_63 (by decide) (fun c63 => ?_) (fun c63 => ?_)
    · refine g_iconst (v := 0) dX6_cornersOfSquare_70 (by decide) ?_
      refine g_iret dX6_cornersOfSquare_71 rfl rfl ?_
      exact ⟨by rw [corJ, if_pos c56, if_neg c63], rfl⟩
    · refine g_iconst (v := 2) dX6_cornersOfSquare_66 (by decide) ?_
      refine g_goto (tgt := 71) dX6_cornersOfSquare_67 (by decide) ?_
      refine g_iret dX6_cornersOfSquare_71 rfl rfl ?_
      exact ⟨by rw [corJ, if_pos c56, if_pos c63], rfl⟩

set_option maxRecDepth 100000 in
theorem ev_neighbourOf {l : Launch} {G : GG} (hl : l.stackTraces = false) {c s : Nat} (hc : c < 64) (hs : s < 4) {h : AH} :
    Ev l G 10 0 0 mX9_neighbourOf [.int (nI c), .int (nI s)] h (Rt (some (.int (oI (nb c s)))) h) := by
  refine Ev.of hl (by decide) (Nat.le_of_ble_eq_true rfl) ?_
  refine g_iload_n (i := 0) dX9_neighbourOf_0 rfl rfl ?_
  refine g_bipush (v := 8) dX9_neighbourOf_1 (by decide) ?_
  refine g_irem dX9_neighbourOf_3 (by decide) ?_
  refine g_istore_n (i := 2) dX9_neighbourOf_4 rfl (Nat.le_of_ble_eq_true rfl) ?_
  refine g_iload_n (i := 0) dX9_neighbourOf_5 rfl rfl ?_
  refine g_bipush (v := 8) dX9_neighbourOf_6 (by decide) ?_
  refine g_idiv dX9_neighbourOf_8 (by decide) ?_
  refine g_istore_n (i := 3) dX9_neighbourOf_9 rfl (Nat.le_of_ble_eq_true rfl) ?_
  refine g_iload_n (i := 1) dX9_neighbourOf_10 rfl rfl ?_
  obtain ⟨⟨e1, e2⟩, f1, f2, f3, f4, f5, f6, f7, f8⟩ := nbF c hc
  rw [e1, e2]
  have hs4 : s = 0 ∨ s = 1 ∨ s = 2 ∨ s = 3 := by omega
  rcases hs4 with rfl | rfl | rfl | rfl
  · refine g_tabIn (tgt := 40) dX9_neighbourOf_11 (by decide) (by decide) rfl (by decide) ?_
    refine g_iload_n (i := 3) dX9_neighbourOf_40 rfl rfl ?_
    refine g_if_le (tgt := 51) dX9_neighbourOf_41 (by decide) (fun c41 => ?_) (fun c41 => ?_)
    · refine g_iconst (v := (-1)) dX9_neighbourOf_51 (by decide) ?_
      refine g_iret dX9_neighbourOf_52 rfl rfl ?_
      exact ⟨by rw [← f2 c41], rfl⟩
    · refine g_iload_n (i := 0) dX9_neighbourOf_44 rfl rfl ?_
      refine g_bipush (v := 8) dX9_neighbourOf_45 (by decide) ?_
      refine g_isub dX9_neighbourOf_47 ?_
      refine g_goto (tgt := 52) dX9_neighbourOf_48 (by decide) ?_
      refine g_iret dX9_neighbourOf_52 rfl rfl ?_
      exact ⟨by rw [f1 c41], rfl⟩
  · refine g_tabIn (tgt := 53) dX9_neighbourOf_11 (by decide) (by decide) rfl (by decide) ?_
    refine g_iload_n (i := 2) dX9_neighbourOf_53 rfl rfl ?_
    refine g_bipush (v := 7) dX9_neighbourOf_54 (by decide) ?_
    refine g_icmp_ge (tgt := 65) dX9_neighbourOf_56 (by decide) (fun c56 => ?_) (fun c56 => ?_)
    · refine g_iconst (v := (-1)) dX9_neighbourOf_65 (by decide) ?_
      refine g_iret dX9_neighbourOf_66 rfl rfl ?_
      exact ⟨by rw [← f4 c56], rfl⟩
    · refine g_iload_n (i := 0) dX9_neighbourOf_59 rfl rfl ?_
      refine g_iconst (v := 1) dX9_neighbourOf_60 (by decide) ?_
      refine g_iadd dX9_neighbourOf_61 ?_
      refine g_goto (tgt := 66) dX9_neighbourOf_62 (by decide) ?_
      refine g_iret dX9_neighbourOf_66 rfl rfl ?_
      exact ⟨by rw [f3 c56], rfl⟩
  · refine g_tabIn (tgt := 67) dX9_neighbourOf_11 (by decide) (by decide) rfl (by decide) ?_
    refine g_iload_n (i := 3) dX9_neighbourOf_67 rfl rfl ?_
    refine g_bipush (v := 7) dX9_neighbourOf_68 (by decide) ?_
    refine g_icmp_ge (tgt := 80) dX9_neighbourOf_70 (by decide) (fun c70 => ?_) (fun c70 => ?_)
    · refine g_iconst (v := (-1)) dX9_neighbourOf_80 (by decide) ?_
      refine g_iret dX9_neighbourOf_81 rfl rfl ?_
      exact ⟨by rw [← f6 c70], rfl⟩
    · refine g_iload_n (i := 0) dX9_neighbourOf_73 rfl rfl ?_
      refine g_bipush (v := 8) dX9_neighbourOf_74 (by decide) ?_
      refine g_iadd dX9_neighbourOf_76 ?_
      refine g_goto (tgt := 81) dX9_neighbourOf_77 (by decide) ?_
      refine g_iret dX9_neighbourOf_81 rfl rfl ?_
      exact ⟨by rw [f5 c70], rfl⟩
  · refine g_tabIn (tgt := 82) dX9_neighbourOf_11 (by decide) (by decide) rfl (by decide) ?_
    refine g_iload_n (i := 2) dX9_neighbourOf_82 rfl rfl ?_
    refine g_if_le (tgt := 92) dX9_neighbourOf_83 (by decide) (fun c83 => ?_) (fun c83 => ?_)
    · refine g_iconst (v := (-1)) dX9_neighbourOf_92 (by decide) ?_
      refine g_iret dX9_neighbourOf_93 rfl rfl ?_
      exact ⟨by rw [← f8 c83], rfl⟩
    · refine g_iload_n (i := 0) dX9_neighbourOf_86 rfl rfl ?_
      refine g_iconst (v := 1) dX9_neighbourOf_87 (by decide) ?_
      refine g_isub dX9_neighbourOf_88 ?_
      refine g_goto (tgt := 93) dX9_neighbourOf_89 (by decide) ?_
      refine g_iret dX9_neighbourOf_93 rfl rfl ?_
      exact ⟨by rw [f7 c83], rfl⟩

set_option maxRecDepth 100000 in
theorem ev_countFreeSides {l : Launch} {G : GG} (hl : l.stackTraces = false) {b : Int64} {c : Nat} (hc : c < 64) {h : AH} :
    Ev l G 11 0 0 mX6_countFreeSides [.long b, .int (nI c)] h (Rt (some (.int (freeN b c 4))) h) := by
  refine Ev.of hl (by decide) (Nat.le_of_ble_eq_true rfl) ?_
  have loop : ∀ (n9 : Nat) (k : Nat) (X : Option Value), 4 - k < n9 → k ≤ 4 → Go l G mX6_countFreeSides 11 0 0 (Rt (some (.int (freeN b c 4))) h) 5 [some (.long b), none, some (.int (nI c)), some (.int (freeN b c k)), some (.int (nI k)), X] [] h := by
    intro n9
    induction n9 with
    | zero => intros; omega
    | succ n9 ih =>
      intro k X hf hk
      refine g_iload dX6_countFreeSides_5 rfl ?_
      refine g_iconst (v := 4) dX6_countFreeSides_7 (by decide) ?_
      refine g_icmp_ge (tgt := 43) dX6_countFreeSides_8 (by decide) (fun c8 => ?_) (fun c8 => ?_)
      · refine g_iload_n (i := 3) dX6_countFreeSides_43 rfl rfl ?_
        refine g_iret dX6_countFreeSides_44 rfl rfl ?_
        exact ⟨by rw [show k = 4 by have := (le_nI (a := 4) rfl (by omega) (by omega)).mp c8; omega], rfl⟩
      · have hk2 : k < 4 := by have := mt (le_nI (a := 4) (b := k) rfl (by omega) (by omega)).mpr c8; omega
        refine g_iload_n (i := 2) dX6_countFreeSides_11 rfl rfl ?_
        refine g_iload dX6_countFreeSides_12 rfl ?_
        refine g_callSN (ev_neighbourOf hl hc hk2) dX6_countFreeSides_14 ml_X6_60 csX9_neighbourOf rfl rfl rfl (Nat.le_of_ble_eq_true rfl) (Nat.le_of_ble_eq_true rfl) (Nat.zero_le _) (Nat.zero_le _) (kr_rt ?_) kx_rt
        refine g_istore dX6_countFreeSides_17 (Nat.le_of_ble_eq_true rfl) ?_
        refine g_iload dX6_countFreeSides_19 rfl ?_
        refine g_iconst (v := (-1)) dX6_countFreeSides_21 (by decide) ?_
        refine g_icmp_eq (tgt := 34) dX6_countFreeSides_22 (by decide) (fun c22 => ?_) (fun c22 => ?_)
        · refine g_iinc (w := 1) dX6_countFreeSides_34 (by decide) rfl rfl (Nat.le_of_ble_eq_true rfl) ?_
          refine g_iinc (w := 1) dX6_countFreeSides_37 (by decide) rfl (nI_succ k).symm (Nat.le_of_ble_eq_true rfl) ?_
          refine g_goto (tgt := 5) dX6_countFreeSides_40 (by decide) ?_
          have z := ih (k + 1) (some (.int (oI (nb c k)))) (by omega) (by omega)
          rw [show freeN b c (k + 1) = freeN b c k + 1 by rw [freeN, (nbS c hc k hk2).2 c22]] at z
          exact z
        · obtain ⟨n, hn, hnb⟩ := (nbS c hc k hk2).1 c22
          rw [hnb]
          refine g_lload_n (i := 0) dX6_countFreeSides_25 rfl rfl ?_
          refine g_iload dX6_countFreeSides_26 rfl ?_
          refine g_callS (ev_isIn hl) dX6_countFreeSides_28 ml_X6_22 csX6_isIn rfl rfl (Nat.le_of_ble_eq_true rfl) (Nat.le_of_ble_eq_true rfl) (Nat.zero_le _) (Nat.zero_le _) (kr_rt ?_) kx_rt
          refine g_if_ne (tgt := 37) dX6_countFreeSides_31 (by decide) (fun c31 => ?_) (fun c31 => ?_)
          · refine g_iinc (w := 1) dX6_countFreeSides_37 (by decide) rfl (nI_succ k).symm (Nat.le_of_ble_eq_true rfl) ?_
            refine g_goto (tgt := 5) dX6_countFreeSides_40 (by decide) ?_
            have z := ih (k + 1) (some (.int (oI (some n)))) (by omega) (by omega)
            rw [show freeN b c (k + 1) = freeN b c k by rw [freeN, hnb]; exact if_pos (ite_1 c31)] at z
            exact z
          · refine g_iinc (w := 1) dX6_countFreeSides_34 (by decide) rfl rfl (Nat.le_of_ble_eq_true rfl) ?_
            refine g_iinc (w := 1) dX6_countFreeSides_37 (by decide) rfl (nI_succ k).symm (Nat.le_of_ble_eq_true rfl) ?_
            refine g_goto (tgt := 5) dX6_countFreeSides_40 (by decide) ?_
            have z := ih (k + 1) (some (.int (oI (some n)))) (by omega) (by omega)
            rw [show freeN b c (k + 1) = freeN b c k + 1 by rw [freeN, hnb]; exact if_neg (ite_0 c31)] at z
            exact z
  refine g_iconst (v := 0) dX6_countFreeSides_0 (by decide) ?_
  refine g_istore_n (i := 3) dX6_countFreeSides_1 rfl (Nat.le_of_ble_eq_true rfl) ?_
  refine g_iconst (v := 0) dX6_countFreeSides_2 (by decide) ?_
  refine g_istore dX6_countFreeSides_3 (Nat.le_of_ble_eq_true rfl) ?_
  exact loop 5 0 _ (by omega) (by omega)

set_option maxRecDepth 100000 in
theorem ev_measureContour {l : Launch} {G : GG} (hl : l.stackTraces = false) {b : Int64} {h : AH} :
    Ev l G 12 0 0 mX6_measureContour [.long b] h (Rt (some (.int (conN b 64))) h) := by
  refine Ev.of hl (by decide) (Nat.le_of_ble_eq_true rfl) ?_
  have loop : ∀ (n9 : Nat) (k : Nat), 64 - k < n9 → k ≤ 64 → Go l G mX6_measureContour 12 0 0 (Rt (some (.int (conN b 64))) h) 4 [some (.long b), none, some (.int (conN b k)), some (.int (nI k))] [] h := by
    intro n9
    induction n9 with
    | zero => intros; omega
    | succ n9 ih =>
      intro k hf hk
      refine g_iload_n (i := 3) dX6_measureContour_4 rfl rfl ?_
      refine g_bipush (v := 64) dX6_measureContour_5 (by decide) ?_
      refine g_icmp_ge (tgt := 32) dX6_measureContour_7 (by decide) (fun c7 => ?_) (fun c7 => ?_)
      · refine g_iload_n (i := 2) dX6_measureContour_32 rfl rfl ?_
        refine g_iret dX6_measureContour_33 rfl rfl ?_
        exact ⟨by rw [show k = 64 by have := (le_nI (a := 64) rfl (by omega) (by omega)).mp c7; omega], rfl⟩
      · have hk2 : k < 64 := by have := mt (le_nI (a := 64) (b := k) rfl (by omega) (by omega)).mpr c7; omega
        refine g_lload_n (i := 0) dX6_measureContour_10 rfl rfl ?_
        refine g_iload_n (i := 3) dX6_measureContour_11 rfl rfl ?_
        refine g_callS (ev_isIn hl) dX6_measureContour_12 ml_X6_22 csX6_isIn rfl rfl (Nat.le_of_ble_eq_true rfl) (Nat.le_of_ble_eq_true rfl) (Nat.zero_le _) (Nat.zero_le _) (kr_rt ?_) kx_rt
        refine g_if_eq (tgt := 26) dX6_measureContour_15 (by decide) (fun c15 => ?_) (fun c15 => ?_)
        · refine g_iinc (w := 1) dX6_measureContour_26 (by decide) rfl (nI_succ k).symm (Nat.le_of_ble_eq_true rfl) ?_
          refine g_goto (tgt := 4) dX6_measureContour_29 (by decide) ?_
          have z := ih (k + 1) (by omega) (by omega)
          rw [show conN b (k + 1) = _ from if_neg (ite_0 c15)] at z
          exact z
        · refine g_iload_n (i := 2) dX6_measureContour_18 rfl rfl ?_
          refine g_lload_n (i := 0) dX6_measureContour_19 rfl rfl ?_
          refine g_iload_n (i := 3) dX6_measureContour_20 rfl rfl ?_
          refine g_callS (ev_countFreeSides hl hk2) dX6_measureContour_21 ml_X6_56 csX6_countFreeSides rfl rfl (Nat.le_of_ble_eq_true rfl) (Nat.le_of_ble_eq_true rfl) (Nat.zero_le _) (Nat.zero_le _) (kr_rt ?_) kx_rt
          refine g_iadd dX6_measureContour_24 ?_
          refine g_istore_n (i := 2) dX6_measureContour_25 rfl (Nat.le_of_ble_eq_true rfl) ?_
          refine g_iinc (w := 1) dX6_measureContour_26 (by decide) rfl (nI_succ k).symm (Nat.le_of_ble_eq_true rfl) ?_
          refine g_goto (tgt := 4) dX6_measureContour_29 (by decide) ?_
          have z := ih (k + 1) (by omega) (by omega)
          rw [show conN b (k + 1) = _ from if_pos (ite_1 c15)] at z
          exact z
  refine g_iconst (v := 0) dX6_measureContour_0 (by decide) ?_
  refine g_istore_n (i := 2) dX6_measureContour_1 rfl (Nat.le_of_ble_eq_true rfl) ?_
  refine g_iconst (v := 0) dX6_measureContour_2 (by decide) ?_
  refine g_istore_n (i := 3) dX6_measureContour_3 rfl (Nat.le_of_ble_eq_true rfl) ?_
  exact loop 65 0 (by omega) (by omega)

