/-! LEAVES: the class's small methods (by wip/whole/gen/m1.py). -/
theorem le_nI {a b : Nat} {A : Int32} (hA : A = nI a) (ha : a < 2 ^ 31) (hb : b < 2 ^ 31) : A ≤ nI b ↔ a ≤ b := by
  subst hA
  rw [Int32.le_iff_toInt_le, nI_toInt ha, nI_toInt hb]
  omega
theorem lt_nI {a b : Nat} {A : Int32} (hA : A = nI a) (ha : a < 2 ^ 31) (hb : b < 2 ^ 31) : A < nI b ↔ a < b := by
  subst hA
  rw [Int32.lt_iff_toInt_lt, nI_toInt ha, nI_toInt hb]
  omega
theorem nI_le' {a b : Nat} {B : Int32} (hB : B = nI b) (ha : a < 2 ^ 31) (hb : b < 2 ^ 31) : nI a ≤ B ↔ a ≤ b := by
  subst hB
  exact le_nI rfl ha hb
theorem nI_lt' {a b : Nat} {B : Int32} (hB : B = nI b) (ha : a < 2 ^ 31) (hb : b < 2 ^ 31) : nI a < B ↔ a < b := by
  subst hB
  exact lt_nI rfl ha hb
theorem nI_inj {a b : Nat} (ha : a < 2 ^ 31) (hb : b < 2 ^ 31) : nI a = nI b ↔ a = b := by
  constructor
  · intro q
    have h1 := nI_toInt ha
    rw [q, nI_toInt hb] at h1
    omega
  · rintro rfl; rfl
/-- the sum of the first k -/
def sumN (f : Nat → Int32) : Nat → Int32
  | 0 => 0
  | k + 1 => sumN f k + f k

set_option maxRecDepth 100000 in
theorem ev_isRock {l : Launch} {G : GG} (hl : l.stackTraces = false) {A : AD} {g : Nat} {m : MS} {h : AH} (H : isMap h A g m) {i : Int32} {c : Nat} (hi : ix i c) (hc : c < 64) :
    Ev l G 10 0 0 mX3_isRock [.ref (A 0 g), .int i] h (Rt (some (.int (if m.1 c = 35 then 1 else 0))) h) := by
  refine Ev.of hl (by decide) (Nat.le_of_ble_eq_true rfl) ?_
  refine g_aload_n (i := 0) dX3_isRock_0 rfl rfl ?_
  refine g_getf dX3_isRock_1 K_X3 (k := 0) fl_X3_9 (Nat.le_of_ble_eq_true rfl) H.1 rfl ?_
  refine g_iload_n (i := 1) dX3_isRock_4 rfl rfl ?_
  refine g_cald dX3_isRock_5 H.2.1 hi hc ?_
  refine g_bipush (v := 35) dX3_isRock_6 (by decide) ?_
  refine g_icmp_ne (tgt := 15) dX3_isRock_8 (by decide) (fun c8 => ?_) (fun c8 => ?_)
  · refine g_iconst (v := 0) dX3_isRock_15 (by decide) ?_
    refine g_iret dX3_isRock_16 rfl rfl ?_
    exact ⟨by rw [if_neg c8], rfl⟩
  · refine g_iconst (v := 1) dX3_isRock_11 (by decide) ?_
    refine g_goto (tgt := 16) dX3_isRock_12 (by decide) ?_
    refine g_iret dX3_isRock_16 rfl rfl ?_
    exact ⟨by rw [if_pos c8], rfl⟩

set_option maxRecDepth 100000 in
theorem ev_heatOfCells {l : Launch} {G : GG} (hl : l.stackTraces = false) {A : AD} {g : Nat} {m : MS} {h : AH} (H : isMap h A g m) :
    Ev l G 10 0 0 mX3_heatOfCells [.ref (A 0 g)] h (Rt (some (.int (sumN m.2.1 64))) h) := by
  refine Ev.of hl (by decide) (Nat.le_of_ble_eq_true rfl) ?_
  have loop : ∀ (n9 : Nat) (k : Nat), 64 - k < n9 → k ≤ 64 → Go l G mX3_heatOfCells 10 0 0 (Rt (some (.int (sumN m.2.1 64))) h) 4 [some (.ref (A 0 g)), some (.int (sumN m.2.1 k)), some (.int (nI k))] [] h := by
    intro n9
    induction n9 with
    | zero => intros; omega
    | succ n9 ih =>
      intro k hf hk
      refine g_iload_n (i := 2) dX3_heatOfCells_4 rfl rfl ?_
      refine g_bipush (v := 64) dX3_heatOfCells_5 (by decide) ?_
      refine g_icmp_ge (tgt := 25) dX3_heatOfCells_7 (by decide) (fun c7 => ?_) (fun c7 => ?_)
      · refine g_iload_n (i := 1) dX3_heatOfCells_25 rfl rfl ?_
        refine g_iret dX3_heatOfCells_26 rfl rfl ?_
        exact ⟨by rw [show k = 64 by have := (le_nI (a := 64) rfl (by omega) (by omega)).mp c7; omega], rfl⟩
      · have hk2 : k < 64 := by have := mt (le_nI (a := 64) (b := k) rfl (by omega) (by omega)).mpr c7; omega
        refine g_iload_n (i := 1) dX3_heatOfCells_10 rfl rfl ?_
        refine g_aload_n (i := 0) dX3_heatOfCells_11 rfl rfl ?_
        refine g_getf dX3_heatOfCells_12 K_X3 (k := 1) fl_X3_15 (Nat.le_of_ble_eq_true rfl) H.1 rfl ?_
        refine g_iload_n (i := 2) dX3_heatOfCells_15 rfl rfl ?_
        refine g_iald dX3_heatOfCells_16 H.2.2.1 (ix_nI (by omega)) (by omega) ?_
        refine g_iadd dX3_heatOfCells_17 ?_
        refine g_istore_n (i := 1) dX3_heatOfCells_18 rfl (Nat.le_of_ble_eq_true rfl) ?_
        refine g_iinc (w := 1) dX3_heatOfCells_19 (by decide) rfl (nI_succ k).symm (Nat.le_of_ble_eq_true rfl) ?_
        refine g_goto (tgt := 4) dX3_heatOfCells_22 (by decide) ?_
        exact ih (k + 1) (by omega) (by omega)
  refine g_iconst (v := 0) dX3_heatOfCells_0 (by decide) ?_
  refine g_istore_n (i := 1) dX3_heatOfCells_1 rfl (Nat.le_of_ble_eq_true rfl) ?_
  refine g_iconst (v := 0) dX3_heatOfCells_2 (by decide) ?_
  refine g_istore_n (i := 2) dX3_heatOfCells_3 rfl (Nat.le_of_ble_eq_true rfl) ?_
  exact loop 65 0 (by omega) (by omega)

set_option maxRecDepth 100000 in
theorem ev_embersOfCells {l : Launch} {G : GG} (hl : l.stackTraces = false) {A : AD} {g : Nat} {m : MS} {h : AH} (H : isMap h A g m) :
    Ev l G 10 0 0 mX3_embersOfCells [.ref (A 0 g)] h (Rt (some (.int (sumN m.2.2.1 64))) h) := by
  refine Ev.of hl (by decide) (Nat.le_of_ble_eq_true rfl) ?_
  have loop : ∀ (n9 : Nat) (k : Nat), 64 - k < n9 → k ≤ 64 → Go l G mX3_embersOfCells 10 0 0 (Rt (some (.int (sumN m.2.2.1 64))) h) 4 [some (.ref (A 0 g)), some (.int (sumN m.2.2.1 k)), some (.int (nI k))] [] h := by
    intro n9
    induction n9 with
    | zero => intros; omega
    | succ n9 ih =>
      intro k hf hk
      refine g_iload_n (i := 2) dX3_embersOfCells_4 rfl rfl ?_
      refine g_bipush (v := 64) dX3_embersOfCells_5 (by decide) ?_
      refine g_icmp_ge (tgt := 25) dX3_embersOfCells_7 (by decide) (fun c7 => ?_) (fun c7 => ?_)
      · refine g_iload_n (i := 1) dX3_embersOfCells_25 rfl rfl ?_
        refine g_iret dX3_embersOfCells_26 rfl rfl ?_
        exact ⟨by rw [show k = 64 by have := (le_nI (a := 64) rfl (by omega) (by omega)).mp c7; omega], rfl⟩
      · have hk2 : k < 64 := by have := mt (le_nI (a := 64) (b := k) rfl (by omega) (by omega)).mpr c7; omega
        refine g_iload_n (i := 1) dX3_embersOfCells_10 rfl rfl ?_
        refine g_aload_n (i := 0) dX3_embersOfCells_11 rfl rfl ?_
        refine g_getf dX3_embersOfCells_12 K_X3 (k := 2) fl_X3_19 (Nat.le_of_ble_eq_true rfl) H.1 rfl ?_
        refine g_iload_n (i := 2) dX3_embersOfCells_15 rfl rfl ?_
        refine g_iald dX3_embersOfCells_16 H.2.2.2.1 (ix_nI (by omega)) (by omega) ?_
        refine g_iadd dX3_embersOfCells_17 ?_
        refine g_istore_n (i := 1) dX3_embersOfCells_18 rfl (Nat.le_of_ble_eq_true rfl) ?_
        refine g_iinc (w := 1) dX3_embersOfCells_19 (by decide) rfl (nI_succ k).symm (Nat.le_of_ble_eq_true rfl) ?_
        refine g_goto (tgt := 4) dX3_embersOfCells_22 (by decide) ?_
        exact ih (k + 1) (by omega) (by omega)
  refine g_iconst (v := 0) dX3_embersOfCells_0 (by decide) ?_
  refine g_istore_n (i := 1) dX3_embersOfCells_1 rfl (Nat.le_of_ble_eq_true rfl) ?_
  refine g_iconst (v := 0) dX3_embersOfCells_2 (by decide) ?_
  refine g_istore_n (i := 2) dX3_embersOfCells_3 rfl (Nat.le_of_ble_eq_true rfl) ?_
  exact loop 65 0 (by omega) (by omega)

set_option maxRecDepth 100000 in
theorem ev_lostHeat {l : Launch} {G : GG} (hl : l.stackTraces = false) {A : AD} {g : Nat} {m : MS} {h : AH} (H : isMap h A g m) :
    Ev l G 10 0 0 mX3_lostHeat [.ref (A 0 g)] h (Rt (some (.int (sumN m.2.2.2.2.1 4))) h) := by
  refine Ev.of hl (by decide) (Nat.le_of_ble_eq_true rfl) ?_
  have loop : ∀ (n9 : Nat) (k : Nat), 4 - k < n9 → k ≤ 4 → Go l G mX3_lostHeat 10 0 0 (Rt (some (.int (sumN m.2.2.2.2.1 4))) h) 4 [some (.ref (A 0 g)), some (.int (sumN m.2.2.2.2.1 k)), some (.int (nI k))] [] h := by
    intro n9
    induction n9 with
    | zero => intros; omega
    | succ n9 ih =>
      intro k hf hk
      refine g_iload_n (i := 2) dX3_lostHeat_4 rfl rfl ?_
      refine g_iconst (v := 4) dX3_lostHeat_5 (by decide) ?_
      refine g_icmp_ge (tgt := 24) dX3_lostHeat_6 (by decide) (fun c6 => ?_) (fun c6 => ?_)
      · refine g_iload_n (i := 1) dX3_lostHeat_24 rfl rfl ?_
        refine g_iret dX3_lostHeat_25 rfl rfl ?_
        exact ⟨by rw [show k = 4 by have := (le_nI (a := 4) rfl (by omega) (by omega)).mp c6; omega], rfl⟩
      · have hk2 : k < 4 := by have := mt (le_nI (a := 4) (b := k) rfl (by omega) (by omega)).mpr c6; omega
        refine g_iload_n (i := 1) dX3_lostHeat_9 rfl rfl ?_
        refine g_aload_n (i := 0) dX3_lostHeat_10 rfl rfl ?_
        refine g_getf dX3_lostHeat_11 K_X3 (k := 4) fl_X3_25 (Nat.le_of_ble_eq_true rfl) H.1 rfl ?_
        refine g_iload_n (i := 2) dX3_lostHeat_14 rfl rfl ?_
        refine g_iald dX3_lostHeat_15 H.2.2.2.2.2 (ix_nI (by omega)) (by omega) ?_
        refine g_iadd dX3_lostHeat_16 ?_
        refine g_istore_n (i := 1) dX3_lostHeat_17 rfl (Nat.le_of_ble_eq_true rfl) ?_
        refine g_iinc (w := 1) dX3_lostHeat_18 (by decide) rfl (nI_succ k).symm (Nat.le_of_ble_eq_true rfl) ?_
        refine g_goto (tgt := 4) dX3_lostHeat_21 (by decide) ?_
        exact ih (k + 1) (by omega) (by omega)
  refine g_iconst (v := 0) dX3_lostHeat_0 (by decide) ?_
  refine g_istore_n (i := 1) dX3_lostHeat_1 rfl (Nat.le_of_ble_eq_true rfl) ?_
  refine g_iconst (v := 0) dX3_lostHeat_2 (by decide) ?_
  refine g_istore_n (i := 2) dX3_lostHeat_3 rfl (Nat.le_of_ble_eq_true rfl) ?_
  exact loop 5 0 (by omega) (by omega)

set_option maxRecDepth 100000 in
theorem ev_cellOf {l : Launch} {G : GG} (hl : l.stackTraces = false) {x y : Int32} {h : AH} :
    Ev l G 10 0 0 mX9_cellOf [.int x, .int y] h (Rt (some (.int (8 * y + x))) h) := by
  refine Ev.of hl (by decide) (Nat.le_of_ble_eq_true rfl) ?_
  refine g_bipush (v := 8) dX9_cellOf_0 (by decide) ?_
  refine g_iload_n (i := 1) dX9_cellOf_2 rfl rfl ?_
  refine g_imul dX9_cellOf_3 ?_
  refine g_iload_n (i := 0) dX9_cellOf_4 rfl rfl ?_
  refine g_iadd dX9_cellOf_5 ?_
  refine g_iret dX9_cellOf_6 rfl rfl ?_
  exact ⟨rfl, rfl⟩

abbrev cellB (x y : Int32) : Prop := 0 ≤ x ∧ x < 8 ∧ 0 ≤ y ∧ y < 8
theorem ge0 {x : Int32} (h : ¬ x < 0) : 0 ≤ x := Int32.not_lt.mp h
theorem nlt {x y : Int32} (h : y ≤ x) : ¬ x < y := Int32.not_lt.mpr h
theorem ltn {x y : Int32} (h : ¬ y ≤ x) : x < y := Int32.not_le.mp h

set_option maxRecDepth 100000 in
theorem ev_isCell {l : Launch} {G : GG} (hl : l.stackTraces = false) {x y : Int32} {h : AH} :
    Ev l G 10 0 0 mX9_isCell [.int x, .int y] h (Rt (some (.int (if cellB x y then 1 else 0))) h) := by
  refine Ev.of hl (by decide) (Nat.le_of_ble_eq_true rfl) ?_
  refine g_iload_n (i := 0) dX9_isCell_0 rfl rfl ?_
  refine g_if_lt (tgt := 24) dX9_isCell_1 (by decide) (fun c1 => ?_) (fun c1 => ?_)
  · refine g_iconst (v := 0) dX9_isCell_24 (by decide) ?_
    refine g_iret dX9_isCell_25 rfl rfl ?_
    exact ⟨by rw [if_neg (fun q => nlt q.1 c1)], rfl⟩
  · refine g_iload_n (i := 0) dX9_isCell_4 rfl rfl ?_
    refine g_bipush (v := 8) dX9_isCell_5 (by decide) ?_
    refine g_icmp_ge (tgt := 24) dX9_isCell_7 (by decide) (fun c7 => ?_) (fun c7 => ?_)
    · refine g_iconst (v := 0) dX9_isCell_24 (by decide) ?_
      refine g_iret dX9_isCell_25 rfl rfl ?_
      exact ⟨by rw [if_neg (fun q => nlt c7 q.2.1)], rfl⟩
    · refine g_iload_n (i := 1) dX9_isCell_10 rfl rfl ?_
      refine g_if_lt (tgt := 24) dX9_isCell_11 (by decide) (fun c11 => ?_) (fun c11 => ?_)
      · refine g_iconst (v := 0) dX9_isCell_24 (by decide) ?_
        refine g_iret dX9_isCell_25 rfl rfl ?_
        exact ⟨by rw [if_neg (fun q => nlt q.2.2.1 c11)], rfl⟩
      · refine g_iload_n (i := 1) dX9_isCell_14 rfl rfl ?_
        refine g_bipush (v := 8) dX9_isCell_15 (by decide) ?_
        refine g_icmp_ge (tgt := 24) dX9_isCell_17 (by decide) (fun c17 => ?_) (fun c17 => ?_)
        · refine g_iconst (v := 0) dX9_isCell_24 (by decide) ?_
          refine g_iret dX9_isCell_25 rfl rfl ?_
          exact ⟨by rw [if_neg (fun q => nlt c17 q.2.2.2)], rfl⟩
        · refine g_iconst (v := 1) dX9_isCell_20 (by decide) ?_
          refine g_goto (tgt := 25) dX9_isCell_21 (by decide) ?_
          refine g_iret dX9_isCell_25 rfl rfl ?_
          exact ⟨by rw [if_pos ⟨ge0 c1, ltn c7, ge0 c11, ltn c17⟩], rfl⟩

set_option maxRecDepth 100000 in
theorem ev_requireCell_ok {l : Launch} {G : GG} (hl : l.stackTraces = false) {x y : Int32} {h : AH} (hc : cellB x y) :
    Ev l G 11 0 0 mX9_requireCell [.int x, .int y] h (Rt none h) := by
  refine Ev.of hl (by decide) (Nat.le_of_ble_eq_true rfl) ?_
  refine g_iload_n (i := 0) dX9_requireCell_0 rfl rfl ?_
  refine g_iload_n (i := 1) dX9_requireCell_1 rfl rfl ?_
  refine g_callS (ev_isCell hl) dX9_requireCell_2 ml_X9_388 csX9_isCell rfl rfl (Nat.le_of_ble_eq_true rfl) (Nat.le_of_ble_eq_true rfl) (Nat.zero_le _) (Nat.zero_le _) (kr_rt ?_) kx_rt
  refine g_if_ne (tgt := 19) dX9_requireCell_5 (by decide) (fun c5 => ?_) (fun c5 => ?_)
  · refine g_vret dX9_requireCell_19 rfl ?_
    exact ⟨rfl, rfl⟩
  · exact absurd c5 (by rw [if_pos hc]; decide)

set_option maxRecDepth 100000 in
theorem ev_requireCell_no {l : Launch} {G : GG} (hl : l.stackTraces = false) {x y : Int32} {h : AH} (hc : ¬ cellB x y) :
    Ev l G 11 1 6 mX9_requireCell [.int x, .int y] h (Tr "java/lang/IndexOutOfBoundsException" h) := by
  refine Ev.of hl (by decide) (Nat.le_of_ble_eq_true rfl) ?_
  refine g_iload_n (i := 0) dX9_requireCell_0 rfl rfl ?_
  refine g_iload_n (i := 1) dX9_requireCell_1 rfl rfl ?_
  refine g_callS (ev_isCell hl) dX9_requireCell_2 ml_X9_388 csX9_isCell rfl rfl (Nat.le_of_ble_eq_true rfl) (Nat.le_of_ble_eq_true rfl) (Nat.zero_le _) (Nat.zero_le _) (kr_rt ?_) kx_rt
  refine g_if_ne (tgt := 19) dX9_requireCell_5 (by decide) (fun c5 => ?_) (fun c5 => ?_)
  · exact absurd (if_neg hc) c5
  · exact g_throwSW th_X9_343_391 dX9_requireCell_8 dX9_requireCell_11 dX9_requireCell_12 dX9_requireCell_15 dX9_requireCell_18 rfl (by decide) (by decide) (Nat.le_of_ble_eq_true rfl) (Nat.le_of_ble_eq_true rfl) ⟨rfl, rfl⟩

