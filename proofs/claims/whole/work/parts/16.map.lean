/-! HeatMap's methods (by wip/whole/gen/m2.py). -/
theorem ite_0 {p : Prop} [Decidable p] (h : (if p then (1 : Int32) else 0) = 0) : ¬ p := fun q => by rw [if_pos q] at h; exact absurd h (by decide)
theorem ite_1 {p : Prop} [Decidable p] (h : ¬ (if p then (1 : Int32) else 0) = 0) : p := by
  by_cases q : p
  · exact q
  · rw [if_neg q] at h; exact absurd rfl h
theorem setMap_obj (h : AH) (A : AD) (g : Nat) (m : MS) (t r a : Int32) : up (setMap h A g m) 0 g (A 0 g, .inr (3, [.ref (A 1 g), .ref (A 2 g), .ref (A 3 g), .ref (A 4 g), .ref (A 5 g), .int t, .int r, .int a])) = setMap h A g (m.1, m.2.1, m.2.2.1, m.2.2.2.1, m.2.2.2.2.1, t, r, a) := by
  funext s g'
  simp only [setMap, up, mObj]
  by_cases e : g' = g
  · subst e
    simp only [if_true]
    by_cases e0 : s = 0
    · subst e0; simp
    · simp [e0]
  · simp [e]
theorem setMap_gr (h : AH) (A : AD) (g : Nat) (m : MS) (f : Nat → Int32) : up (setMap h A g m) 1 g (cArr (A 1 g) 64 f) = setMap h A g (f, m.2) := by
  funext s g'
  simp only [setMap, up, mObj]
  by_cases e : g' = g
  · subst e
    simp only [if_true]
    by_cases e0 : s = 1
    · subst e0; simp
    · simp [e0]
  · simp [e]
theorem setMap_heat (h : AH) (A : AD) (g : Nat) (m : MS) (f : Nat → Int32) : up (setMap h A g m) 2 g (iArr (A 2 g) 64 f) = setMap h A g (m.1, f, m.2.2) := by
  funext s g'
  simp only [setMap, up, mObj]
  by_cases e : g' = g
  · subst e
    simp only [if_true]
    by_cases e0 : s = 2
    · subst e0; simp
    · simp [e0]
  · simp [e]
theorem setMap_emb (h : AH) (A : AD) (g : Nat) (m : MS) (f : Nat → Int32) : up (setMap h A g m) 3 g (iArr (A 3 g) 64 f) = setMap h A g (m.1, m.2.1, f, m.2.2.2) := by
  funext s g'
  simp only [setMap, up, mObj]
  by_cases e : g' = g
  · subst e
    simp only [if_true]
    by_cases e0 : s = 3
    · subst e0; simp
    · simp [e0]
  · simp [e]
theorem setMap_temp (h : AH) (A : AD) (g : Nat) (m : MS) (f : Nat → Int32) : up (setMap h A g m) 4 g (iArr (A 4 g) 4 f) = setMap h A g (m.1, m.2.1, m.2.2.1, f, m.2.2.2.2) := by
  funext s g'
  simp only [setMap, up, mObj]
  by_cases e : g' = g
  · subst e
    simp only [if_true]
    by_cases e0 : s = 4
    · subst e0; simp
    · simp [e0]
  · simp [e]
theorem setMap_lost (h : AH) (A : AD) (g : Nat) (m : MS) (f : Nat → Int32) : up (setMap h A g m) 5 g (iArr (A 5 g) 4 f) = setMap h A g (m.1, m.2.1, m.2.2.1, m.2.2.2.1, f, m.2.2.2.2.2) := by
  funext s g'
  simp only [setMap, up, mObj]
  by_cases e : g' = g
  · subst e
    simp only [if_true]
    by_cases e0 : s = 5
    · subst e0; simp
    · simp [e0]
  · simp [e]
/-- how many of the first k cells aren't rock -/
def openN (f : Nat → Int32) : Nat → Int32
  | 0 => 0
  | k + 1 => if f k = 35 then openN f k else openN f k + 1
/-- how many of the first k stand before c -/
def rankN (f : Nat → Int32) (c : Nat) : Nat → Int32
  | 0 => 0
  | k + 1 => if f c < f k ∨ (f k = f c ∧ k < c) then rankN f c k + 1 else rankN f c k
def bitJ (i : Int32) : Int64 := 1 <<< (i.toInt64 &&& 63)
/-- the first k cells of a level, as bits -/
def levN (f : Nat → Int32) (v : Int32) : Nat → Int64
  | 0 => 0
  | k + 1 => if v ≤ f k then levN f v k ||| bitJ (nI k) else levN f v k
def openL (r f : Nat → Int32) (v : Int32) : Nat → Int64
  | 0 => 0
  | k + 1 => if ¬ r k = 35 ∧ f k ≤ v then openL r f v k ||| bitJ (nI k) else openL r f v k
def signC (m : MS) (c : Nat) : Int32 := if m.2.1 c = 0 then (if m.2.2.1 c = 0 then m.1 c else 101) else ((48 + (if m.2.1 c / 100 < 9 then m.2.1 c / 100 else 9)).toUInt32 % 65536).toInt32
def slowC (m : MS) (c : Nat) : Int32 := if m.1 c = 58 then 8 else if m.1 c = 126 then 2 else 4

set_option maxRecDepth 100000 in
theorem ev_slownessOf {l : Launch} {G : GG} (hl : l.stackTraces = false) {A : AD} {g : Nat} {m : MS} {h : AH} (H : isMap h A g m) {c : Nat} (hc : c < 64) :
    Ev l G 10 0 0 mX3_slownessOf [.ref (A 0 g), .int (nI c)] h (Rt (some (.int (slowC m c))) h) := by
  refine Ev.of hl (by decide) (Nat.le_of_ble_eq_true rfl) ?_
  refine g_aload_n (i := 0) dX3_slownessOf_0 rfl rfl ?_
  refine g_getf dX3_slownessOf_1 K_X3 (k := 0) fl_X3_9 (Nat.le_of_ble_eq_true rfl) H.1 rfl ?_
  refine g_iload_n (i := 1) dX3_slownessOf_4 rfl rfl ?_
  refine g_cald dX3_slownessOf_5 H.2.1 (ix_nI (by omega)) hc ?_
  refine g_bipush (v := 58) dX3_slownessOf_6 (by decide) ?_
  refine g_icmp_ne (tgt := 14) dX3_slownessOf_8 (by decide) (fun c8 => ?_) (fun c8 => ?_)
  · refine g_aload_n (i := 0) dX3_slownessOf_14 rfl rfl ?_
    refine g_getf dX3_slownessOf_15 K_X3 (k := 0) fl_X3_9 (Nat.le_of_ble_eq_true rfl) H.1 rfl ?_
    refine g_iload_n (i := 1) dX3_slownessOf_18 rfl rfl ?_
    refine g_cald dX3_slownessOf_19 H.2.1 (ix_nI (by omega)) hc ?_
    refine g_bipush (v := 126) dX3_slownessOf_20 (by decide) ?_
    refine g_icmp_ne (tgt := 29) dX3_slownessOf_22 (by decide) (fun c22 => ?_) (fun c22 => ?_)
    · refine g_iconst (v := 4) dX3_slownessOf_29 (by decide) ?_
      refine g_iret dX3_slownessOf_30 rfl rfl ?_
      exact ⟨by rw [slowC, if_neg c8, if_neg c22], rfl⟩
    · refine g_iconst (v := 2) dX3_slownessOf_25 (by decide) ?_
      refine g_goto (tgt := 30) dX3_slownessOf_26 (by decide) ?_
      refine g_iret dX3_slownessOf_30 rfl rfl ?_
      exact ⟨by rw [slowC, if_neg c8, if_pos c22], rfl⟩
  · refine g_bipush (v := 8) dX3_slownessOf_11 (by decide) ?_
    refine g_iret dX3_slownessOf_13 rfl rfl ?_
    exact ⟨by rw [slowC, if_pos c8], rfl⟩

set_option maxRecDepth 100000 in
theorem ev_countOpen {l : Launch} {G : GG} (hl : l.stackTraces = false) {A : AD} {g : Nat} {m : MS} {h : AH} (H : isMap h A g m) :
    Ev l G 11 0 0 mX3_countOpenCells [.ref (A 0 g)] h (Rt (some (.int (openN m.1 64))) h) := by
  refine Ev.of hl (by decide) (Nat.le_of_ble_eq_true rfl) ?_
  have loop : ∀ (n9 : Nat) (k : Nat), 64 - k < n9 → k ≤ 64 → Go l G mX3_countOpenCells 11 0 0 (Rt (some (.int (openN m.1 64))) h) 4 [some (.ref (A 0 g)), some (.int (openN m.1 k)), some (.int (nI k))] [] h := by
    intro n9
    induction n9 with
    | zero => intros; omega
    | succ n9 ih =>
      intro k hf hk
      refine g_iload_n (i := 2) dX3_countOpenCells_4 rfl rfl ?_
      refine g_bipush (v := 64) dX3_countOpenCells_5 (by decide) ?_
      refine g_icmp_ge (tgt := 27) dX3_countOpenCells_7 (by decide) (fun c7 => ?_) (fun c7 => ?_)
      · refine g_iload_n (i := 1) dX3_countOpenCells_27 rfl rfl ?_
        refine g_iret dX3_countOpenCells_28 rfl rfl ?_
        exact ⟨by rw [show k = 64 by have := (le_nI (a := 64) rfl (by omega) (by omega)).mp c7; omega], rfl⟩
      · have hk2 : k < 64 := by have := mt (le_nI (a := 64) (b := k) rfl (by omega) (by omega)).mpr c7; omega
        refine g_aload_n (i := 0) dX3_countOpenCells_10 rfl rfl ?_
        refine g_iload_n (i := 2) dX3_countOpenCells_11 rfl rfl ?_
        refine g_callV (ev_isRock hl H (ix_nI (by omega)) hk2) dX3_countOpenCells_12 ml_X3_44 cvX3_isRock K_X3 rfl H.1 rfl rfl (Nat.le_of_ble_eq_true rfl) (Nat.le_of_ble_eq_true rfl) (Nat.zero_le _) (Nat.zero_le _) (kr_rt ?_) kx_rt
        refine g_if_ne (tgt := 21) dX3_countOpenCells_15 (by decide) (fun c15 => ?_) (fun c15 => ?_)
        · refine g_iinc (w := 1) dX3_countOpenCells_21 (by decide) rfl (nI_succ k).symm (Nat.le_of_ble_eq_true rfl) ?_
          refine g_goto (tgt := 4) dX3_countOpenCells_24 (by decide) ?_
          have z := ih (k + 1) (by omega) (by omega)
          rw [show openN m.1 (k + 1) = _ from if_pos (ite_1 c15)] at z
          exact z
        · refine g_iinc (w := 1) dX3_countOpenCells_18 (by decide) rfl rfl (Nat.le_of_ble_eq_true rfl) ?_
          refine g_iinc (w := 1) dX3_countOpenCells_21 (by decide) rfl (nI_succ k).symm (Nat.le_of_ble_eq_true rfl) ?_
          refine g_goto (tgt := 4) dX3_countOpenCells_24 (by decide) ?_
          have z := ih (k + 1) (by omega) (by omega)
          rw [show openN m.1 (k + 1) = _ from if_neg (ite_0 c15)] at z
          exact z
  refine g_iconst (v := 0) dX3_countOpenCells_0 (by decide) ?_
  refine g_istore_n (i := 1) dX3_countOpenCells_1 rfl (Nat.le_of_ble_eq_true rfl) ?_
  refine g_iconst (v := 0) dX3_countOpenCells_2 (by decide) ?_
  refine g_istore_n (i := 2) dX3_countOpenCells_3 rfl (Nat.le_of_ble_eq_true rfl) ?_
  exact loop 65 0 (by omega) (by omega)

set_option maxRecDepth 100000 in
theorem ev_rankOf {l : Launch} {G : GG} (hl : l.stackTraces = false) {A : AD} {g : Nat} {m : MS} {h : AH} (H : isMap h A g m) {c : Nat} (hc : c < 64) :
    Ev l G 10 0 0 mX3_rankOf [.ref (A 0 g), .int (nI c)] h (Rt (some (.int (rankN m.2.1 c 64))) h) := by
  refine Ev.of hl (by decide) (Nat.le_of_ble_eq_true rfl) ?_
  have loop : ∀ (n9 : Nat) (k : Nat), 64 - k < n9 → k ≤ 64 → Go l G mX3_rankOf 10 0 0 (Rt (some (.int (rankN m.2.1 c 64))) h) 4 [some (.ref (A 0 g)), some (.int (nI c)), some (.int (rankN m.2.1 c k)), some (.int (nI k))] [] h := by
    intro n9
    induction n9 with
    | zero => intros; omega
    | succ n9 ih =>
      intro k hf hk
      refine g_iload_n (i := 3) dX3_rankOf_4 rfl rfl ?_
      refine g_bipush (v := 64) dX3_rankOf_5 (by decide) ?_
      refine g_icmp_ge (tgt := 54) dX3_rankOf_7 (by decide) (fun c7 => ?_) (fun c7 => ?_)
      · refine g_iload_n (i := 2) dX3_rankOf_54 rfl rfl ?_
        refine g_iret dX3_rankOf_55 rfl rfl ?_
        exact ⟨by rw [show k = 64 by have := (le_nI (a := 64) rfl (by omega) (by omega)).mp c7; omega], rfl⟩
      · have hk2 : k < 64 := by have := mt (le_nI (a := 64) (b := k) rfl (by omega) (by omega)).mpr c7; omega
        refine g_aload_n (i := 0) dX3_rankOf_10 rfl rfl ?_
        refine g_getf dX3_rankOf_11 K_X3 (k := 1) fl_X3_15 (Nat.le_of_ble_eq_true rfl) H.1 rfl ?_
        refine g_iload_n (i := 3) dX3_rankOf_14 rfl rfl ?_
        refine g_iald dX3_rankOf_15 H.2.2.1 (ix_nI (by omega)) (by omega) ?_
        refine g_aload_n (i := 0) dX3_rankOf_16 rfl rfl ?_
        refine g_getf dX3_rankOf_17 K_X3 (k := 1) fl_X3_15 (Nat.le_of_ble_eq_true rfl) H.1 rfl ?_
        refine g_iload_n (i := 1) dX3_rankOf_20 rfl rfl ?_
        refine g_iald dX3_rankOf_21 H.2.2.1 (ix_nI (by omega)) (by omega) ?_
        refine g_icmp_gt (tgt := 45) dX3_rankOf_22 (by decide) (fun c22 => ?_) (fun c22 => ?_)
        · refine g_iinc (w := 1) dX3_rankOf_45 (by decide) rfl rfl (Nat.le_of_ble_eq_true rfl) ?_
          refine g_iinc (w := 1) dX3_rankOf_48 (by decide) rfl (nI_succ k).symm (Nat.le_of_ble_eq_true rfl) ?_
          refine g_goto (tgt := 4) dX3_rankOf_51 (by decide) ?_
          have z := ih (k + 1) (by omega) (by omega)
          rw [show rankN m.2.1 c (k + 1) = _ from if_pos (Or.inl c22)] at z
          exact z
        · refine g_aload_n (i := 0) dX3_rankOf_25 rfl rfl ?_
          refine g_getf dX3_rankOf_26 K_X3 (k := 1) fl_X3_15 (Nat.le_of_ble_eq_true rfl) H.1 rfl ?_
          refine g_iload_n (i := 3) dX3_rankOf_29 rfl rfl ?_
          refine g_iald dX3_rankOf_30 H.2.2.1 (ix_nI (by omega)) (by omega) ?_
          refine g_aload_n (i := 0) dX3_rankOf_31 rfl rfl ?_
          refine g_getf dX3_rankOf_32 K_X3 (k := 1) fl_X3_15 (Nat.le_of_ble_eq_true rfl) H.1 rfl ?_
          refine g_iload_n (i := 1) dX3_rankOf_35 rfl rfl ?_
          refine g_iald dX3_rankOf_36 H.2.2.1 (ix_nI (by omega)) (by omega) ?_
          refine g_icmp_ne (tgt := 48) dX3_rankOf_37 (by decide) (fun c37 => ?_) (fun c37 => ?_)
          · refine g_iinc (w := 1) dX3_rankOf_48 (by decide) rfl (nI_succ k).symm (Nat.le_of_ble_eq_true rfl) ?_
            refine g_goto (tgt := 4) dX3_rankOf_51 (by decide) ?_
            have z := ih (k + 1) (by omega) (by omega)
            rw [show rankN m.2.1 c (k + 1) = _ from if_neg (fun q => q.elim c22 (fun z => c37 z.1))] at z
            exact z
          · refine g_iload_n (i := 3) dX3_rankOf_40 rfl rfl ?_
            refine g_iload_n (i := 1) dX3_rankOf_41 rfl rfl ?_
            refine g_icmp_ge (tgt := 48) dX3_rankOf_42 (by decide) (fun c42 => ?_) (fun c42 => ?_)
            · refine g_iinc (w := 1) dX3_rankOf_48 (by decide) rfl (nI_succ k).symm (Nat.le_of_ble_eq_true rfl) ?_
              refine g_goto (tgt := 4) dX3_rankOf_51 (by decide) ?_
              have z := ih (k + 1) (by omega) (by omega)
              rw [show rankN m.2.1 c (k + 1) = _ from if_neg (fun q => q.elim c22 (fun z => by have := (le_nI (a := c) rfl (by omega) (by omega)).mp c42; omega))] at z
              exact z
            · refine g_iinc (w := 1) dX3_rankOf_45 (by decide) rfl rfl (Nat.le_of_ble_eq_true rfl) ?_
              refine g_iinc (w := 1) dX3_rankOf_48 (by decide) rfl (nI_succ k).symm (Nat.le_of_ble_eq_true rfl) ?_
              refine g_goto (tgt := 4) dX3_rankOf_51 (by decide) ?_
              have z := ih (k + 1) (by omega) (by omega)
              rw [show rankN m.2.1 c (k + 1) = _ from if_pos (Or.inr ⟨c37, by have := mt (le_nI (a := c) (b := k) rfl (by omega) (by omega)).mpr c42; omega⟩)] at z
              exact z
  refine g_iconst (v := 0) dX3_rankOf_0 (by decide) ?_
  refine g_istore_n (i := 2) dX3_rankOf_1 rfl (Nat.le_of_ble_eq_true rfl) ?_
  refine g_iconst (v := 0) dX3_rankOf_2 (by decide) ?_
  refine g_istore_n (i := 3) dX3_rankOf_3 rfl (Nat.le_of_ble_eq_true rfl) ?_
  exact loop 65 0 (by omega) (by omega)

set_option maxRecDepth 100000 in
theorem ev_bitOf {l : Launch} {G : GG} (hl : l.stackTraces = false) {i : Int32} {h : AH} :
    Ev l G 10 0 0 mX6_bitOf [.int i] h (Rt (some (.long (bitJ i))) h) := by
  refine Ev.of hl (by decide) (Nat.le_of_ble_eq_true rfl) ?_
  refine g_lconst (v := 1) dX6_bitOf_0 (by decide) ?_
  refine g_iload_n (i := 0) dX6_bitOf_1 rfl rfl ?_
  refine g_lshl dX6_bitOf_2 ?_
  refine g_lret dX6_bitOf_3 rfl ?_
  exact ⟨rfl, rfl⟩

set_option maxRecDepth 100000 in
theorem ev_cellsOfLevel {l : Launch} {G : GG} (hl : l.stackTraces = false) {A : AD} {g : Nat} {m : MS} {h : AH} (H : isMap h A g m) {v : Int32} :
    Ev l G 11 0 0 mX3_cellsOfLevel [.ref (A 0 g), .int v] h (Rt (some (.long (levN m.2.1 v 64))) h) := by
  refine Ev.of hl (by decide) (Nat.le_of_ble_eq_true rfl) ?_
  have loop : ∀ (n9 : Nat) (k : Nat), 64 - k < n9 → k ≤ 64 → Go l G mX3_cellsOfLevel 11 0 0 (Rt (some (.long (levN m.2.1 v 64))) h) 5 [some (.ref (A 0 g)), some (.int v), some (.long (levN m.2.1 v k)), none, some (.int (nI k))] [] h := by
    intro n9
    induction n9 with
    | zero => intros; omega
    | succ n9 ih =>
      intro k hf hk
      refine g_iload dX3_cellsOfLevel_5 rfl ?_
      refine g_bipush (v := 64) dX3_cellsOfLevel_7 (by decide) ?_
      refine g_icmp_ge (tgt := 37) dX3_cellsOfLevel_9 (by decide) (fun c9 => ?_) (fun c9 => ?_)
      · refine g_lload_n (i := 2) dX3_cellsOfLevel_37 rfl rfl ?_
        refine g_lret dX3_cellsOfLevel_38 rfl ?_
        exact ⟨by rw [show k = 64 by have := (le_nI (a := 64) rfl (by omega) (by omega)).mp c9; omega], rfl⟩
      · have hk2 : k < 64 := by have := mt (le_nI (a := 64) (b := k) rfl (by omega) (by omega)).mpr c9; omega
        refine g_aload_n (i := 0) dX3_cellsOfLevel_12 rfl rfl ?_
        refine g_getf dX3_cellsOfLevel_13 K_X3 (k := 1) fl_X3_15 (Nat.le_of_ble_eq_true rfl) H.1 rfl ?_
        refine g_iload dX3_cellsOfLevel_16 rfl ?_
        refine g_iald dX3_cellsOfLevel_18 H.2.2.1 (ix_nI (by omega)) (by omega) ?_
        refine g_iload_n (i := 1) dX3_cellsOfLevel_19 rfl rfl ?_
        refine g_icmp_lt (tgt := 31) dX3_cellsOfLevel_20 (by decide) (fun c20 => ?_) (fun c20 => ?_)
        · refine g_iinc (w := 1) dX3_cellsOfLevel_31 (by decide) rfl (nI_succ k).symm (Nat.le_of_ble_eq_true rfl) ?_
          refine g_goto (tgt := 5) dX3_cellsOfLevel_34 (by decide) ?_
          have z := ih (k + 1) (by omega) (by omega)
          rw [show levN m.2.1 v (k + 1) = _ from if_neg (Int32.not_le.mpr c20)] at z
          exact z
        · refine g_lload_n (i := 2) dX3_cellsOfLevel_23 rfl rfl ?_
          refine g_iload dX3_cellsOfLevel_24 rfl ?_
          refine g_callS (ev_bitOf hl) dX3_cellsOfLevel_26 ml_X3_48 csX6_bitOf rfl rfl (Nat.le_of_ble_eq_true rfl) (Nat.le_of_ble_eq_true rfl) (Nat.zero_le _) (Nat.zero_le _) (kr_rt ?_) kx_rt
          refine g_lor dX3_cellsOfLevel_29 ?_
          refine g_lstore_n (i := 2) dX3_cellsOfLevel_30 rfl (Nat.le_of_ble_eq_true rfl) ?_
          refine g_iinc (w := 1) dX3_cellsOfLevel_31 (by decide) rfl (nI_succ k).symm (Nat.le_of_ble_eq_true rfl) ?_
          refine g_goto (tgt := 5) dX3_cellsOfLevel_34 (by decide) ?_
          have z := ih (k + 1) (by omega) (by omega)
          rw [show levN m.2.1 v (k + 1) = _ from if_pos (Int32.not_lt.mp c20)] at z
          exact z
  refine g_lconst (v := 0) dX3_cellsOfLevel_0 (by decide) ?_
  refine g_lstore_n (i := 2) dX3_cellsOfLevel_1 rfl (Nat.le_of_ble_eq_true rfl) ?_
  refine g_iconst (v := 0) dX3_cellsOfLevel_2 (by decide) ?_
  refine g_istore dX3_cellsOfLevel_3 (Nat.le_of_ble_eq_true rfl) ?_
  exact loop 65 0 (by omega) (by omega)

set_option maxRecDepth 100000 in
theorem ev_openCellsUpTo {l : Launch} {G : GG} (hl : l.stackTraces = false) {A : AD} {g : Nat} {m : MS} {h : AH} (H : isMap h A g m) {v : Int32} :
    Ev l G 11 0 0 mX3_openCellsUpTo [.ref (A 0 g), .int v] h (Rt (some (.long (openL m.1 m.2.1 v 64))) h) := by
  refine Ev.of hl (by decide) (Nat.le_of_ble_eq_true rfl) ?_
  have loop : ∀ (n9 : Nat) (k : Nat), 64 - k < n9 → k ≤ 64 → Go l G mX3_openCellsUpTo 11 0 0 (Rt (some (.long (openL m.1 m.2.1 v 64))) h) 5 [some (.ref (A 0 g)), some (.int v), some (.long (openL m.1 m.2.1 v k)), none, some (.int (nI k))] [] h := by
    intro n9
    induction n9 with
    | zero => intros; omega
    | succ n9 ih =>
      intro k hf hk
      refine g_iload dX3_openCellsUpTo_5 rfl ?_
      refine g_bipush (v := 64) dX3_openCellsUpTo_7 (by decide) ?_
      refine g_icmp_ge (tgt := 46) dX3_openCellsUpTo_9 (by decide) (fun c9 => ?_) (fun c9 => ?_)
      · refine g_lload_n (i := 2) dX3_openCellsUpTo_46 rfl rfl ?_
        refine g_lret dX3_openCellsUpTo_47 rfl ?_
        exact ⟨by rw [show k = 64 by have := (le_nI (a := 64) rfl (by omega) (by omega)).mp c9; omega], rfl⟩
      · have hk2 : k < 64 := by have := mt (le_nI (a := 64) (b := k) rfl (by omega) (by omega)).mpr c9; omega
        refine g_aload_n (i := 0) dX3_openCellsUpTo_12 rfl rfl ?_
        refine g_iload dX3_openCellsUpTo_13 rfl ?_
        refine g_callV (ev_isRock hl H (ix_nI (by omega)) hk2) dX3_openCellsUpTo_15 ml_X3_44 cvX3_isRock K_X3 rfl H.1 rfl rfl (Nat.le_of_ble_eq_true rfl) (Nat.le_of_ble_eq_true rfl) (Nat.zero_le _) (Nat.zero_le _) (kr_rt ?_) kx_rt
        refine g_if_ne (tgt := 40) dX3_openCellsUpTo_18 (by decide) (fun c18 => ?_) (fun c18 => ?_)
        · refine g_iinc (w := 1) dX3_openCellsUpTo_40 (by decide) rfl (nI_succ k).symm (Nat.le_of_ble_eq_true rfl) ?_
          refine g_goto (tgt := 5) dX3_openCellsUpTo_43 (by decide) ?_
          have z := ih (k + 1) (by omega) (by omega)
          rw [show openL m.1 m.2.1 v (k + 1) = _ from if_neg (fun q => q.1 (ite_1 c18))] at z
          exact z
        · refine g_aload_n (i := 0) dX3_openCellsUpTo_21 rfl rfl ?_
          refine g_getf dX3_openCellsUpTo_22 K_X3 (k := 1) fl_X3_15 (Nat.le_of_ble_eq_true rfl) H.1 rfl ?_
          refine g_iload dX3_openCellsUpTo_25 rfl ?_
          refine g_iald dX3_openCellsUpTo_27 H.2.2.1 (ix_nI (by omega)) (by omega) ?_
          refine g_iload_n (i := 1) dX3_openCellsUpTo_28 rfl rfl ?_
          refine g_icmp_gt (tgt := 40) dX3_openCellsUpTo_29 (by decide) (fun c29 => ?_) (fun c29 => ?_)
          · refine g_iinc (w := 1) dX3_openCellsUpTo_40 (by decide) rfl (nI_succ k).symm (Nat.le_of_ble_eq_true rfl) ?_
            refine g_goto (tgt := 5) dX3_openCellsUpTo_43 (by decide) ?_
            have z := ih (k + 1) (by omega) (by omega)
            rw [show openL m.1 m.2.1 v (k + 1) = _ from if_neg (fun q => absurd q.2 (Int32.not_le.mpr c29))] at z
            exact z
          · refine g_lload_n (i := 2) dX3_openCellsUpTo_32 rfl rfl ?_
            refine g_iload dX3_openCellsUpTo_33 rfl ?_
            refine g_callS (ev_bitOf hl) dX3_openCellsUpTo_35 ml_X3_48 csX6_bitOf rfl rfl (Nat.le_of_ble_eq_true rfl) (Nat.le_of_ble_eq_true rfl) (Nat.zero_le _) (Nat.zero_le _) (kr_rt ?_) kx_rt
            refine g_lor dX3_openCellsUpTo_38 ?_
            refine g_lstore_n (i := 2) dX3_openCellsUpTo_39 rfl (Nat.le_of_ble_eq_true rfl) ?_
            refine g_iinc (w := 1) dX3_openCellsUpTo_40 (by decide) rfl (nI_succ k).symm (Nat.le_of_ble_eq_true rfl) ?_
            refine g_goto (tgt := 5) dX3_openCellsUpTo_43 (by decide) ?_
            have z := ih (k + 1) (by omega) (by omega)
            rw [show openL m.1 m.2.1 v (k + 1) = _ from if_pos ⟨ite_0 c18, Int32.not_lt.mp c29⟩] at z
            exact z
  refine g_lconst (v := 0) dX3_openCellsUpTo_0 (by decide) ?_
  refine g_lstore_n (i := 2) dX3_openCellsUpTo_1 rfl (Nat.le_of_ble_eq_true rfl) ?_
  refine g_iconst (v := 0) dX3_openCellsUpTo_2 (by decide) ?_
  refine g_istore dX3_openCellsUpTo_3 (Nat.le_of_ble_eq_true rfl) ?_
  exact loop 65 0 (by omega) (by omega)

set_option maxRecDepth 100000 in
theorem ev_signOf {l : Launch} {G : GG} (hl : l.stackTraces = false) {A : AD} {g : Nat} {m : MS} {h : AH} (H : isMap h A g m) {c : Nat} (hc : c < 64) (hn : narrow .char (.int (signC m c)) = .int (signC m c)) :
    Ev l G 11 0 0 mX3_signOf [.ref (A 0 g), .int (nI c)] h (Rt (some (.int (signC m c))) h) := by
  refine Ev.of hl (by decide) (Nat.le_of_ble_eq_true rfl) ?_
  refine g_aload_n (i := 0) dX3_signOf_0 rfl rfl ?_
  refine g_getf dX3_signOf_1 K_X3 (k := 1) fl_X3_15 (Nat.le_of_ble_eq_true rfl) H.1 rfl ?_
  refine g_iload_n (i := 1) dX3_signOf_4 rfl rfl ?_
  refine g_iald dX3_signOf_5 H.2.2.1 (ix_nI (by omega)) hc ?_
  refine g_if_ne (tgt := 30) dX3_signOf_6 (by decide) (fun c6 => ?_) (fun c6 => ?_)
  · refine g_bipush (v := 48) dX3_signOf_30 (by decide) ?_
    refine g_bipush (v := 9) dX3_signOf_32 (by decide) ?_
    refine g_aload_n (i := 0) dX3_signOf_34 rfl rfl ?_
    refine g_getf dX3_signOf_35 K_X3 (k := 1) fl_X3_15 (Nat.le_of_ble_eq_true rfl) H.1 rfl ?_
    refine g_iload_n (i := 1) dX3_signOf_38 rfl rfl ?_
    refine g_iald dX3_signOf_39 H.2.2.1 (ix_nI (by omega)) hc ?_
    refine g_bipush (v := 100) dX3_signOf_40 (by decide) ?_
    refine g_idiv dX3_signOf_42 (by decide) ?_
    refine g_min dX3_signOf_43 ml_X3_54 w_static_yJ9_min_7cf53 w_init_java_lang_Math w_code_Math_min (Nat.le_of_ble_eq_true rfl) (Nat.le_of_ble_eq_true rfl) ?_
    refine g_iadd dX3_signOf_46 ?_
    refine g_i2c dX3_signOf_47 rfl ?_
    rw [show ((48 + (if m.2.1 c / 100 < 9 then m.2.1 c / 100 else 9)).toUInt32 % 65536).toInt32 = signC m c from (if_neg c6).symm]
    refine g_iret dX3_signOf_48 rfl hn ?_
    exact ⟨rfl, rfl⟩
  · refine g_aload_n (i := 0) dX3_signOf_9 rfl rfl ?_
    refine g_getf dX3_signOf_10 K_X3 (k := 2) fl_X3_19 (Nat.le_of_ble_eq_true rfl) H.1 rfl ?_
    refine g_iload_n (i := 1) dX3_signOf_13 rfl rfl ?_
    refine g_iald dX3_signOf_14 H.2.2.2.1 (ix_nI (by omega)) hc ?_
    refine g_if_ne (tgt := 27) dX3_signOf_15 (by decide) (fun c15 => ?_) (fun c15 => ?_)
    · refine g_bipush (v := 101) dX3_signOf_27 (by decide) ?_
      refine g_iret dX3_signOf_29 rfl (by first | (rw [show signC m c = m.1 c from (if_pos c6).trans (if_pos c15)] at hn; exact hn) | rfl) ?_
      exact ⟨by rw [signC, if_pos c6, if_neg c15], rfl⟩
    · refine g_aload_n (i := 0) dX3_signOf_18 rfl rfl ?_
      refine g_getf dX3_signOf_19 K_X3 (k := 0) fl_X3_9 (Nat.le_of_ble_eq_true rfl) H.1 rfl ?_
      refine g_iload_n (i := 1) dX3_signOf_22 rfl rfl ?_
      refine g_cald dX3_signOf_23 H.2.1 (ix_nI (by omega)) hc ?_
      refine g_goto (tgt := 29) dX3_signOf_24 (by decide) ?_
      refine g_iret dX3_signOf_29 rfl (by first | (rw [show signC m c = m.1 c from (if_pos c6).trans (if_pos c15)] at hn; exact hn) | rfl) ?_
      exact ⟨by rw [signC, if_pos c6, if_pos c15], rfl⟩

set_option maxRecDepth 100000 in
theorem ev_addHeat {l : Launch} {G : GG} (hl : l.stackTraces = false) {A : AD} {g : Nat} {m : MS} {h : AH} (H : isMap h A g m) {c : Nat} (hc : c < 64) {x : Int32} :
    Ev l G 10 0 0 mX3_addHeat [.ref (A 0 g), .int (nI c), .int x] h (Rt none (setMap h A g (m.1, va_up m.2.1 c (m.2.1 c + x), m.2.2.1, m.2.2.2.1, m.2.2.2.2.1, m.2.2.2.2.2.1, m.2.2.2.2.2.2.1, m.2.2.2.2.2.2.2 + x))) := by
  refine Ev.of hl (by decide) (Nat.le_of_ble_eq_true rfl) ?_
  refine Go.heap (setMap_self H).symm ?_
  refine g_aload_n (i := 0) dX3_addHeat_0 rfl rfl ?_
  refine g_getf dX3_addHeat_1 K_X3 (k := 1) fl_X3_15 (Nat.le_of_ble_eq_true rfl) (isMap_set _ _ _ _).1 rfl ?_
  refine g_iload_n (i := 1) dX3_addHeat_4 rfl rfl ?_
  refine g_dup2 dX3_addHeat_5 rfl rfl ?_
  refine g_iald dX3_addHeat_6 (isMap_set _ _ _ _).2.2.1 (ix_nI (by omega)) hc ?_
  refine g_iload_n (i := 2) dX3_addHeat_7 rfl rfl ?_
  refine g_iadd dX3_addHeat_8 ?_
  refine g_iast dX3_addHeat_9 (isMap_set _ _ _ _).2.2.1 (ix_nI (by omega)) hc rfl (Go.heap (setMap_heat _ _ _ _ _) ?_)
  refine g_aload_n (i := 0) dX3_addHeat_10 rfl rfl ?_
  refine g_dup dX3_addHeat_11 rfl ?_
  refine g_getf dX3_addHeat_12 K_X3 (k := 7) fl_X3_35 (Nat.le_of_ble_eq_true rfl) (isMap_set _ _ _ _).1 rfl ?_
  refine g_iload_n (i := 2) dX3_addHeat_15 rfl rfl ?_
  refine g_iadd dX3_addHeat_16 ?_
  refine g_putf dX3_addHeat_17 K_X3 (k := 7) fl_X3_35 (Nat.le_of_ble_eq_true rfl) rfl (isMap_set _ _ _ _).1 (Nat.le_of_ble_eq_true rfl) rfl rfl (Go.heap (setMap_obj _ _ _ _ _ _ _) ?_)
  refine g_vret dX3_addHeat_20 rfl ?_
  exact ⟨rfl, rfl⟩

