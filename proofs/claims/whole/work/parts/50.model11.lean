/-! Model: reading the commands (by wip/whole/gen/m40.py). -/
/-- place, wrong, how many commands -/
def rf (f : Nat → Int32) (p : Nat) (w : Bool) (n : Nat) : Nat → Int32 := fun k => if k = 25 then nI p else if k = 27 then (if w = true then 1 else 0) else if k = 24 then nI n else f k
def hrI (T : TX) (p : Nat) : Int32 := if p < T.2 then nI (T.1 p) else -1
def exM (T : TX) (c : Int32) (p : Nat) (w : Bool) : Nat × Bool := if w = true then (p, true) else if nxt T p c = true then (p + 1, false) else (p, true)
def dgM (T : TX) (p : Nat) (w : Bool) : Int32 × Nat × Bool := if w = true then (0, p, true) else match dig T p with
  | none => (0, p, true)
  | some d => (nI d, p + 1, false)
def nbM (T : TX) (p : Nat) (w : Bool) : Int32 × Nat × Bool := if w = true then (0, p, true) else match dig T p with
  | none => (0, p, true)
  | some d => (nI (mor T 3 (p + 1) d).2, (mor T 3 (p + 1) d).1, false)
def nbB (T : TX) (c : Int32) (p : Nat) (w : Bool) : Int32 × Nat × Bool := nbM T (exM T c p w).1 (exM T c p w).2
def ghM (T : TX) (p : Nat) (w : Bool) : Int32 × Nat × Bool := if w = true then (hrI T p, p, true) else if groundP (hrI T p) then (hrI T p, p + 1, false) else (hrI T p, p, true)
def bgN (i : Nat) : Nat := [0, 5, 12, 19, 24].getD i 0
def ltN (i : Nat) : Nat := [104, 101, 97, 116, 32, 103, 114, 111, 117, 110, 100, 32, 98, 111, 114, 100, 101, 114, 32, 112, 97, 115, 115, 32].getD i 0
/-- how many letters of word i stand from p on, n of them seen -/
def lkN (T : TX) (p i : Nat) : Nat → Nat → Nat
  | 0, n => n
  | j + 1, n => if p + n < T.2 ∧ T.1 (p + n) = ltN (bgN i + n) then lkN T p i j (n + 1) else n
def lkW (T : TX) (p i : Nat) : Nat := lkN T p i (bgN (i + 1) - bgN i) 0
def bwN (T : TX) (p : Nat) : Nat → Nat
  | 0 => 0
  | k + 1 => if lkW T p (bwN T p k) < lkW T p (k + 1) then k + 1 else bwN T p k
/-- the arguments of word i: the three numbers, place, wrong -/
def raM (T : TX) (i p : Nat) : (Int32 × Int32 × Int32) × Nat × Bool :=
  if i = 0 then (((dgM T p false).1, (dgM T (dgM T p false).2.1 (dgM T p false).2.2).1, (nbB T 43 (dgM T (dgM T p false).2.1 (dgM T p false).2.2).2.1 (dgM T (dgM T p false).2.1 (dgM T p false).2.2).2.2).1), (nbB T 43 (dgM T (dgM T p false).2.1 (dgM T p false).2.2).2.1 (dgM T (dgM T p false).2.1 (dgM T p false).2.2).2.2).2)
  else if i = 1 then (((dgM T p false).1, (dgM T (dgM T p false).2.1 (dgM T p false).2.2).1, (ghM T (dgM T (dgM T p false).2.1 (dgM T p false).2.2).2.1 (dgM T (dgM T p false).2.1 (dgM T p false).2.2).2.2).1), (ghM T (dgM T (dgM T p false).2.1 (dgM T p false).2.2).2.1 (dgM T (dgM T p false).2.1 (dgM T p false).2.2).2.2).2)
  else if i = 2 then (((dgM T p false).1, (nbB T 61 (dgM T p false).2.1 (dgM T p false).2.2).1, 0), (nbB T 61 (dgM T p false).2.1 (dgM T p false).2.2).2)
  else (((nbM T p false).1, 0, 0), (nbM T p false).2)
/-- the commands with the arguments of word i written from t on -/
def raC (T : TX) (i p : Nat) (C : Nat → Int32) (t : Nat) : Nat → Int32 :=
  if i = 0 ∨ i = 1 then va_up (va_up (va_up C t (raM T i p).1.1) (t + 1) (raM T i p).1.2.1) (t + 2) (raM T i p).1.2.2
  else if i = 2 then va_up (va_up C t (raM T i p).1.1) (t + 1) (raM T i p).1.2.1
  else va_up C t (raM T i p).1.1
section RF
variable {h : AH} {A : AD} {a : Nat → Nat → Int32} {f : Nat → Int32} {p p' n n' : Nat} {w w' : Bool} {C x : Nat → Int32} {T : TX} {c v : Int32}
theorem rf_25 (e : v = nI p') : va_up (rf f p w n) 25 v = rf f p' w n := by
  subst e
  funext k
  unfold va_up rf
  by_cases e : k = 25 <;> simp [e]
theorem rf_27 (e : v = if w' = true then 1 else 0) : va_up (rf f p w n) 27 v = rf f p w' n := by
  subst e
  funext k
  unfold va_up rf
  by_cases e : k = 27
  · subst e; simp
  · simp [e]
theorem rf_24 (e : v = nI n') : va_up (rf f p w n) 24 v = rf f p w n' := by
  subst e
  funext k
  unfold va_up rf
  by_cases e : k = 24
  · subst e; simp
  · simp [e]
theorem mo_r25 (e : v = nI p') : up (mo h A (a, rf f p w n)) 30 0 (moO A (va_up (rf f p w n) 25 v)) = mo h A (a, rf f p' w n) := mo_f25.trans (by rw [rf_25 e])
theorem mo_r27 (e : v = if w' = true then 1 else 0) : up (mo h A (a, rf f p w n)) 30 0 (moO A (va_up (rf f p w n) 27 v)) = mo h A (a, rf f p w' n) := mo_f27.trans (by rw [rf_27 e])
theorem mo_r24 (e : v = nI n') : up (mo h A (a, rf f p w n)) 30 0 (moO A (va_up (rf f p w n) 24 v)) = mo h A (a, rf f p w n') := mo_f24.trans (by rw [rf_24 e])
theorem mo_p45 : mo h A (va_up a 14 C, f) 45 0 = some (iArr (A 45 0) 244 C) := rfl
theorem mo_q45 : up (mo h A (va_up a 14 C, f)) 45 0 (iArr (A 45 0) 244 x) = mo h A (va_up a 14 x, f) := by rw [mo_a14, va_up2]
theorem hr_t (h : p < T.2) : hrI T p = nI (T.1 p) := if_pos h
theorem hr_f (h : ¬ p < T.2) : hrI T p = -1 := if_neg h
theorem hr_nx (hT : tOk T) (hc : ¬ c = -1) : hrI T p = c ↔ nxt T p c = true := by
  by_cases h : p < T.2
  · rw [hr_t h]
    exact ⟨fun e => nxt_t h e, fun e => (of_decide_eq_true e).2⟩
  · rw [hr_f h]
    exact ⟨fun e => absurd e.symm hc, fun e => absurd (of_decide_eq_true e).1 h⟩
theorem hr_dig (hT : tOk T) {d : Nat} (h : dig T p = some d) : (48 ≤ hrI T p ∧ hrI T p ≤ 57) ∧ hrI T p - 48 = nI d ∧ d ≤ 9 ∧ p < T.2 := by
  unfold dig at h
  split at h
  · next q =>
    cases h
    have h1 := hT p q.1
    rw [hr_t q.1]
    refine ⟨⟨(le_nI (a := 48) rfl (by decide) (by omega)).mpr q.2.1, (nI_le' (b := 57) rfl (by omega) (by decide)).mpr q.2.2⟩, nI_sub (b := 48) q.2.1, by omega, q.1⟩
  · cases h
theorem hr_ndig (hT : tOk T) (h : dig T p = none) : ¬ (48 ≤ hrI T p ∧ hrI T p ≤ 57) := by
  intro q
  by_cases hp : p < T.2
  · rw [hr_t hp] at q
    have h1 := hT p hp
    have q1 := (le_nI (a := 48) rfl (by decide) (by omega)).mp q.1
    have q2 := (nI_le' (b := 57) rfl (by omega) (by decide)).mp q.2
    rw [dig, if_pos ⟨hp, q1, q2⟩] at h
    cases h
  · rw [hr_f hp] at q
    exact absurd q.1 (by decide)
theorem gr_lt (h : groundP (hrI T p)) : p < T.2 := by
  by_cases hp : p < T.2
  · exact hp
  · rw [hr_f hp] at h
    exact absurd h (by decide)
theorem exM_le (hp : p ≤ T.2) : (exM T c p w).1 ≤ T.2 := by
  unfold exM
  split
  · exact hp
  · split
    · next q => exact (of_decide_eq_true q).1
    · exact hp
theorem dgM_le (hp : p ≤ T.2) : (dgM T p w).2.1 ≤ T.2 := by
  unfold dgM
  split
  · exact hp
  · cases e : dig T p with
    | none => exact hp
    | some d => exact (dig_le e).2
theorem nbM_le (hp : p ≤ T.2) : (nbM T p w).2.1 ≤ T.2 := by
  unfold nbM
  split
  · exact hp
  · cases e : dig T p with
    | none => exact hp
    | some d => have := (dig_le e).2; exact (mor_le 3 (p + 1) d (by omega)).2.1
theorem ghM_le (hp : p ≤ T.2) : (ghM T p w).2.1 ≤ T.2 := by
  unfold ghM
  split
  · exact hp
  · split
    · next q => exact gr_lt q
    · exact hp
end RF
theorem bg_5 : ∀ i, i < 4 → bgN i ≤ bgN (i + 1) ∧ bgN (i + 1) ≤ 24 ∧ nI (bgN (i + 1)) - nI (bgN i) = nI (bgN (i + 1) - bgN i) ∧ bgN (i + 1) - bgN i ≤ 7 := by decide
theorem lt_24 : ∀ i, i < 24 → ltN i < 127 := by decide
theorem lkN_le {T : TX} {p i : Nat} : ∀ (j n : Nat), lkN T p i j n ≤ n + j ∧ n ≤ lkN T p i j n ∧ (p + n ≤ T.2 → p + lkN T p i j n ≤ T.2)
  | 0, n => ⟨Nat.le_refl _, Nat.le_refl _, fun h => h⟩
  | j + 1, n => by
    rw [lkN]
    split
    · next q =>
      have := lkN_le (T := T) (p := p) (i := i) j (n + 1)
      exact ⟨by omega, by omega, fun _ => this.2.2 (by omega)⟩
    · exact ⟨by omega, Nat.le_refl _, fun h => h⟩
theorem bwN_lt {T : TX} {p : Nat} : ∀ k, bwN T p k ≤ k
  | 0 => Nat.le_refl _
  | k + 1 => by
    have := bwN_lt (T := T) (p := p) k
    rw [bwN]
    split <;> omega

set_option maxRecDepth 100000 in
theorem ev_here {l : Launch} {G : GG} (hl : l.stackTraces = false) {A : AD} {h : AH} {a : Nat → Nat → Int32} {f : Nat → Int32} {T : TX} (h26 : f 26 = nI T.2) (h5 : ∀ i, i < T.2 → a 5 i = nI (T.1 i)) (h60 : T.2 ≤ 60) (hT : tOk T) {p n : Nat} (hp : p ≤ T.2) {w : Bool} :
    Ev l G 10 0 0 mX10_here [.ref (A 30 0)] (mo h A (a, rf f p w n)) (Rt (some (.int (hrI T p))) (mo h A (a, rf f p w n))) := by
  refine Ev.of hl (by decide) (Nat.le_of_ble_eq_true rfl) ?_
  refine g_aload_n (i := 0) dX10_here_0 rfl rfl ?_
  refine g_getf dX10_here_1 K_X10 (k := 25) fl_X10_214 (Nat.le_of_ble_eq_true rfl) mo_30 rfl ?_
  refine g_aload_n (i := 0) dX10_here_4 rfl rfl ?_
  refine g_getf dX10_here_5 K_X10 (k := 26) fl_X10_217 (Nat.le_of_ble_eq_true rfl) mo_30 rfl ?_
  refine g_icmp_ge (tgt := 23) dX10_here_8 (by decide) (fun c8 => ?_) (fun c8 => ?_)
  · refine g_iconst (v := (-1)) dX10_here_23 (by decide) ?_
    refine g_iret dX10_here_24 rfl rfl ?_
    exact ⟨by rw [hr_f (by have z := (le_nI (a := T.2) (b := p) h26 (by omega) (by omega)).mp c8; omega)], rfl⟩
  · have hlt : p < T.2 := by have z := mt (le_nI (a := T.2) (b := p) h26 (by omega) (by omega)).mpr c8; omega
    refine g_aload_n (i := 0) dX10_here_11 rfl rfl ?_
    refine g_getf dX10_here_12 K_X10 (k := 12) fl_X10_32 (Nat.le_of_ble_eq_true rfl) mo_30 rfl ?_
    refine g_aload_n (i := 0) dX10_here_15 rfl rfl ?_
    refine g_getf dX10_here_16 K_X10 (k := 25) fl_X10_214 (Nat.le_of_ble_eq_true rfl) mo_30 rfl ?_
    refine g_iald dX10_here_19 mo_36 (show ix (rf f p w n 25) p from ix_nI (by omega)) (show p < 60 by omega) ?_
    rw [h5 p hlt]
    refine g_goto (tgt := 24) dX10_here_20 (by decide) ?_
    refine g_iret dX10_here_24 rfl rfl ?_
    exact ⟨by rw [hr_t hlt], rfl⟩

set_option maxRecDepth 100000 in
theorem ev_expects_w {l : Launch} {G : GG} (hl : l.stackTraces = false) {A : AD} {h : AH} {a : Nat → Nat → Int32} {f : Nat → Int32} {T : TX} (h26 : f 26 = nI T.2) (h5 : ∀ i, i < T.2 → a 5 i = nI (T.1 i)) (h60 : T.2 ≤ 60) (hT : tOk T) {p n : Nat} (hp : p ≤ T.2) {c : Int32} :
    Ev l G 11 0 0 mX10_expects [.ref (A 30 0), .int c] (mo h A (a, rf f p true n)) (Rt none (mo h A (a, rf f p true n))) := by
  refine Ev.of hl (by decide) (Nat.le_of_ble_eq_true rfl) ?_
  refine g_aload_n (i := 0) dX10_expects_0 rfl rfl ?_
  refine g_aload_n (i := 0) dX10_expects_1 rfl rfl ?_
  refine g_getf dX10_expects_2 K_X10 (k := 27) fl_X10_220 (Nat.le_of_ble_eq_true rfl) mo_30 rfl ?_
  refine g_if_ne (tgt := 16) dX10_expects_5 (by decide) (fun c5 => ?_) (fun c5 => ?_)
  · refine g_iconst (v := 1) dX10_expects_16 (by decide) ?_
    refine g_goto (tgt := 21) dX10_expects_17 (by decide) ?_
    refine g_putf dX10_expects_21 K_X10 (k := 27) fl_X10_220 (Nat.le_of_ble_eq_true rfl) rfl mo_30 (Nat.le_of_ble_eq_true rfl) rfl rfl (Go.heap (mo_r27 (w' := true) rfl) ?_)
    refine g_aload_n (i := 0) dX10_expects_24 rfl rfl ?_
    refine g_dup dX10_expects_25 rfl ?_
    refine g_getf dX10_expects_26 K_X10 (k := 25) fl_X10_214 (Nat.le_of_ble_eq_true rfl) mo_30 rfl ?_
    refine g_aload_n (i := 0) dX10_expects_29 rfl rfl ?_
    refine g_getf dX10_expects_30 K_X10 (k := 27) fl_X10_220 (Nat.le_of_ble_eq_true rfl) mo_30 rfl ?_
    refine g_if_eq (tgt := 40) dX10_expects_33 (by decide) (fun c33 => ?_) (fun c33 => ?_)
    · exact absurd (show (1 : Int32) = 0 from c33) (by decide)
    · refine g_iconst (v := 0) dX10_expects_36 (by decide) ?_
      refine g_goto (tgt := 41) dX10_expects_37 (by decide) ?_
      refine g_iadd dX10_expects_41 ?_
      refine g_putf dX10_expects_42 K_X10 (k := 25) fl_X10_214 (Nat.le_of_ble_eq_true rfl) rfl mo_30 (Nat.le_of_ble_eq_true rfl) rfl rfl (Go.heap (mo_r25 (p' := p) (show rf f p true n 25 + 0 = nI p from Int32.add_zero _)) ?_)
      refine g_vret dX10_expects_45 rfl ?_
      exact ⟨rfl, rfl⟩
  · exact absurd (show (1 : Int32) = 0 from c5) (by decide)

set_option maxRecDepth 100000 in
theorem ev_expects_n {l : Launch} {G : GG} (hl : l.stackTraces = false) {A : AD} {h : AH} {a : Nat → Nat → Int32} {f : Nat → Int32} {T : TX} (h26 : f 26 = nI T.2) (h5 : ∀ i, i < T.2 → a 5 i = nI (T.1 i)) (h60 : T.2 ≤ 60) (hT : tOk T) {p n : Nat} (hp : p ≤ T.2) {c : Int32} (hc : ¬ hrI T p = c) :
    Ev l G 11 0 0 mX10_expects [.ref (A 30 0), .int c] (mo h A (a, rf f p false n)) (Rt none (mo h A (a, rf f p true n))) := by
  refine Ev.of hl (by decide) (Nat.le_of_ble_eq_true rfl) ?_
  refine g_aload_n (i := 0) dX10_expects_0 rfl rfl ?_
  refine g_aload_n (i := 0) dX10_expects_1 rfl rfl ?_
  refine g_getf dX10_expects_2 K_X10 (k := 27) fl_X10_220 (Nat.le_of_ble_eq_true rfl) mo_30 rfl ?_
  refine g_if_ne (tgt := 16) dX10_expects_5 (by decide) (fun c5 => ?_) (fun c5 => ?_)
  · exact absurd (show (0 : Int32) = 0 from rfl) c5
  · refine g_aload_n (i := 0) dX10_expects_8 rfl rfl ?_
    refine g_callV (ev_here hl h26 h5 h60 hT (p := p) (w := false) hp) dX10_expects_9 ml_X10_224 cvX10_here K_X10 rfl mo_30 rfl rfl (Nat.le_of_ble_eq_true rfl) (Nat.le_of_ble_eq_true rfl) (Nat.zero_le _) (Nat.zero_le _) (kr_rt ?_) kx_rt
    refine g_iload_n (i := 1) dX10_expects_12 rfl rfl ?_
    refine g_icmp_eq (tgt := 20) dX10_expects_13 (by decide) (fun c13 => ?_) (fun c13 => ?_)
    · exact absurd c13 hc
    · refine g_iconst (v := 1) dX10_expects_16 (by decide) ?_
      refine g_goto (tgt := 21) dX10_expects_17 (by decide) ?_
      refine g_putf dX10_expects_21 K_X10 (k := 27) fl_X10_220 (Nat.le_of_ble_eq_true rfl) rfl mo_30 (Nat.le_of_ble_eq_true rfl) rfl rfl (Go.heap (mo_r27 (w' := true) rfl) ?_)
      refine g_aload_n (i := 0) dX10_expects_24 rfl rfl ?_
      refine g_dup dX10_expects_25 rfl ?_
      refine g_getf dX10_expects_26 K_X10 (k := 25) fl_X10_214 (Nat.le_of_ble_eq_true rfl) mo_30 rfl ?_
      refine g_aload_n (i := 0) dX10_expects_29 rfl rfl ?_
      refine g_getf dX10_expects_30 K_X10 (k := 27) fl_X10_220 (Nat.le_of_ble_eq_true rfl) mo_30 rfl ?_
      refine g_if_eq (tgt := 40) dX10_expects_33 (by decide) (fun c33 => ?_) (fun c33 => ?_)
      · exact absurd (show (1 : Int32) = 0 from c33) (by decide)
      · refine g_iconst (v := 0) dX10_expects_36 (by decide) ?_
        refine g_goto (tgt := 41) dX10_expects_37 (by decide) ?_
        refine g_iadd dX10_expects_41 ?_
        refine g_putf dX10_expects_42 K_X10 (k := 25) fl_X10_214 (Nat.le_of_ble_eq_true rfl) rfl mo_30 (Nat.le_of_ble_eq_true rfl) rfl rfl (Go.heap (mo_r25 (p' := p) (show rf f p true n 25 + 0 = nI p from Int32.add_zero _)) ?_)
        refine g_vret dX10_expects_45 rfl ?_
        exact ⟨rfl, rfl⟩

set_option maxRecDepth 100000 in
theorem ev_expects_y {l : Launch} {G : GG} (hl : l.stackTraces = false) {A : AD} {h : AH} {a : Nat → Nat → Int32} {f : Nat → Int32} {T : TX} (h26 : f 26 = nI T.2) (h5 : ∀ i, i < T.2 → a 5 i = nI (T.1 i)) (h60 : T.2 ≤ 60) (hT : tOk T) {p n : Nat} (hp : p ≤ T.2) {c : Int32} (hc : hrI T p = c) :
    Ev l G 11 0 0 mX10_expects [.ref (A 30 0), .int c] (mo h A (a, rf f p false n)) (Rt none (mo h A (a, rf f (p + 1) false n))) := by
  refine Ev.of hl (by decide) (Nat.le_of_ble_eq_true rfl) ?_
  refine g_aload_n (i := 0) dX10_expects_0 rfl rfl ?_
  refine g_aload_n (i := 0) dX10_expects_1 rfl rfl ?_
  refine g_getf dX10_expects_2 K_X10 (k := 27) fl_X10_220 (Nat.le_of_ble_eq_true rfl) mo_30 rfl ?_
  refine g_if_ne (tgt := 16) dX10_expects_5 (by decide) (fun c5 => ?_) (fun c5 => ?_)
  · exact absurd (show (0 : Int32) = 0 from rfl) c5
  · refine g_aload_n (i := 0) dX10_expects_8 rfl rfl ?_
    refine g_callV (ev_here hl h26 h5 h60 hT (p := p) (w := false) hp) dX10_expects_9 ml_X10_224 cvX10_here K_X10 rfl mo_30 rfl rfl (Nat.le_of_ble_eq_true rfl) (Nat.le_of_ble_eq_true rfl) (Nat.zero_le _) (Nat.zero_le _) (kr_rt ?_) kx_rt
    refine g_iload_n (i := 1) dX10_expects_12 rfl rfl ?_
    refine g_icmp_eq (tgt := 20) dX10_expects_13 (by decide) (fun c13 => ?_) (fun c13 => ?_)
    · refine g_iconst (v := 0) dX10_expects_20 (by decide) ?_
      refine g_putf dX10_expects_21 K_X10 (k := 27) fl_X10_220 (Nat.le_of_ble_eq_true rfl) rfl mo_30 (Nat.le_of_ble_eq_true rfl) rfl rfl (Go.heap (mo_r27 (w' := false) rfl) ?_)
      refine g_aload_n (i := 0) dX10_expects_24 rfl rfl ?_
      refine g_dup dX10_expects_25 rfl ?_
      refine g_getf dX10_expects_26 K_X10 (k := 25) fl_X10_214 (Nat.le_of_ble_eq_true rfl) mo_30 rfl ?_
      refine g_aload_n (i := 0) dX10_expects_29 rfl rfl ?_
      refine g_getf dX10_expects_30 K_X10 (k := 27) fl_X10_220 (Nat.le_of_ble_eq_true rfl) mo_30 rfl ?_
      refine g_if_eq (tgt := 40) dX10_expects_33 (by decide) (fun c33 => ?_) (fun c33 => ?_)
      · refine g_iconst (v := 1) dX10_expects_40 (by decide) ?_
        refine g_iadd dX10_expects_41 ?_
        refine g_putf dX10_expects_42 K_X10 (k := 25) fl_X10_214 (Nat.le_of_ble_eq_true rfl) rfl mo_30 (Nat.le_of_ble_eq_true rfl) rfl rfl (Go.heap (mo_r25 (p' := p + 1) (show rf f p false n 25 + 1 = nI (p + 1) from (nI_succ p).symm)) ?_)
        refine g_vret dX10_expects_45 rfl ?_
        exact ⟨rfl, rfl⟩
      · exact absurd (show (0 : Int32) = 0 from rfl) c33
    · exact absurd hc c13

theorem ev_expects {l : Launch} {G : GG} (hl : l.stackTraces = false) {A : AD} {h : AH} {a : Nat → Nat → Int32} {f : Nat → Int32} {T : TX} (h26 : f 26 = nI T.2) (h5 : ∀ i, i < T.2 → a 5 i = nI (T.1 i)) (h60 : T.2 ≤ 60) (hT : tOk T) {p n : Nat} (hp : p ≤ T.2) {w : Bool} {c : Int32} (hc : ¬ c = -1) :
    Ev l G 11 0 0 mX10_expects [.ref (A 30 0), .int c] (mo h A (a, rf f p w n)) (Rt none (mo h A (a, rf f (exM T c p w).1 (exM T c p w).2 n))) := by
  cases w with
  | true => exact ev_expects_w hl h26 h5 h60 hT hp
  | false =>
    by_cases e : nxt T p c = true
    · rw [show exM T c p false = (p + 1, false) from if_pos e]
      exact ev_expects_y hl h26 h5 h60 hT hp ((hr_nx hT hc).mpr e)
    · rw [show exM T c p false = (p, true) from if_neg e]
      exact ev_expects_n hl h26 h5 h60 hT hp (fun q => e ((hr_nx hT hc).mp q))

set_option maxRecDepth 100000 in
theorem ev_digit_w {l : Launch} {G : GG} (hl : l.stackTraces = false) {A : AD} {h : AH} {a : Nat → Nat → Int32} {f : Nat → Int32} {T : TX} (h26 : f 26 = nI T.2) (h5 : ∀ i, i < T.2 → a 5 i = nI (T.1 i)) (h60 : T.2 ≤ 60) (hT : tOk T) {p n : Nat} (hp : p ≤ T.2) :
    Ev l G 11 0 0 mX10_digit [.ref (A 30 0)] (mo h A (a, rf f p true n)) (Rt (some (.int 0)) (mo h A (a, rf f p true n))) := by
  refine Ev.of hl (by decide) (Nat.le_of_ble_eq_true rfl) ?_
  refine g_aload_n (i := 0) dX10_digit_0 rfl rfl ?_
  refine g_aload_n (i := 0) dX10_digit_1 rfl rfl ?_
  refine g_getf dX10_digit_2 K_X10 (k := 27) fl_X10_220 (Nat.le_of_ble_eq_true rfl) mo_30 rfl ?_
  refine g_if_ne (tgt := 25) dX10_digit_5 (by decide) (fun c5 => ?_) (fun c5 => ?_)
  · refine g_iconst (v := 1) dX10_digit_25 (by decide) ?_
    refine g_goto (tgt := 30) dX10_digit_26 (by decide) ?_
    refine g_putf dX10_digit_30 K_X10 (k := 27) fl_X10_220 (Nat.le_of_ble_eq_true rfl) rfl mo_30 (Nat.le_of_ble_eq_true rfl) rfl rfl (Go.heap (mo_r27 (w' := true) rfl) ?_)
    refine g_aload_n (i := 0) dX10_digit_33 rfl rfl ?_
    refine g_getf dX10_digit_34 K_X10 (k := 27) fl_X10_220 (Nat.le_of_ble_eq_true rfl) mo_30 rfl ?_
    refine g_if_eq (tgt := 44) dX10_digit_37 (by decide) (fun c37 => ?_) (fun c37 => ?_)
    · exact absurd (show (1 : Int32) = 0 from c37) (by decide)
    · refine g_iconst (v := 0) dX10_digit_40 (by decide) ?_
      refine g_goto (tgt := 51) dX10_digit_41 (by decide) ?_
      refine g_istore_n (i := 1) dX10_digit_51 rfl (Nat.le_of_ble_eq_true rfl) ?_
      refine g_aload_n (i := 0) dX10_digit_52 rfl rfl ?_
      refine g_dup dX10_digit_53 rfl ?_
      refine g_getf dX10_digit_54 K_X10 (k := 25) fl_X10_214 (Nat.le_of_ble_eq_true rfl) mo_30 rfl ?_
      refine g_aload_n (i := 0) dX10_digit_57 rfl rfl ?_
      refine g_getf dX10_digit_58 K_X10 (k := 27) fl_X10_220 (Nat.le_of_ble_eq_true rfl) mo_30 rfl ?_
      refine g_if_eq (tgt := 68) dX10_digit_61 (by decide) (fun c61 => ?_) (fun c61 => ?_)
      · exact absurd (show (1 : Int32) = 0 from c61) (by decide)
      · refine g_iconst (v := 0) dX10_digit_64 (by decide) ?_
        refine g_goto (tgt := 69) dX10_digit_65 (by decide) ?_
        refine g_iadd dX10_digit_69 ?_
        refine g_putf dX10_digit_70 K_X10 (k := 25) fl_X10_214 (Nat.le_of_ble_eq_true rfl) rfl mo_30 (Nat.le_of_ble_eq_true rfl) rfl rfl (Go.heap (mo_r25 (p' := p) (show rf f p true n 25 + 0 = nI p from Int32.add_zero _)) ?_)
        refine g_iload_n (i := 1) dX10_digit_73 rfl rfl ?_
        refine g_iret dX10_digit_74 rfl rfl ?_
        exact ⟨rfl, rfl⟩
  · exact absurd (show (1 : Int32) = 0 from c5) (by decide)

set_option maxRecDepth 100000 in
theorem ev_digit_n {l : Launch} {G : GG} (hl : l.stackTraces = false) {A : AD} {h : AH} {a : Nat → Nat → Int32} {f : Nat → Int32} {T : TX} (h26 : f 26 = nI T.2) (h5 : ∀ i, i < T.2 → a 5 i = nI (T.1 i)) (h60 : T.2 ≤ 60) (hT : tOk T) {p n : Nat} (hp : p ≤ T.2) (hd : dig T p = none) :
    Ev l G 11 0 0 mX10_digit [.ref (A 30 0)] (mo h A (a, rf f p false n)) (Rt (some (.int 0)) (mo h A (a, rf f p true n))) := by
  refine Ev.of hl (by decide) (Nat.le_of_ble_eq_true rfl) ?_
  refine g_aload_n (i := 0) dX10_digit_0 rfl rfl ?_
  refine g_aload_n (i := 0) dX10_digit_1 rfl rfl ?_
  refine g_getf dX10_digit_2 K_X10 (k := 27) fl_X10_220 (Nat.le_of_ble_eq_true rfl) mo_30 rfl ?_
  refine g_if_ne (tgt := 25) dX10_digit_5 (by decide) (fun c5 => ?_) (fun c5 => ?_)
  · exact absurd (show (0 : Int32) = 0 from rfl) c5
  · refine g_aload_n (i := 0) dX10_digit_8 rfl rfl ?_
    refine g_callV (ev_here hl h26 h5 h60 hT (p := p) (w := false) hp) dX10_digit_9 ml_X10_224 cvX10_here K_X10 rfl mo_30 rfl rfl (Nat.le_of_ble_eq_true rfl) (Nat.le_of_ble_eq_true rfl) (Nat.zero_le _) (Nat.zero_le _) (kr_rt ?_) kx_rt
    refine g_i2l dX10_digit_12 ?_
    refine g_ldc2 dX10_digit_13 co_X10_227 ?_
    refine g_ldc2 dX10_digit_16 co_X10_229 ?_
    refine g_callS (ev_in hl (lo := 48) (hi := 57) (by decide) (by decide)) dX10_digit_19 ml_X10_85 csX10_in rfl rfl (Nat.le_of_ble_eq_true rfl) (Nat.le_of_ble_eq_true rfl) (Nat.zero_le _) (Nat.zero_le _) (kr_rt ?_) kx_rt
    refine g_if_ne (tgt := 29) dX10_digit_22 (by decide) (fun c22 => ?_) (fun c22 => ?_)
    · exact absurd (ite_1 c22) (hr_ndig hT hd)
    · refine g_iconst (v := 1) dX10_digit_25 (by decide) ?_
      refine g_goto (tgt := 30) dX10_digit_26 (by decide) ?_
      refine g_putf dX10_digit_30 K_X10 (k := 27) fl_X10_220 (Nat.le_of_ble_eq_true rfl) rfl mo_30 (Nat.le_of_ble_eq_true rfl) rfl rfl (Go.heap (mo_r27 (w' := true) rfl) ?_)
      refine g_aload_n (i := 0) dX10_digit_33 rfl rfl ?_
      refine g_getf dX10_digit_34 K_X10 (k := 27) fl_X10_220 (Nat.le_of_ble_eq_true rfl) mo_30 rfl ?_
      refine g_if_eq (tgt := 44) dX10_digit_37 (by decide) (fun c37 => ?_) (fun c37 => ?_)
      · exact absurd (show (1 : Int32) = 0 from c37) (by decide)
      · refine g_iconst (v := 0) dX10_digit_40 (by decide) ?_
        refine g_goto (tgt := 51) dX10_digit_41 (by decide) ?_
        refine g_istore_n (i := 1) dX10_digit_51 rfl (Nat.le_of_ble_eq_true rfl) ?_
        refine g_aload_n (i := 0) dX10_digit_52 rfl rfl ?_
        refine g_dup dX10_digit_53 rfl ?_
        refine g_getf dX10_digit_54 K_X10 (k := 25) fl_X10_214 (Nat.le_of_ble_eq_true rfl) mo_30 rfl ?_
        refine g_aload_n (i := 0) dX10_digit_57 rfl rfl ?_
        refine g_getf dX10_digit_58 K_X10 (k := 27) fl_X10_220 (Nat.le_of_ble_eq_true rfl) mo_30 rfl ?_
        refine g_if_eq (tgt := 68) dX10_digit_61 (by decide) (fun c61 => ?_) (fun c61 => ?_)
        · exact absurd (show (1 : Int32) = 0 from c61) (by decide)
        · refine g_iconst (v := 0) dX10_digit_64 (by decide) ?_
          refine g_goto (tgt := 69) dX10_digit_65 (by decide) ?_
          refine g_iadd dX10_digit_69 ?_
          refine g_putf dX10_digit_70 K_X10 (k := 25) fl_X10_214 (Nat.le_of_ble_eq_true rfl) rfl mo_30 (Nat.le_of_ble_eq_true rfl) rfl rfl (Go.heap (mo_r25 (p' := p) (show rf f p true n 25 + 0 = nI p from Int32.add_zero _)) ?_)
          refine g_iload_n (i := 1) dX10_digit_73 rfl rfl ?_
          refine g_iret dX10_digit_74 rfl rfl ?_
          exact ⟨rfl, rfl⟩

set_option maxRecDepth 100000 in
theorem ev_digit_y {l : Launch} {G : GG} (hl : l.stackTraces = false) {A : AD} {h : AH} {a : Nat → Nat → Int32} {f : Nat → Int32} {T : TX} (h26 : f 26 = nI T.2) (h5 : ∀ i, i < T.2 → a 5 i = nI (T.1 i)) (h60 : T.2 ≤ 60) (hT : tOk T) {p n : Nat} (hp : p ≤ T.2) {d : Nat} (hd : dig T p = some d) :
    Ev l G 11 0 0 mX10_digit [.ref (A 30 0)] (mo h A (a, rf f p false n)) (Rt (some (.int (nI d))) (mo h A (a, rf f (p + 1) false n))) := by
  refine Ev.of hl (by decide) (Nat.le_of_ble_eq_true rfl) ?_
  refine g_aload_n (i := 0) dX10_digit_0 rfl rfl ?_
  refine g_aload_n (i := 0) dX10_digit_1 rfl rfl ?_
  refine g_getf dX10_digit_2 K_X10 (k := 27) fl_X10_220 (Nat.le_of_ble_eq_true rfl) mo_30 rfl ?_
  refine g_if_ne (tgt := 25) dX10_digit_5 (by decide) (fun c5 => ?_) (fun c5 => ?_)
  · exact absurd (show (0 : Int32) = 0 from rfl) c5
  · refine g_aload_n (i := 0) dX10_digit_8 rfl rfl ?_
    refine g_callV (ev_here hl h26 h5 h60 hT (p := p) (w := false) hp) dX10_digit_9 ml_X10_224 cvX10_here K_X10 rfl mo_30 rfl rfl (Nat.le_of_ble_eq_true rfl) (Nat.le_of_ble_eq_true rfl) (Nat.zero_le _) (Nat.zero_le _) (kr_rt ?_) kx_rt
    refine g_i2l dX10_digit_12 ?_
    refine g_ldc2 dX10_digit_13 co_X10_227 ?_
    refine g_ldc2 dX10_digit_16 co_X10_229 ?_
    refine g_callS (ev_in hl (lo := 48) (hi := 57) (by decide) (by decide)) dX10_digit_19 ml_X10_85 csX10_in rfl rfl (Nat.le_of_ble_eq_true rfl) (Nat.le_of_ble_eq_true rfl) (Nat.zero_le _) (Nat.zero_le _) (kr_rt ?_) kx_rt
    refine g_if_ne (tgt := 29) dX10_digit_22 (by decide) (fun c22 => ?_) (fun c22 => ?_)
    · refine g_iconst (v := 0) dX10_digit_29 (by decide) ?_
      refine g_putf dX10_digit_30 K_X10 (k := 27) fl_X10_220 (Nat.le_of_ble_eq_true rfl) rfl mo_30 (Nat.le_of_ble_eq_true rfl) rfl rfl (Go.heap (mo_r27 (w' := false) rfl) ?_)
      refine g_aload_n (i := 0) dX10_digit_33 rfl rfl ?_
      refine g_getf dX10_digit_34 K_X10 (k := 27) fl_X10_220 (Nat.le_of_ble_eq_true rfl) mo_30 rfl ?_
      refine g_if_eq (tgt := 44) dX10_digit_37 (by decide) (fun c37 => ?_) (fun c37 => ?_)
      · refine g_aload_n (i := 0) dX10_digit_44 rfl rfl ?_
        refine g_callV (ev_here hl h26 h5 h60 hT (p := p) (w := false) hp) dX10_digit_45 ml_X10_224 cvX10_here K_X10 rfl mo_30 rfl rfl (Nat.le_of_ble_eq_true rfl) (Nat.le_of_ble_eq_true rfl) (Nat.zero_le _) (Nat.zero_le _) (kr_rt ?_) kx_rt
        refine g_bipush (v := 48) dX10_digit_48 (by decide) ?_
        refine g_isub dX10_digit_50 ?_
        rw [(hr_dig hT hd).2.1]
        refine g_istore_n (i := 1) dX10_digit_51 rfl (Nat.le_of_ble_eq_true rfl) ?_
        refine g_aload_n (i := 0) dX10_digit_52 rfl rfl ?_
        refine g_dup dX10_digit_53 rfl ?_
        refine g_getf dX10_digit_54 K_X10 (k := 25) fl_X10_214 (Nat.le_of_ble_eq_true rfl) mo_30 rfl ?_
        refine g_aload_n (i := 0) dX10_digit_57 rfl rfl ?_
        refine g_getf dX10_digit_58 K_X10 (k := 27) fl_X10_220 (Nat.le_of_ble_eq_true rfl) mo_30 rfl ?_
        refine g_if_eq (tgt := 68) dX10_digit_61 (by decide) (fun c61 => ?_) (fun c61 => ?_)
        · refine g_iconst (v := 1) dX10_digit_68 (by decide) ?_
          refine g_iadd dX10_digit_69 ?_
          refine g_putf dX10_digit_70 K_X10 (k := 25) fl_X10_214 (Nat.le_of_ble_eq_true rfl) rfl mo_30 (Nat.le_of_ble_eq_true rfl) rfl rfl (Go.heap (mo_r25 (p' := p + 1) (show rf f p false n 25 + 1 = nI (p + 1) from (nI_succ p).symm)) ?_)
          refine g_iload_n (i := 1) dX10_digit_73 rfl rfl ?_
          refine g_iret dX10_digit_74 rfl rfl ?_
          exact ⟨rfl, rfl⟩
        · exact absurd (show (0 : Int32) = 0 from rfl) c61
      · exact absurd (show (0 : Int32) = 0 from rfl) c37
    · exact absurd (hr_dig hT hd).1 (ite_0 c22)

theorem ev_mDigit {l : Launch} {G : GG} (hl : l.stackTraces = false) {A : AD} {h : AH} {a : Nat → Nat → Int32} {f : Nat → Int32} {T : TX} (h26 : f 26 = nI T.2) (h5 : ∀ i, i < T.2 → a 5 i = nI (T.1 i)) (h60 : T.2 ≤ 60) (hT : tOk T) {p n : Nat} (hp : p ≤ T.2) {w : Bool} :
    Ev l G 11 0 0 mX10_digit [.ref (A 30 0)] (mo h A (a, rf f p w n)) (Rt (some (.int (dgM T p w).1)) (mo h A (a, rf f (dgM T p w).2.1 (dgM T p w).2.2 n))) := by
  cases w with
  | true => exact ev_digit_w hl h26 h5 h60 hT hp
  | false =>
    cases e : dig T p with
    | none =>
      rw [show dgM T p false = (0, p, true) from by unfold dgM; rw [if_neg (by decide), e]]
      exact ev_digit_n hl h26 h5 h60 hT hp e
    | some d =>
      rw [show dgM T p false = (nI d, p + 1, false) from by unfold dgM; rw [if_neg (by decide), e]]
      exact ev_digit_y hl h26 h5 h60 hT hp e

set_option maxRecDepth 100000 in
theorem ev_number_w {l : Launch} {G : GG} (hl : l.stackTraces = false) {A : AD} {h : AH} {a : Nat → Nat → Int32} {f : Nat → Int32} {T : TX} (h26 : f 26 = nI T.2) (h5 : ∀ i, i < T.2 → a 5 i = nI (T.1 i)) (h60 : T.2 ≤ 60) (hT : tOk T) {p n : Nat} (hp : p ≤ T.2) :
    Ev l G 12 0 0 mX10_number [.ref (A 30 0)] (mo h A (a, rf f p true n)) (Rt (some (.int 0)) (mo h A (a, rf f p true n))) := by
  refine Ev.of hl (by decide) (Nat.le_of_ble_eq_true rfl) ?_
  refine g_aload_n (i := 0) dX10_number_0 rfl rfl ?_
  refine g_callV (ev_digit_w hl h26 h5 h60 hT hp) dX10_number_1 ml_X10_231 cvX10_digit K_X10 rfl mo_30 rfl rfl (Nat.le_of_ble_eq_true rfl) (Nat.le_of_ble_eq_true rfl) (Nat.zero_le _) (Nat.zero_le _) (kr_rt ?_) kx_rt
  refine g_istore_n (i := 1) dX10_number_4 rfl (Nat.le_of_ble_eq_true rfl) ?_
  refine g_iconst (v := 0) dX10_number_5 (by decide) ?_
  refine g_istore_n (i := 2) dX10_number_6 rfl (Nat.le_of_ble_eq_true rfl) ?_
  refine g_iload_n (i := 2) dX10_number_7 rfl rfl ?_
  refine g_iconst (v := 3) dX10_number_8 (by decide) ?_
  refine g_icmp_ge (tgt := 52) dX10_number_9 (by decide) (fun c9 => ?_) (fun c9 => ?_)
  · exact absurd (show (3 : Int32) ≤ 0 from c9) (by decide)
  · refine g_aload_n (i := 0) dX10_number_12 rfl rfl ?_
    refine g_getf dX10_number_13 K_X10 (k := 27) fl_X10_220 (Nat.le_of_ble_eq_true rfl) mo_30 rfl ?_
    refine g_if_ne (tgt := 52) dX10_number_16 (by decide) (fun c16 => ?_) (fun c16 => ?_)
    · refine g_iload_n (i := 1) dX10_number_52 rfl rfl ?_
      refine g_iret dX10_number_53 rfl rfl ?_
      exact ⟨rfl, rfl⟩
    · exact absurd (show (1 : Int32) = 0 from c16) (by decide)

set_option maxRecDepth 100000 in
theorem ev_number_n {l : Launch} {G : GG} (hl : l.stackTraces = false) {A : AD} {h : AH} {a : Nat → Nat → Int32} {f : Nat → Int32} {T : TX} (h26 : f 26 = nI T.2) (h5 : ∀ i, i < T.2 → a 5 i = nI (T.1 i)) (h60 : T.2 ≤ 60) (hT : tOk T) {p n : Nat} (hp : p ≤ T.2) (hd : dig T p = none) :
    Ev l G 12 0 0 mX10_number [.ref (A 30 0)] (mo h A (a, rf f p false n)) (Rt (some (.int 0)) (mo h A (a, rf f p true n))) := by
  refine Ev.of hl (by decide) (Nat.le_of_ble_eq_true rfl) ?_
  refine g_aload_n (i := 0) dX10_number_0 rfl rfl ?_
  refine g_callV (ev_digit_n hl h26 h5 h60 hT hp hd) dX10_number_1 ml_X10_231 cvX10_digit K_X10 rfl mo_30 rfl rfl (Nat.le_of_ble_eq_true rfl) (Nat.le_of_ble_eq_true rfl) (Nat.zero_le _) (Nat.zero_le _) (kr_rt ?_) kx_rt
  refine g_istore_n (i := 1) dX10_number_4 rfl (Nat.le_of_ble_eq_true rfl) ?_
  refine g_iconst (v := 0) dX10_number_5 (by decide) ?_
  refine g_istore_n (i := 2) dX10_number_6 rfl (Nat.le_of_ble_eq_true rfl) ?_
  refine g_iload_n (i := 2) dX10_number_7 rfl rfl ?_
  refine g_iconst (v := 3) dX10_number_8 (by decide) ?_
  refine g_icmp_ge (tgt := 52) dX10_number_9 (by decide) (fun c9 => ?_) (fun c9 => ?_)
  · exact absurd (show (3 : Int32) ≤ 0 from c9) (by decide)
  · refine g_aload_n (i := 0) dX10_number_12 rfl rfl ?_
    refine g_getf dX10_number_13 K_X10 (k := 27) fl_X10_220 (Nat.le_of_ble_eq_true rfl) mo_30 rfl ?_
    refine g_if_ne (tgt := 52) dX10_number_16 (by decide) (fun c16 => ?_) (fun c16 => ?_)
    · refine g_iload_n (i := 1) dX10_number_52 rfl rfl ?_
      refine g_iret dX10_number_53 rfl rfl ?_
      exact ⟨rfl, rfl⟩
    · exact absurd (show (1 : Int32) = 0 from c16) (by decide)

set_option maxRecDepth 100000 in
theorem ev_number_y {l : Launch} {G : GG} (hl : l.stackTraces = false) {A : AD} {h : AH} {a : Nat → Nat → Int32} {f : Nat → Int32} {T : TX} (h26 : f 26 = nI T.2) (h5 : ∀ i, i < T.2 → a 5 i = nI (T.1 i)) (h60 : T.2 ≤ 60) (hT : tOk T) {p n : Nat} (hp : p ≤ T.2) {d p9 v9 : Nat} (hd : dig T p = some d) (hm : mor T 3 (p + 1) d = (p9, v9)) :
    Ev l G 12 0 0 mX10_number [.ref (A 30 0)] (mo h A (a, rf f p false n)) (Rt (some (.int (nI v9))) (mo h A (a, rf f p9 false n))) := by
  refine Ev.of hl (by decide) (Nat.le_of_ble_eq_true rfl) ?_
  have loop : ∀ (j : Nat) (k q v : Nat), k + j = 3 → q ≤ T.2 → mor T j q v = (p9, v9) → Go l G mX10_number 12 0 0 (Rt (some (.int (nI v9))) (mo h A (a, rf f p9 false n))) 7 [some (.ref (A 30 0)), some (.int (nI v)), some (.int (nI k))] [] (mo h A (a, rf f q false n)) := by
    intro j
    induction j with
    | zero =>
      intro k q v hk hq hm
      refine g_iload_n (i := 2) dX10_number_7 rfl rfl ?_
      refine g_iconst (v := 3) dX10_number_8 (by decide) ?_
      refine g_icmp_ge (tgt := 52) dX10_number_9 (by decide) (fun c9 => ?_) (fun c9 => ?_)
      · obtain ⟨rfl, rfl⟩ := Prod.mk.inj hm
        refine g_iload_n (i := 1) dX10_number_52 rfl rfl ?_
        refine g_iret dX10_number_53 rfl rfl ?_
        exact ⟨rfl, rfl⟩
      · exact absurd ((le_nI (a := 3) (b := k) rfl (by omega) (by omega)).mpr (by omega)) c9
    | succ j ih =>
      intro k q v hk hq hm
      refine g_iload_n (i := 2) dX10_number_7 rfl rfl ?_
      refine g_iconst (v := 3) dX10_number_8 (by decide) ?_
      refine g_icmp_ge (tgt := 52) dX10_number_9 (by decide) (fun c9 => ?_) (fun c9 => ?_)
      · exact absurd ((le_nI (a := 3) (b := k) rfl (by omega) (by omega)).mp c9) (by omega)
      · refine g_aload_n (i := 0) dX10_number_12 rfl rfl ?_
        refine g_getf dX10_number_13 K_X10 (k := 27) fl_X10_220 (Nat.le_of_ble_eq_true rfl) mo_30 rfl ?_
        refine g_if_ne (tgt := 52) dX10_number_16 (by decide) (fun c16 => ?_) (fun c16 => ?_)
        · exact absurd (show (0 : Int32) = 0 from rfl) c16
        · refine g_aload_n (i := 0) dX10_number_19 rfl rfl ?_
          refine g_callV (ev_here hl h26 h5 h60 hT (p := q) (w := false) hq) dX10_number_20 ml_X10_224 cvX10_here K_X10 rfl mo_30 rfl rfl (Nat.le_of_ble_eq_true rfl) (Nat.le_of_ble_eq_true rfl) (Nat.zero_le _) (Nat.zero_le _) (kr_rt ?_) kx_rt
          refine g_i2l dX10_number_23 ?_
          refine g_ldc2 dX10_number_24 co_X10_227 ?_
          refine g_ldc2 dX10_number_27 co_X10_229 ?_
          refine g_callS (ev_in hl (lo := 48) (hi := 57) (by decide) (by decide)) dX10_number_30 ml_X10_85 csX10_in rfl rfl (Nat.le_of_ble_eq_true rfl) (Nat.le_of_ble_eq_true rfl) (Nat.zero_le _) (Nat.zero_le _) (kr_rt ?_) kx_rt
          refine g_if_eq (tgt := 52) dX10_number_33 (by decide) (fun c33 => ?_) (fun c33 => ?_)
          · have e : dig T q = none := by
              cases e : dig T q with
              | none => rfl
              | some d => exact absurd (hr_dig hT e).1 (ite_0 c33)
            rw [mor, e] at hm
            obtain ⟨rfl, rfl⟩ := Prod.mk.inj hm
            refine g_iload_n (i := 1) dX10_number_52 rfl rfl ?_
            refine g_iret dX10_number_53 rfl rfl ?_
            exact ⟨rfl, rfl⟩
          · obtain ⟨d, hd⟩ : ∃ d, dig T q = some d := by
              cases e : dig T q with
              | none => exact absurd (ite_1 c33) (hr_ndig hT e)
              | some d => exact ⟨d, rfl⟩
            have hq2 := (hr_dig hT hd).2.2.2
            refine g_bipush (v := 10) dX10_number_36 (by decide) ?_
            refine g_iload_n (i := 1) dX10_number_38 rfl rfl ?_
            refine g_imul dX10_number_39 ?_
            refine g_aload_n (i := 0) dX10_number_40 rfl rfl ?_
            refine g_callV (ev_digit_y hl h26 h5 h60 hT (p := q) hq hd) dX10_number_41 ml_X10_231 cvX10_digit K_X10 rfl mo_30 rfl rfl (Nat.le_of_ble_eq_true rfl) (Nat.le_of_ble_eq_true rfl) (Nat.zero_le _) (Nat.zero_le _) (kr_rt ?_) kx_rt
            refine g_iadd dX10_number_44 ?_
            rw [nI10]
            refine g_istore_n (i := 1) dX10_number_45 rfl (Nat.le_of_ble_eq_true rfl) ?_
            refine g_iinc (w := 1) dX10_number_46 (by decide) rfl (nI_succ k).symm (Nat.le_of_ble_eq_true rfl) ?_
            refine g_goto (tgt := 7) dX10_number_49 (by decide) ?_
            exact ih (k + 1) (q + 1) _ (by omega) hq2 (by rw [← hm, mor, hd])
  refine g_aload_n (i := 0) dX10_number_0 rfl rfl ?_
  refine g_callV (ev_digit_y hl h26 h5 h60 hT hp hd) dX10_number_1 ml_X10_231 cvX10_digit K_X10 rfl mo_30 rfl rfl (Nat.le_of_ble_eq_true rfl) (Nat.le_of_ble_eq_true rfl) (Nat.zero_le _) (Nat.zero_le _) (kr_rt ?_) kx_rt
  refine g_istore_n (i := 1) dX10_number_4 rfl (Nat.le_of_ble_eq_true rfl) ?_
  refine g_iconst (v := 0) dX10_number_5 (by decide) ?_
  refine g_istore_n (i := 2) dX10_number_6 rfl (Nat.le_of_ble_eq_true rfl) ?_
  exact loop 3 0 (p + 1) d rfl (hr_dig hT hd).2.2.2 hm

theorem ev_mNumber {l : Launch} {G : GG} (hl : l.stackTraces = false) {A : AD} {h : AH} {a : Nat → Nat → Int32} {f : Nat → Int32} {T : TX} (h26 : f 26 = nI T.2) (h5 : ∀ i, i < T.2 → a 5 i = nI (T.1 i)) (h60 : T.2 ≤ 60) (hT : tOk T) {p n : Nat} (hp : p ≤ T.2) {w : Bool} :
    Ev l G 12 0 0 mX10_number [.ref (A 30 0)] (mo h A (a, rf f p w n)) (Rt (some (.int (nbM T p w).1)) (mo h A (a, rf f (nbM T p w).2.1 (nbM T p w).2.2 n))) := by
  cases w with
  | true => exact ev_number_w hl h26 h5 h60 hT hp
  | false =>
    cases e : dig T p with
    | none =>
      rw [show nbM T p false = (0, p, true) from by unfold nbM; rw [if_neg (by decide), e]]
      exact ev_number_n hl h26 h5 h60 hT hp e
    | some d =>
      rw [show nbM T p false = (nI (mor T 3 (p + 1) d).2, (mor T 3 (p + 1) d).1, false) from by unfold nbM; rw [if_neg (by decide), e]]
      exact ev_number_y hl h26 h5 h60 hT hp e rfl

set_option maxRecDepth 100000 in
theorem ev_mNumberB {l : Launch} {G : GG} (hl : l.stackTraces = false) {A : AD} {h : AH} {a : Nat → Nat → Int32} {f : Nat → Int32} {T : TX} (h26 : f 26 = nI T.2) (h5 : ∀ i, i < T.2 → a 5 i = nI (T.1 i)) (h60 : T.2 ≤ 60) (hT : tOk T) {p n : Nat} (hp : p ≤ T.2) {w : Bool} {c : Int32} (hc : ¬ c = -1) :
    Ev l G 13 0 0 mX10_numberBehind [.ref (A 30 0), .int c] (mo h A (a, rf f p w n)) (Rt (some (.int (nbB T c p w).1)) (mo h A (a, rf f (nbB T c p w).2.1 (nbB T c p w).2.2 n))) := by
  refine Ev.of hl (by decide) (Nat.le_of_ble_eq_true rfl) ?_
  refine g_aload_n (i := 0) dX10_numberBehind_0 rfl rfl ?_
  refine g_iload_n (i := 1) dX10_numberBehind_1 rfl rfl ?_
  refine g_callV (ev_expects hl h26 h5 h60 hT hp hc) dX10_numberBehind_2 ml_X10_234 cvX10_expects K_X10 rfl mo_30 rfl rfl (Nat.le_of_ble_eq_true rfl) (Nat.le_of_ble_eq_true rfl) (Nat.zero_le _) (Nat.zero_le _) (kr_vd ?_) kx_rt
  refine g_aload_n (i := 0) dX10_numberBehind_5 rfl rfl ?_
  refine g_callV (ev_mNumber hl h26 h5 h60 hT (exM_le hp)) dX10_numberBehind_6 ml_X10_238 cvX10_number K_X10 rfl mo_30 rfl rfl (Nat.le_of_ble_eq_true rfl) (Nat.le_of_ble_eq_true rfl) (Nat.zero_le _) (Nat.zero_le _) (kr_rt ?_) kx_rt
  refine g_iret dX10_numberBehind_9 rfl rfl ?_
  exact ⟨rfl, rfl⟩

set_option maxRecDepth 100000 in
theorem ev_ground_w {l : Launch} {G : GG} (hl : l.stackTraces = false) {A : AD} {h : AH} {a : Nat → Nat → Int32} {f : Nat → Int32} {T : TX} (h26 : f 26 = nI T.2) (h5 : ∀ i, i < T.2 → a 5 i = nI (T.1 i)) (h60 : T.2 ≤ 60) (hT : tOk T) {p n : Nat} (hp : p ≤ T.2) :
    Ev l G 11 0 0 mX10_groundHere [.ref (A 30 0)] (mo h A (a, rf f p true n)) (Rt (some (.int (hrI T p))) (mo h A (a, rf f p true n))) := by
  refine Ev.of hl (by decide) (Nat.le_of_ble_eq_true rfl) ?_
  refine g_aload_n (i := 0) dX10_groundHere_0 rfl rfl ?_
  refine g_aload_n (i := 0) dX10_groundHere_1 rfl rfl ?_
  refine g_getf dX10_groundHere_2 K_X10 (k := 27) fl_X10_220 (Nat.le_of_ble_eq_true rfl) mo_30 rfl ?_
  refine g_if_ne (tgt := 18) dX10_groundHere_5 (by decide) (fun c5 => ?_) (fun c5 => ?_)
  · refine g_iconst (v := 1) dX10_groundHere_18 (by decide) ?_
    refine g_goto (tgt := 23) dX10_groundHere_19 (by decide) ?_
    refine g_putf dX10_groundHere_23 K_X10 (k := 27) fl_X10_220 (Nat.le_of_ble_eq_true rfl) rfl mo_30 (Nat.le_of_ble_eq_true rfl) rfl rfl (Go.heap (mo_r27 (w' := true) rfl) ?_)
    refine g_aload_n (i := 0) dX10_groundHere_26 rfl rfl ?_
    refine g_callV (ev_here hl h26 h5 h60 hT (p := p) (w := true) hp) dX10_groundHere_27 ml_X10_224 cvX10_here K_X10 rfl mo_30 rfl rfl (Nat.le_of_ble_eq_true rfl) (Nat.le_of_ble_eq_true rfl) (Nat.zero_le _) (Nat.zero_le _) (kr_rt ?_) kx_rt
    refine g_istore_n (i := 1) dX10_groundHere_30 rfl (Nat.le_of_ble_eq_true rfl) ?_
    refine g_aload_n (i := 0) dX10_groundHere_31 rfl rfl ?_
    refine g_dup dX10_groundHere_32 rfl ?_
    refine g_getf dX10_groundHere_33 K_X10 (k := 25) fl_X10_214 (Nat.le_of_ble_eq_true rfl) mo_30 rfl ?_
    refine g_aload_n (i := 0) dX10_groundHere_36 rfl rfl ?_
    refine g_getf dX10_groundHere_37 K_X10 (k := 27) fl_X10_220 (Nat.le_of_ble_eq_true rfl) mo_30 rfl ?_
    refine g_if_eq (tgt := 47) dX10_groundHere_40 (by decide) (fun c40 => ?_) (fun c40 => ?_)
    · exact absurd (show (1 : Int32) = 0 from c40) (by decide)
    · refine g_iconst (v := 0) dX10_groundHere_43 (by decide) ?_
      refine g_goto (tgt := 48) dX10_groundHere_44 (by decide) ?_
      refine g_iadd dX10_groundHere_48 ?_
      refine g_putf dX10_groundHere_49 K_X10 (k := 25) fl_X10_214 (Nat.le_of_ble_eq_true rfl) rfl mo_30 (Nat.le_of_ble_eq_true rfl) rfl rfl (Go.heap (mo_r25 (p' := p) (show rf f p true n 25 + 0 = nI p from Int32.add_zero _)) ?_)
      refine g_iload_n (i := 1) dX10_groundHere_52 rfl rfl ?_
      refine g_iret dX10_groundHere_53 rfl rfl ?_
      exact ⟨rfl, rfl⟩
  · exact absurd (show (1 : Int32) = 0 from c5) (by decide)

set_option maxRecDepth 100000 in
theorem ev_ground_n {l : Launch} {G : GG} (hl : l.stackTraces = false) {A : AD} {h : AH} {a : Nat → Nat → Int32} {f : Nat → Int32} {T : TX} (h26 : f 26 = nI T.2) (h5 : ∀ i, i < T.2 → a 5 i = nI (T.1 i)) (h60 : T.2 ≤ 60) (hT : tOk T) {p n : Nat} (hp : p ≤ T.2) (hg : ¬ groundP (hrI T p)) :
    Ev l G 11 0 0 mX10_groundHere [.ref (A 30 0)] (mo h A (a, rf f p false n)) (Rt (some (.int (hrI T p))) (mo h A (a, rf f p true n))) := by
  refine Ev.of hl (by decide) (Nat.le_of_ble_eq_true rfl) ?_
  refine g_aload_n (i := 0) dX10_groundHere_0 rfl rfl ?_
  refine g_aload_n (i := 0) dX10_groundHere_1 rfl rfl ?_
  refine g_getf dX10_groundHere_2 K_X10 (k := 27) fl_X10_220 (Nat.le_of_ble_eq_true rfl) mo_30 rfl ?_
  refine g_if_ne (tgt := 18) dX10_groundHere_5 (by decide) (fun c5 => ?_) (fun c5 => ?_)
  · exact absurd (show (0 : Int32) = 0 from rfl) c5
  · refine g_aload_n (i := 0) dX10_groundHere_8 rfl rfl ?_
    refine g_callV (ev_here hl h26 h5 h60 hT (p := p) (w := false) hp) dX10_groundHere_9 ml_X10_224 cvX10_here K_X10 rfl mo_30 rfl rfl (Nat.le_of_ble_eq_true rfl) (Nat.le_of_ble_eq_true rfl) (Nat.zero_le _) (Nat.zero_le _) (kr_rt ?_) kx_rt
    refine g_callS (ev_mIsGround hl) dX10_groundHere_12 ml_X10_112 csX10_isGround rfl rfl (Nat.le_of_ble_eq_true rfl) (Nat.le_of_ble_eq_true rfl) (Nat.zero_le _) (Nat.zero_le _) (kr_rt ?_) kx_rt
    refine g_if_ne (tgt := 22) dX10_groundHere_15 (by decide) (fun c15 => ?_) (fun c15 => ?_)
    · exact absurd (ite_1 c15) hg
    · refine g_iconst (v := 1) dX10_groundHere_18 (by decide) ?_
      refine g_goto (tgt := 23) dX10_groundHere_19 (by decide) ?_
      refine g_putf dX10_groundHere_23 K_X10 (k := 27) fl_X10_220 (Nat.le_of_ble_eq_true rfl) rfl mo_30 (Nat.le_of_ble_eq_true rfl) rfl rfl (Go.heap (mo_r27 (w' := true) rfl) ?_)
      refine g_aload_n (i := 0) dX10_groundHere_26 rfl rfl ?_
      refine g_callV (ev_here hl h26 h5 h60 hT (p := p) (w := true) hp) dX10_groundHere_27 ml_X10_224 cvX10_here K_X10 rfl mo_30 rfl rfl (Nat.le_of_ble_eq_true rfl) (Nat.le_of_ble_eq_true rfl) (Nat.zero_le _) (Nat.zero_le _) (kr_rt ?_) kx_rt
      refine g_istore_n (i := 1) dX10_groundHere_30 rfl (Nat.le_of_ble_eq_true rfl) ?_
      refine g_aload_n (i := 0) dX10_groundHere_31 rfl rfl ?_
      refine g_dup dX10_groundHere_32 rfl ?_
      refine g_getf dX10_groundHere_33 K_X10 (k := 25) fl_X10_214 (Nat.le_of_ble_eq_true rfl) mo_30 rfl ?_
      refine g_aload_n (i := 0) dX10_groundHere_36 rfl rfl ?_
      refine g_getf dX10_groundHere_37 K_X10 (k := 27) fl_X10_220 (Nat.le_of_ble_eq_true rfl) mo_30 rfl ?_
      refine g_if_eq (tgt := 47) dX10_groundHere_40 (by decide) (fun c40 => ?_) (fun c40 => ?_)
      · exact absurd (show (1 : Int32) = 0 from c40) (by decide)
      · refine g_iconst (v := 0) dX10_groundHere_43 (by decide) ?_
        refine g_goto (tgt := 48) dX10_groundHere_44 (by decide) ?_
        refine g_iadd dX10_groundHere_48 ?_
        refine g_putf dX10_groundHere_49 K_X10 (k := 25) fl_X10_214 (Nat.le_of_ble_eq_true rfl) rfl mo_30 (Nat.le_of_ble_eq_true rfl) rfl rfl (Go.heap (mo_r25 (p' := p) (show rf f p true n 25 + 0 = nI p from Int32.add_zero _)) ?_)
        refine g_iload_n (i := 1) dX10_groundHere_52 rfl rfl ?_
        refine g_iret dX10_groundHere_53 rfl rfl ?_
        exact ⟨rfl, rfl⟩

set_option maxRecDepth 100000 in
theorem ev_ground_y {l : Launch} {G : GG} (hl : l.stackTraces = false) {A : AD} {h : AH} {a : Nat → Nat → Int32} {f : Nat → Int32} {T : TX} (h26 : f 26 = nI T.2) (h5 : ∀ i, i < T.2 → a 5 i = nI (T.1 i)) (h60 : T.2 ≤ 60) (hT : tOk T) {p n : Nat} (hp : p ≤ T.2) (hg : groundP (hrI T p)) :
    Ev l G 11 0 0 mX10_groundHere [.ref (A 30 0)] (mo h A (a, rf f p false n)) (Rt (some (.int (hrI T p))) (mo h A (a, rf f (p + 1) false n))) := by
  refine Ev.of hl (by decide) (Nat.le_of_ble_eq_true rfl) ?_
  refine g_aload_n (i := 0) dX10_groundHere_0 rfl rfl ?_
  refine g_aload_n (i := 0) dX10_groundHere_1 rfl rfl ?_
  refine g_getf dX10_groundHere_2 K_X10 (k := 27) fl_X10_220 (Nat.le_of_ble_eq_true rfl) mo_30 rfl ?_
  refine g_if_ne (tgt := 18) dX10_groundHere_5 (by decide) (fun c5 => ?_) (fun c5 => ?_)
  · exact absurd (show (0 : Int32) = 0 from rfl) c5
  · refine g_aload_n (i := 0) dX10_groundHere_8 rfl rfl ?_
    refine g_callV (ev_here hl h26 h5 h60 hT (p := p) (w := false) hp) dX10_groundHere_9 ml_X10_224 cvX10_here K_X10 rfl mo_30 rfl rfl (Nat.le_of_ble_eq_true rfl) (Nat.le_of_ble_eq_true rfl) (Nat.zero_le _) (Nat.zero_le _) (kr_rt ?_) kx_rt
    refine g_callS (ev_mIsGround hl) dX10_groundHere_12 ml_X10_112 csX10_isGround rfl rfl (Nat.le_of_ble_eq_true rfl) (Nat.le_of_ble_eq_true rfl) (Nat.zero_le _) (Nat.zero_le _) (kr_rt ?_) kx_rt
    refine g_if_ne (tgt := 22) dX10_groundHere_15 (by decide) (fun c15 => ?_) (fun c15 => ?_)
    · refine g_iconst (v := 0) dX10_groundHere_22 (by decide) ?_
      refine g_putf dX10_groundHere_23 K_X10 (k := 27) fl_X10_220 (Nat.le_of_ble_eq_true rfl) rfl mo_30 (Nat.le_of_ble_eq_true rfl) rfl rfl (Go.heap (mo_r27 (w' := false) rfl) ?_)
      refine g_aload_n (i := 0) dX10_groundHere_26 rfl rfl ?_
      refine g_callV (ev_here hl h26 h5 h60 hT (p := p) (w := false) hp) dX10_groundHere_27 ml_X10_224 cvX10_here K_X10 rfl mo_30 rfl rfl (Nat.le_of_ble_eq_true rfl) (Nat.le_of_ble_eq_true rfl) (Nat.zero_le _) (Nat.zero_le _) (kr_rt ?_) kx_rt
      refine g_istore_n (i := 1) dX10_groundHere_30 rfl (Nat.le_of_ble_eq_true rfl) ?_
      refine g_aload_n (i := 0) dX10_groundHere_31 rfl rfl ?_
      refine g_dup dX10_groundHere_32 rfl ?_
      refine g_getf dX10_groundHere_33 K_X10 (k := 25) fl_X10_214 (Nat.le_of_ble_eq_true rfl) mo_30 rfl ?_
      refine g_aload_n (i := 0) dX10_groundHere_36 rfl rfl ?_
      refine g_getf dX10_groundHere_37 K_X10 (k := 27) fl_X10_220 (Nat.le_of_ble_eq_true rfl) mo_30 rfl ?_
      refine g_if_eq (tgt := 47) dX10_groundHere_40 (by decide) (fun c40 => ?_) (fun c40 => ?_)
      · refine g_iconst (v := 1) dX10_groundHere_47 (by decide) ?_
        refine g_iadd dX10_groundHere_48 ?_
        refine g_putf dX10_groundHere_49 K_X10 (k := 25) fl_X10_214 (Nat.le_of_ble_eq_true rfl) rfl mo_30 (Nat.le_of_ble_eq_true rfl) rfl rfl (Go.heap (mo_r25 (p' := p + 1) (show rf f p false n 25 + 1 = nI (p + 1) from (nI_succ p).symm)) ?_)
        refine g_iload_n (i := 1) dX10_groundHere_52 rfl rfl ?_
        refine g_iret dX10_groundHere_53 rfl rfl ?_
        exact ⟨rfl, rfl⟩
      · exact absurd (show (0 : Int32) = 0 from rfl) c40
    · exact absurd hg (ite_0 c15)

theorem ev_mGround {l : Launch} {G : GG} (hl : l.stackTraces = false) {A : AD} {h : AH} {a : Nat → Nat → Int32} {f : Nat → Int32} {T : TX} (h26 : f 26 = nI T.2) (h5 : ∀ i, i < T.2 → a 5 i = nI (T.1 i)) (h60 : T.2 ≤ 60) (hT : tOk T) {p n : Nat} (hp : p ≤ T.2) {w : Bool} :
    Ev l G 11 0 0 mX10_groundHere [.ref (A 30 0)] (mo h A (a, rf f p w n)) (Rt (some (.int (ghM T p w).1)) (mo h A (a, rf f (ghM T p w).2.1 (ghM T p w).2.2 n))) := by
  cases w with
  | true => exact ev_ground_w hl h26 h5 h60 hT hp
  | false =>
    by_cases e : groundP (hrI T p)
    · rw [show ghM T p false = (hrI T p, p + 1, false) from by unfold ghM; rw [if_neg (by decide), if_pos e]]
      exact ev_ground_y hl h26 h5 h60 hT hp e
    · rw [show ghM T p false = (hrI T p, p, true) from by unfold ghM; rw [if_neg (by decide), if_neg e]]
      exact ev_ground_n hl h26 h5 h60 hT hp e

set_option maxRecDepth 100000 in
theorem ev_likeness {l : Launch} {G : GG} (hl : l.stackTraces = false) {A : AD} {h : AH} {a : Nat → Nat → Int32} {f : Nat → Int32} {T : TX} (h26 : f 26 = nI T.2) (h5 : ∀ i, i < T.2 → a 5 i = nI (T.1 i)) (h60 : T.2 ≤ 60) (hT : tOk T) {p n : Nat} (hp : p ≤ T.2) {w : Bool} (h13 : ∀ i, i < 5 → a 13 i = nI (bgN i)) (h12 : ∀ i, i < 24 → a 12 i = nI (ltN i)) {i : Nat} (hi : i < 4) :
    Ev l G 10 0 0 mX10_likeness [.ref (A 30 0), .int (nI i)] (mo h A (a, rf f p w n)) (Rt (some (.int (nI (lkW T p i)))) (mo h A (a, rf f p w n))) := by
  refine Ev.of hl (by decide) (Nat.le_of_ble_eq_true rfl) ?_
  have b5 := bg_5 i hi
  obtain ⟨n9, hn9⟩ : ∃ n9, n9 = lkW T p i := ⟨_, rfl⟩
  have loop : ∀ (j : Nat) (q : Nat), q + j = bgN (i + 1) - bgN i → lkN T p i j q = n9 → Go l G mX10_likeness 10 0 0 (Rt (some (.int (nI n9))) (mo h A (a, rf f p w n))) 18 [some (.ref (A 30 0)), some (.int (nI i)), some (.int (nI q)), some (.int (nI (bgN (i + 1) - bgN i)))] [] (mo h A (a, rf f p w n)) := by
    intro j
    induction j with
    | zero =>
      intro q hq hm
      refine g_iload_n (i := 2) dX10_likeness_18 rfl rfl ?_
      refine g_iload_n (i := 3) dX10_likeness_19 rfl rfl ?_
      refine g_icmp_ge (tgt := 69) dX10_likeness_20 (by decide) (fun c20 => ?_) (fun c20 => ?_)
      · obtain rfl : q = n9 := hm
        refine g_iload_n (i := 2) dX10_likeness_69 rfl rfl ?_
        refine g_iret dX10_likeness_70 rfl rfl ?_
        exact ⟨rfl, rfl⟩
      · exact absurd ((le_nI (a := bgN (i + 1) - bgN i) (b := q) rfl (by omega) (by omega)).mpr (by omega)) c20
    | succ j ih =>
      intro q hq hm
      refine g_iload_n (i := 2) dX10_likeness_18 rfl rfl ?_
      refine g_iload_n (i := 3) dX10_likeness_19 rfl rfl ?_
      refine g_icmp_ge (tgt := 69) dX10_likeness_20 (by decide) (fun c20 => ?_) (fun c20 => ?_)
      · exact absurd ((le_nI (a := bgN (i + 1) - bgN i) (b := q) rfl (by omega) (by omega)).mp c20) (by omega)
      · refine g_aload_n (i := 0) dX10_likeness_23 rfl rfl ?_
        refine g_getf dX10_likeness_24 K_X10 (k := 25) fl_X10_214 (Nat.le_of_ble_eq_true rfl) mo_30 rfl ?_
        refine g_iload_n (i := 2) dX10_likeness_27 rfl rfl ?_
        refine g_iadd dX10_likeness_28 ?_
        refine g_aload_n (i := 0) dX10_likeness_29 rfl rfl ?_
        refine g_getf dX10_likeness_30 K_X10 (k := 26) fl_X10_217 (Nat.le_of_ble_eq_true rfl) mo_30 rfl ?_
        rw [show rf f p w n 25 + nI q = nI (p + q) from nI_add p q]
        refine g_icmp_ge (tgt := 69) dX10_likeness_33 (by decide) (fun c33 => ?_) (fun c33 => ?_)
        · have e : lkN T p i (j + 1) q = q := if_neg (fun z => by have z2 := (le_nI (a := T.2) (b := p + q) h26 (by omega) (by omega)).mp c33; omega)
          obtain rfl : q = n9 := e.symm.trans hm
          refine g_iload_n (i := 2) dX10_likeness_69 rfl rfl ?_
          refine g_iret dX10_likeness_70 rfl rfl ?_
          exact ⟨rfl, rfl⟩
        · have hlt : p + q < T.2 := by have z := mt (le_nI (a := T.2) (b := p + q) h26 (by omega) (by omega)).mpr c33; omega
          refine g_aload_n (i := 0) dX10_likeness_36 rfl rfl ?_
          refine g_getf dX10_likeness_37 K_X10 (k := 12) fl_X10_32 (Nat.le_of_ble_eq_true rfl) mo_30 rfl ?_
          refine g_aload_n (i := 0) dX10_likeness_40 rfl rfl ?_
          refine g_getf dX10_likeness_41 K_X10 (k := 25) fl_X10_214 (Nat.le_of_ble_eq_true rfl) mo_30 rfl ?_
          refine g_iload_n (i := 2) dX10_likeness_44 rfl rfl ?_
          refine g_iadd dX10_likeness_45 ?_
          refine g_iald dX10_likeness_46 mo_36 (show ix (rf f p w n 25 + nI q) (p + q) by rw [show rf f p w n 25 + nI q = nI (p + q) from nI_add p q]; exact ix_nI (by omega)) (show p + q < 60 by omega) ?_
          refine g_aload_n (i := 0) dX10_likeness_47 rfl rfl ?_
          refine g_getf dX10_likeness_48 K_X10 (k := 21) fl_X10_54 (Nat.le_of_ble_eq_true rfl) mo_30 rfl ?_
          refine g_aload_n (i := 0) dX10_likeness_51 rfl rfl ?_
          refine g_getf dX10_likeness_52 K_X10 (k := 22) fl_X10_58 (Nat.le_of_ble_eq_true rfl) mo_30 rfl ?_
          refine g_iload_n (i := 1) dX10_likeness_55 rfl rfl ?_
          refine g_iald dX10_likeness_56 mo_44 (ix_nI (j := i) (by omega)) (show i < 5 by omega) ?_
          refine g_iload_n (i := 2) dX10_likeness_57 rfl rfl ?_
          refine g_iadd dX10_likeness_58 ?_
          refine g_cald dX10_likeness_59 mo_43 (show ix (a 13 i + nI q) (bgN i + q) by rw [h13 i (by omega), nI_add]; exact ix_nI (by omega)) (show bgN i + q < 24 by omega) ?_
          refine g_icmp_ne (tgt := 69) dX10_likeness_60 (by decide) (fun c60 => ?_) (fun c60 => ?_)
          · have e : lkN T p i (j + 1) q = q := if_neg (fun z => c60 (by show a 5 (p + q) = a 12 (bgN i + q); rw [h5 _ hlt, h12 _ (by omega), z.2]))
            obtain rfl : q = n9 := e.symm.trans hm
            refine g_iload_n (i := 2) dX10_likeness_69 rfl rfl ?_
            refine g_iret dX10_likeness_70 rfl rfl ?_
            exact ⟨rfl, rfl⟩
          · refine g_iinc (w := 1) dX10_likeness_63 (by decide) rfl (nI_succ q).symm (Nat.le_of_ble_eq_true rfl) ?_
            refine g_goto (tgt := 18) dX10_likeness_66 (by decide) ?_
            have e : lkN T p i (j + 1) q = lkN T p i j (q + 1) := if_pos ⟨hlt, by have z : a 5 (p + q) = a 12 (bgN i + q) := c60; rw [h5 _ hlt, h12 _ (by omega)] at z; exact (nI_inj (by have := hT _ hlt; omega) (by have := lt_24 _ (show bgN i + q < 24 by omega); omega)).mp z⟩
            exact ih (q + 1) (by omega) (e.symm.trans hm)
  rw [← hn9]
  refine g_iconst (v := 0) dX10_likeness_0 (by decide) ?_
  refine g_istore_n (i := 2) dX10_likeness_1 rfl (Nat.le_of_ble_eq_true rfl) ?_
  refine g_aload_n (i := 0) dX10_likeness_2 rfl rfl ?_
  refine g_getf dX10_likeness_3 K_X10 (k := 22) fl_X10_58 (Nat.le_of_ble_eq_true rfl) mo_30 rfl ?_
  refine g_iload_n (i := 1) dX10_likeness_6 rfl rfl ?_
  refine g_iconst (v := 1) dX10_likeness_7 (by decide) ?_
  refine g_iadd dX10_likeness_8 ?_
  refine g_iald dX10_likeness_9 mo_44 (show ix (nI i + 1) (i + 1) by rw [← nI_succ]; exact ix_nI (by omega)) (show i + 1 < 5 by omega) ?_
  refine g_aload_n (i := 0) dX10_likeness_10 rfl rfl ?_
  refine g_getf dX10_likeness_11 K_X10 (k := 22) fl_X10_58 (Nat.le_of_ble_eq_true rfl) mo_30 rfl ?_
  refine g_iload_n (i := 1) dX10_likeness_14 rfl rfl ?_
  refine g_iald dX10_likeness_15 mo_44 (ix_nI (j := i) (by omega)) (show i < 5 by omega) ?_
  refine g_isub dX10_likeness_16 ?_
  rw [h13 i (by omega), h13 (i + 1) (by omega), b5.2.2.1]
  refine g_istore_n (i := 3) dX10_likeness_17 rfl (Nat.le_of_ble_eq_true rfl) ?_
  exact loop (bgN (i + 1) - bgN i) 0 (Nat.zero_add _) hn9.symm

set_option maxRecDepth 100000 in
theorem ev_ra_0 {l : Launch} {G : GG} (hl : l.stackTraces = false) {A : AD} {h : AH} {a : Nat → Nat → Int32} {f : Nat → Int32} {T : TX} (h26 : f 26 = nI T.2) (h5 : ∀ i, i < T.2 → a 5 i = nI (T.1 i)) (h60 : T.2 ≤ 60) (hT : tOk T) {p n : Nat} (hp : p ≤ T.2) {C : Nat → Int32} {t : Nat} (ht : t + 2 < 244) :
    Ev l G 14 0 0 mX10_readArguments [.ref (A 30 0), .int (nI 0), .int (nI t)] (mo h A (va_up a 14 C, rf f p false n)) (Rt none (mo h A (va_up a 14 (raC T 0 p C t), rf f (raM T 0 p).2.1 (raM T 0 p).2.2 n))) := by
  refine Ev.of hl (by decide) (Nat.le_of_ble_eq_true rfl) ?_
  refine g_aload_n (i := 0) dX10_readArguments_0 rfl rfl ?_
  refine g_getf dX10_readArguments_1 K_X10 (k := 23) fl_X10_61 (Nat.le_of_ble_eq_true rfl) mo_30 rfl ?_
  refine g_iload_n (i := 2) dX10_readArguments_4 rfl rfl ?_
  refine g_iload_n (i := 1) dX10_readArguments_5 rfl rfl ?_
  refine g_iconst (v := 3) dX10_readArguments_6 (by decide) ?_
  refine g_icmp_ne (tgt := 17) dX10_readArguments_7 (by decide) (fun c7 => ?_) (fun c7 => ?_)
  · refine g_aload_n (i := 0) dX10_readArguments_17 rfl rfl ?_
    refine g_callV (ev_mDigit hl h26 h5 h60 hT (a := va_up a 14 C) (p := p) (w := false) hp) dX10_readArguments_18 ml_X10_231 cvX10_digit K_X10 rfl mo_30 rfl rfl (Nat.le_of_ble_eq_true rfl) (Nat.le_of_ble_eq_true rfl) (Nat.zero_le _) (Nat.zero_le _) (kr_rt ?_) kx_rt
    refine g_iast dX10_readArguments_21 mo_p45 (ix_nI (j := t) (by omega)) (by omega) rfl (Go.heap mo_q45 ?_)
    refine g_iload_n (i := 1) dX10_readArguments_22 rfl rfl ?_
    refine g_tabIn (tgt := 48) dX10_readArguments_23 (by decide) (by decide) rfl (by decide) ?_
    refine g_aload_n (i := 0) dX10_readArguments_48 rfl rfl ?_
    refine g_getf dX10_readArguments_49 K_X10 (k := 23) fl_X10_61 (Nat.le_of_ble_eq_true rfl) mo_30 rfl ?_
    refine g_iload_n (i := 2) dX10_readArguments_52 rfl rfl ?_
    refine g_iconst (v := 1) dX10_readArguments_53 (by decide) ?_
    refine g_iadd dX10_readArguments_54 ?_
    refine g_aload_n (i := 0) dX10_readArguments_55 rfl rfl ?_
    refine g_callV (ev_mDigit hl h26 h5 h60 hT (a := va_up a 14 (va_up C t (dgM T p false).1)) (p := (dgM T p false).2.1) (w := (dgM T p false).2.2) (dgM_le hp)) dX10_readArguments_56 ml_X10_231 cvX10_digit K_X10 rfl mo_30 rfl rfl (Nat.le_of_ble_eq_true rfl) (Nat.le_of_ble_eq_true rfl) (Nat.zero_le _) (Nat.zero_le _) (kr_rt ?_) kx_rt
    refine g_iast dX10_readArguments_59 mo_p45 (show ix (nI t + 1) (t + 1) by rw [show nI t + 1 = nI (t + 1) from nI_add t 1]; exact ix_nI (by omega)) (show t + 1 < 244 by omega) rfl (Go.heap mo_q45 ?_)
    refine g_aload_n (i := 0) dX10_readArguments_60 rfl rfl ?_
    refine g_getf dX10_readArguments_61 K_X10 (k := 23) fl_X10_61 (Nat.le_of_ble_eq_true rfl) mo_30 rfl ?_
    refine g_iload_n (i := 2) dX10_readArguments_64 rfl rfl ?_
    refine g_iconst (v := 2) dX10_readArguments_65 (by decide) ?_
    refine g_iadd dX10_readArguments_66 ?_
    refine g_aload_n (i := 0) dX10_readArguments_67 rfl rfl ?_
    refine g_bipush (v := 43) dX10_readArguments_68 (by decide) ?_
    refine g_callV (ev_mNumberB hl h26 h5 h60 hT (a := va_up a 14 (va_up (va_up C t (dgM T p false).1) (t + 1) (dgM T (dgM T p false).2.1 (dgM T p false).2.2).1)) (p := (dgM T (dgM T p false).2.1 (dgM T p false).2.2).2.1) (w := (dgM T (dgM T p false).2.1 (dgM T p false).2.2).2.2) (dgM_le (dgM_le hp)) (c := 43) (by decide)) dX10_readArguments_70 ml_X10_241 cvX10_numberBehind K_X10 rfl mo_30 rfl rfl (Nat.le_of_ble_eq_true rfl) (Nat.le_of_ble_eq_true rfl) (Nat.zero_le _) (Nat.zero_le _) (kr_rt ?_) kx_rt
    refine g_iast dX10_readArguments_73 mo_p45 (show ix (nI t + 2) (t + 2) by rw [show nI t + 2 = nI (t + 2) from nI_add t 2]; exact ix_nI (by omega)) (show t + 2 < 244 by omega) rfl (Go.heap mo_q45 ?_)
    refine g_goto (tgt := 121) dX10_readArguments_74 (by decide) ?_
    refine g_vret dX10_readArguments_121 rfl ?_
    exact ⟨rfl, rfl⟩
  · exact absurd c7 (by decide)

set_option maxRecDepth 100000 in
theorem ev_ra_1 {l : Launch} {G : GG} (hl : l.stackTraces = false) {A : AD} {h : AH} {a : Nat → Nat → Int32} {f : Nat → Int32} {T : TX} (h26 : f 26 = nI T.2) (h5 : ∀ i, i < T.2 → a 5 i = nI (T.1 i)) (h60 : T.2 ≤ 60) (hT : tOk T) {p n : Nat} (hp : p ≤ T.2) {C : Nat → Int32} {t : Nat} (ht : t + 2 < 244) :
    Ev l G 14 0 0 mX10_readArguments [.ref (A 30 0), .int (nI 1), .int (nI t)] (mo h A (va_up a 14 C, rf f p false n)) (Rt none (mo h A (va_up a 14 (raC T 1 p C t), rf f (raM T 1 p).2.1 (raM T 1 p).2.2 n))) := by
  refine Ev.of hl (by decide) (Nat.le_of_ble_eq_true rfl) ?_
  refine g_aload_n (i := 0) dX10_readArguments_0 rfl rfl ?_
  refine g_getf dX10_readArguments_1 K_X10 (k := 23) fl_X10_61 (Nat.le_of_ble_eq_true rfl) mo_30 rfl ?_
  refine g_iload_n (i := 2) dX10_readArguments_4 rfl rfl ?_
  refine g_iload_n (i := 1) dX10_readArguments_5 rfl rfl ?_
  refine g_iconst (v := 3) dX10_readArguments_6 (by decide) ?_
  refine g_icmp_ne (tgt := 17) dX10_readArguments_7 (by decide) (fun c7 => ?_) (fun c7 => ?_)
  · refine g_aload_n (i := 0) dX10_readArguments_17 rfl rfl ?_
    refine g_callV (ev_mDigit hl h26 h5 h60 hT (a := va_up a 14 C) (p := p) (w := false) hp) dX10_readArguments_18 ml_X10_231 cvX10_digit K_X10 rfl mo_30 rfl rfl (Nat.le_of_ble_eq_true rfl) (Nat.le_of_ble_eq_true rfl) (Nat.zero_le _) (Nat.zero_le _) (kr_rt ?_) kx_rt
    refine g_iast dX10_readArguments_21 mo_p45 (ix_nI (j := t) (by omega)) (by omega) rfl (Go.heap mo_q45 ?_)
    refine g_iload_n (i := 1) dX10_readArguments_22 rfl rfl ?_
    refine g_tabIn (tgt := 77) dX10_readArguments_23 (by decide) (by decide) rfl (by decide) ?_
    refine g_aload_n (i := 0) dX10_readArguments_77 rfl rfl ?_
    refine g_getf dX10_readArguments_78 K_X10 (k := 23) fl_X10_61 (Nat.le_of_ble_eq_true rfl) mo_30 rfl ?_
    refine g_iload_n (i := 2) dX10_readArguments_81 rfl rfl ?_
    refine g_iconst (v := 1) dX10_readArguments_82 (by decide) ?_
    refine g_iadd dX10_readArguments_83 ?_
    refine g_aload_n (i := 0) dX10_readArguments_84 rfl rfl ?_
    refine g_callV (ev_mDigit hl h26 h5 h60 hT (a := va_up a 14 (va_up C t (dgM T p false).1)) (p := (dgM T p false).2.1) (w := (dgM T p false).2.2) (dgM_le hp)) dX10_readArguments_85 ml_X10_231 cvX10_digit K_X10 rfl mo_30 rfl rfl (Nat.le_of_ble_eq_true rfl) (Nat.le_of_ble_eq_true rfl) (Nat.zero_le _) (Nat.zero_le _) (kr_rt ?_) kx_rt
    refine g_iast dX10_readArguments_88 mo_p45 (show ix (nI t + 1) (t + 1) by rw [show nI t + 1 = nI (t + 1) from nI_add t 1]; exact ix_nI (by omega)) (show t + 1 < 244 by omega) rfl (Go.heap mo_q45 ?_)
    refine g_aload_n (i := 0) dX10_readArguments_89 rfl rfl ?_
    refine g_getf dX10_readArguments_90 K_X10 (k := 23) fl_X10_61 (Nat.le_of_ble_eq_true rfl) mo_30 rfl ?_
    refine g_iload_n (i := 2) dX10_readArguments_93 rfl rfl ?_
    refine g_iconst (v := 2) dX10_readArguments_94 (by decide) ?_
    refine g_iadd dX10_readArguments_95 ?_
    refine g_aload_n (i := 0) dX10_readArguments_96 rfl rfl ?_
    refine g_callV (ev_mGround hl h26 h5 h60 hT (a := va_up a 14 (va_up (va_up C t (dgM T p false).1) (t + 1) (dgM T (dgM T p false).2.1 (dgM T p false).2.2).1)) (p := (dgM T (dgM T p false).2.1 (dgM T p false).2.2).2.1) (w := (dgM T (dgM T p false).2.1 (dgM T p false).2.2).2.2) (dgM_le (dgM_le hp))) dX10_readArguments_97 ml_X10_244 cvX10_groundHere K_X10 rfl mo_30 rfl rfl (Nat.le_of_ble_eq_true rfl) (Nat.le_of_ble_eq_true rfl) (Nat.zero_le _) (Nat.zero_le _) (kr_rt ?_) kx_rt
    refine g_iast dX10_readArguments_100 mo_p45 (show ix (nI t + 2) (t + 2) by rw [show nI t + 2 = nI (t + 2) from nI_add t 2]; exact ix_nI (by omega)) (show t + 2 < 244 by omega) rfl (Go.heap mo_q45 ?_)
    refine g_goto (tgt := 121) dX10_readArguments_101 (by decide) ?_
    refine g_vret dX10_readArguments_121 rfl ?_
    exact ⟨rfl, rfl⟩
  · exact absurd c7 (by decide)

set_option maxRecDepth 100000 in
theorem ev_ra_2 {l : Launch} {G : GG} (hl : l.stackTraces = false) {A : AD} {h : AH} {a : Nat → Nat → Int32} {f : Nat → Int32} {T : TX} (h26 : f 26 = nI T.2) (h5 : ∀ i, i < T.2 → a 5 i = nI (T.1 i)) (h60 : T.2 ≤ 60) (hT : tOk T) {p n : Nat} (hp : p ≤ T.2) {C : Nat → Int32} {t : Nat} (ht : t + 2 < 244) :
    Ev l G 14 0 0 mX10_readArguments [.ref (A 30 0), .int (nI 2), .int (nI t)] (mo h A (va_up a 14 C, rf f p false n)) (Rt none (mo h A (va_up a 14 (raC T 2 p C t), rf f (raM T 2 p).2.1 (raM T 2 p).2.2 n))) := by
  refine Ev.of hl (by decide) (Nat.le_of_ble_eq_true rfl) ?_
  refine g_aload_n (i := 0) dX10_readArguments_0 rfl rfl ?_
  refine g_getf dX10_readArguments_1 K_X10 (k := 23) fl_X10_61 (Nat.le_of_ble_eq_true rfl) mo_30 rfl ?_
  refine g_iload_n (i := 2) dX10_readArguments_4 rfl rfl ?_
  refine g_iload_n (i := 1) dX10_readArguments_5 rfl rfl ?_
  refine g_iconst (v := 3) dX10_readArguments_6 (by decide) ?_
  refine g_icmp_ne (tgt := 17) dX10_readArguments_7 (by decide) (fun c7 => ?_) (fun c7 => ?_)
  · refine g_aload_n (i := 0) dX10_readArguments_17 rfl rfl ?_
    refine g_callV (ev_mDigit hl h26 h5 h60 hT (a := va_up a 14 C) (p := p) (w := false) hp) dX10_readArguments_18 ml_X10_231 cvX10_digit K_X10 rfl mo_30 rfl rfl (Nat.le_of_ble_eq_true rfl) (Nat.le_of_ble_eq_true rfl) (Nat.zero_le _) (Nat.zero_le _) (kr_rt ?_) kx_rt
    refine g_iast dX10_readArguments_21 mo_p45 (ix_nI (j := t) (by omega)) (by omega) rfl (Go.heap mo_q45 ?_)
    refine g_iload_n (i := 1) dX10_readArguments_22 rfl rfl ?_
    refine g_tabIn (tgt := 104) dX10_readArguments_23 (by decide) (by decide) rfl (by decide) ?_
    refine g_aload_n (i := 0) dX10_readArguments_104 rfl rfl ?_
    refine g_getf dX10_readArguments_105 K_X10 (k := 23) fl_X10_61 (Nat.le_of_ble_eq_true rfl) mo_30 rfl ?_
    refine g_iload_n (i := 2) dX10_readArguments_108 rfl rfl ?_
    refine g_iconst (v := 1) dX10_readArguments_109 (by decide) ?_
    refine g_iadd dX10_readArguments_110 ?_
    refine g_aload_n (i := 0) dX10_readArguments_111 rfl rfl ?_
    refine g_bipush (v := 61) dX10_readArguments_112 (by decide) ?_
    refine g_callV (ev_mNumberB hl h26 h5 h60 hT (a := va_up a 14 (va_up C t (dgM T p false).1)) (p := (dgM T p false).2.1) (w := (dgM T p false).2.2) (dgM_le hp) (c := 61) (by decide)) dX10_readArguments_114 ml_X10_241 cvX10_numberBehind K_X10 rfl mo_30 rfl rfl (Nat.le_of_ble_eq_true rfl) (Nat.le_of_ble_eq_true rfl) (Nat.zero_le _) (Nat.zero_le _) (kr_rt ?_) kx_rt
    refine g_iast dX10_readArguments_117 mo_p45 (show ix (nI t + 1) (t + 1) by rw [show nI t + 1 = nI (t + 1) from nI_add t 1]; exact ix_nI (by omega)) (show t + 1 < 244 by omega) rfl (Go.heap mo_q45 ?_)
    refine g_goto (tgt := 121) dX10_readArguments_118 (by decide) ?_
    refine g_vret dX10_readArguments_121 rfl ?_
    exact ⟨rfl, rfl⟩
  · exact absurd c7 (by decide)

set_option maxRecDepth 100000 in
theorem ev_ra_3 {l : Launch} {G : GG} (hl : l.stackTraces = false) {A : AD} {h : AH} {a : Nat → Nat → Int32} {f : Nat → Int32} {T : TX} (h26 : f 26 = nI T.2) (h5 : ∀ i, i < T.2 → a 5 i = nI (T.1 i)) (h60 : T.2 ≤ 60) (hT : tOk T) {p n : Nat} (hp : p ≤ T.2) {C : Nat → Int32} {t : Nat} (ht : t + 2 < 244) :
    Ev l G 14 0 0 mX10_readArguments [.ref (A 30 0), .int (nI 3), .int (nI t)] (mo h A (va_up a 14 C, rf f p false n)) (Rt none (mo h A (va_up a 14 (raC T 3 p C t), rf f (raM T 3 p).2.1 (raM T 3 p).2.2 n))) := by
  refine Ev.of hl (by decide) (Nat.le_of_ble_eq_true rfl) ?_
  refine g_aload_n (i := 0) dX10_readArguments_0 rfl rfl ?_
  refine g_getf dX10_readArguments_1 K_X10 (k := 23) fl_X10_61 (Nat.le_of_ble_eq_true rfl) mo_30 rfl ?_
  refine g_iload_n (i := 2) dX10_readArguments_4 rfl rfl ?_
  refine g_iload_n (i := 1) dX10_readArguments_5 rfl rfl ?_
  refine g_iconst (v := 3) dX10_readArguments_6 (by decide) ?_
  refine g_icmp_ne (tgt := 17) dX10_readArguments_7 (by decide) (fun c7 => ?_) (fun c7 => ?_)
  · exact absurd (show nI 3 = 3 from rfl) c7
  · refine g_aload_n (i := 0) dX10_readArguments_10 rfl rfl ?_
    refine g_callV (ev_mNumber hl h26 h5 h60 hT (a := va_up a 14 C) (p := p) (w := false) hp) dX10_readArguments_11 ml_X10_238 cvX10_number K_X10 rfl mo_30 rfl rfl (Nat.le_of_ble_eq_true rfl) (Nat.le_of_ble_eq_true rfl) (Nat.zero_le _) (Nat.zero_le _) (kr_rt ?_) kx_rt
    refine g_goto (tgt := 21) dX10_readArguments_14 (by decide) ?_
    refine g_iast dX10_readArguments_21 mo_p45 (ix_nI (j := t) (by omega)) (by omega) rfl (Go.heap mo_q45 ?_)
    refine g_iload_n (i := 1) dX10_readArguments_22 rfl rfl ?_
    refine g_tabOut (tgt := 121) dX10_readArguments_23 (by decide) (by decide) ?_
    refine g_vret dX10_readArguments_121 rfl ?_
    exact ⟨rfl, rfl⟩

theorem ev_ra {l : Launch} {G : GG} (hl : l.stackTraces = false) {A : AD} {h : AH} {a : Nat → Nat → Int32} {f : Nat → Int32} {T : TX} (h26 : f 26 = nI T.2) (h5 : ∀ i, i < T.2 → a 5 i = nI (T.1 i)) (h60 : T.2 ≤ 60) (hT : tOk T) {p n : Nat} (hp : p ≤ T.2) {C : Nat → Int32} {t : Nat} (ht : t + 2 < 244) {i : Nat} (hi : i < 4) :
    Ev l G 14 0 0 mX10_readArguments [.ref (A 30 0), .int (nI i), .int (nI t)] (mo h A (va_up a 14 C, rf f p false n)) (Rt none (mo h A (va_up a 14 (raC T i p C t), rf f (raM T i p).2.1 (raM T i p).2.2 n))) := by
  obtain rfl | rfl | rfl | rfl : i = 0 ∨ i = 1 ∨ i = 2 ∨ i = 3 := by omega
  · exact ev_ra_0 hl h26 h5 h60 hT hp ht
  · exact ev_ra_1 hl h26 h5 h60 hT hp ht
  · exact ev_ra_2 hl h26 h5 h60 hT hp ht
  · exact ev_ra_3 hl h26 h5 h60 hT hp ht

/-- the word that stands at p; whether all of it does -/
def wdM (T : TX) (p : Nat) : Nat := bwN T p 3
def fuM (T : TX) (p : Nat) : Prop := ¬ lkW T p (wdM T p) < bgN (wdM T p + 1) - bgN (wdM T p)
theorem wdM_lt {T : TX} {p : Nat} : wdM T p < 4 := by have := bwN_lt (T := T) (p := p) 3; unfold wdM; omega
theorem lkW_le {T : TX} {p i : Nat} (hp : p ≤ T.2) (hi : i < 4) : p + lkW T p i ≤ T.2 ∧ lkW T p i ≤ 7 := by
  have h1 := lkN_le (T := T) (p := p) (i := i) (bgN (i + 1) - bgN i) 0
  have h2 := (bg_5 i hi).2.2.2
  unfold lkW
  exact ⟨h1.2.2 (by omega), by omega⟩

set_option maxRecDepth 100000 in
theorem ev_readCmd {l : Launch} {G : GG} (hl : l.stackTraces = false) {A : AD} {h : AH} {a : Nat → Nat → Int32} {f : Nat → Int32} {T : TX} (h26 : f 26 = nI T.2) (h5 : ∀ i, i < T.2 → a 5 i = nI (T.1 i)) (h60 : T.2 ≤ 60) (hT : tOk T) {p n : Nat} (hp : p ≤ T.2) (h13 : ∀ i, i < 5 → a 13 i = nI (bgN i)) (h12 : ∀ i, i < 24 → a 12 i = nI (ltN i)) {C : Nat → Int32} (hn : n < 60) (hfu : fuM T p) :
    Ev l G 15 0 0 mX10_readCommand [.ref (A 30 0)] (mo h A (va_up a 14 C, rf f p false n)) (Rt none (mo h A (va_up a 14 (raC T (wdM T p) (p + (lkW T p (wdM T p))) (va_up C (4 * n) (nI (wdM T p))) (4 * n + 1)), rf f (raM T (wdM T p) (p + (lkW T p (wdM T p)))).2.1 (raM T (wdM T p) (p + (lkW T p (wdM T p)))).2.2 (n + 1)))) := by
  refine Ev.of hl (by decide) (Nat.le_of_ble_eq_true rfl) ?_
  have loop : ∀ (j : Nat) (k : Nat), k + j = 3 → Go l G mX10_readCommand 15 0 0 (Rt none (mo h A (va_up a 14 (raC T (wdM T p) (p + (lkW T p (wdM T p))) (va_up C (4 * n) (nI (wdM T p))) (4 * n + 1)), rf f (raM T (wdM T p) (p + (lkW T p (wdM T p)))).2.1 (raM T (wdM T p) (p + (lkW T p (wdM T p)))).2.2 (n + 1)))) 11 [some (.ref (A 30 0)), some (.int (nI (4 * n))), some (.int (nI (bwN T p k))), some (.int (nI (k + 1)))] [] (mo h A (va_up a 14 C, rf f p false n)) := by
    intro j
    induction j with
    | zero =>
      intro k hk
      refine g_iload_n (i := 3) dX10_readCommand_11 rfl rfl ?_
      refine g_iconst (v := 4) dX10_readCommand_12 (by decide) ?_
      refine g_icmp_ge (tgt := 41) dX10_readCommand_13 (by decide) (fun c13 => ?_) (fun c13 => ?_)
      · obtain rfl : k = 3 := by omega
        show Go l G mX10_readCommand 15 0 0 _ 41 [_, _, some (.int (nI (wdM T p))), _] _ _
        have hw4 := wdM_lt (T := T) (p := p)
        have h9 := lkW_le hp hw4
        have b5 := bg_5 _ hw4
        refine g_aload_n (i := 0) dX10_readCommand_41 rfl rfl ?_
        refine g_iload_n (i := 2) dX10_readCommand_42 rfl rfl ?_
        refine g_callV (ev_likeness hl h26 h5 h60 hT (a := va_up a 14 C) (p := p) (w := false) hp h13 h12 (i := (wdM T p)) wdM_lt) dX10_readCommand_43 ml_X10_250 cvX10_likeness K_X10 rfl mo_30 rfl rfl (Nat.le_of_ble_eq_true rfl) (Nat.le_of_ble_eq_true rfl) (Nat.zero_le _) (Nat.zero_le _) (kr_rt ?_) kx_rt
        refine g_istore_n (i := 3) dX10_readCommand_46 rfl (Nat.le_of_ble_eq_true rfl) ?_
        refine g_aload_n (i := 0) dX10_readCommand_47 rfl rfl ?_
        refine g_dup dX10_readCommand_48 rfl ?_
        refine g_getf dX10_readCommand_49 K_X10 (k := 25) fl_X10_214 (Nat.le_of_ble_eq_true rfl) mo_30 rfl ?_
        refine g_iload_n (i := 3) dX10_readCommand_52 rfl rfl ?_
        refine g_iadd dX10_readCommand_53 ?_
        refine g_putf dX10_readCommand_54 K_X10 (k := 25) fl_X10_214 (Nat.le_of_ble_eq_true rfl) rfl mo_30 (Nat.le_of_ble_eq_true rfl) rfl rfl (Go.heap (mo_r25 (p' := p + (lkW T p (wdM T p))) (nI_add p _)) ?_)
        refine g_aload_n (i := 0) dX10_readCommand_57 rfl rfl ?_
        refine g_iload_n (i := 3) dX10_readCommand_58 rfl rfl ?_
        refine g_aload_n (i := 0) dX10_readCommand_59 rfl rfl ?_
        refine g_getf dX10_readCommand_60 K_X10 (k := 22) fl_X10_58 (Nat.le_of_ble_eq_true rfl) mo_30 rfl ?_
        refine g_iload_n (i := 2) dX10_readCommand_63 rfl rfl ?_
        refine g_iconst (v := 1) dX10_readCommand_64 (by decide) ?_
        refine g_iadd dX10_readCommand_65 ?_
        refine g_iald dX10_readCommand_66 mo_44 (show ix (nI (wdM T p) + 1) ((wdM T p) + 1) by rw [← nI_succ]; exact ix_nI (by omega)) (show (wdM T p) + 1 < 5 by omega) ?_
        refine g_aload_n (i := 0) dX10_readCommand_67 rfl rfl ?_
        refine g_getf dX10_readCommand_68 K_X10 (k := 22) fl_X10_58 (Nat.le_of_ble_eq_true rfl) mo_30 rfl ?_
        refine g_iload_n (i := 2) dX10_readCommand_71 rfl rfl ?_
        refine g_iald dX10_readCommand_72 mo_44 (ix_nI (j := (wdM T p)) (by omega)) (show (wdM T p) < 5 by omega) ?_
        refine g_isub dX10_readCommand_73 ?_
        rw [show (va_up a 14 C) 13 ((wdM T p) + 1) = _ from h13 _ (by omega), show (va_up a 14 C) 13 (wdM T p) = _ from h13 _ (by omega), b5.2.2.1]
        refine g_icmp_ge (tgt := 81) dX10_readCommand_74 (by decide) (fun c74 => ?_) (fun c74 => ?_)
        · refine g_iconst (v := 0) dX10_readCommand_81 (by decide) ?_
          refine g_putf dX10_readCommand_82 K_X10 (k := 27) fl_X10_220 (Nat.le_of_ble_eq_true rfl) rfl mo_30 (Nat.le_of_ble_eq_true rfl) rfl rfl (Go.heap (mo_r27 (w' := false) rfl) ?_)
          refine g_aload_n (i := 0) dX10_readCommand_85 rfl rfl ?_
          refine g_getf dX10_readCommand_86 K_X10 (k := 27) fl_X10_220 (Nat.le_of_ble_eq_true rfl) mo_30 rfl ?_
          refine g_if_ne (tgt := 117) dX10_readCommand_89 (by decide) (fun c89 => ?_) (fun c89 => ?_)
          · exact absurd (show (0 : Int32) = 0 from rfl) c89
          · refine g_aload_n (i := 0) dX10_readCommand_92 rfl rfl ?_
            refine g_getf dX10_readCommand_93 K_X10 (k := 23) fl_X10_61 (Nat.le_of_ble_eq_true rfl) mo_30 rfl ?_
            refine g_iload_n (i := 1) dX10_readCommand_96 rfl rfl ?_
            refine g_iload_n (i := 2) dX10_readCommand_97 rfl rfl ?_
            refine g_iast dX10_readCommand_98 mo_p45 (ix_nI (j := 4 * n) (by omega)) (by omega) rfl (Go.heap mo_q45 ?_)
            refine g_aload_n (i := 0) dX10_readCommand_99 rfl rfl ?_
            refine g_dup dX10_readCommand_100 rfl ?_
            refine g_getf dX10_readCommand_101 K_X10 (k := 24) fl_X10_247 (Nat.le_of_ble_eq_true rfl) mo_30 rfl ?_
            refine g_iconst (v := 1) dX10_readCommand_104 (by decide) ?_
            refine g_iadd dX10_readCommand_105 ?_
            refine g_putf dX10_readCommand_106 K_X10 (k := 24) fl_X10_247 (Nat.le_of_ble_eq_true rfl) rfl mo_30 (Nat.le_of_ble_eq_true rfl) rfl rfl (Go.heap (mo_r24 (n' := n + 1) (nI_succ n).symm) ?_)
            refine g_aload_n (i := 0) dX10_readCommand_109 rfl rfl ?_
            refine g_iload_n (i := 2) dX10_readCommand_110 rfl rfl ?_
            refine g_iload_n (i := 1) dX10_readCommand_111 rfl rfl ?_
            refine g_iconst (v := 1) dX10_readCommand_112 (by decide) ?_
            refine g_iadd dX10_readCommand_113 ?_
            rw [show nI (4 * n) + 1 = nI (4 * n + 1) from (nI_succ _).symm]
            refine g_callV (ev_ra hl h26 h5 h60 hT (a := a) (C := va_up C (4 * n) (nI (wdM T p))) (p := p + (lkW T p (wdM T p))) (n := n + 1) (t := 4 * n + 1) h9.1 (by omega) wdM_lt) dX10_readCommand_114 ml_X10_253 cvX10_readArguments K_X10 rfl mo_30 rfl rfl (Nat.le_of_ble_eq_true rfl) (Nat.le_of_ble_eq_true rfl) (Nat.zero_le _) (Nat.zero_le _) (kr_vd ?_) kx_rt
            refine g_vret dX10_readCommand_117 rfl ?_
            exact ⟨rfl, rfl⟩
        · exact absurd ((le_nI (a := bgN ((wdM T p) + 1) - bgN (wdM T p)) (b := (lkW T p (wdM T p))) rfl (by omega) (by omega)).mpr (by have := hfu; unfold fuM at this; omega)) c74
      · exact absurd ((le_nI (a := 4) (b := k + 1) rfl (by omega) (by omega)).mpr (by omega)) c13
    | succ j ih =>
      intro k hk
      have hb := bwN_lt (T := T) (p := p) k
      have hl1 := (lkW_le (i := k + 1) hp (by omega)).2
      have hl2 := (lkW_le (i := bwN T p k) hp (by omega)).2
      refine g_iload_n (i := 3) dX10_readCommand_11 rfl rfl ?_
      refine g_iconst (v := 4) dX10_readCommand_12 (by decide) ?_
      refine g_icmp_ge (tgt := 41) dX10_readCommand_13 (by decide) (fun c13 => ?_) (fun c13 => ?_)
      · exact absurd ((le_nI (a := 4) (b := k + 1) rfl (by omega) (by omega)).mp c13) (by omega)
      · refine g_aload_n (i := 0) dX10_readCommand_16 rfl rfl ?_
        refine g_iload_n (i := 3) dX10_readCommand_17 rfl rfl ?_
        refine g_callV (ev_likeness hl h26 h5 h60 hT (a := va_up a 14 C) (p := p) (w := false) hp h13 h12 (i := k + 1) (by omega)) dX10_readCommand_18 ml_X10_250 cvX10_likeness K_X10 rfl mo_30 rfl rfl (Nat.le_of_ble_eq_true rfl) (Nat.le_of_ble_eq_true rfl) (Nat.zero_le _) (Nat.zero_le _) (kr_rt ?_) kx_rt
        refine g_aload_n (i := 0) dX10_readCommand_21 rfl rfl ?_
        refine g_iload_n (i := 2) dX10_readCommand_22 rfl rfl ?_
        refine g_callV (ev_likeness hl h26 h5 h60 hT (a := va_up a 14 C) (p := p) (w := false) hp h13 h12 (i := (bwN T p k)) (by omega)) dX10_readCommand_23 ml_X10_250 cvX10_likeness K_X10 rfl mo_30 rfl rfl (Nat.le_of_ble_eq_true rfl) (Nat.le_of_ble_eq_true rfl) (Nat.zero_le _) (Nat.zero_le _) (kr_rt ?_) kx_rt
        refine g_icmp_le (tgt := 33) dX10_readCommand_26 (by decide) (fun c26 => ?_) (fun c26 => ?_)
        · refine g_iload_n (i := 2) dX10_readCommand_33 rfl rfl ?_
          refine g_istore_n (i := 2) dX10_readCommand_34 rfl (Nat.le_of_ble_eq_true rfl) ?_
          refine g_iinc (w := 1) dX10_readCommand_35 (by decide) rfl (nI_succ (k + 1)).symm (Nat.le_of_ble_eq_true rfl) ?_
          refine g_goto (tgt := 11) dX10_readCommand_38 (by decide) ?_
          have e : bwN T p (k + 1) = bwN T p k := if_neg (by have := (nI_le' (a := lkW T p (k + 1)) (b := lkW T p (bwN T p k)) rfl (by omega) (by omega)).mp c26; omega)
          have z := ih (k + 1) (by omega)
          rw [e] at z
          exact z
        · refine g_iload_n (i := 3) dX10_readCommand_29 rfl rfl ?_
          refine g_goto (tgt := 34) dX10_readCommand_30 (by decide) ?_
          refine g_istore_n (i := 2) dX10_readCommand_34 rfl (Nat.le_of_ble_eq_true rfl) ?_
          refine g_iinc (w := 1) dX10_readCommand_35 (by decide) rfl (nI_succ (k + 1)).symm (Nat.le_of_ble_eq_true rfl) ?_
          refine g_goto (tgt := 11) dX10_readCommand_38 (by decide) ?_
          have e : bwN T p (k + 1) = k + 1 := if_pos (by have := mt (nI_le' (a := lkW T p (k + 1)) (b := lkW T p (bwN T p k)) rfl (by omega) (by omega)).mpr c26; omega)
          have z := ih (k + 1) (by omega)
          rw [e] at z
          exact z
  refine g_iconst (v := 4) dX10_readCommand_0 (by decide) ?_
  refine g_aload_n (i := 0) dX10_readCommand_1 rfl rfl ?_
  refine g_getf dX10_readCommand_2 K_X10 (k := 24) fl_X10_247 (Nat.le_of_ble_eq_true rfl) mo_30 rfl ?_
  refine g_imul dX10_readCommand_5 ?_
  rw [show 4 * rf f p false n 24 = nI (4 * n) from (Int32.ofNat_mul 4 n).symm]
  refine g_istore_n (i := 1) dX10_readCommand_6 rfl (Nat.le_of_ble_eq_true rfl) ?_
  refine g_iconst (v := 0) dX10_readCommand_7 (by decide) ?_
  refine g_istore_n (i := 2) dX10_readCommand_8 rfl (Nat.le_of_ble_eq_true rfl) ?_
  refine g_iconst (v := 1) dX10_readCommand_9 (by decide) ?_
  refine g_istore_n (i := 3) dX10_readCommand_10 rfl (Nat.le_of_ble_eq_true rfl) ?_
  exact loop 3 0 rfl

set_option maxRecDepth 100000 in
theorem ev_readCmd_no {l : Launch} {G : GG} (hl : l.stackTraces = false) {A : AD} {h : AH} {a : Nat → Nat → Int32} {f : Nat → Int32} {T : TX} (h26 : f 26 = nI T.2) (h5 : ∀ i, i < T.2 → a 5 i = nI (T.1 i)) (h60 : T.2 ≤ 60) (hT : tOk T) {p n : Nat} (hp : p ≤ T.2) (h13 : ∀ i, i < 5 → a 13 i = nI (bgN i)) (h12 : ∀ i, i < 24 → a 12 i = nI (ltN i)) {C : Nat → Int32} (hn : n < 60) (hfu : ¬ fuM T p) :
    Ev l G 15 0 0 mX10_readCommand [.ref (A 30 0)] (mo h A (va_up a 14 C, rf f p false n)) (Rt none (mo h A (va_up a 14 C, rf f (p + (lkW T p (wdM T p))) true n))) := by
  refine Ev.of hl (by decide) (Nat.le_of_ble_eq_true rfl) ?_
  have loop : ∀ (j : Nat) (k : Nat), k + j = 3 → Go l G mX10_readCommand 15 0 0 (Rt none (mo h A (va_up a 14 C, rf f (p + (lkW T p (wdM T p))) true n))) 11 [some (.ref (A 30 0)), some (.int (nI (4 * n))), some (.int (nI (bwN T p k))), some (.int (nI (k + 1)))] [] (mo h A (va_up a 14 C, rf f p false n)) := by
    intro j
    induction j with
    | zero =>
      intro k hk
      refine g_iload_n (i := 3) dX10_readCommand_11 rfl rfl ?_
      refine g_iconst (v := 4) dX10_readCommand_12 (by decide) ?_
      refine g_icmp_ge (tgt := 41) dX10_readCommand_13 (by decide) (fun c13 => ?_) (fun c13 => ?_)
      · obtain rfl : k = 3 := by omega
        show Go l G mX10_readCommand 15 0 0 _ 41 [_, _, some (.int (nI (wdM T p))), _] _ _
        have hw4 := wdM_lt (T := T) (p := p)
        have h9 := lkW_le hp hw4
        have b5 := bg_5 _ hw4
        refine g_aload_n (i := 0) dX10_readCommand_41 rfl rfl ?_
        refine g_iload_n (i := 2) dX10_readCommand_42 rfl rfl ?_
        refine g_callV (ev_likeness hl h26 h5 h60 hT (a := va_up a 14 C) (p := p) (w := false) hp h13 h12 (i := (wdM T p)) wdM_lt) dX10_readCommand_43 ml_X10_250 cvX10_likeness K_X10 rfl mo_30 rfl rfl (Nat.le_of_ble_eq_true rfl) (Nat.le_of_ble_eq_true rfl) (Nat.zero_le _) (Nat.zero_le _) (kr_rt ?_) kx_rt
        refine g_istore_n (i := 3) dX10_readCommand_46 rfl (Nat.le_of_ble_eq_true rfl) ?_
        refine g_aload_n (i := 0) dX10_readCommand_47 rfl rfl ?_
        refine g_dup dX10_readCommand_48 rfl ?_
        refine g_getf dX10_readCommand_49 K_X10 (k := 25) fl_X10_214 (Nat.le_of_ble_eq_true rfl) mo_30 rfl ?_
        refine g_iload_n (i := 3) dX10_readCommand_52 rfl rfl ?_
        refine g_iadd dX10_readCommand_53 ?_
        refine g_putf dX10_readCommand_54 K_X10 (k := 25) fl_X10_214 (Nat.le_of_ble_eq_true rfl) rfl mo_30 (Nat.le_of_ble_eq_true rfl) rfl rfl (Go.heap (mo_r25 (p' := p + (lkW T p (wdM T p))) (nI_add p _)) ?_)
        refine g_aload_n (i := 0) dX10_readCommand_57 rfl rfl ?_
        refine g_iload_n (i := 3) dX10_readCommand_58 rfl rfl ?_
        refine g_aload_n (i := 0) dX10_readCommand_59 rfl rfl ?_
        refine g_getf dX10_readCommand_60 K_X10 (k := 22) fl_X10_58 (Nat.le_of_ble_eq_true rfl) mo_30 rfl ?_
        refine g_iload_n (i := 2) dX10_readCommand_63 rfl rfl ?_
        refine g_iconst (v := 1) dX10_readCommand_64 (by decide) ?_
        refine g_iadd dX10_readCommand_65 ?_
        refine g_iald dX10_readCommand_66 mo_44 (show ix (nI (wdM T p) + 1) ((wdM T p) + 1) by rw [← nI_succ]; exact ix_nI (by omega)) (show (wdM T p) + 1 < 5 by omega) ?_
        refine g_aload_n (i := 0) dX10_readCommand_67 rfl rfl ?_
        refine g_getf dX10_readCommand_68 K_X10 (k := 22) fl_X10_58 (Nat.le_of_ble_eq_true rfl) mo_30 rfl ?_
        refine g_iload_n (i := 2) dX10_readCommand_71 rfl rfl ?_
        refine g_iald dX10_readCommand_72 mo_44 (ix_nI (j := (wdM T p)) (by omega)) (show (wdM T p) < 5 by omega) ?_
        refine g_isub dX10_readCommand_73 ?_
        rw [show (va_up a 14 C) 13 ((wdM T p) + 1) = _ from h13 _ (by omega), show (va_up a 14 C) 13 (wdM T p) = _ from h13 _ (by omega), b5.2.2.1]
        refine g_icmp_ge (tgt := 81) dX10_readCommand_74 (by decide) (fun c74 => ?_) (fun c74 => ?_)
        · exact absurd ((le_nI (a := bgN ((wdM T p) + 1) - bgN (wdM T p)) (b := (lkW T p (wdM T p))) rfl (by omega) (by omega)).mp c74) (by have := hfu; unfold fuM at this; omega)
        · refine g_iconst (v := 1) dX10_readCommand_77 (by decide) ?_
          refine g_goto (tgt := 82) dX10_readCommand_78 (by decide) ?_
          refine g_putf dX10_readCommand_82 K_X10 (k := 27) fl_X10_220 (Nat.le_of_ble_eq_true rfl) rfl mo_30 (Nat.le_of_ble_eq_true rfl) rfl rfl (Go.heap (mo_r27 (w' := true) rfl) ?_)
          refine g_aload_n (i := 0) dX10_readCommand_85 rfl rfl ?_
          refine g_getf dX10_readCommand_86 K_X10 (k := 27) fl_X10_220 (Nat.le_of_ble_eq_true rfl) mo_30 rfl ?_
          refine g_if_ne (tgt := 117) dX10_readCommand_89 (by decide) (fun c89 => ?_) (fun c89 => ?_)
          · refine g_vret dX10_readCommand_117 rfl ?_
            exact ⟨rfl, rfl⟩
          · exact absurd (show (1 : Int32) = 0 from c89) (by decide)
      · exact absurd ((le_nI (a := 4) (b := k + 1) rfl (by omega) (by omega)).mpr (by omega)) c13
    | succ j ih =>
      intro k hk
      have hb := bwN_lt (T := T) (p := p) k
      have hl1 := (lkW_le (i := k + 1) hp (by omega)).2
      have hl2 := (lkW_le (i := bwN T p k) hp (by omega)).2
      refine g_iload_n (i := 3) dX10_readCommand_11 rfl rfl ?_
      refine g_iconst (v := 4) dX10_readCommand_12 (by decide) ?_
      refine g_icmp_ge (tgt := 41) dX10_readCommand_13 (by decide) (fun c13 => ?_) (fun c13 => ?_)
      · exact absurd ((le_nI (a := 4) (b := k + 1) rfl (by omega) (by omega)).mp c13) (by omega)
      · refine g_aload_n (i := 0) dX10_readCommand_16 rfl rfl ?_
        refine g_iload_n (i := 3) dX10_readCommand_17 rfl rfl ?_
        refine g_callV (ev_likeness hl h26 h5 h60 hT (a := va_up a 14 C) (p := p) (w := false) hp h13 h12 (i := k + 1) (by omega)) dX10_readCommand_18 ml_X10_250 cvX10_likeness K_X10 rfl mo_30 rfl rfl (Nat.le_of_ble_eq_true rfl) (Nat.le_of_ble_eq_true rfl) (Nat.zero_le _) (Nat.zero_le _) (kr_rt ?_) kx_rt
        refine g_aload_n (i := 0) dX10_readCommand_21 rfl rfl ?_
        refine g_iload_n (i := 2) dX10_readCommand_22 rfl rfl ?_
        refine g_callV (ev_likeness hl h26 h5 h60 hT (a := va_up a 14 C) (p := p) (w := false) hp h13 h12 (i := (bwN T p k)) (by omega)) dX10_readCommand_23 ml_X10_250 cvX10_likeness K_X10 rfl mo_30 rfl rfl (Nat.le_of_ble_eq_true rfl) (Nat.le_of_ble_eq_true rfl) (Nat.zero_le _) (Nat.zero_le _) (kr_rt ?_) kx_rt
        refine g_icmp_le (tgt := 33) dX10_readCommand_26 (by decide) (fun c26 => ?_) (fun c26 => ?_)
        · refine g_iload_n (i := 2) dX10_readCommand_33 rfl rfl ?_
          refine g_istore_n (i := 2) dX10_readCommand_34 rfl (Nat.le_of_ble_eq_true rfl) ?_
          refine g_iinc (w := 1) dX10_readCommand_35 (by decide) rfl (nI_succ (k + 1)).symm (Nat.le_of_ble_eq_true rfl) ?_
          refine g_goto (tgt := 11) dX10_readCommand_38 (by decide) ?_
          have e : bwN T p (k + 1) = bwN T p k := if_neg (by have := (nI_le' (a := lkW T p (k + 1)) (b := lkW T p (bwN T p k)) rfl (by omega) (by omega)).mp c26; omega)
          have z := ih (k + 1) (by omega)
          rw [e] at z
          exact z
        · refine g_iload_n (i := 3) dX10_readCommand_29 rfl rfl ?_
          refine g_goto (tgt := 34) dX10_readCommand_30 (by decide) ?_
          refine g_istore_n (i := 2) dX10_readCommand_34 rfl (Nat.le_of_ble_eq_true rfl) ?_
          refine g_iinc (w := 1) dX10_readCommand_35 (by decide) rfl (nI_succ (k + 1)).symm (Nat.le_of_ble_eq_true rfl) ?_
          refine g_goto (tgt := 11) dX10_readCommand_38 (by decide) ?_
          have e : bwN T p (k + 1) = k + 1 := if_pos (by have := mt (nI_le' (a := lkW T p (k + 1)) (b := lkW T p (bwN T p k)) rfl (by omega) (by omega)).mpr c26; omega)
          have z := ih (k + 1) (by omega)
          rw [e] at z
          exact z
  refine g_iconst (v := 4) dX10_readCommand_0 (by decide) ?_
  refine g_aload_n (i := 0) dX10_readCommand_1 rfl rfl ?_
  refine g_getf dX10_readCommand_2 K_X10 (k := 24) fl_X10_247 (Nat.le_of_ble_eq_true rfl) mo_30 rfl ?_
  refine g_imul dX10_readCommand_5 ?_
  rw [show 4 * rf f p false n 24 = nI (4 * n) from (Int32.ofNat_mul 4 n).symm]
  refine g_istore_n (i := 1) dX10_readCommand_6 rfl (Nat.le_of_ble_eq_true rfl) ?_
  refine g_iconst (v := 0) dX10_readCommand_7 (by decide) ?_
  refine g_istore_n (i := 2) dX10_readCommand_8 rfl (Nat.le_of_ble_eq_true rfl) ?_
  refine g_iconst (v := 1) dX10_readCommand_9 (by decide) ?_
  refine g_istore_n (i := 3) dX10_readCommand_10 rfl (Nat.le_of_ble_eq_true rfl) ?_
  exact loop 3 0 rfl

