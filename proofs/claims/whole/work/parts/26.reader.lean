/-! Small questions of the class; Command and CommandReader (by wip/whole/gen/m12.py). -/
abbrev groundP (x : Int32) : Prop := x = 46 ∨ x = 58 ∨ x = 126 ∨ x = 35
abbrev amountP (x : Int32) : Prop := 1 ≤ x ∧ x ≤ 999
abbrev sideP (x : Int32) : Prop := 0 ≤ x ∧ x < 4
abbrev tempP (x : Int32) : Prop := 0 ≤ x ∧ x ≤ 9999
abbrev tickP (x : Int32) : Prop := 1 ≤ x ∧ x ≤ 20
theorem nlt' {x y : Int32} (h : y < x) : ¬ x ≤ y := Int32.not_le.mpr h
theorem ltn' {x y : Int32} (h : ¬ y < x) : x ≤ y := Int32.not_lt.mp h
/-- a text and its length; a command: kind, first, second, third -/
abbrev TX : Type := (Nat → Nat) × Nat
abbrev CM : Type := Int32 × Int32 × Int32 × Int32
/-- count, position, commands -/
abbrev RS : Type := Nat × Nat × (Nat → CM)
def rdO (A : AD) (n p : Nat) : Nat × AC := (A 21 0, .inr (2, [.ref (A 22 0), .ref (A 24 0), .int (nI n), .int (nI p)]))
def rdL0 (A : AD) : Nat × AC := (A 24 0, .inl (6, 10, .inr (.inr (.inr (.inr (fun i => some (A 25 i)))))))
def cmO (A : AD) (i : Nat) (c : CM) : Nat × AC := (A 25 i, .inr (1, [.int c.1, .int c.2.1, .int c.2.2.1, .int c.2.2.2]))
def rdd (h : AH) (A : AD) (S : RS) : AH := fun s g => if s = 21 ∧ g = 0 then some (rdO A S.1 S.2.1) else if s = 24 ∧ g = 0 then some (rdL0 A) else if s = 25 ∧ g < 10 then some (cmO A g (S.2.2 g)) else h s g
/-- the reader over its text -/
def rdh (h : AH) (A : AD) (S : RS) (B : SB) : AH := sbd (rdd h A S) A 0 B
theorem sbd_up {h : AH} {A : AD} {g : Nat} {B : SB} {s g' : Nat} {c : Nat × AC} (h1 : s ≠ 22) (h2 : s ≠ 23) (h3 : s ≠ 26) : up (sbd h A g B) s g' c = sbd (up h s g' c) A g B := by
  funext s1 g1
  simp only [sbd, up]
  by_cases e : s1 = s
  · subst e
    simp [h1, h2, h3]
  · simp [e]
section RD
variable {h : AH} {A : AD} {S : RS} {B : SB}
theorem rdh_21 : rdh h A S B 21 0 = some (A 21 0, .inr (2, [.ref (A 22 0), .ref (A 24 0), .int (nI S.1), .int (nI S.2.1)])) := (sbd_lo (by decide)).trans rfl
theorem rdh_24 : rdh h A S B 24 0 = some (A 24 0, .inl (6, 10, .inr (.inr (.inr (.inr (fun i => some (A 25 i))))))) := (sbd_mid (by decide) (by decide)).trans rfl
theorem rdh_25 {i : Nat} (hi : i < 10) : rdh h A S B 25 i = some (A 25 i, .inr (1, [.int (S.2.2 i).1, .int (S.2.2 i).2.1, .int (S.2.2 i).2.2.1, .int (S.2.2 i).2.2.2])) := (sbd_mid (by decide) (by decide)).trans (by simp [rdd, hi, cmO])
theorem rdh_22 : rdh h A S B 22 0 = some (A 22 0, .inr (11, [.ref B.1, .int 0, .int B.2.2.2.2, .int (nI B.2.2.2.1)])) := sbd_22
theorem rdh_lo {s g : Nat} (hs : s < 21) : rdh h A S B s g = h s g := by
  unfold rdh
  rw [sbd_lo (by omega), rdd, if_neg (by omega), if_neg (by omega), if_neg (by omega)]
theorem rdh_hi {s g : Nat} (hs : 26 < s) : rdh h A S B s g = h s g := by
  unfold rdh
  rw [sbd_hi (by omega), rdd, if_neg (by omega), if_neg (by omega), if_neg (by omega)]
theorem rdh_map {g : Nat} {m : MS} (H : isMap h A g m) : isMap (rdh h A S B) A g m := by
  obtain ⟨h0, h1, h2, h3, h4, h5⟩ := H
  exact ⟨(rdh_lo (by decide)).trans h0, (rdh_lo (by decide)).trans h1, (rdh_lo (by decide)).trans h2, (rdh_lo (by decide)).trans h3, (rdh_lo (by decide)).trans h4, (rdh_lo (by decide)).trans h5⟩
theorem rdh_o {n p : Nat} : up (rdh h A S B) 21 0 (rdO A n p) = rdh h A (n, p, S.2.2) B := by
  unfold rdh
  rw [sbd_up (by decide) (by decide) (by decide)]
  congr 1
  funext s g
  by_cases e : s = 21 ∧ g = 0
  · obtain ⟨rfl, rfl⟩ := e
    rw [up_same]
    rfl
  · rw [up_ne _ _ e]
    simp only [rdd, if_neg e]
theorem rdh_c {i : Nat} {c : CM} (hi : i < 10) : up (rdh h A S B) 25 i (cmO A i c) = rdh h A (S.1, S.2.1, va_up S.2.2 i c) B := by
  unfold rdh
  rw [sbd_up (by decide) (by decide) (by decide)]
  congr 1
  funext s g
  by_cases e : s = 25 ∧ g = i
  · obtain ⟨rfl, rfl⟩ := e
    rw [up_same]
    simp [rdd, hi, va_up]
  · rw [up_ne _ _ e]
    simp only [rdd]
    by_cases e2 : s = 25 ∧ g < 10
    · have : g ≠ i := fun q => e ⟨e2.1, q⟩
      simp [va_up, this]
    · simp only [if_neg e2]
end RD
theorem va_up2 {α : Type} (f : Nat → α) (i : Nat) (a b : α) : va_up (va_up f i a) i b = va_up f i b := by
  funext k
  by_cases e : k = i
  · subst e; simp [va_up]
  · simp [va_up, e]
theorem va_self {α : Type} (f : Nat → α) (i : Nat) : va_up f i (f i) = f := by
  funext k
  by_cases e : k = i
  · subst e; simp [va_up]
  · simp [va_up, e]
/-- a text of few letters -/
def tOk (T : TX) : Prop := ∀ k, k < T.2 → T.1 k < 127
def nxt (T : TX) (p : Nat) (c : Int32) : Bool := decide (p < T.2 ∧ nI (T.1 p) = c)
theorem nxt_t {T : TX} {p : Nat} {c : Int32} (h1 : p < T.2) (h2 : nI (T.1 p) = c) : nxt T p c = true := decide_eq_true ⟨h1, h2⟩
theorem nxt_f1 {T : TX} {p : Nat} {c : Int32} (h1 : ¬ p < T.2) : nxt T p c = false := decide_eq_false fun q => h1 q.1
theorem nxt_f2 {T : TX} {p : Nat} {c : Int32} (h1 : ¬ nI (T.1 p) = c) : nxt T p c = false := decide_eq_false fun q => h1 q.2
def dig (T : TX) (p : Nat) : Option Nat := if p < T.2 ∧ 48 ≤ T.1 p ∧ T.1 p ≤ 57 then some (T.1 p - 48) else none
theorem dig_le {T : TX} {p k : Nat} (h : dig T p = some k) : k ≤ 9 ∧ p < T.2 := by
  unfold dig at h
  split at h
  · cases h; omega
  · cases h
def digP (T : TX) (p : Nat) : Nat := if (dig T p).isSome = true then p + 1 else p
theorem digP_n {T : TX} {p : Nat} (h : dig T p = none) : digP T p = p := by rw [digP, h]; rfl
theorem digP_s {T : TX} {p d : Nat} (h : dig T p = some d) : digP T p = p + 1 := by rw [digP, h]; rfl
theorem nI_nm {n : Nat} (h : n < 2 ^ 31) : ¬ nI n = -1 := fun q => by
  have h1 := nI_toInt h
  rw [q] at h1
  have h2 : (-1 : Int32).toInt = -1 := by decide
  omega
theorem oI_some {o : Option Nat} (h : ¬ oI o = -1) : ∃ d, o = some d := by
  cases o with
  | none => exact absurd rfl h
  | some d => exact ⟨d, rfl⟩
theorem oI_none {o : Option Nat} (hb : ∀ d, o = some d → d < 2 ^ 31) (h : oI o = -1) : o = none := by
  cases o with
  | none => rfl
  | some d => exact absurd h (nI_nm (hb d rfl))
theorem dig_none {T : TX} {p : Nat} (h : oI (dig T p) = -1) : dig T p = none := oI_none (fun d hd => by have := (dig_le hd).1; omega) h
theorem nI10 (x d : Nat) : 10 * nI x + nI d = nI (10 * x + d) := by
  rw [show (10 : Int32) * nI x = nI (10 * x) from (Int32.ofNat_mul 10 x).symm, nI_add]
def mor (T : TX) : Nat → Nat → Nat → Nat × Nat
  | 0, p, x => (p, x)
  | j + 1, p, x => match dig T p with
    | none => (p, x)
    | some d => mor T j (p + 1) (10 * x + d)
def num (T : TX) (p : Nat) : Nat × Option Nat := match dig T p with
  | none => (p, none)
  | some d => ((mor T 3 (p + 1) d).1, some (mor T 3 (p + 1) d).2)
theorem mor_le {T : TX} : ∀ (j p x : Nat), p ≤ T.2 → p ≤ (mor T j p x).1 ∧ (mor T j p x).1 ≤ T.2 ∧ (mor T j p x).2 < 10 ^ j * (x + 1)
  | 0, p, x, h => ⟨Nat.le_refl _, h, by show x < _; omega⟩
  | j + 1, p, x, h => by
    rw [mor]
    cases hd : dig T p with
    | none =>
      have h1 : 10 ^ 0 ≤ 10 ^ (j + 1) := Nat.pow_le_pow_right (by decide) (Nat.zero_le _)
      have h2 := Nat.mul_le_mul_right (x + 1) h1
      exact ⟨Nat.le_refl _, h, by show x < _; omega⟩
    | some d =>
      have h1 := dig_le hd
      have h2 := mor_le (T := T) j (p + 1) (10 * x + d) (by omega)
      refine ⟨by have := h2.1; show p ≤ (mor T j (p + 1) (10 * x + d)).1; omega, h2.2.1, Nat.lt_of_lt_of_le h2.2.2 ?_⟩
      rw [Nat.pow_succ, Nat.mul_assoc]
      exact Nat.mul_le_mul_left _ (by omega)
theorem num_le {T : TX} {p : Nat} (h : p ≤ T.2) : p ≤ (num T p).1 ∧ (num T p).1 ≤ T.2 := by
  unfold num
  cases hd : dig T p with
  | none => exact ⟨Nat.le_refl _, h⟩
  | some d =>
    have h1 := dig_le hd
    have h2 := mor_le 3 (p + 1) d (T := T) (by omega)
    exact ⟨by show p ≤ (mor T 3 (p + 1) d).1; omega, h2.2.1⟩
theorem num_none {T : TX} {p : Nat} (h : p ≤ T.2) (e : oI (num T p).2 = -1) : (num T p).2 = none := by
  refine oI_none (fun x hx => ?_) e
  unfold num at hx
  cases hd : dig T p with
  | none => rw [hd] at hx; cases hx
  | some d =>
    rw [hd] at hx
    cases hx
    have h1 := dig_le hd
    have h2 := (mor_le 3 (p + 1) d (T := T) (by omega)).2.2
    have : 10 ^ 3 * (d + 1) ≤ 10 ^ 3 * 10 := Nat.mul_le_mul_left _ (by omega)
    omega
def wrd (T : TX) (w : Nat → Int32) : Nat → Nat → Nat → Nat × Bool
  | 0, _, p => (p, true)
  | j + 1, k, p => if nxt T p (w k) = true then wrd T w j (k + 1) (p + 1) else (p, false)
theorem wrd_le {T : TX} {w : Nat → Int32} : ∀ (j k p : Nat), p ≤ T.2 → (wrd T w j k p).1 ≤ T.2
  | 0, _, _, h => h
  | j + 1, k, p, h => by
    rw [wrd]
    split
    · have : p < T.2 := (of_decide_eq_true (by assumption : nxt T p (w k) = true)).1
      exact wrd_le j _ _ this
    · exact h
def rdW (i : Nat) : Nat → Int32 := fun j => (rdByt.getD i []).getD j 0
/-- reading a word -/
def rWd (T : TX) (i p : Nat) : Nat × Bool := wrd T (rdW i) (rdLen.getD i 0) 0 p
def rCell (T : TX) (p : Nat) (c : CM) : Nat × CM × Bool := match dig T p with
  | none => (p, (c.1, -1, c.2.2), false)
  | some x => match dig T (p + 1) with
    | none => (p + 1, (c.1, nI x, -1, c.2.2.2), false)
    | some y => (p + 2, (c.1, nI x, nI y, c.2.2.2), true)
def rSide (T : TX) (p : Nat) (c : CM) : Nat × CM × Bool := (digP T p, (c.1, oI (dig T p), c.2.2), (dig T p).isSome)
def rGround (T : TX) (p : Nat) (c : CM) : Nat × CM × Bool := if p < T.2 ∧ groundP (nI (T.1 p)) then (p + 1, (c.1, c.2.1, c.2.2.1, nI (T.1 p)), true) else (p, c, false)
def rFirst (T : TX) (p : Nat) (c : CM) : Nat × CM × Bool := ((num T p).1, (c.1, oI (num T p).2, c.2.2), (num T p).2.isSome)
def rSecond (T : TX) (p : Nat) (c : CM) : Nat × CM × Bool := ((num T p).1, (c.1, c.2.1, oI (num T p).2, c.2.2.2), (num T p).2.isSome)
def rThird (T : TX) (p : Nat) (c : CM) : Nat × CM × Bool := ((num T p).1, (c.1, c.2.1, c.2.2.1, oI (num T p).2), (num T p).2.isSome)
/-- then -/
def rThen (a : Nat × CM × Bool) (f : Nat → CM → Nat × CM × Bool) : Nat × CM × Bool := if a.2.2 = true then f a.1 a.2.1 else a
def rWord (T : TX) (i p : Nat) (c : CM) : Nat × CM × Bool := ((rWd T i p).1, c, (rWd T i p).2)
def rSign (T : TX) (x : Int32) (p : Nat) (c : CM) : Nat × CM × Bool := if nxt T p x = true then (p + 1, c, true) else (p, c, false)
def rHeat (T : TX) (p : Nat) (c : CM) : Nat × CM × Bool := rThen (rThen (rThen (rWord T 0 p (0, c.2)) (rCell T)) (rSign T 43)) (rThird T)
def rGrd (T : TX) (p : Nat) (c : CM) : Nat × CM × Bool := rThen (rThen (rWord T 1 p (1, c.2)) (rCell T)) (rGround T)
def rBord (T : TX) (p : Nat) (c : CM) : Nat × CM × Bool := rThen (rThen (rThen (rWord T 2 p (2, c.2)) (rSide T)) (rSign T 61)) (rSecond T)
def rPass (T : TX) (p : Nat) (c : CM) : Nat × CM × Bool := rThen (rWord T 3 p (3, c.2)) (rFirst T)
def rCmd (T : TX) (p : Nat) (c : CM) : Nat × CM × Bool := if nxt T p 104 = true then rHeat T p c else if nxt T p 103 = true then rGrd T p c else if nxt T p 98 = true then rBord T p c else rPass T p c
theorem rCell_1 {T : TX} {p : Nat} {c : CM} (h : dig T p = none) : rCell T p c = (p, (c.1, -1, c.2.2), false) := by rw [rCell, h]
theorem rCell_2 {T : TX} {p x : Nat} {c : CM} (h : dig T p = some x) (h2 : dig T (p + 1) = none) : rCell T p c = (p + 1, (c.1, nI x, -1, c.2.2.2), false) := by simp only [rCell, h, h2]
theorem rCell_3 {T : TX} {p x y : Nat} {c : CM} (h : dig T p = some x) (h2 : dig T (p + 1) = some y) : rCell T p c = (p + 2, (c.1, nI x, nI y, c.2.2.2), true) := by simp only [rCell, h, h2]
section RC
variable {T : TX} {p : Nat} {c : CM}
theorem h_1 (hn : nxt T p 104 = true) (hw : ¬ (rWd T 0 p).2 = true) : rCmd T p c = ((rWd T 0 p).1, (0, c.2), false) := by
  simp [rCmd, rHeat, rThen, rWord, hn, hw]
theorem h_2 (hn : nxt T p 104 = true) (hw : (rWd T 0 p).2 = true) {r : Nat × CM × Bool} (hr : rCell T (rWd T 0 p).1 (0, c.2) = r) (hc : ¬ r.2.2 = true) : rCmd T p c = r := by
  simp [rCmd, rHeat, rThen, rWord, hn, hw, hr, hc]
theorem h_3 (hn : nxt T p 104 = true) (hw : (rWd T 0 p).2 = true) {r : Nat × CM × Bool} (hr : rCell T (rWd T 0 p).1 (0, c.2) = r) (hc : r.2.2 = true) (hs : ¬ nxt T r.1 43 = true) : rCmd T p c = (r.1, r.2.1, false) := by
  simp [rCmd, rHeat, rThen, rWord, rSign, hn, hw, hr, hc, hs]
theorem h_4 (hn : nxt T p 104 = true) (hw : (rWd T 0 p).2 = true) {r : Nat × CM × Bool} (hr : rCell T (rWd T 0 p).1 (0, c.2) = r) (hc : r.2.2 = true) (hs : nxt T r.1 43 = true) : rCmd T p c = rThird T (r.1 + 1) r.2.1 := by
  simp [rCmd, rHeat, rThen, rWord, rSign, hn, hw, hr, hc, hs]
theorem g_1 (h1 : ¬ nxt T p 104 = true) (hn : nxt T p 103 = true) (hw : ¬ (rWd T 1 p).2 = true) : rCmd T p c = ((rWd T 1 p).1, (1, c.2), false) := by
  simp [rCmd, rGrd, rThen, rWord, h1, hn, hw]
theorem g_2 (h1 : ¬ nxt T p 104 = true) (hn : nxt T p 103 = true) (hw : (rWd T 1 p).2 = true) {r : Nat × CM × Bool} (hr : rCell T (rWd T 1 p).1 (1, c.2) = r) (hc : ¬ r.2.2 = true) : rCmd T p c = r := by
  simp [rCmd, rGrd, rThen, rWord, h1, hn, hw, hr, hc]
theorem g_3 (h1 : ¬ nxt T p 104 = true) (hn : nxt T p 103 = true) (hw : (rWd T 1 p).2 = true) {r : Nat × CM × Bool} (hr : rCell T (rWd T 1 p).1 (1, c.2) = r) (hc : r.2.2 = true) : rCmd T p c = rGround T r.1 r.2.1 := by
  simp [rCmd, rGrd, rThen, rWord, h1, hn, hw, hr, hc]
theorem b_1 (h1 : ¬ nxt T p 104 = true) (h2 : ¬ nxt T p 103 = true) (hn : nxt T p 98 = true) (hw : ¬ (rWd T 2 p).2 = true) : rCmd T p c = ((rWd T 2 p).1, (2, c.2), false) := by
  simp [rCmd, rBord, rThen, rWord, h1, h2, hn, hw]
theorem b_2 (h1 : ¬ nxt T p 104 = true) (h2 : ¬ nxt T p 103 = true) (hn : nxt T p 98 = true) (hw : (rWd T 2 p).2 = true) {r : Nat × CM × Bool} (hr : rSide T (rWd T 2 p).1 (2, c.2) = r) (hc : ¬ r.2.2 = true) : rCmd T p c = r := by
  simp [rCmd, rBord, rThen, rWord, h1, h2, hn, hw, hr, hc]
theorem b_3 (h1 : ¬ nxt T p 104 = true) (h2 : ¬ nxt T p 103 = true) (hn : nxt T p 98 = true) (hw : (rWd T 2 p).2 = true) {r : Nat × CM × Bool} (hr : rSide T (rWd T 2 p).1 (2, c.2) = r) (hc : r.2.2 = true) (hs : ¬ nxt T r.1 61 = true) : rCmd T p c = (r.1, r.2.1, false) := by
  simp [rCmd, rBord, rThen, rWord, rSign, h1, h2, hn, hw, hr, hc, hs]
theorem b_4 (h1 : ¬ nxt T p 104 = true) (h2 : ¬ nxt T p 103 = true) (hn : nxt T p 98 = true) (hw : (rWd T 2 p).2 = true) {r : Nat × CM × Bool} (hr : rSide T (rWd T 2 p).1 (2, c.2) = r) (hc : r.2.2 = true) (hs : nxt T r.1 61 = true) : rCmd T p c = rSecond T (r.1 + 1) r.2.1 := by
  simp [rCmd, rBord, rThen, rWord, rSign, h1, h2, hn, hw, hr, hc, hs]
theorem p_1 (h1 : ¬ nxt T p 104 = true) (h2 : ¬ nxt T p 103 = true) (hn : ¬ nxt T p 98 = true) (hw : ¬ (rWd T 3 p).2 = true) : rCmd T p c = ((rWd T 3 p).1, (3, c.2), false) := by
  simp [rCmd, rPass, rThen, rWord, h1, h2, hn, hw]
theorem p_2 (h1 : ¬ nxt T p 104 = true) (h2 : ¬ nxt T p 103 = true) (hn : ¬ nxt T p 98 = true) (hw : (rWd T 3 p).2 = true) : rCmd T p c = rFirst T (rWd T 3 p).1 (3, c.2) := by
  simp [rCmd, rPass, rThen, rWord, h1, h2, hn, hw]
end RC
theorem then_le {T : TX} {a : Nat × CM × Bool} {f : Nat → CM → Nat × CM × Bool} (h : a.1 ≤ T.2) (hf : ∀ p c, p ≤ T.2 → (f p c).1 ≤ T.2) : (rThen a f).1 ≤ T.2 := by
  unfold rThen
  split
  · exact hf _ _ h
  · exact h
theorem digP_le {T : TX} {p : Nat} (h : p ≤ T.2) : digP T p ≤ T.2 := by
  rcases hd : dig T p with _ | d
  · rw [digP_n hd]
    exact h
  · rw [digP_s hd]
    exact (dig_le hd).2
theorem sign_le {T : TX} {x : Int32} (p : Nat) (c : CM) (h : p ≤ T.2) : (rSign T x p c).1 ≤ T.2 := by
  unfold rSign
  split
  · exact (of_decide_eq_true (by assumption : nxt T p x = true)).1
  · exact h
theorem cell_le {T : TX} (p : Nat) (c : CM) (h : p ≤ T.2) : (rCell T p c).1 ≤ T.2 := by
  unfold rCell
  cases hd : dig T p with
  | none => exact h
  | some d =>
    have h1 := (dig_le hd).2
    cases hd2 : dig T (p + 1) with
    | none => exact h1
    | some d2 => exact (dig_le hd2).2
theorem ground_le {T : TX} (p : Nat) (c : CM) (h : p ≤ T.2) : (rGround T p c).1 ≤ T.2 := by
  unfold rGround
  split
  · exact (by assumption : p < T.2 ∧ groundP (nI (T.1 p))).1
  · exact h
theorem cmd_le {T : TX} (p : Nat) (c : CM) (h : p ≤ T.2) : (rCmd T p c).1 ≤ T.2 := by
  unfold rCmd
  have hw : ∀ i d, (rWord T i p d).1 ≤ T.2 := fun i d => wrd_le _ _ _ h
  have hn : ∀ p c, p ≤ T.2 → (rThird T p c).1 ≤ T.2 := fun p c h => (num_le h).2
  split
  · exact then_le (then_le (then_le (hw _ _) cell_le) sign_le) hn
  · split
    · exact then_le (then_le (hw _ _) cell_le) ground_le
    · split
      · exact then_le (then_le (then_le (hw _ _) (fun p c h => digP_le h)) sign_le) (fun p c h => (num_le h).2)
      · exact then_le (hw _ _) (fun p c h => (num_le h).2)
/-- the text's commands, j at most from the n-th on: whether it is a command text, how many, where reading ended -/
def rTxt (T : TX) : Nat → Nat → Nat → (Nat → CM) → Bool × RS
  | 0, n, p, K => (false, n, p, K)
  | j + 1, n, p, K => if (rCmd T p (K n)).2.2 = true then (if nxt T (rCmd T p (K n)).1 59 = true then rTxt T j (n + 1) ((rCmd T p (K n)).1 + 1) (va_up K n (rCmd T p (K n)).2.1) else (decide ((rCmd T p (K n)).1 = T.2), n + 1, (rCmd T p (K n)).1, va_up K n (rCmd T p (K n)).2.1))
    else (false, n, (rCmd T p (K n)).1, va_up K n (rCmd T p (K n)).2.1)

set_option maxRecDepth 100000 in
theorem ev_isGround {l : Launch} {G : GG} (hl : l.stackTraces = false) {x : Int32} {h : AH} :
    Ev l G 10 0 0 mX9_isGround [.int x] h (Rt (some (.int (if groundP x then 1 else 0))) h) := by
  refine Ev.of hl (by decide) (Nat.le_of_ble_eq_true rfl) ?_
  refine g_iload_n (i := 0) dX9_isGround_0 rfl rfl ?_
  refine g_bipush (v := 46) dX9_isGround_1 (by decide) ?_
  refine g_icmp_eq (tgt := 24) dX9_isGround_3 (by decide) (fun c3 => ?_) (fun c3 => ?_)
  · refine g_iconst (v := 1) dX9_isGround_24 (by decide) ?_
    refine g_goto (tgt := 29) dX9_isGround_25 (by decide) ?_
    refine g_iret dX9_isGround_29 rfl rfl ?_
    exact ⟨by rw [if_pos (Or.inl c3)], rfl⟩
  · refine g_iload_n (i := 0) dX9_isGround_6 rfl rfl ?_
    refine g_bipush (v := 58) dX9_isGround_7 (by decide) ?_
    refine g_icmp_eq (tgt := 24) dX9_isGround_9 (by decide) (fun c9 => ?_) (fun c9 => ?_)
    · refine g_iconst (v := 1) dX9_isGround_24 (by decide) ?_
      refine g_goto (tgt := 29) dX9_isGround_25 (by decide) ?_
      refine g_iret dX9_isGround_29 rfl rfl ?_
      exact ⟨by rw [if_pos (Or.inr (Or.inl c9))], rfl⟩
    · refine g_iload_n (i := 0) dX9_isGround_12 rfl rfl ?_
      refine g_bipush (v := 126) dX9_isGround_13 (by decide) ?_
      refine g_icmp_eq (tgt := 24) dX9_isGround_15 (by decide) (fun c15 => ?_) (fun c15 => ?_)
      · refine g_iconst (v := 1) dX9_isGround_24 (by decide) ?_
        refine g_goto (tgt := 29) dX9_isGround_25 (by decide) ?_
        refine g_iret dX9_isGround_29 rfl rfl ?_
        exact ⟨by rw [if_pos (Or.inr (Or.inr (Or.inl c15)))], rfl⟩
      · refine g_iload_n (i := 0) dX9_isGround_18 rfl rfl ?_
        refine g_bipush (v := 35) dX9_isGround_19 (by decide) ?_
        refine g_icmp_ne (tgt := 28) dX9_isGround_21 (by decide) (fun c21 => ?_) (fun c21 => ?_)
        · refine g_iconst (v := 0) dX9_isGround_28 (by decide) ?_
          refine g_iret dX9_isGround_29 rfl rfl ?_
          exact ⟨by rw [if_neg (fun q => q.elim c3 (fun q => q.elim c9 (fun q => q.elim c15 c21)))], rfl⟩
        · refine g_iconst (v := 1) dX9_isGround_24 (by decide) ?_
          refine g_goto (tgt := 29) dX9_isGround_25 (by decide) ?_
          refine g_iret dX9_isGround_29 rfl rfl ?_
          exact ⟨by rw [if_pos (Or.inr (Or.inr (Or.inr c21)))], rfl⟩

set_option maxRecDepth 100000 in
theorem ev_isAmount {l : Launch} {G : GG} (hl : l.stackTraces = false) {x : Int32} {h : AH} :
    Ev l G 10 0 0 mX9_isAmount [.int x] h (Rt (some (.int (if amountP x then 1 else 0))) h) := by
  refine Ev.of hl (by decide) (Nat.le_of_ble_eq_true rfl) ?_
  refine g_iload_n (i := 0) dX9_isAmount_0 rfl rfl ?_
  refine g_iconst (v := 1) dX9_isAmount_1 (by decide) ?_
  refine g_icmp_lt (tgt := 16) dX9_isAmount_2 (by decide) (fun c2 => ?_) (fun c2 => ?_)
  · refine g_iconst (v := 0) dX9_isAmount_16 (by decide) ?_
    refine g_iret dX9_isAmount_17 rfl rfl ?_
    exact ⟨by rw [if_neg (fun q => nlt q.1 c2)], rfl⟩
  · refine g_iload_n (i := 0) dX9_isAmount_5 rfl rfl ?_
    refine g_sipush (v := 999) dX9_isAmount_6 (by decide) ?_
    refine g_icmp_gt (tgt := 16) dX9_isAmount_9 (by decide) (fun c9 => ?_) (fun c9 => ?_)
    · refine g_iconst (v := 0) dX9_isAmount_16 (by decide) ?_
      refine g_iret dX9_isAmount_17 rfl rfl ?_
      exact ⟨by rw [if_neg (fun q => nlt' c9 q.2)], rfl⟩
    · refine g_iconst (v := 1) dX9_isAmount_12 (by decide) ?_
      refine g_goto (tgt := 17) dX9_isAmount_13 (by decide) ?_
      refine g_iret dX9_isAmount_17 rfl rfl ?_
      exact ⟨by rw [if_pos ⟨ltn' c2, ltn' c9⟩], rfl⟩

set_option maxRecDepth 100000 in
theorem ev_isSide {l : Launch} {G : GG} (hl : l.stackTraces = false) {x : Int32} {h : AH} :
    Ev l G 10 0 0 mX9_isSide [.int x] h (Rt (some (.int (if sideP x then 1 else 0))) h) := by
  refine Ev.of hl (by decide) (Nat.le_of_ble_eq_true rfl) ?_
  refine g_iload_n (i := 0) dX9_isSide_0 rfl rfl ?_
  refine g_if_lt (tgt := 13) dX9_isSide_1 (by decide) (fun c1 => ?_) (fun c1 => ?_)
  · refine g_iconst (v := 0) dX9_isSide_13 (by decide) ?_
    refine g_iret dX9_isSide_14 rfl rfl ?_
    exact ⟨by rw [if_neg (fun q => nlt q.1 c1)], rfl⟩
  · refine g_iload_n (i := 0) dX9_isSide_4 rfl rfl ?_
    refine g_iconst (v := 4) dX9_isSide_5 (by decide) ?_
    refine g_icmp_ge (tgt := 13) dX9_isSide_6 (by decide) (fun c6 => ?_) (fun c6 => ?_)
    · refine g_iconst (v := 0) dX9_isSide_13 (by decide) ?_
      refine g_iret dX9_isSide_14 rfl rfl ?_
      exact ⟨by rw [if_neg (fun q => nlt c6 q.2)], rfl⟩
    · refine g_iconst (v := 1) dX9_isSide_9 (by decide) ?_
      refine g_goto (tgt := 14) dX9_isSide_10 (by decide) ?_
      refine g_iret dX9_isSide_14 rfl rfl ?_
      exact ⟨by rw [if_pos ⟨ltn' c1, ltn c6⟩], rfl⟩

set_option maxRecDepth 100000 in
theorem ev_isTemperature {l : Launch} {G : GG} (hl : l.stackTraces = false) {x : Int32} {h : AH} :
    Ev l G 10 0 0 mX9_isTemperature [.int x] h (Rt (some (.int (if tempP x then 1 else 0))) h) := by
  refine Ev.of hl (by decide) (Nat.le_of_ble_eq_true rfl) ?_
  refine g_iload_n (i := 0) dX9_isTemperature_0 rfl rfl ?_
  refine g_if_lt (tgt := 15) dX9_isTemperature_1 (by decide) (fun c1 => ?_) (fun c1 => ?_)
  · refine g_iconst (v := 0) dX9_isTemperature_15 (by decide) ?_
    refine g_iret dX9_isTemperature_16 rfl rfl ?_
    exact ⟨by rw [if_neg (fun q => nlt q.1 c1)], rfl⟩
  · refine g_iload_n (i := 0) dX9_isTemperature_4 rfl rfl ?_
    refine g_sipush (v := 9999) dX9_isTemperature_5 (by decide) ?_
    refine g_icmp_gt (tgt := 15) dX9_isTemperature_8 (by decide) (fun c8 => ?_) (fun c8 => ?_)
    · refine g_iconst (v := 0) dX9_isTemperature_15 (by decide) ?_
      refine g_iret dX9_isTemperature_16 rfl rfl ?_
      exact ⟨by rw [if_neg (fun q => nlt' c8 q.2)], rfl⟩
    · refine g_iconst (v := 1) dX9_isTemperature_11 (by decide) ?_
      refine g_goto (tgt := 16) dX9_isTemperature_12 (by decide) ?_
      refine g_iret dX9_isTemperature_16 rfl rfl ?_
      exact ⟨by rw [if_pos ⟨ltn' c1, ltn' c8⟩], rfl⟩

set_option maxRecDepth 100000 in
theorem ev_isTickNumber {l : Launch} {G : GG} (hl : l.stackTraces = false) {x : Int32} {h : AH} :
    Ev l G 10 0 0 mX9_isTickNumber [.int x] h (Rt (some (.int (if tickP x then 1 else 0))) h) := by
  refine Ev.of hl (by decide) (Nat.le_of_ble_eq_true rfl) ?_
  refine g_iload_n (i := 0) dX9_isTickNumber_0 rfl rfl ?_
  refine g_iconst (v := 1) dX9_isTickNumber_1 (by decide) ?_
  refine g_icmp_lt (tgt := 15) dX9_isTickNumber_2 (by decide) (fun c2 => ?_) (fun c2 => ?_)
  · refine g_iconst (v := 0) dX9_isTickNumber_15 (by decide) ?_
    refine g_iret dX9_isTickNumber_16 rfl rfl ?_
    exact ⟨by rw [if_neg (fun q => nlt q.1 c2)], rfl⟩
  · refine g_iload_n (i := 0) dX9_isTickNumber_5 rfl rfl ?_
    refine g_bipush (v := 20) dX9_isTickNumber_6 (by decide) ?_
    refine g_icmp_gt (tgt := 15) dX9_isTickNumber_8 (by decide) (fun c8 => ?_) (fun c8 => ?_)
    · refine g_iconst (v := 0) dX9_isTickNumber_15 (by decide) ?_
      refine g_iret dX9_isTickNumber_16 rfl rfl ?_
      exact ⟨by rw [if_neg (fun q => nlt' c8 q.2)], rfl⟩
    · refine g_iconst (v := 1) dX9_isTickNumber_11 (by decide) ?_
      refine g_goto (tgt := 16) dX9_isTickNumber_12 (by decide) ?_
      refine g_iret dX9_isTickNumber_16 rfl rfl ?_
      exact ⟨by rw [if_pos ⟨ltn' c2, ltn' c8⟩], rfl⟩

set_option maxRecDepth 100000 in
theorem ev_isNext {l : Launch} {G : GG} (hl : l.stackTraces = false) {A : AD} {h : AH} {S : RS} {B : SB} {T : TX} (hT : tOk T) (hB : isTx B T.1 T.2) (hp : S.2.1 ≤ T.2) {x : Int32} :
    Ev l G 14 0 0 mX2_isNext [.ref (A 21 0), .int x] (rdh h A S B) (Rt (some (.int (if nxt T S.2.1 x = true then 1 else 0))) (rdh h A S B)) := by
  refine Ev.of hl (by decide) (Nat.le_of_ble_eq_true rfl) ?_
  obtain ⟨hB1, hB2, hB3, hB4, hB5⟩ := id hB
  have hc142 : B.2.1 ≤ 142 := by unfold cOk at hB3; omega
  refine g_aload_n (i := 0) dX2_isNext_0 rfl rfl ?_
  refine g_getf dX2_isNext_1 K_X2 (k := 3) fl_X2_28 (Nat.le_of_ble_eq_true rfl) rdh_21 rfl ?_
  refine g_aload_n (i := 0) dX2_isNext_4 rfl rfl ?_
  refine g_getf dX2_isNext_5 K_X2 (k := 0) fl_X2_12 (Nat.le_of_ble_eq_true rfl) rdh_21 rfl ?_
  refine g_callV (ev_length hl (g := 0) (B := B) (h := rdd h A S)) dX2_isNext_8 ml_X2_32 cvJ4_length_8abf5 K_J4 rfl rdh_22 rfl rfl (Nat.le_of_ble_eq_true rfl) (Nat.le_of_ble_eq_true rfl) (Nat.zero_le _) (Nat.zero_le _) (kr_rt ?_) kx_rt
  refine g_icmp_ge (tgt := 33) dX2_isNext_11 (by decide) (fun c11 => ?_) (fun c11 => ?_)
  · refine g_iconst (v := 0) dX2_isNext_33 (by decide) ?_
    refine g_iret dX2_isNext_34 rfl rfl ?_
    exact ⟨by rw [nxt_f1 (by have := (le_nI (a := B.2.2.2.1) (b := S.2.1) rfl (by omega) (by omega)).mp c11; omega)]; rfl, rfl⟩
  · have hp2 : S.2.1 < T.2 := by have := mt (le_nI (a := B.2.2.2.1) (b := S.2.1) rfl (by omega) (by omega)).mpr c11; omega
    refine g_aload_n (i := 0) dX2_isNext_14 rfl rfl ?_
    refine g_getf dX2_isNext_15 K_X2 (k := 0) fl_X2_12 (Nat.le_of_ble_eq_true rfl) rdh_21 rfl ?_
    refine g_aload_n (i := 0) dX2_isNext_18 rfl rfl ?_
    refine g_getf dX2_isNext_19 K_X2 (k := 3) fl_X2_28 (Nat.le_of_ble_eq_true rfl) rdh_21 rfl ?_
    refine g_callV (ev_charAt hl (A := A) (g := 0) (h := rdd h A S) (a := B.1) (c := B.2.1) (n := B.2.2.2.1) (f := B.2.2.1) (ml := B.2.2.2.2) (i := S.2.1) (q := T.1 S.2.1) (by omega) hc142 (by omega) (by have := hT S.2.1 hp2; omega) (hB4 S.2.1 hp2).2) dX2_isNext_22 ml_X2_97 cvJ4_charAt_5068e K_J4 rfl rdh_22 rfl rfl (Nat.le_of_ble_eq_true rfl) (Nat.le_of_ble_eq_true rfl) (Nat.zero_le _) (Nat.zero_le _) (kr_rt ?_) kx_rt
    refine g_iload_n (i := 1) dX2_isNext_25 rfl rfl ?_
    refine g_icmp_ne (tgt := 33) dX2_isNext_26 (by decide) (fun c26 => ?_) (fun c26 => ?_)
    · refine g_iconst (v := 0) dX2_isNext_33 (by decide) ?_
      refine g_iret dX2_isNext_34 rfl rfl ?_
      exact ⟨by rw [nxt_f2 c26]; rfl, rfl⟩
    · refine g_iconst (v := 1) dX2_isNext_29 (by decide) ?_
      refine g_goto (tgt := 34) dX2_isNext_30 (by decide) ?_
      refine g_iret dX2_isNext_34 rfl rfl ?_
      exact ⟨by rw [nxt_t hp2 c26]; rfl, rfl⟩

set_option maxRecDepth 100000 in
theorem ev_readSign {l : Launch} {G : GG} (hl : l.stackTraces = false) {A : AD} {h : AH} {S : RS} {B : SB} {T : TX} (hT : tOk T) (hB : isTx B T.1 T.2) (hp : S.2.1 ≤ T.2) {x : Int32} :
    Ev l G 15 0 0 mX2_readSign [.ref (A 21 0), .int x] (rdh h A S B) (Rt (some (.int (if nxt T S.2.1 x = true then 1 else 0))) (rdh h A (S.1, if nxt T S.2.1 x = true then S.2.1 + 1 else S.2.1, S.2.2) B)) := by
  refine Ev.of hl (by decide) (Nat.le_of_ble_eq_true rfl) ?_
  refine g_aload_n (i := 0) dX2_readSign_0 rfl rfl ?_
  refine g_iload_n (i := 1) dX2_readSign_1 rfl rfl ?_
  refine g_callV (ev_isNext hl hT hB hp) dX2_readSign_2 ml_X2_52 cvX2_isNext K_X2 rfl rdh_21 rfl rfl (Nat.le_of_ble_eq_true rfl) (Nat.le_of_ble_eq_true rfl) (Nat.zero_le _) (Nat.zero_le _) (kr_rt ?_) kx_rt
  refine g_if_ne (tgt := 10) dX2_readSign_5 (by decide) (fun c5 => ?_) (fun c5 => ?_)
  · refine g_aload_n (i := 0) dX2_readSign_10 rfl rfl ?_
    refine g_dup dX2_readSign_11 rfl ?_
    refine g_getf dX2_readSign_12 K_X2 (k := 3) fl_X2_28 (Nat.le_of_ble_eq_true rfl) rdh_21 rfl ?_
    refine g_iconst (v := 1) dX2_readSign_15 (by decide) ?_
    refine g_iadd dX2_readSign_16 ?_
    rw [← nI_succ]
    refine g_putf dX2_readSign_17 K_X2 (k := 3) fl_X2_28 (Nat.le_of_ble_eq_true rfl) rfl rdh_21 (Nat.le_of_ble_eq_true rfl) rfl rfl (Go.heap (rdh_o (n := S.1) (p := S.2.1 + 1)) ?_)
    refine g_iconst (v := 1) dX2_readSign_20 (by decide) ?_
    refine g_iret dX2_readSign_21 rfl rfl ?_
    exact ⟨by rw [if_pos (ite_1 c5)], by rw [if_pos (ite_1 c5)]⟩
  · refine g_iconst (v := 0) dX2_readSign_8 (by decide) ?_
    refine g_iret dX2_readSign_9 rfl rfl ?_
    exact ⟨by rw [if_neg (ite_0 c5)], by rw [if_neg (ite_0 c5)]⟩

set_option maxRecDepth 100000 in
theorem ev_readDigit {l : Launch} {G : GG} (hl : l.stackTraces = false) {A : AD} {h : AH} {S : RS} {B : SB} {T : TX} (hT : tOk T) (hB : isTx B T.1 T.2) (hp : S.2.1 ≤ T.2) :
    Ev l G 14 0 0 mX2_readDigit [.ref (A 21 0)] (rdh h A S B) (Rt (some (.int (oI (dig T S.2.1)))) (rdh h A (S.1, digP T S.2.1, S.2.2) B)) := by
  refine Ev.of hl (by decide) (Nat.le_of_ble_eq_true rfl) ?_
  obtain ⟨hB1, hB2, hB3, hB4, hB5⟩ := id hB
  have hc142 : B.2.1 ≤ 142 := by unfold cOk at hB3; omega
  refine g_aload_n (i := 0) dX2_readDigit_0 rfl rfl ?_
  refine g_getf dX2_readDigit_1 K_X2 (k := 3) fl_X2_28 (Nat.le_of_ble_eq_true rfl) rdh_21 rfl ?_
  refine g_aload_n (i := 0) dX2_readDigit_4 rfl rfl ?_
  refine g_getf dX2_readDigit_5 K_X2 (k := 0) fl_X2_12 (Nat.le_of_ble_eq_true rfl) rdh_21 rfl ?_
  refine g_callV (ev_length hl (g := 0) (B := B) (h := rdd h A S)) dX2_readDigit_8 ml_X2_32 cvJ4_length_8abf5 K_J4 rfl rdh_22 rfl rfl (Nat.le_of_ble_eq_true rfl) (Nat.le_of_ble_eq_true rfl) (Nat.zero_le _) (Nat.zero_le _) (kr_rt ?_) kx_rt
  refine g_icmp_lt (tgt := 16) dX2_readDigit_11 (by decide) (fun c11 => ?_) (fun c11 => ?_)
  · have hp2 : S.2.1 < T.2 := by have := (lt_nI (a := S.2.1) (b := B.2.2.2.1) rfl (by omega) (by omega)).mp c11; omega
    refine g_aload_n (i := 0) dX2_readDigit_16 rfl rfl ?_
    refine g_getf dX2_readDigit_17 K_X2 (k := 0) fl_X2_12 (Nat.le_of_ble_eq_true rfl) rdh_21 rfl ?_
    refine g_aload_n (i := 0) dX2_readDigit_20 rfl rfl ?_
    refine g_getf dX2_readDigit_21 K_X2 (k := 3) fl_X2_28 (Nat.le_of_ble_eq_true rfl) rdh_21 rfl ?_
    refine g_callV (ev_charAt hl (A := A) (g := 0) (h := rdd h A S) (a := B.1) (c := B.2.1) (n := B.2.2.2.1) (f := B.2.2.1) (ml := B.2.2.2.2) (i := S.2.1) (q := T.1 S.2.1) (by omega) hc142 (by omega) (by have := hT S.2.1 hp2; omega) (hB4 S.2.1 hp2).2) dX2_readDigit_24 ml_X2_97 cvJ4_charAt_5068e K_J4 rfl rdh_22 rfl rfl (Nat.le_of_ble_eq_true rfl) (Nat.le_of_ble_eq_true rfl) (Nat.zero_le _) (Nat.zero_le _) (kr_rt ?_) kx_rt
    refine g_istore_n (i := 1) dX2_readDigit_27 rfl (Nat.le_of_ble_eq_true rfl) ?_
    refine g_iload_n (i := 1) dX2_readDigit_28 rfl rfl ?_
    refine g_bipush (v := 48) dX2_readDigit_29 (by decide) ?_
    refine g_icmp_lt (tgt := 40) dX2_readDigit_31 (by decide) (fun c31 => ?_) (fun c31 => ?_)
    · refine g_iconst (v := (-1)) dX2_readDigit_40 (by decide) ?_
      refine g_iret dX2_readDigit_41 rfl rfl ?_
      exact ⟨by rw [show dig T S.2.1 = none from if_neg (fun q => absurd ((nI_lt' (a := T.1 S.2.1) (b := 48) rfl (by have := hT S.2.1 hp2; omega) (by omega)).mp c31) (by omega))]; rfl, by rw [digP_n (show dig T S.2.1 = none from if_neg (fun q => absurd ((nI_lt' (a := T.1 S.2.1) (b := 48) rfl (by have := hT S.2.1 hp2; omega) (by omega)).mp c31) (by omega)))]; rfl⟩
    · refine g_iload_n (i := 1) dX2_readDigit_34 rfl rfl ?_
      refine g_bipush (v := 57) dX2_readDigit_35 (by decide) ?_
      refine g_icmp_le (tgt := 42) dX2_readDigit_37 (by decide) (fun c37 => ?_) (fun c37 => ?_)
      · have h3 : 48 ≤ T.1 S.2.1 := by have := mt (nI_lt' (a := T.1 S.2.1) (b := 48) rfl (by have := hT S.2.1 hp2; omega) (by omega)).mpr c31; omega
        have h4 : T.1 S.2.1 ≤ 57 := (nI_le' (a := T.1 S.2.1) (b := 57) rfl (by have := hT S.2.1 hp2; omega) (by omega)).mp c37
        have hdg : dig T S.2.1 = some (T.1 S.2.1 - 48) := if_pos ⟨hp2, h3, h4⟩
        refine g_aload_n (i := 0) dX2_readDigit_42 rfl rfl ?_
        refine g_dup dX2_readDigit_43 rfl ?_
        refine g_getf dX2_readDigit_44 K_X2 (k := 3) fl_X2_28 (Nat.le_of_ble_eq_true rfl) rdh_21 rfl ?_
        refine g_iconst (v := 1) dX2_readDigit_47 (by decide) ?_
        refine g_iadd dX2_readDigit_48 ?_
        rw [← nI_succ]
        refine g_putf dX2_readDigit_49 K_X2 (k := 3) fl_X2_28 (Nat.le_of_ble_eq_true rfl) rfl rdh_21 (Nat.le_of_ble_eq_true rfl) rfl rfl (Go.heap (rdh_o (n := S.1) (p := S.2.1 + 1)) ?_)
        refine g_iload_n (i := 1) dX2_readDigit_52 rfl rfl ?_
        refine g_bipush (v := 48) dX2_readDigit_53 (by decide) ?_
        refine g_isub dX2_readDigit_55 ?_
        refine g_iret dX2_readDigit_56 rfl rfl ?_
        exact ⟨by rw [hdg, show (48 : Int32) = nI 48 from rfl, nI_sub h3]; rfl, by rw [digP_s hdg]⟩
      · refine g_iconst (v := (-1)) dX2_readDigit_40 (by decide) ?_
        refine g_iret dX2_readDigit_41 rfl rfl ?_
        exact ⟨by rw [show dig T S.2.1 = none from if_neg (fun q => absurd ((nI_le' (a := T.1 S.2.1) (b := 57) rfl (by have := hT S.2.1 hp2; omega) (by omega)).mpr q.2.2) c37)]; rfl, by rw [digP_n (show dig T S.2.1 = none from if_neg (fun q => absurd ((nI_le' (a := T.1 S.2.1) (b := 57) rfl (by have := hT S.2.1 hp2; omega) (by omega)).mpr q.2.2) c37))]; rfl⟩
  · refine g_iconst (v := (-1)) dX2_readDigit_14 (by decide) ?_
    refine g_iret dX2_readDigit_15 rfl rfl ?_
    exact ⟨by rw [show dig T S.2.1 = none from if_neg (fun q => absurd q.1 (by have := mt (lt_nI (a := S.2.1) (b := B.2.2.2.1) rfl (by omega) (by omega)).mpr c11; omega))]; rfl, by rw [digP_n (show dig T S.2.1 = none from if_neg (fun q => absurd q.1 (by have := mt (lt_nI (a := S.2.1) (b := B.2.2.2.1) rfl (by omega) (by omega)).mpr c11; omega)))]; rfl⟩

set_option maxRecDepth 100000 in
theorem ev_readNumber {l : Launch} {G : GG} (hl : l.stackTraces = false) {A : AD} {h : AH} {S : RS} {B : SB} {T : TX} (hT : tOk T) (hB : isTx B T.1 T.2) (hp : S.2.1 ≤ T.2) :
    Ev l G 15 0 0 mX2_readNumber [.ref (A 21 0)] (rdh h A S B) (Rt (some (.int (oI (num T S.2.1).2))) (rdh h A (S.1, (num T S.2.1).1, S.2.2) B)) := by
  refine Ev.of hl (by decide) (Nat.le_of_ble_eq_true rfl) ?_
  have loop : ∀ (j : Nat) (k p x : Nat) (X : Option Value), k + j = 3 → p ≤ T.2 → x < 10 ^ (k + 1) → Go l G mX2_readNumber 15 0 0 (Rt (some (.int (nI (mor T j p x).2))) (rdh h A (S.1, (mor T j p x).1, S.2.2) B)) 7 [some (.ref (A 21 0)), some (.int (nI x)), some (.int (nI k)), X] [] (rdh h A (S.1, p, S.2.2) B) := by
    intro j
    induction j with
    | zero =>
      intro k p x X hk hp hx
      refine g_iload_n (i := 2) dX2_readNumber_7 rfl rfl ?_
      refine g_iconst (v := 3) dX2_readNumber_8 (by decide) ?_
      refine g_icmp_ge (tgt := 42) dX2_readNumber_9 (by decide) (fun c9 => ?_) (fun c9 => ?_)
      · refine g_iload_n (i := 1) dX2_readNumber_42 rfl rfl ?_
        refine g_iret dX2_readNumber_43 rfl rfl ?_
        exact ⟨rfl, rfl⟩
      · exact absurd ((le_nI (a := 3) (b := k) rfl (by omega) (by omega)).mpr (by omega)) c9
    | succ j ih =>
      intro k p x X hk hp hx
      have hpw : 10 ^ (k + 1) ≤ 10 ^ 4 := Nat.pow_le_pow_right (by decide) (by omega)
      have hpw2 : 10 ^ (k + 1 + 1) = 10 ^ (k + 1) * 10 := Nat.pow_succ ..
      refine g_iload_n (i := 2) dX2_readNumber_7 rfl rfl ?_
      refine g_iconst (v := 3) dX2_readNumber_8 (by decide) ?_
      refine g_icmp_ge (tgt := 42) dX2_readNumber_9 (by decide) (fun c9 => ?_) (fun c9 => ?_)
      · exact absurd ((le_nI (a := 3) (b := k) rfl (by omega) (by omega)).mp c9) (by omega)
      · refine g_iload_n (i := 1) dX2_readNumber_12 rfl rfl ?_
        refine g_iconst (v := (-1)) dX2_readNumber_13 (by decide) ?_
        refine g_icmp_eq (tgt := 42) dX2_readNumber_14 (by decide) (fun c14 => ?_) (fun c14 => ?_)
        · exact absurd c14 (nI_nm (by omega))
        · refine g_aload_n (i := 0) dX2_readNumber_17 rfl rfl ?_
          refine g_callV (ev_readDigit hl hT hB (S := (S.1, p, S.2.2)) hp) dX2_readNumber_18 ml_X2_88 cvX2_readDigit K_X2 rfl rdh_21 rfl rfl (Nat.le_of_ble_eq_true rfl) (Nat.le_of_ble_eq_true rfl) (Nat.zero_le _) (Nat.zero_le _) (kr_rt ?_) kx_rt
          refine g_istore_n (i := 3) dX2_readNumber_21 rfl (Nat.le_of_ble_eq_true rfl) ?_
          refine g_iload_n (i := 3) dX2_readNumber_22 rfl rfl ?_
          refine g_iconst (v := (-1)) dX2_readNumber_23 (by decide) ?_
          refine g_icmp_ne (tgt := 29) dX2_readNumber_24 (by decide) (fun c24 => ?_) (fun c24 => ?_)
          · obtain ⟨d, hd⟩ := oI_some c24
            have hd9 : d ≤ 9 ∧ p < T.2 := dig_le hd
            refine g_bipush (v := 10) dX2_readNumber_29 (by decide) ?_
            refine g_iload_n (i := 1) dX2_readNumber_31 rfl rfl ?_
            refine g_imul dX2_readNumber_32 ?_
            refine g_iload_n (i := 3) dX2_readNumber_33 rfl rfl ?_
            refine g_iadd dX2_readNumber_34 ?_
            rw [show oI (dig T p) = nI d by rw [hd]; rfl, nI10]
            refine g_istore_n (i := 1) dX2_readNumber_35 rfl (Nat.le_of_ble_eq_true rfl) ?_
            refine g_iinc (w := 1) dX2_readNumber_36 (by decide) rfl (nI_succ k).symm (Nat.le_of_ble_eq_true rfl) ?_
            refine g_goto (tgt := 7) dX2_readNumber_39 (by decide) ?_
            rw [show mor T (j + 1) p x = mor T j (p + 1) (10 * x + d) by rw [mor, hd]]
            show Go l G mX2_readNumber 15 _ _ _ _ _ _ (rdh h A (S.1, digP T p, S.2.2) B)
            rw [digP_s hd]
            exact ih (k + 1) (p + 1) (10 * x + d) _ (by omega) (by omega) (by omega)
          · have hd := dig_none c24
            refine g_iload_n (i := 1) dX2_readNumber_27 rfl rfl ?_
            refine g_iret dX2_readNumber_28 rfl rfl ?_
            exact ⟨by rw [show mor T (j + 1) p x = (p, x) by rw [mor, hd]], by rw [show mor T (j + 1) p x = (p, x) by rw [mor, hd]]; show rdh h A (S.1, digP T p, S.2.2) B = _; rw [digP_n hd]⟩
  refine g_aload_n (i := 0) dX2_readNumber_0 rfl rfl ?_
  refine g_callV (ev_readDigit hl hT hB hp) dX2_readNumber_1 ml_X2_88 cvX2_readDigit K_X2 rfl rdh_21 rfl rfl (Nat.le_of_ble_eq_true rfl) (Nat.le_of_ble_eq_true rfl) (Nat.zero_le _) (Nat.zero_le _) (kr_rt ?_) kx_rt
  refine g_istore_n (i := 1) dX2_readNumber_4 rfl (Nat.le_of_ble_eq_true rfl) ?_
  refine g_iconst (v := 0) dX2_readNumber_5 (by decide) ?_
  refine g_istore_n (i := 2) dX2_readNumber_6 rfl (Nat.le_of_ble_eq_true rfl) ?_
  rcases hd : dig T S.2.1 with _ | d
  · rw [digP_n hd, show num T S.2.1 = (S.2.1, none) by rw [num, hd]]
    refine g_iload_n (i := 2) dX2_readNumber_7 rfl rfl ?_
    refine g_iconst (v := 3) dX2_readNumber_8 (by decide) ?_
    refine g_icmp_ge (tgt := 42) dX2_readNumber_9 (by decide) (fun c9 => ?_) (fun c9 => ?_)
    · exact absurd c9 (by decide)
    · refine g_iload_n (i := 1) dX2_readNumber_12 rfl rfl ?_
      refine g_iconst (v := (-1)) dX2_readNumber_13 (by decide) ?_
      refine g_icmp_eq (tgt := 42) dX2_readNumber_14 (by decide) (fun c14 => ?_) (fun c14 => ?_)
      · refine g_iload_n (i := 1) dX2_readNumber_42 rfl rfl ?_
        refine g_iret dX2_readNumber_43 rfl rfl ?_
        exact ⟨rfl, rfl⟩
      · exact absurd rfl c14
  · have hd9 := dig_le hd
    rw [digP_s hd, show num T S.2.1 = ((mor T 3 (S.2.1 + 1) d).1, some (mor T 3 (S.2.1 + 1) d).2) by rw [num, hd]]
    exact loop 3 0 (S.2.1 + 1) d _ rfl (by omega) (by show d < 10; omega)

