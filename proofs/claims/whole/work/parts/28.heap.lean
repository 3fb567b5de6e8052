/-! The heap of the whole class as a function of its state (by wip/whole/gen/m14.py). -/
/-- has, reason, detail, where reading failed, which command failed -/
abbrev OB : Type := Int32 × Int32 × Int32 × Int32 × Int32
/-- maps, history's next and kept, the ticker's scratch, the unions', the cell heap, the legend, the reader, the text, the line, the numbers -/
abbrev CL : Type := (Nat → MS) × (Nat × Nat) × (Nat → Int32) × (Nat → Nat) × HS × LgS × RS × SB × SB × OB
def obO (A : AD) (O : OB) : Nat × AC := (A 6 0, .inr (9, [.ref (A 0 0), .ref (A 0 1), .ref (A 0 2), .ref (A 0 3), .ref (A 7 0), .ref (A 9 0), .ref (A 11 0), .ref (A 13 0), .ref (A 15 0), .ref (A 21 0), .ref (A 22 1), .int O.1, .int O.2.1, .int O.2.2.1, .int O.2.2.2.1, .int O.2.2.2.2]))
def hC (h : AH) (A : AD) (X : CL) : AH := fun s g => match s with
  | 0 => if g < 12 then some (mObj A g (X.1 g)) else none
  | 1 => if g < 12 then some (cArr (A 1 g) 64 (X.1 g).1) else none
  | 2 => if g < 12 then some (iArr (A 2 g) 64 (X.1 g).2.1) else none
  | 3 => if g < 12 then some (iArr (A 3 g) 64 (X.1 g).2.2.1) else none
  | 4 => if g < 12 then some (iArr (A 4 g) 4 (X.1 g).2.2.2.1) else none
  | 5 => if g < 12 then some (iArr (A 5 g) 4 (X.1 g).2.2.2.2.1) else none
  | 6 => if g = 0 then some (obO A X.2.2.2.2.2.2.2.2.2) else none
  | 7 => if g = 0 then some (hObj A X.2.1.1 X.2.1.2) else none
  | 8 => if g = 0 then some (hArr A) else none
  | 9 => if g = 0 then some (A 9 0, .inr (7, [.ref (A 10 0)])) else none
  | 10 => if g = 0 then some (iArr (A 10 0) 64 X.2.2.1) else none
  | 11 => if g = 0 then some (A 11 0, .inr (8, [.ref (A 12 0)])) else none
  | 12 => if g = 0 then some (iArr (A 12 0) 64 (fun i => nI (X.2.2.2.1 i))) else none
  | 13 => if g = 0 then some (hpO A X.2.2.2.2.1.1) else none
  | 14 => if g = 0 then some (lArr (A 14 0) 64 X.2.2.2.2.1.2) else none
  | 15 => if g = 0 then some (lgO A X.2.2.2.2.2.1.2.2.2.2.1 X.2.2.2.2.2.1.2.2.2.2.2) else none
  | 16 => if g = 0 then some (iArr (A 16 0) 64 X.2.2.2.2.2.1.1) else none
  | 17 => if g = 0 then some (iArr (A 17 0) 64 X.2.2.2.2.2.1.2.1) else none
  | 18 => if g = 0 then some (iArr (A 18 0) 7 (fun k => nI (X.2.2.2.2.2.1.2.2.1 k))) else none
  | 19 => if g = 0 then some (lgT A) else none
  | 20 => if g < 7 then some (iArr (A 20 g) 65 (X.2.2.2.2.2.1.2.2.2.1 g)) else none
  | 21 => if g = 0 then some (rdO A X.2.2.2.2.2.2.1.1 X.2.2.2.2.2.2.1.2.1) else none
  | 22 => if g = 0 then some (sbO A 0 X.2.2.2.2.2.2.2.1) else if g = 1 then some (sbO A 1 X.2.2.2.2.2.2.2.2.1) else none
  | 23 => if g = 0 then some (bArr X.2.2.2.2.2.2.2.1.1 X.2.2.2.2.2.2.2.1.2.1 X.2.2.2.2.2.2.2.1.2.2.1) else if g = 1 then some (bArr X.2.2.2.2.2.2.2.2.1.1 X.2.2.2.2.2.2.2.2.1.2.1 X.2.2.2.2.2.2.2.2.1.2.2.1) else none
  | 24 => if g = 0 then some (rdL0 A) else none
  | 25 => if g < 10 then some (cmO A g (X.2.2.2.2.2.2.1.2.2 g)) else none
  | 26 => none
  | s => h s g
section HC
variable {h : AH} {A : AD} {M : Nat → MS} {N : Nat × Nat} {c : Nat → Int32} {q : Nat → Nat} {H : HS} {L : LgS} {R : RS} {t l : SB} {O : OB}
theorem hC_map {g : Nat} (hg : g < 12) {X : CL} : isMap (hC h A X) A g (X.1 g) := by
  refine ⟨?_, ?_, ?_, ?_, ?_, ?_⟩ <;> exact if_pos hg
theorem hC_6 : hC h A (M, N, c, q, H, L, R, t, l, O) 6 0 = some (A 6 0, .inr (9, [.ref (A 0 0), .ref (A 0 1), .ref (A 0 2), .ref (A 0 3), .ref (A 7 0), .ref (A 9 0), .ref (A 11 0), .ref (A 13 0), .ref (A 15 0), .ref (A 21 0), .ref (A 22 1), .int O.1, .int O.2.1, .int O.2.2.1, .int O.2.2.2.1, .int O.2.2.2.2])) := rfl
theorem hC_7 : hC h A (M, N, c, q, H, L, R, t, l, O) 7 0 = some (hObj A N.1 N.2) := rfl
theorem hC_8 : hC h A (M, N, c, q, H, L, R, t, l, O) 8 0 = some (hArr A) := rfl
theorem hC_9 : hC h A (M, N, c, q, H, L, R, t, l, O) 9 0 = some (A 9 0, .inr (7, [.ref (A 10 0)])) := rfl
theorem hC_11 : hC h A (M, N, c, q, H, L, R, t, l, O) 11 0 = some (A 11 0, .inr (8, [.ref (A 12 0)])) := rfl
theorem hC_13 : hC h A (M, N, c, q, H, L, R, t, l, O) 13 0 = some (hpO A H.1) := rfl
theorem hC_15 : hC h A (M, N, c, q, H, L, R, t, l, O) 15 0 = some (lgO A L.2.2.2.2.1 L.2.2.2.2.2) := rfl
theorem hC_21 : hC h A (M, N, c, q, H, L, R, t, l, O) 21 0 = some (rdO A R.1 R.2.1) := rfl
theorem hC_22 : hC h A (M, N, c, q, H, L, R, t, l, O) 22 1 = some (sbO A 1 l) := rfl
theorem hC_25 {i : Nat} (hi : i < 10) : hC h A (M, N, c, q, H, L, R, t, l, O) 25 i = some (A 25 i, .inr (1, [.int (R.2.2 i).1, .int (R.2.2 i).2.1, .int (R.2.2 i).2.2.1, .int (R.2.2 i).2.2.2])) := if_pos hi
theorem hC_hi {s g : Nat} (hs : 26 < s) {X : CL} : hC h A X s g = h s g := by
  unfold hC
  split <;> first | omega | rfl
theorem hC_ext {h1 : AH} {X : CL} (e : ∀ s, s ≤ 26 → ∀ g, h1 s g = hC h A X s g) (e2 : ∀ s, 26 < s → ∀ g, h1 s g = h s g) : h1 = hC h A X := by
  funext s g
  rcases Nat.lt_or_ge 26 s with hs | hs
  · rw [e2 s hs g, hC_hi hs]
  · exact e s hs g

/-- cases on the role -/
theorem role26 {P : Nat → Prop} (h0 : P 0) (h1 : P 1) (h2 : P 2) (h3 : P 3) (h4 : P 4) (h5 : P 5) (h6 : P 6) (h7 : P 7) (h8 : P 8) (h9 : P 9) (h10 : P 10) (h11 : P 11) (h12 : P 12) (h13 : P 13) (h14 : P 14) (h15 : P 15) (h16 : P 16) (h17 : P 17) (h18 : P 18) (h19 : P 19) (h20 : P 20) (h21 : P 21) (h22 : P 22) (h23 : P 23) (h24 : P 24) (h25 : P 25) (h26 : P 26) : ∀ s, s ≤ 26 → P s := by
  intro s hs
  match s with
  | 0 => exact h0
  | 1 => exact h1
  | 2 => exact h2
  | 3 => exact h3
  | 4 => exact h4
  | 5 => exact h5
  | 6 => exact h6
  | 7 => exact h7
  | 8 => exact h8
  | 9 => exact h9
  | 10 => exact h10
  | 11 => exact h11
  | 12 => exact h12
  | 13 => exact h13
  | 14 => exact h14
  | 15 => exact h15
  | 16 => exact h16
  | 17 => exact h17
  | 18 => exact h18
  | 19 => exact h19
  | 20 => exact h20
  | 21 => exact h21
  | 22 => exact h22
  | 23 => exact h23
  | 24 => exact h24
  | 25 => exact h25
  | 26 => exact h26
  | n + 27 => omega
theorem hC_lg {L' : LgS} : lgd (hC h A (M, N, c, q, H, L, R, t, l, O)) A L' = hC h A (M, N, c, q, H, L', R, t, l, O) := by
  refine hC_ext (role26 (fun _ => rfl) (fun _ => rfl) (fun _ => rfl) (fun _ => rfl) (fun _ => rfl) (fun _ => rfl) (fun _ => rfl) (fun _ => rfl) (fun _ => rfl) (fun _ => rfl) (fun _ => rfl) (fun _ => rfl) (fun _ => rfl) (fun _ => rfl) (fun _ => rfl) (fun g => by by_cases e : g = 0 <;> simp [lgd, hC, e]) (fun g => by by_cases e : g = 0 <;> simp [lgd, hC, e]) (fun g => by by_cases e : g = 0 <;> simp [lgd, hC, e]) (fun g => by by_cases e : g = 0 <;> simp [lgd, hC, e]) (fun g => by by_cases e : g = 0 <;> simp [lgd, hC, e]) (fun g => by by_cases e : g < 7 <;> simp [lgd, hC, e]) (fun _ => rfl) (fun _ => rfl) (fun _ => rfl) (fun _ => rfl) (fun _ => rfl) (fun _ => rfl)) (fun s hs g => ?_)
  rw [lgd_hi (by omega), hC_hi hs]
theorem hC_hp {H' : HS} : hp (hC h A (M, N, c, q, H, L, R, t, l, O)) A H' = hC h A (M, N, c, q, H', L, R, t, l, O) := by
  refine hC_ext (role26 (fun _ => rfl) (fun _ => rfl) (fun _ => rfl) (fun _ => rfl) (fun _ => rfl) (fun _ => rfl) (fun _ => rfl) (fun _ => rfl) (fun _ => rfl) (fun _ => rfl) (fun _ => rfl) (fun _ => rfl) (fun _ => rfl) (fun g => by by_cases e : g = 0 <;> simp [hp, hC, up, e]) (fun g => by by_cases e : g = 0 <;> simp [hp, hC, up, e]) (fun _ => rfl) (fun _ => rfl) (fun _ => rfl) (fun _ => rfl) (fun _ => rfl) (fun _ => rfl) (fun _ => rfl) (fun _ => rfl) (fun _ => rfl) (fun _ => rfl) (fun _ => rfl) (fun _ => rfl)) (fun s hs g => ?_)
  rw [hp, up_role _ _ _ _ (by omega), up_role _ _ _ _ (by omega), hC_hi hs]
theorem hC_un {q' : Nat → Nat} : un (hC h A (M, N, c, q, H, L, R, t, l, O)) A q' = hC h A (M, N, c, q', H, L, R, t, l, O) := by
  refine hC_ext (role26 (fun _ => rfl) (fun _ => rfl) (fun _ => rfl) (fun _ => rfl) (fun _ => rfl) (fun _ => rfl) (fun _ => rfl) (fun _ => rfl) (fun _ => rfl) (fun _ => rfl) (fun _ => rfl) (fun _ => rfl) (fun g => by by_cases e : g = 0 <;> simp [un, hC, up, e]) (fun _ => rfl) (fun _ => rfl) (fun _ => rfl) (fun _ => rfl) (fun _ => rfl) (fun _ => rfl) (fun _ => rfl) (fun _ => rfl) (fun _ => rfl) (fun _ => rfl) (fun _ => rfl) (fun _ => rfl) (fun _ => rfl) (fun _ => rfl)) (fun s hs g => ?_)
  rw [un, up_role _ _ _ _ (by omega), hC_hi hs]
theorem hC_set {g : Nat} {m : MS} (hg : g < 12) : setMap (hC h A (M, N, c, q, H, L, R, t, l, O)) A g m = hC h A (va_up M g m, N, c, q, H, L, R, t, l, O) := by
  refine hC_ext (role26 (fun g' => by by_cases e : g' = g <;> simp [setMap, up, hC, va_up, e, hg]) (fun g' => by by_cases e : g' = g <;> simp [setMap, up, hC, va_up, e, hg]) (fun g' => by by_cases e : g' = g <;> simp [setMap, up, hC, va_up, e, hg]) (fun g' => by by_cases e : g' = g <;> simp [setMap, up, hC, va_up, e, hg]) (fun g' => by by_cases e : g' = g <;> simp [setMap, up, hC, va_up, e, hg]) (fun g' => by by_cases e : g' = g <;> simp [setMap, up, hC, va_up, e, hg]) (fun _ => rfl) (fun _ => rfl) (fun _ => rfl) (fun _ => rfl) (fun _ => rfl) (fun _ => rfl) (fun _ => rfl) (fun _ => rfl) (fun _ => rfl) (fun _ => rfl) (fun _ => rfl) (fun _ => rfl) (fun _ => rfl) (fun _ => rfl) (fun _ => rfl) (fun _ => rfl) (fun _ => rfl) (fun _ => rfl) (fun _ => rfl) (fun _ => rfl) (fun _ => rfl)) (fun s hs g => ?_)
  rw [setMap_role _ _ _ _ _ (by omega), hC_hi hs]
theorem hC_tk {g : Nat} {m : MS} {c' : Nat → Int32} (hg : g < 12) : tk (hC h A (M, N, c, q, H, L, R, t, l, O)) A g m c' = hC h A (va_up M g m, N, c', q, H, L, R, t, l, O) := by
  refine hC_ext (role26 (fun g' => by by_cases e : g' = g <;> simp [tk, setMap, up, hC, va_up, e, hg]) (fun g' => by by_cases e : g' = g <;> simp [tk, setMap, up, hC, va_up, e, hg]) (fun g' => by by_cases e : g' = g <;> simp [tk, setMap, up, hC, va_up, e, hg]) (fun g' => by by_cases e : g' = g <;> simp [tk, setMap, up, hC, va_up, e, hg]) (fun g' => by by_cases e : g' = g <;> simp [tk, setMap, up, hC, va_up, e, hg]) (fun g' => by by_cases e : g' = g <;> simp [tk, setMap, up, hC, va_up, e, hg]) (fun _ => rfl) (fun _ => rfl) (fun _ => rfl) (fun _ => rfl) (fun g' => by by_cases e : g' = 0 <;> simp [tk, setMap, hC, up, e]) (fun _ => rfl) (fun _ => rfl) (fun _ => rfl) (fun _ => rfl) (fun _ => rfl) (fun _ => rfl) (fun _ => rfl) (fun _ => rfl) (fun _ => rfl) (fun _ => rfl) (fun _ => rfl) (fun _ => rfl) (fun _ => rfl) (fun _ => rfl) (fun _ => rfl) (fun _ => rfl)) (fun s hs g => ?_)
  rw [tk, up_role _ _ _ _ (by omega), setMap_role _ _ _ _ _ (by omega), hC_hi hs]
theorem hC_h {nx kp : Nat} : up (hC h A (M, N, c, q, H, L, R, t, l, O)) 7 0 (hObj A nx kp) = hC h A (M, (nx, kp), c, q, H, L, R, t, l, O) := by
  refine hC_ext (role26 (fun _ => rfl) (fun _ => rfl) (fun _ => rfl) (fun _ => rfl) (fun _ => rfl) (fun _ => rfl) (fun _ => rfl) (fun g => by by_cases e : g = 0 <;> simp [hC, up, e]) (fun _ => rfl) (fun _ => rfl) (fun _ => rfl) (fun _ => rfl) (fun _ => rfl) (fun _ => rfl) (fun _ => rfl) (fun _ => rfl) (fun _ => rfl) (fun _ => rfl) (fun _ => rfl) (fun _ => rfl) (fun _ => rfl) (fun _ => rfl) (fun _ => rfl) (fun _ => rfl) (fun _ => rfl) (fun _ => rfl) (fun _ => rfl)) (fun s hs g => ?_)
  rw [up_role _ _ _ _ (by omega), hC_hi hs]
theorem hC_o {O' : OB} : up (hC h A (M, N, c, q, H, L, R, t, l, O)) 6 0 (obO A O') = hC h A (M, N, c, q, H, L, R, t, l, O') := by
  refine hC_ext (role26 (fun _ => rfl) (fun _ => rfl) (fun _ => rfl) (fun _ => rfl) (fun _ => rfl) (fun _ => rfl) (fun g => by by_cases e : g = 0 <;> simp [hC, up, e]) (fun _ => rfl) (fun _ => rfl) (fun _ => rfl) (fun _ => rfl) (fun _ => rfl) (fun _ => rfl) (fun _ => rfl) (fun _ => rfl) (fun _ => rfl) (fun _ => rfl) (fun _ => rfl) (fun _ => rfl) (fun _ => rfl) (fun _ => rfl) (fun _ => rfl) (fun _ => rfl) (fun _ => rfl) (fun _ => rfl) (fun _ => rfl) (fun _ => rfl)) (fun s hs g => ?_)
  rw [up_role _ _ _ _ (by omega), hC_hi hs]
theorem hC_c {g : Nat} {f : Nat → Int32} (hg : g < 12) : up (hC h A (M, N, c, q, H, L, R, t, l, O)) 1 g (cArr (A 1 g) 64 f) = hC h A (va_up M g (f, (M g).2), N, c, q, H, L, R, t, l, O) := by
  refine hC_ext (role26 (fun g' => by by_cases e : g' = g <;> simp [up, hC, va_up, e, mObj]) (fun g' => by by_cases e : g' = g <;> simp [up, hC, va_up, e, hg]) (fun g' => by by_cases e : g' = g <;> simp [up, hC, va_up, e]) (fun g' => by by_cases e : g' = g <;> simp [up, hC, va_up, e]) (fun g' => by by_cases e : g' = g <;> simp [up, hC, va_up, e]) (fun g' => by by_cases e : g' = g <;> simp [up, hC, va_up, e]) (fun _ => rfl) (fun _ => rfl) (fun _ => rfl) (fun _ => rfl) (fun _ => rfl) (fun _ => rfl) (fun _ => rfl) (fun _ => rfl) (fun _ => rfl) (fun _ => rfl) (fun _ => rfl) (fun _ => rfl) (fun _ => rfl) (fun _ => rfl) (fun _ => rfl) (fun _ => rfl) (fun _ => rfl) (fun _ => rfl) (fun _ => rfl) (fun _ => rfl) (fun _ => rfl)) (fun s hs g => ?_)
  rw [up_role _ _ _ _ (by omega), hC_hi hs]
theorem hC_t {g : Nat} {f : Nat → Int32} (hg : g < 12) : up (hC h A (M, N, c, q, H, L, R, t, l, O)) 4 g (iArr (A 4 g) 4 f) = hC h A (va_up M g ((M g).1, (M g).2.1, (M g).2.2.1, f, (M g).2.2.2.2), N, c, q, H, L, R, t, l, O) := by
  refine hC_ext (role26 (fun g' => by by_cases e : g' = g <;> simp [up, hC, va_up, e, mObj]) (fun g' => by by_cases e : g' = g <;> simp [up, hC, va_up, e]) (fun g' => by by_cases e : g' = g <;> simp [up, hC, va_up, e]) (fun g' => by by_cases e : g' = g <;> simp [up, hC, va_up, e]) (fun g' => by by_cases e : g' = g <;> simp [up, hC, va_up, e, hg]) (fun g' => by by_cases e : g' = g <;> simp [up, hC, va_up, e]) (fun _ => rfl) (fun _ => rfl) (fun _ => rfl) (fun _ => rfl) (fun _ => rfl) (fun _ => rfl) (fun _ => rfl) (fun _ => rfl) (fun _ => rfl) (fun _ => rfl) (fun _ => rfl) (fun _ => rfl) (fun _ => rfl) (fun _ => rfl) (fun _ => rfl) (fun _ => rfl) (fun _ => rfl) (fun _ => rfl) (fun _ => rfl) (fun _ => rfl) (fun _ => rfl)) (fun s hs g => ?_)
  rw [up_role _ _ _ _ (by omega), hC_hi hs]
theorem hC_sb1 {B : SB} : sbd (hC h A (M, N, c, q, H, L, R, t, l, O)) A 1 B = hC h A (M, N, c, q, H, L, R, t, B, O) := by
  refine hC_ext (role26 (fun _ => rfl) (fun _ => rfl) (fun _ => rfl) (fun _ => rfl) (fun _ => rfl) (fun _ => rfl) (fun _ => rfl) (fun _ => rfl) (fun _ => rfl) (fun _ => rfl) (fun _ => rfl) (fun _ => rfl) (fun _ => rfl) (fun _ => rfl) (fun _ => rfl) (fun _ => rfl) (fun _ => rfl) (fun _ => rfl) (fun _ => rfl) (fun _ => rfl) (fun _ => rfl) (fun _ => rfl) (fun g => by by_cases e : g = 1 <;> simp [sbd, hC, e]) (fun g => by by_cases e : g = 1 <;> simp [sbd, hC, e]) (fun _ => rfl) (fun _ => rfl) (fun g => by by_cases e : g = 0 <;> simp [sbd, hC, e])) (fun s hs g => ?_)
  rw [sbd_hi hs, hC_hi hs]
theorem hC_rd {S : RS} {B : SB} : rdh (hC h A (M, N, c, q, H, L, R, t, l, O)) A S B = hC h A (M, N, c, q, H, L, S, B, l, O) := by
  refine hC_ext (role26 (fun _ => rfl) (fun _ => rfl) (fun _ => rfl) (fun _ => rfl) (fun _ => rfl) (fun _ => rfl) (fun _ => rfl) (fun _ => rfl) (fun _ => rfl) (fun _ => rfl) (fun _ => rfl) (fun _ => rfl) (fun _ => rfl) (fun _ => rfl) (fun _ => rfl) (fun _ => rfl) (fun _ => rfl) (fun _ => rfl) (fun _ => rfl) (fun _ => rfl) (fun _ => rfl) (fun g => by by_cases e : g = 0 <;> simp [rdh, rdd, sbd, hC, e]) (fun g => by by_cases e : g = 0 <;> simp [rdh, rdd, sbd, hC, e]) (fun g => by by_cases e : g = 0 <;> simp [rdh, rdd, sbd, hC, e]) (fun g => by by_cases e : g = 0 <;> simp [rdh, rdd, sbd, hC, e]) (fun g => by by_cases e : g < 10 <;> simp [rdh, rdd, sbd, hC, e]) (fun g => by by_cases e : g = 0 <;> simp [rdh, rdd, sbd, hC, e])) (fun s hs g => ?_)
  rw [rdh_hi hs, hC_hi hs]
end HC
