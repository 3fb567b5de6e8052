/-! The class and the model side by side: what holds of both after n calls. -/
section RE9
/-- one map: its accounts, its grounds; the heat added is bounded by the calls B, strictly where a tick may have been -/
def bdM (B : Nat) (m : MS) : Prop := okM m ∧ gOk m ∧ (m.2.2.2.2.2.2.2.toInt + 999 ≤ 999 * (B : Int) ∨ (m.2.2.2.2.2.2.2.toInt ≤ 999 * (B : Int) ∧ ∀ i, i < 64 → (m.2.1 i).toInt ≤ 9999))
def mP (B : Nat) (m : MS) (mm : Nat → Int32) : Prop := mR m mm ∧ bdM B m
theorem mP.mono {B B' : Nat} {m : MS} {mm : Nat → Int32} (h : mP B m mm) (hb : B ≤ B') : mP B' m mm := by
  obtain ⟨h1, h2, h3, h4⟩ := h
  refine ⟨h1, h2, h3, ?_⟩
  rcases h4 with q | ⟨q, w⟩
  · exact Or.inl (by omega)
  · exact Or.inr ⟨by omega, w⟩
theorem mR_cong {m : MS} {f g : Nat → Int32} (h : mR m f) (e : ∀ i, i < 202 → g i = f i) : mR m g := by
  obtain ⟨h1, h2, h3, h4, h5, h6, h7⟩ := h
  exact ⟨fun i hi => (h1 i hi).trans (e _ (by omega)).symm, fun i hi => (h2 i hi).trans (e _ (by omega)).symm, fun i hi => (h3 i hi).trans (e _ (by omega)).symm, fun i hi => (h4 i hi).trans (e _ (by omega)).symm, fun i hi => (h5 i hi).trans (e _ (by omega)).symm, h6.trans (e _ (by omega)).symm, h7.trans (e _ (by omega)).symm⟩
theorem mP.cong {B : Nat} {m : MS} {f g : Nat → Int32} (h : mP B m f) (e : ∀ i, i < 202 → g i = f i) : mP B m g := ⟨mR_cong h.1 e, h.2⟩
theorem bdM.le {B : Nat} {m : MS} (h : bdM B m) : m.2.2.2.2.2.2.2.toInt ≤ 999 * (B : Int) := by
  rcases h.2.2 with q | q
  · omega
  · exact q.1
/-- the maps, the history, the snapshot, the refusals, the text, the line -/
def RelP (n : Nat) (M : Nat → MS) (N : Nat × Nat) (t l : SB) (O : OB) (a : Nat → Nat → Int32) (f : Nat → Int32) : Prop :=
  ∃ (B : Nat) (T T9 : TX), B + T.2 ≤ n ∧ mP B (M 0) (a 0) ∧ (¬ f 4 = 0 → mP B (M 2) (a 3)) ∧
    (N.1 < 8 ∧ N.2 ≤ 8 ∧ f 6 = nI N.2 ∧ ∀ j, j < N.2 → mP B (M (4 + (N.1 + 8 - N.2 + j) % 8)) (fun i => a 4 (202 * j + i))) ∧
    (O.1 = f 4 ∧ f 9 = O.2.1 ∧ f 10 = O.2.2.1 ∧ f 7 = O.2.2.2.1 ∧ f 8 = O.2.2.2.2) ∧
    (isTx t T.1 T.2 ∧ tOk T ∧ T.2 ≤ 60 ∧ f 13 = nI T.2 ∧ ∀ i, i < T.2 → a 5 i = nI (T.1 i)) ∧
    (isTx l T9.1 T9.2 ∧ T9.2 ≤ 79 ∧ f 29 = nI T9.2 ∧ ∀ i, i < T9.2 → a 15 i = nI (T9.1 i) ∧ T9.1 i < 256) ∧
    (∀ i, i < 5 → a 13 i = nI (bgN i)) ∧ (∀ i, i < 24 → a 12 i = nI (ltN i))
def RelX (n : Nat) (X : CL) (Y : YS) : Prop := RelP n X.1 X.2.1 X.2.2.2.2.2.2.2.1 X.2.2.2.2.2.2.2.2.1 X.2.2.2.2.2.2.2.2.2 Y.1 Y.2
section
variable {n : Nat} {M M' : Nat → MS} {N N' : Nat × Nat} {t l t' l' : SB} {O O' : OB} {a a' : Nat → Nat → Int32} {f f' : Nat → Int32}
/-- an asking call -/
theorem RelP.same (h : RelP n M N t l O a f) (e0 : a' 0 = a 0) (e3 : a' 3 = a 3) (e4 : a' 4 = a 4) (e5 : a' 5 = a 5) (e12 : a' 12 = a 12) (e13 : a' 13 = a 13) (e15 : a' 15 = a 15) (f4 : f' 4 = f 4) (f6 : f' 6 = f 6) (f7 : f' 7 = f 7) (f8 : f' 8 = f 8) (f9 : f' 9 = f 9) (f10 : f' 10 = f 10) (f13 : f' 13 = f 13) (f29 : f' 29 = f 29) (h0 : M' 0 = M 0) (h2 : M' 2 = M 2) (hk : ∀ k, 4 ≤ k → M' k = M k) : RelP (n + 1) M' N t l O a' f' := by
  obtain ⟨B, T, T9, g0, g1, g2, g3, g4, g5, g6, g7, g8⟩ := h
  refine ⟨B, T, T9, by omega, by rw [e0, h0]; exact g1, by rw [f4, e3, h2]; exact g2, ⟨g3.1, g3.2.1, by rw [f6]; exact g3.2.2.1, fun j hj => by rw [e4, hk _ (by omega)]; exact g3.2.2.2 j hj⟩, by rw [f4, f7, f8, f9, f10]; exact g4, by rw [f13, e5]; exact g5, by rw [f29, e15]; exact g6, by rw [e13]; exact g7, by rw [e12]; exact g8⟩
/-- a refused change -/
theorem RelP.ref (h : RelP n M N t l O a f) {r d : Int32} (e0 : a' 0 = a 0) (e3 : a' 3 = a 3) (e4 : a' 4 = a 4) (e5 : a' 5 = a 5) (e12 : a' 12 = a 12) (e13 : a' 13 = a 13) (e15 : a' 15 = a 15) (f4 : f' 4 = f 4) (f6 : f' 6 = f 6) (f7 : f' 7 = f 7) (f8 : f' 8 = f 8) (f9 : f' 9 = r) (f10 : f' 10 = d) (f13 : f' 13 = f 13) (f29 : f' 29 = f 29) : RelP (n + 1) M N t l (O.1, r, d, O.2.2.2) a' f' := by
  obtain ⟨B, T, T9, g0, g1, g2, g3, ⟨g4, -, -, g42, g43⟩, g5, g6, g7, g8⟩ := h
  refine ⟨B, T, T9, by omega, by rw [e0]; exact g1, by rw [f4, e3]; exact g2, ⟨g3.1, g3.2.1, by rw [f6]; exact g3.2.2.1, fun j hj => by rw [e4]; exact g3.2.2.2 j hj⟩, ⟨by rw [f4]; exact g4, f9, f10, by rw [f7]; exact g42, by rw [f8]; exact g43⟩, by rw [f13, e5]; exact g5, by rw [f29, e15]; exact g6, by rw [e13]; exact g7, by rw [e12]; exact g8⟩
theorem pp_8 {p a0 : Nat → Int32} {x : Nat} : ppN p a0 8 x = if 202 * 7 ≤ x ∧ x < 202 * 7 + 202 then a0 (x - 202 * 7) else shN p 1414 x := by
  rw [ppN, if_pos rfl]
  rfl
theorem pp_n {p a0 : Nat → Int32} {c x : Nat} (h : ¬ c = 8) : ppN p a0 c x = if 202 * c ≤ x ∧ x < 202 * c + 202 then a0 (x - 202 * c) else p x := by
  rw [ppN, if_neg h]
  rfl
/-- the history takes one map more -/
theorem his_push {B B' : Nat} {past a0 : Nat → Int32} (hB : B ≤ B') (hN : N.1 < 8) (hN2 : N.2 ≤ 8) (h0 : mP B (M 0) a0) (hj : ∀ j, j < N.2 → mP B (M (4 + (N.1 + 8 - N.2 + j) % 8)) (fun i => past (202 * j + i))) (hM : ∀ k, 4 ≤ k → M' k = if k = 4 + N.1 then M 0 else M k) :
    (kpN N).1 < 8 ∧ (kpN N).2 ≤ 8 ∧ nI (min N.2 7 + 1) = nI (kpN N).2 ∧ ∀ j, j < (kpN N).2 → mP B' (M' (4 + ((kpN N).1 + 8 - (kpN N).2 + j) % 8)) (fun i => ppN past a0 N.2 (202 * j + i)) := by
  obtain ⟨x, y⟩ := N
  have e1 : (kpN (x, y)).1 = (x + 1) % 8 := rfl
  have e2 : (kpN (x, y)).2 = min (y + 1) 8 := rfl
  have hN' : x < 8 := hN
  have hN2' : y ≤ 8 := hN2
  rw [e1, e2]
  refine ⟨by omega, by omega, by rw [show min y 7 + 1 = min (y + 1) 8 by omega], fun j h => ?_⟩
  rw [hM _ (by omega)]
  show mP B' (if 4 + ((x + 1) % 8 + 8 - min (y + 1) 8 + j) % 8 = 4 + x then M 0 else M (4 + ((x + 1) % 8 + 8 - min (y + 1) 8 + j) % 8)) (fun i => ppN past a0 y (202 * j + i))
  by_cases c : y = 8
  · subst c
    by_cases c2 : j = 7
    · subst c2
      rw [if_pos (by omega)]
      refine (h0.mono hB).cong (fun i hi => ?_)
      show ppN past a0 8 (202 * 7 + i) = a0 i
      rw [pp_8, if_pos (by omega), show 202 * 7 + i - 202 * 7 = i by omega]
    · rw [if_neg (by omega)]
      have z := (hj (j + 1) (by show j + 1 < 8; omega)).mono hB
      rw [show 4 + ((x + 1) % 8 + 8 - min (8 + 1) 8 + j) % 8 = 4 + (x + 8 - 8 + (j + 1)) % 8 by omega]
      refine z.cong (fun i hi => ?_)
      show ppN past a0 8 (202 * j + i) = past (202 * (j + 1) + i)
      have j7 : j < 7 := by omega
      rw [pp_8, if_neg (by omega)]
      show (if 202 * j + i < 1414 then past (202 * j + i + 202) else past (202 * j + i)) = _
      rw [if_pos (by omega), show 202 * j + i + 202 = 202 * (j + 1) + i by omega]
  · by_cases c2 : j = y
    · subst c2
      rw [if_pos (by omega)]
      refine (h0.mono hB).cong (fun i hi => ?_)
      show ppN past a0 j (202 * j + i) = a0 i
      rw [pp_n c, if_pos (by omega), show 202 * j + i - 202 * j = i by omega]
    · rw [if_neg (by omega)]
      have z := (hj j (by show j < y; omega)).mono hB
      rw [show 4 + ((x + 1) % 8 + 8 - min (y + 1) 8 + j) % 8 = 4 + (x + 8 - y + j) % 8 by omega]
      refine z.cong (fun i hi => ?_)
      show ppN past a0 y (202 * j + i) = past (202 * j + i)
      rw [pp_n c, if_neg (by omega)]
/-- a change -/
theorem RelP.change (h : RelP n M N t l O a f) (h0 : ∀ B, B ≤ n → mP B (M 0) (a 0) → mP (B + 1) (M' 0) (a' 0)) (h2 : M' 2 = M 2) (hM : ∀ k, 4 ≤ k → M' k = if k = 4 + N.1 then M 0 else M k) (e3 : a' 3 = a 3) (e4 : a' 4 = ppN (a 4) (a 0) N.2) (e5 : a' 5 = a 5) (e12 : a' 12 = a 12) (e13 : a' 13 = a 13) (e15 : a' 15 = a 15) (f4 : f' 4 = f 4) (f6 : f' 6 = nI (min N.2 7 + 1)) (f7 : f' 7 = f 7) (f8 : f' 8 = f 8) (f9 : f' 9 = f 9) (f10 : f' 10 = f 10) (f13 : f' 13 = f 13) (f29 : f' 29 = f 29) : RelP (n + 1) M' (kpN N) t l O a' f' := by
  obtain ⟨B, T, T9, g0, g1, g2, ⟨k1, k2, k3, k4⟩, g4, g5, g6, g7, g8⟩ := h
  refine ⟨B + 1, T, T9, by omega, h0 B (by omega) g1, fun q => by rw [e3, h2]; exact (g2 (by rw [← f4]; exact q)).mono (by omega), ?_, by rw [f4, f7, f8, f9, f10]; exact g4, by rw [f13, e5]; exact g5, by rw [f29, e15]; exact g6, by rw [e13]; exact g7, by rw [e12]; exact g8⟩
  rw [f6, e4]
  exact his_push (by omega) k1 k2 g1 k4 hM
theorem RelP.m0 (h : RelP n M N t l O a f) : ∃ B, B ≤ n ∧ mP B (M 0) (a 0) := by
  obtain ⟨B, T, T9, g0, g1, -⟩ := h
  exact ⟨B, by omega, g1⟩
end
end RE9
