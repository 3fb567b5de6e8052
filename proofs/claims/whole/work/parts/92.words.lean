/-! The reader: which word stands there. -/
section WD
variable {T : TX} {p : Nat}
theorem rdW_lt : ∀ i, i < 4 → ∀ k, k < rdLen.getD i 0 → (rdW i k = nI (ltN (bgN i + k)) ∧ ltN (bgN i + k) < 127) := by decide +kernel
theorem rdL_bg : ∀ i, i < 4 → rdLen.getD i 0 = bgN (i + 1) - bgN i := by decide +kernel
theorem nI_inj31 {a b : Nat} (ha : a < 127) (hb : b < 127) : nI a = nI b ↔ a = b := by
  refine ⟨fun q => ?_, fun q => by rw [q]⟩
  have h1 := nI_toInt (n := a) (by omega)
  have h2 := nI_toInt (n := b) (by omega)
  rw [q] at h1
  omega
theorem nxt_nI (hT : tOk T) {q v : Nat} (hv : v < 127) : nxt T q (nI v) = true ↔ q < T.2 ∧ T.1 q = v := by
  unfold nxt
  rw [decide_eq_true_iff]
  exact ⟨fun w => ⟨w.1, (nI_inj31 (hT q w.1) hv).mp w.2⟩, fun w => ⟨w.1, by rw [w.2]⟩⟩
theorem wrd_lk (hT : tOk T) {i : Nat} (hi : i < 4) : ∀ j k, k + j = rdLen.getD i 0 → wrd T (rdW i) j k (p + k) = (p + lkN T p i j k, decide (lkN T p i j k = rdLen.getD i 0))
  | 0, k, h => by
    rw [wrd, lkN, decide_eq_true (by omega)]
  | j + 1, k, h => by
    obtain ⟨e1, e2⟩ := rdW_lt i hi k (by omega)
    have z := nxt_nI hT (q := p + k) e2
    rw [wrd, lkN, e1]
    by_cases c : p + k < T.2 ∧ T.1 (p + k) = ltN (bgN i + k)
    · rw [if_pos (z.mpr c), if_pos c]
      exact wrd_lk hT hi j (k + 1) (by omega)
    · rw [if_neg (fun w => c (z.mp w)), if_neg c, decide_eq_false (by omega)]
theorem rWd_lk (hT : tOk T) {i : Nat} (hi : i < 4) : rWd T i p = (p + lkW T p i, decide (lkW T p i = rdLen.getD i 0)) := by
  have z := wrd_lk (p := p) hT hi (rdLen.getD i 0) 0 (Nat.zero_add _)
  unfold rWd lkW
  rw [← rdL_bg i hi]
  exact z
theorem lkN_ge {i : Nat} : ∀ j k, k ≤ lkN T p i j k
  | 0, k => Nat.le_refl _
  | j + 1, k => by
    rw [lkN]
    split
    · exact Nat.le_of_succ_le (lkN_ge j (k + 1))
    · exact Nat.le_refl _
theorem rdL_pos : ∀ i, i < 4 → rdLen.getD i 0 = (rdLen.getD i 0 - 1) + 1 := by decide +kernel
theorem lkW_0 {i : Nat} (hi : i < 4) : 0 < lkW T p i ↔ p < T.2 ∧ T.1 p = ltN (bgN i) := by
  unfold lkW
  rw [← rdL_bg i hi, rdL_pos i hi, lkN]
  by_cases c : p + 0 < T.2 ∧ T.1 (p + 0) = ltN (bgN i + 0)
  · rw [if_pos c]
    exact ⟨fun _ => c, fun _ => lkN_ge _ 1⟩
  · rw [if_neg c]
    exact ⟨fun w => absurd w (Nat.lt_irrefl 0), fun w => absurd w c⟩
theorem lkW_len {i : Nat} : ∀ j k, lkN T p i j k ≤ k + j
  | 0, k => Nat.le_refl _
  | j + 1, k => by
    rw [lkN]
    split
    · have := lkW_len (i := i) j (k + 1); omega
    · omega
/-- the word the class reads is the one the model finds -/
theorem wd_eq (hT : tOk T) :
    (nxt T p 104 = true → wdM T p = 0) ∧ (nxt T p 103 = true → wdM T p = 1) ∧ (nxt T p 98 = true → wdM T p = 2) ∧
    (¬ nxt T p 104 = true → ¬ nxt T p 103 = true → ¬ nxt T p 98 = true → wdM T p = 3 ∨ (wdM T p = 0 ∧ lkW T p 0 = 0 ∧ lkW T p 3 = 0)) := by
  have n0 := nxt_nI hT (q := p) (v := 104) (by omega)
  have n1 := nxt_nI hT (q := p) (v := 103) (by omega)
  have n2 := nxt_nI hT (q := p) (v := 98) (by omega)
  have l0 := lkW_0 (T := T) (p := p) (i := 0) (by omega)
  have l1 := lkW_0 (T := T) (p := p) (i := 1) (by omega)
  have l2 := lkW_0 (T := T) (p := p) (i := 2) (by omega)
  have l3 := lkW_0 (T := T) (p := p) (i := 3) (by omega)
  rw [show ltN (bgN 0) = 104 from rfl] at l0
  rw [show ltN (bgN 1) = 103 from rfl] at l1
  rw [show ltN (bgN 2) = 98 from rfl] at l2
  rw [show ltN (bgN 3) = 112 from rfl] at l3
  have w3 : wdM T p = if lkW T p (bwN T p 2) < lkW T p 3 then 3 else bwN T p 2 := rfl
  have w2 : bwN T p 2 = if lkW T p (bwN T p 1) < lkW T p 2 then 2 else bwN T p 1 := rfl
  have w1 : bwN T p 1 = if lkW T p 0 < lkW T p 1 then 1 else 0 := rfl
  refine ⟨fun h => ?_, fun h => ?_, fun h => ?_, fun h0 h1 h2 => ?_⟩
  · have c := n0.mp h
    have a0 := l0.mpr c
    have a1 : ¬ 0 < lkW T p 1 := fun q => by have := l1.mp q; omega
    have a2 : ¬ 0 < lkW T p 2 := fun q => by have := l2.mp q; omega
    have a3 : ¬ 0 < lkW T p 3 := fun q => by have := l3.mp q; omega
    rw [if_neg (by omega)] at w1
    rw [w1, if_neg (by omega)] at w2
    rw [w3, w2, if_neg (by omega)]
  · have c := n1.mp h
    have a1 := l1.mpr c
    have a0 : ¬ 0 < lkW T p 0 := fun q => by have := l0.mp q; omega
    have a2 : ¬ 0 < lkW T p 2 := fun q => by have := l2.mp q; omega
    have a3 : ¬ 0 < lkW T p 3 := fun q => by have := l3.mp q; omega
    rw [if_pos (by omega)] at w1
    rw [w1, if_neg (by omega)] at w2
    rw [w3, w2, if_neg (by omega)]
  · have c := n2.mp h
    have a2 := l2.mpr c
    have a0 : ¬ 0 < lkW T p 0 := fun q => by have := l0.mp q; omega
    have a1 : ¬ 0 < lkW T p 1 := fun q => by have := l1.mp q; omega
    have a3 : ¬ 0 < lkW T p 3 := fun q => by have := l3.mp q; omega
    rw [if_neg (by omega)] at w1
    rw [w1, if_pos (by omega)] at w2
    rw [w3, w2, if_neg (by omega)]
  · have a0 : ¬ 0 < lkW T p 0 := fun q => h0 (n0.mpr (l0.mp q))
    have a1 : ¬ 0 < lkW T p 1 := fun q => h1 (n1.mpr (l1.mp q))
    have a2 : ¬ 0 < lkW T p 2 := fun q => h2 (n2.mpr (l2.mp q))
    rw [if_neg (by omega)] at w1
    rw [w1, if_neg (by omega)] at w2
    by_cases a3 : 0 < lkW T p 3
    · refine Or.inl ?_
      rw [w3, w2, if_pos (by omega)]
    · refine Or.inr ⟨?_, by omega, by omega⟩
      rw [w3, w2, if_neg (by omega)]
end WD
