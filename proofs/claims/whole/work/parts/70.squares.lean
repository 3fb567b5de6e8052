/-! Squares: the sum of all windows. -/
def corF (a b c d : Int32) : Int32 := if a + b + c + d = 2 then (if a = d then 2 else 0) else if a + b + c + d = 1 then 1 else if a + b + c + d = 3 then -1 else 0
theorem iv_tf : (∀ p : Prop, p → iv p = 1) ∧ ∀ p : Prop, ¬ p → iv p = 0 := ⟨fun _ => iv_t, fun _ => iv_f⟩
theorem cor4 (a b c d : Prop) : corF (Int32.ofInt (iv a)) (Int32.ofInt (iv b)) (Int32.ofInt (iv c)) (Int32.ofInt (iv d)) = Int32.ofInt (iv a + iv b + iv c + iv d - 2 * (iv (a ∧ b) + iv (c ∧ d) + iv (a ∧ c) + iv (b ∧ d)) + 4 * iv (a ∧ b ∧ c ∧ d)) := by
  by_cases ha : a <;> by_cases hb : b <;> by_cases hc : c <;> by_cases hd : d <;>
    simp only [iv, ha, hb, hc, hd, true_and, and_true, false_and, and_false, if_true, if_false] <;> decide +kernel
theorem cell_d : ∀ i, i < 10 → ∀ j, j < 10 → decide (cellB (nI i - 1) (nI j - 1)) = decide (1 ≤ i ∧ i ≤ 8 ∧ 1 ≤ j ∧ j ≤ 8) := by decide +kernel
theorem cell_n : ∀ i, i < 8 → ∀ j, j < 8 → 8 * (nI (j + 1) - 1) + (nI (i + 1) - 1) = nI (8 * j + i) := by decide +kernel
theorem nI_up : ∀ i, i < 10 → nI i - 1 + 1 = nI (i + 1) - 1 := by decide +kernel
theorem pl_iv {b : Int64} {i j : Nat} (hi : i < 10) (hj : j < 10) : plJ b (nI i - 1) (nI j - 1) = Int32.ofInt (iv (fS b (10 * j + i))) := by
  have e : plP b (nI i - 1) (nI j - 1) ↔ fS b (10 * j + i) := by
    unfold plP fS
    have z := cell_d i hi j hj
    rw [show (10 * j + i) % 10 = i by omega, show (10 * j + i) / 10 = j by omega]
    constructor
    · rintro ⟨h1, h2⟩
      have h3 := of_decide_eq_true (z.symm.trans (decide_eq_true h1))
      obtain ⟨i, rfl⟩ : ∃ i', i = i' + 1 := ⟨i - 1, by omega⟩
      obtain ⟨j, rfl⟩ : ∃ j', j = j' + 1 := ⟨j - 1, by omega⟩
      rw [cell_n i (by omega) j (by omega), inJ_iff (by omega)] at h2
      exact ⟨h3.1, h3.2.1, h3.2.2.1, h3.2.2.2, h2⟩
    · rintro ⟨h1, h2, h3, h4, h5⟩
      refine ⟨of_decide_eq_true (z.trans (decide_eq_true ⟨h1, h2, h3, h4⟩)), ?_⟩
      obtain ⟨i, rfl⟩ : ∃ i', i = i' + 1 := ⟨i - 1, by omega⟩
      obtain ⟨j, rfl⟩ : ∃ j', j = j' + 1 := ⟨j - 1, by omega⟩
      rw [cell_n i (by omega) j (by omega), inJ_iff (by omega)]
      exact h5
  unfold plJ
  by_cases h : fS b (10 * j + i)
  · rw [if_pos (e.mpr h), iv_t h]; rfl
  · rw [if_neg (fun q => h (e.mp q)), iv_f h]; rfl
theorem cor_iv {b : Int64} {i j : Nat} (hi : i < 9) (hj : j < 9) : corJ b (nI i - 1) (nI j - 1) = Int32.ofInt (cW (fS b) (10 * j + i)) := by
  show corF (plJ b (nI i - 1) (nI j - 1)) (plJ b (nI i - 1 + 1) (nI j - 1)) (plJ b (nI i - 1) (nI j - 1 + 1)) (plJ b (nI i - 1 + 1) (nI j - 1 + 1)) = _
  rw [nI_up i (by omega), nI_up j (by omega), pl_iv (by omega) (by omega), pl_iv (by omega) (by omega), pl_iv (by omega) (by omega), pl_iv (by omega) (by omega), cor4]
  unfold cW cV cH cU cF
  rw [show 0 + (10 * j + i) = 10 * j + i by omega, show 1 + (10 * j + i) = 10 * j + (i + 1) by omega, show 10 + (10 * j + i) = 10 * (j + 1) + i by omega, show 11 + (10 * j + i) = 10 * (j + 1) + (i + 1) by omega, show 1 + (10 * (j + 1) + i) = 10 * (j + 1) + (i + 1) by omega, show 10 + (10 * j + (i + 1)) = 10 * (j + 1) + (i + 1) by omega]
theorem row_iv {b : Int64} {J : Nat} (hJ : J < 9) : ∀ j i, i + j = 9 → sqRow b (nI J - 1) j (nI i - 1) (Int32.ofInt (fb_si (cW (fS b)) (10 * J + i))) = Int32.ofInt (fb_si (cW (fS b)) (10 * J + 9))
  | 0, i, h => by rw [sqRow, show i = 9 by omega]
  | j + 1, i, h => by
    rw [sqRow, cor_iv (by omega) hJ, ← Int32.ofInt_add, ← fb_si_succ, nI_up i (by omega)]
    exact row_iv hJ j (i + 1) (by omega)
theorem fS_col {b : Int64} {q : Nat} (h : q % 10 = 0 ∨ q % 10 = 9) : ¬ fS b q := fun s => by
  have h1 := s.1
  have h2 := s.2.1
  omega
theorem cW_9 {b : Int64} (J : Nat) : cW (fS b) (10 * J + 9) = 0 := by
  unfold cW cV cH cU cF
  rw [iv_f (fS_col (by omega)), iv_f (fS_col (by omega)), iv_f (fS_col (by omega)), iv_f (fS_col (by omega)), iv_f (fun q => fS_col (by omega) q.1), iv_f (fun q => fS_col (by omega) q.1), iv_f (fun q => fS_col (by omega) q.1), iv_f (fun q => fS_col (by omega) q.1), iv_f (fun q => fS_col (by omega) q.1)]
  rfl
theorem all_iv {b : Int64} : ∀ j J, J + j = 9 → sqAll b j (nI J - 1) (Int32.ofInt (fb_si (cW (fS b)) (10 * J))) = Int32.ofInt (fb_si (cW (fS b)) 90)
  | 0, J, h => by rw [sqAll, show J = 9 by omega]
  | j + 1, J, h => by
    have z := row_iv (b := b) (J := J) (by omega) 9 0 rfl
    rw [sqAll, show (-1 : Int32) = nI 0 - 1 from by decide, show 10 * J = 10 * J + 0 from rfl, z, nI_up J (by omega)]
    have w := all_iv (b := b) j (J + 1) (by omega)
    rw [show 10 * (J + 1) = 10 * J + 9 + 1 by omega, fb_si_succ, cW_9, Int.add_zero] at w
    exact w
theorem sq_eq (b : Int64) : sqAll b 9 (-1) 0 = Int32.ofInt (4 * cX (fS b)) := by
  rw [← cW_sum fS_0]
  exact all_iv 9 0 rfl
theorem quart : ∀ k : Nat, k < 129 → Int32.ofInt (4 * ((k : Int) - 64)) / 4 = Int32.ofInt ((k : Int) - 64) := by decide +kernel
theorem hol_sq (b : Int64) : holN 64 0 (b ^^^ (-1)) 0 = unAN b 64 - sqAll b 9 (-1) 0 / 4 := by
  have z := eu_4 b
  have l1 := fb_ct_le (fun c => pd (isMn (tb b) 0 c)) 64
  have l2 := fb_ct_le (fun c => pd (isHo (tb (b ^^^ (-1))) 1 c)) 64
  have q := quart (fb_ct (fun c => pd (isMn (tb b) 0 c)) 64 + 64 - fb_ct (fun c => pd (isHo (tb (b ^^^ (-1))) 1 c)) 64) (by omega)
  rw [holN_64, un_eq, sq_eq, cntP_ct (q := fun c => pd (isMn (tb b) 0 c)) 64 (fun i _ => pd_iff.symm), cntP_ct (q := fun c => pd (isHo (tb (b ^^^ (-1))) 1 c)) 64 (fun i _ => pd_iff.symm), ← z]
  rw [show ((fb_ct (fun c => pd (isMn (tb b) 0 c)) 64 + 64 - fb_ct (fun c => pd (isHo (tb (b ^^^ (-1))) 1 c)) 64 : Nat) : Int) - 64 = (fb_ct (fun c => pd (isMn (tb b) 0 c)) 64 : Int) - (fb_ct (fun c => pd (isHo (tb (b ^^^ (-1))) 1 c)) 64 : Int) by omega] at q
  rw [q]
  have key : ∀ r, r < 65 → ∀ h, h < 65 → nI h = nI r - Int32.ofInt ((r : Int) - (h : Int)) := by decide +kernel
  exact key _ (by omega) _ (by omega)
