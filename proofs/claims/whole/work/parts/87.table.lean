/-! Legends by the table: the least spread of all divisions. -/
section TB
/-- heats in order -/
def hI (h : Nat → Int) (n : Nat) : Prop := (∀ i, i + 1 < n → h i ≤ h (i + 1)) ∧ ∀ i, i < n → 0 ≤ h i ∧ h i ≤ 1000000
def gv (h : Nat → Int) (D : Nat → Bool) (k : Nat) : Int := if k = 0 ∨ D k = true then 0 else h k - h (k - 1)
/-- the spread of the first i places, divided at D -/
def vI (h : Nat → Int) (D : Nat → Bool) (i : Nat) : Int := fb_si (gv h D) i
def dn (D : Nat → Bool) (i : Nat) : Nat := fb_ct (fun k => decide (0 < k) && D k) i
variable {h : Nat → Int} {n : Nat} {D D2 : Nat → Bool}
theorem vI_s (i : Nat) : vI h D (i + 1) = vI h D i + gv h D i := rfl
theorem dn_s (i : Nat) : dn D (i + 1) = dn D i + (if decide (0 < i) && D i then 1 else 0) := fb_ct_succ _ i
theorem vI_bd (hh : hI h n) : ∀ i, i + 1 ≤ n → 0 ≤ vI h D (i + 1) ∧ vI h D (i + 1) ≤ h i - h 0
  | 0, _ => by
    rw [vI_s, show vI h D 0 = 0 from rfl, show gv h D 0 = 0 from if_pos (Or.inl rfl)]
    omega
  | i + 1, hi => by
    have ih := vI_bd hh i (by omega)
    have st := hh.1 i (by omega)
    rw [vI_s]
    unfold gv
    rw [Nat.add_sub_cancel]
    split <;> omega
theorem vI_bn (hh : hI h n) {i : Nat} (hi : i ≤ n) : 0 ≤ vI h D i ∧ vI h D i ≤ 1000000 := by
  rcases i with _ | i
  · exact ⟨Int.le_refl _, by show (0 : Int) ≤ 1000000; omega⟩
  · have a := vI_bd (D := D) hh i hi
    have b := hh.2 i (by omega)
    have c := hh.2 0 (by omega)
    omega
/-- no division after q -/
theorem vI_seg {q : Nat} : ∀ i, (∀ k, q < k → k < q + 1 + i → D k = false) → vI h D (q + 1 + i) = vI h D (q + 1) + (h (q + i) - h q) ∧ dn D (q + 1 + i) = dn D (q + 1)
  | 0, _ => ⟨by show vI h D (q + 1) = vI h D (q + 1) + (h q - h q); omega, rfl⟩
  | i + 1, hz => by
    obtain ⟨a, b⟩ := vI_seg i (fun k h1 h2 => hz k h1 (by omega))
    have z := hz (q + 1 + i) (by omega) (by omega)
    refine ⟨?_, ?_⟩
    · show vI h D (q + 1 + i) + gv h D (q + 1 + i) = _
      unfold gv
      rw [a, if_neg (fun w => w.elim (by omega) (fun y => by rw [z] at y; cases y)), show q + 1 + i - 1 = q + i by omega, show q + 1 + i = q + (i + 1) by omega]
      omega
    · have y := dn_s (D := D) (q + 1 + i)
      rw [z, Bool.and_false, if_neg (by decide), b] at y
      exact y
theorem vI_cong (hz : ∀ k, k < n → D k = D2 k) : vI h D n = vI h D2 n ∧ dn D n = dn D2 n := ⟨fb_si_cong (fun k hk => by unfold gv; rw [hz k hk]), fb_ct_cong (fun k hk => by rw [hz k hk])⟩
theorem dn_le : ∀ i, dn D (i + 1) ≤ i
  | 0 => by rw [dn_s]; exact Nat.le_refl _
  | i + 1 => by
    have := dn_le i
    rw [dn_s]
    split <;> omega
/-- x is the least spread of r classes of the first i -/
def oT (h : Nat → Int) (x : Int32) (r i : Nat) : Prop := (∀ D, dn D i + 1 = r → x.toInt ≤ vI h D i) ∧ ∃ D, dn D i + 1 = r ∧ x.toInt = vI h D i
theorem oT_bn (hh : hI h n) {x : Int32} {r i : Nat} (hi : i ≤ n) (o : oT h x r i) : 0 ≤ x.toInt ∧ x.toInt ≤ 1000000 := by
  obtain ⟨D, -, e⟩ := o.2
  rw [e]
  exact vI_bn hh hi
variable {H : Nat → Int32} (hH : ∀ i, i < n → (H i).toInt = h i)
theorem oT_1 (hh : hI h n) (hH : ∀ i, i < n → (H i).toInt = h i) {i : Nat} (h1 : 1 ≤ i) (hi : i ≤ n) : oT h (H (i - 1) - H 0) 1 i := by
  have b1 := hh.2 (i - 1) (by omega)
  have b0 := hh.2 0 (by omega)
  have e : (H (i - 1) - H 0).toInt = h (i - 1) - h 0 := by
    rw [fb_subI (by rw [hH _ (by omega), hH 0 (by omega)]; omega) (by rw [hH _ (by omega), hH 0 (by omega)]; omega), hH _ (by omega), hH 0 (by omega)]
  have key : ∀ D : Nat → Bool, dn D i + 1 = 1 → vI h D i = h (i - 1) - h 0 := fun D hd => by
    have z := fb_ct_zero.mp (show dn D i = 0 by omega)
    have y := (vI_seg (h := h) (D := D) (q := 0) (i - 1) (fun k k1 k2 => by
      have w := z k (by omega)
      rw [decide_eq_true k1, Bool.true_and] at w
      exact w)).1
    rw [show 0 + 1 + (i - 1) = i by omega, show 0 + (i - 1) = i - 1 by omega] at y
    rw [y, vI_s, show vI h D 0 = 0 from rfl, show gv h D 0 = 0 from if_pos (Or.inl rfl)]
    omega
  rw [oT, e]
  refine ⟨fun D hd => by rw [key D hd]; exact Int.le_refl _, fun _ => false, ?_, ?_⟩
  · rw [show dn (fun _ => false) i = 0 from fb_ct_zero.mpr (fun k _ => Bool.and_false _)]
  · rw [key _ (by rw [show dn (fun _ => false) i = 0 from fb_ct_zero.mpr (fun k _ => Bool.and_false _)])]
theorem ss_min {R : Nat → Int32} {s : Nat} : ∀ (j q : Nat) (x : Int32), ssN H R s j q x ≤ x ∧ (∀ p, q ≤ p → p < q + j → ssN H R s j q x ≤ R p + H s - H p) ∧ (ssN H R s j q x = x ∨ ∃ p, q ≤ p ∧ p < q + j ∧ ssN H R s j q x = R p + H s - H p)
  | 0, q, x => ⟨Int32.le_refl _, fun p h1 h2 => absurd h2 (by omega), Or.inl rfl⟩
  | j + 1, q, x => by
    rw [ssN]
    by_cases e : R q + H s - H q < x
    · rw [if_pos e]
      obtain ⟨a, b, c⟩ := ss_min (R := R) (s := s) j (q + 1) (R q + H s - H q)
      refine ⟨Int32.le_trans a (Int32.le_of_lt e), fun p h1 h2 => ?_, ?_⟩
      · by_cases e2 : p = q
        · rw [e2]; exact a
        · exact b p (by omega) (by omega)
      · rcases c with c | ⟨p, c1, c2, c3⟩
        · exact Or.inr ⟨q, Nat.le_refl _, by omega, c⟩
        · exact Or.inr ⟨p, by omega, by omega, c3⟩
    · rw [if_neg e]
      obtain ⟨a, b, c⟩ := ss_min (R := R) (s := s) j (q + 1) x
      refine ⟨a, fun p h1 h2 => ?_, ?_⟩
      · by_cases e2 : p = q
        · rw [e2]; exact Int32.le_trans a (Int32.not_lt.mp e)
        · exact b p (by omega) (by omega)
      · rcases c with c | ⟨p, c1, c2, c3⟩
        · exact Or.inl c
        · exact Or.inr ⟨p, by omega, by omega, c3⟩
theorem oT_s (hh : hI h n) (hH : ∀ i, i < n → (H i).toInt = h i) {R : Nat → Int32} {r s : Nat} (hr : 1 ≤ r) (hs : r ≤ s) (hn : s < n) (hR : ∀ i, r ≤ i → i ≤ n → oT h (R i) r i) : oT h (ssJ H R r s) (r + 1) (s + 1) := by
  have tI2 : ∀ p, r ≤ p → p ≤ s → (R p + H s - H p).toInt = (R p).toInt + h s - h p := fun p h1 h2 => by
    have a := oT_bn hh (by omega) (hR p h1 (by omega))
    have b := hh.2 s hn
    have c := hh.2 p (by omega)
    have d := hH s hn
    have e := hH p (by omega)
    have f : (R p + H s).toInt = (R p).toInt + (H s).toInt := fb_addI (by omega) (by omega)
    rw [fb_subI (by omega) (by omega), f, d, e]
  obtain ⟨m1, m2, m3⟩ := ss_min (H := H) (R := R) (s := s) (s - r) r (R s)
  have low : ∀ p, r ≤ p → p ≤ s → (ssJ H R r s).toInt ≤ (R p).toInt + h s - h p := fun p h1 h2 => by
    by_cases e : p = s
    · subst e
      have z := Int32.le_iff_toInt_le.mp m1
      unfold ssJ
      omega
    · have z := Int32.le_iff_toInt_le.mp (m2 p h1 (by omega))
      rw [tI2 p h1 h2] at z
      exact z
  have att : ∃ p, r ≤ p ∧ p ≤ s ∧ (ssJ H R r s).toInt = (R p).toInt + h s - h p := by
    rcases m3 with e | ⟨p, p1, p2, e⟩
    · exact ⟨s, hs, Nat.le_refl _, by unfold ssJ; rw [e]; omega⟩
    · exact ⟨p, p1, by omega, by unfold ssJ; rw [e, tI2 p p1 (by omega)]⟩
  refine ⟨fun D hd => ?_, ?_⟩
  · have pos : 0 < dn D (s + 1) := by omega
    obtain ⟨k, k1, k2⟩ := fb_ct_pos.mp pos
    obtain ⟨q, q1, q2, q3⟩ := fb_last (p := fun k => (decide (0 < k) && D k) = true) (n := s + 1) ⟨k, k1, k2⟩
    have q2' := Bool.and_eq_true _ _ ▸ q2
    have q0 : 0 < q := of_decide_eq_true q2'.1
    have seg := vI_seg (h := h) (D := D) (q := q) (s - q) (fun k h1 h2 => by
      have w := q3 k h1 (by omega)
      rw [decide_eq_true (show 0 < k by omega), Bool.true_and] at w
      exact Bool.eq_false_iff.mpr w)
    rw [show q + 1 + (s - q) = s + 1 by omega, show q + (s - q) = s by omega] at seg
    have dq := dn_s (D := D) q
    rw [if_pos q2] at dq
    have le := dn_le (D := D) (q - 1)
    rw [show q - 1 + 1 = q by omega] at le
    have z := (hR q (by omega) (by omega)).1 D (by omega)
    have l := low q (by omega) (by omega)
    rw [seg.1, vI_s, show gv h D q = 0 from if_pos (Or.inr q2'.2)]
    omega
  · obtain ⟨p, p1, p2, e⟩ := att
    obtain ⟨D', d1, d2⟩ := (hR p p1 (by omega)).2
    have cg := vI_cong (h := h) (n := p) (D := fun k => if k < p then D' k else decide (k = p)) (D2 := D') (fun k hk => if_pos hk)
    have tp : (fun k => if k < p then D' k else decide (k = p)) p = true := by
      show (if p < p then D' p else decide (p = p)) = true
      rw [if_neg (Nat.lt_irrefl p)]
      exact decide_eq_true rfl
    have seg := vI_seg (h := h) (D := fun k => if k < p then D' k else decide (k = p)) (q := p) (s - p) (fun k h1 h2 => by
      show (if k < p then D' k else decide (k = p)) = false
      rw [if_neg (by omega)]
      exact decide_eq_false (by omega))
    rw [show p + 1 + (s - p) = s + 1 by omega, show p + (s - p) = s by omega] at seg
    have dq := dn_s (D := fun k => if k < p then D' k else decide (k = p)) p
    rw [if_pos (by rw [Bool.and_eq_true]; exact ⟨decide_eq_true (by omega), tp⟩)] at dq
    refine ⟨fun k => if k < p then D' k else decide (k = p), ?_, ?_⟩
    · rw [seg.2, dq, cg.2]; omega
    · rw [seg.1, vI_s, show gv h (fun k => if k < p then D' k else decide (k = p)) p = 0 from if_pos (Or.inr tp), cg.1, e, d2]
      omega
theorem t1_at {T : Nat → Nat → Int32} : ∀ k i, 1 ≤ i → i ≤ k → t1N H T k 1 i = H (i - 1) - H 0
  | 0, i, h1, h2 => absurd h2 (by omega)
  | k + 1, i, h1, h2 => by
    rw [t1N, tUp, if_pos rfl]
    by_cases e : i = k + 1
    · subst e
      rw [va_up_self, Nat.add_sub_cancel]
    · rw [va_up_ne _ _ e]
      exact t1_at k i h1 (by omega)
theorem tr_at {r : Nat} : ∀ (j s : Nat) (T : Nat → Nat → Int32), (∀ g, g ≠ r + 1 → trN H r j s T g = T g) ∧ ∀ i, s + 1 ≤ i → i < s + 1 + j → trN H r j s T (r + 1) i = ssJ H (T r) r (i - 1)
  | 0, s, T => ⟨fun _ _ => rfl, fun i h1 h2 => absurd h2 (by omega)⟩
  | j + 1, s, T => by
    obtain ⟨a, b⟩ := tr_at (r := r) j (s + 1) (tUp T (r + 1) (s + 1) (ssJ H (T r) r s))
    have e0 : tUp T (r + 1) (s + 1) (ssJ H (T r) r s) r = T r := if_neg (by omega)
    rw [trN]
    refine ⟨fun g hg => (a g hg).trans (if_neg hg), fun i h1 h2 => ?_⟩
    by_cases e : i = s + 1
    · subst e
      have lo : ∀ (j s2 : Nat) (T : Nat → Nat → Int32), s + 1 < s2 + 1 → trN H r j s2 T (r + 1) (s + 1) = T (r + 1) (s + 1) := fun j => by
        induction j with
        | zero => exact fun _ _ _ => rfl
        | succ j ih =>
          intro s2 T hs2
          rw [trN, ih (s2 + 1) _ (by omega), tUp, if_pos rfl, va_up_ne _ _ (by omega)]
      rw [lo j (s + 1) _ (by omega), tUp, if_pos rfl, va_up_self, Nat.add_sub_cancel]
    · rw [b i (by omega) (by omega), e0]
theorem ta_opt (hh : hI h n) (hH : ∀ i, i < n → (H i).toInt = h i) : ∀ (j r : Nat) (T : Nat → Nat → Int32), 1 ≤ r → (∀ i, r ≤ i → i ≤ n → oT h (T r i) r i) → ∀ i, r + j ≤ i → i ≤ n → oT h (taN H n j r T (r + j) i) (r + j) i
  | 0, r, T, hr, h0, i, h1, h2 => h0 i h1 h2
  | j + 1, r, T, hr, h0, i, h1, h2 => by
    rw [taN, show r + (j + 1) = r + 1 + j by omega]
    refine ta_opt hh hH j (r + 1) _ (by omega) (fun k k1 k2 => ?_) i (by omega) h2
    rw [(tr_at (n - r) r T).2 k k1 (by omega)]
    have z := oT_s hh hH (R := T r) (r := r) (s := k - 1) hr (by omega) (by omega) h0
    rw [show k - 1 + 1 = k by omega] at z
    exact z
end TB
