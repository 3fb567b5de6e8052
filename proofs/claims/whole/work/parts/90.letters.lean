/-! A legend's line has at most 79 letters. -/
section LT
theorem dg_le {v k : Nat} (hk : k ≤ 9) (h : v < 10 ^ k) (hk1 : 1 ≤ k) : sb_dg v ≤ k := by
  have key : ∀ j, j ≤ k → 1 ≤ j → v < 10 ^ j → sb_dg v ≤ k := fun j => by
    induction j with
    | zero => intro _ h1; exact absurd h1 (by omega)
    | succ j ih =>
      intro h1 _ h3
      by_cases e : j = 0
      · rw [dgk (k := j) (by omega) (Or.inl e) h3]; omega
      · by_cases e2 : v < 10 ^ j
        · exact ih (by omega) (by omega) e2
        · rw [dgk (k := j) (by omega) (Or.inr (Nat.not_lt.mp e2)) h3]; exact h1
  exact key k (Nat.le_refl _) hk1 h
/-- letters of a number, against its size -/
theorem dg_size {v : Nat} (h : v < 1000000) : sb_dg v ≤ 6 ∧ (6 ≤ sb_dg v → 100000 ≤ v) ∧ (5 ≤ sb_dg v → 10000 ≤ v) := by
  refine ⟨dg_le (by omega) (by omega) (by omega), fun q => ?_, fun q => ?_⟩
  · refine Nat.not_lt.mp (fun w => ?_)
    have := dg_le (k := 5) (by omega) (show v < 10 ^ 5 from w) (by omega)
    omega
  · refine Nat.not_lt.mp (fun w => ?_)
    have := dg_le (k := 4) (by omega) (show v < 10 ^ 4 from w) (by omega)
    omega
/-- six heats: counted by their letters -/
theorem dg_count {b : Nat → Nat} (h : ∀ w, b w < 1000000) : ∀ k, ∃ x y, x + y ≤ k ∧ fb_sm (fun w => sb_dg (b w)) k ≤ 4 * k + 2 * x + y ∧ 10 * x + y ≤ fb_sm b k / 10000
  | 0 => ⟨0, 0, Nat.le_refl _, Nat.le_refl _, Nat.zero_le _⟩
  | k + 1 => by
    obtain ⟨x, y, h1, h2, h3⟩ := dg_count h k
    obtain ⟨d1, d2, d3⟩ := dg_size (h k)
    rw [fb_sm_succ, fb_sm_succ]
    by_cases e6 : 6 ≤ sb_dg (b k)
    · have := d2 e6
      exact ⟨x + 1, y, by omega, by omega, by omega⟩
    · by_cases e5 : 5 ≤ sb_dg (b k)
      · have := d3 e5
        have t3 : 10 * x + (y + 1) ≤ (fb_sm b k + b k) / 10000 := by omega
        have t2 : fb_sm (fun w => sb_dg (b w)) k + sb_dg (b k) ≤ 4 * (k + 1) + 2 * x + (y + 1) := by omega
        have t1 : x + (y + 1) ≤ k + 1 := by omega
        exact ⟨x, y + 1, t1, t2, t3⟩
      · exact ⟨x, y, by omega, by omega, by omega⟩
theorem dg_34 {b : Nat → Nat} (h : ∀ w, b w < 1000000) {c : Nat} (hc : c ≤ 6) (hs : fb_sm b c ≤ 509490) : fb_sm (fun w => sb_dg (b w)) c ≤ 34 := by
  obtain ⟨x, y, h1, h2, h3⟩ := dg_count h c
  omega
theorem dg_24 {b : Nat → Nat} {c : Nat} (h : ∀ w, w < c → b w < 10000) (hc : c ≤ 6) : fb_sm (fun w => sb_dg (b w)) c ≤ 34 := by
  have z := fb_sm_bound (f := fun w => sb_dg (b w)) (c := 4) (n := c) (fun k hk => dg_le (by omega) (show b k < 10 ^ 4 from h k hk) (by omega))
  omega
/-- the sum of the heats in order is that of the open cells -/
theorem orS_sum {H : Nat → Int32} {c n : Nat} (hc : c < 64) : ∀ (p : Nat) (P : Nat → Int32), p ≤ n → fb_si (fun i => (orH H (orS H c p P i)).toInt) (n + 1) = fb_si (fun i => (orH H (P i)).toInt) (n + 1) - (orH H (P p)).toInt + (H c).toInt
  | p, P, hp => by
    have up : ∀ (p : Nat) (x : Int32) (P : Nat → Int32), p ≤ n → fb_si (fun i => (orH H (va_up P p x i)).toInt) (n + 1) = fb_si (fun i => (orH H (P i)).toInt) (n + 1) - (orH H (P p)).toInt + (orH H x).toInt := fun p x P hp => by
      rw [← fb_si_upd (fun i => (orH H (P i)).toInt) ((orH H x).toInt) (show p < n + 1 by omega)]
      refine fb_si_cong (fun i _ => ?_)
      unfold va_up
      by_cases e : i = p
      · rw [if_pos e, if_pos e]
      · rw [if_neg e, if_neg e]
    have go : ∀ (p : Nat) (P : Nat → Int32), p ≤ n → fb_si (fun i => (orH H (orS H c p P i)).toInt) (n + 1) = fb_si (fun i => (orH H (P i)).toInt) (n + 1) - (orH H (P p)).toInt + (H c).toInt := fun p => by
      induction p with
      | zero =>
        intro P hp
        have z := up 0 (nI c) P hp
        rw [orH_nI (by omega)] at z
        exact z
      | succ p ih =>
        intro P hp
        by_cases e : orH H (P p) ≤ H c
        · have z := up (p + 1) (nI c) P hp
          rw [orH_nI (by omega)] at z
          rw [show orS H c (p + 1) P = va_up P (p + 1) (nI c) from if_pos e]
          exact z
        · rw [show orS H c (p + 1) P = orS H c p (va_up P (p + 1) (P p)) from if_neg e, ih _ (by omega), up (p + 1) (P p) P hp, va_up_ne _ _ (show p ≠ p + 1 by omega)]
          omega
    exact go p P hp
theorem ord_sum {H R P0 : Nat → Int32} : ∀ k, k ≤ 64 → fb_si (fun i => (orH H ((ordS H R P0 k).1 i)).toInt) (ordS H R P0 k).2 = fb_si (fun x => if R x = 35 then 0 else (H x).toInt) k
  | 0, _ => rfl
  | k + 1, hk => by
    have ih := ord_sum (H := H) (R := R) (P0 := P0) k (by omega)
    rw [ordS, fb_si_succ]
    by_cases e : R k = 35
    · rw [if_pos e, if_pos e, ih, Int.add_zero]
    · rw [if_neg e, if_neg e, ← ih]
      show fb_si (fun i => (orH H (orS H k (ordS H R P0 k).2 (ordS H R P0 k).1 i)).toInt) ((ordS H R P0 k).2 + 1) = _
      rw [orS_sum (by omega) _ _ (Nat.le_refl _), fb_si_succ]
      omega
theorem si_mono {f : Nat → Int} {n : Nat} (h : ∀ i, i < n → 0 ≤ f i) : ∀ b a, a ≤ b → b ≤ n → fb_si f a ≤ fb_si f b
  | 0, a, h1, _ => by rw [show a = 0 by omega]; exact Int.le_refl _
  | b + 1, a, h1, h2 => by
    by_cases e : a = b + 1
    · rw [e]; exact Int.le_refl _
    · have z := si_mono h b a (by omega) (by omega)
      have y := h b (by omega)
      rw [fb_si_succ]
      omega
/-- the classes' last heats together -/
theorem ends_sum {H P : Nat → Int32} {K : Int64} {n c : Nat} {S : LgS} (hs : hsO H P S.2.1 n) (hl : lgR K n c S) : ∀ u, u ≤ c → S.2.2.1 u ≤ n ∧ (fb_sm (lgB1 H P c S) u : Int) ≤ fb_si (fun i => (S.2.1 i).toInt) (S.2.2.1 u)
  | 0, _ => by
    have nn : ∀ i, i < n → 0 ≤ (S.2.1 i).toInt := fun i hi => (hs.2.2.2 i hi).1
    have le : S.2.2.1 0 ≤ n := by
      by_cases e : 0 < c
      · obtain ⟨x, x1, -, -, x4⟩ := mk_kth hl e; omega
      · rw [show (0 : Nat) = c by omega, hl.2.2.2.2]; exact Nat.le_refl _
    exact ⟨le, (si_mono nn (S.2.2.1 0) 0 (Nat.zero_le _) le)⟩
  | u + 1, hu => by
    obtain ⟨i1, i2⟩ := ends_sum hs hl u (by omega)
    have nn : ∀ i, i < n → 0 ≤ (S.2.1 i).toInt := fun i hi => (hs.2.2.2 i hi).1
    obtain ⟨x, x1, x2, x3, x4⟩ := mk_kth hl (show u < c by omega)
    have nx : S.2.2.1 u + 1 ≤ S.2.2.1 (u + 1) ∧ S.2.2.1 (u + 1) ≤ n := by
      by_cases e : u + 1 = c
      · rw [e, hl.2.2.2.2]; omega
      · obtain ⟨y, y1, y2, y3, y4⟩ := mk_kth hl (show u + 1 < c by omega)
        have : ¬ y ≤ x := fun w => by
          have := fb_ct_mono (tb K) w
          omega
        omega
    refine ⟨nx.2, ?_⟩
    have ev : ((lgB1 H P c S u : Nat) : Int) = (S.2.1 (S.2.2.1 (u + 1) - 1)).toInt := by
      have z := nn (S.2.2.1 (u + 1) - 1) (by omega)
      rw [lgB1, if_pos (by omega)]
      unfold hvN
      rw [← hs.2.1 _ (by omega)]
      show ((S.2.1 (S.2.2.1 (u + 1) - 1)).toInt.toNat : Int) = _
      omega
    have m1 := si_mono nn (S.2.2.1 (u + 1) - 1) (S.2.2.1 u) (by omega) (by omega)
    have m2 := fb_si_succ (fun i => (S.2.1 i).toInt) (S.2.2.1 (u + 1) - 1)
    rw [show S.2.2.1 (u + 1) - 1 + 1 = S.2.2.1 (u + 1) by omega] at m2
    rw [fb_sm_succ, Int.natCast_add, ev]
    omega
end LT
