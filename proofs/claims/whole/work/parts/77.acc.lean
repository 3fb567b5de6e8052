/-! The accounts: nothing is lost without being counted. -/
def tInt (f : Nat → Int32) (k : Nat) : Int := fb_si (fun i => (f i).toInt) k
theorem si_ge {f : Nat → Int} : ∀ n, (∀ i, i < n → 0 ≤ f i) → 0 ≤ fb_si f n ∧ ∀ i, i < n → f i ≤ fb_si f n
  | 0, _ => ⟨Int.le_refl _, fun i hi => absurd hi (Nat.not_lt_zero i)⟩
  | n + 1, h => by
    have z := si_ge n (fun i hi => h i (by omega))
    have hn := h n (by omega)
    rw [fb_si_succ]
    refine ⟨by omega, fun i hi => ?_⟩
    rcases (show i < n ∨ i = n by omega) with q | q
    · have := z.2 i q; omega
    · subst q; omega
theorem sumN_I {f : Nat → Int32} {C : Int} (hC : 0 ≤ C) : ∀ k : Nat, (k : Int) * C < 2147483648 → (∀ i, i < k → 0 ≤ (f i).toInt ∧ (f i).toInt ≤ C) → (sumN f k).toInt = tInt f k ∧ 0 ≤ tInt f k ∧ tInt f k ≤ k * C
  | 0, _, _ => ⟨rfl, Int.le_refl _, by rw [show ((0 : Nat) : Int) * C = 0 from Int.zero_mul C]; exact Int.le_refl _⟩
  | k + 1, hk, h => by
    have e : ((k + 1 : Nat) : Int) * C = k * C + C := by rw [Int.natCast_add, Int.add_mul]; simp
    rw [e] at hk
    obtain ⟨a, b, c⟩ := sumN_I hC k (by omega) (fun i hi => h i (by omega))
    have hn := h k (by omega)
    have e2 : tInt f (k + 1) = tInt f k + (f k).toInt := rfl
    rw [sumN, e2, e, fb_addI (by omega) (by omega), a]
    exact ⟨rfl, by omega, by omega⟩
theorem sum_k {x : Int32} {k n : Nat} (hk : k < n) : sumN (fun q => if q = k then x else 0) n = x := (sumN_one n hk (fun i _ hne => if_neg hne)).trans (if_pos rfl)
section AC
variable {m : MS}
theorem flC_sum {c : Nat → Int32} {k s : Nat} (hk : k < 64) (hs : s < 4) : sumN (flowC m c k (nb k s)) 64 = sumN c 64 := by
  rw [sumN_cong 64 (fun q _ => flC_d (m := m) (c := c) hk hs q), sumN_add, sumN_add, sum_k hk]
  rcases hn : nb k s with _ | n
  · rw [show ew m k s = 0 by unfold ew; rw [hn], sumN_0 64 (fun i _ => ite_self _)]
    grind
  · have e : sumN (fun q => if some n = some q then ew m k s else 0) 64 = ew m k s := (sumN_one 64 (nb_lt hk hn) (fun i _ hne => if_neg (fun w => hne (Option.some.inj w).symm))).trans (if_pos rfl)
    rw [e]
    grind
theorem flA_sum : ∀ k, k ≤ 64 → sumN (flowAll m k) 64 = 0
  | 0, _ => sumN_0 64 (fun _ _ => rfl)
  | k + 1, h => by rw [flowAll, flC_sum (by omega) (by omega), flC_sum (by omega) (by omega), flA_sum k (by omega)]
theorem lvC_sum {c : Nat → Int32} {s i : Nat} (hi : i < 64) : sumN (lvC m s i c) 64 = sumN c 64 + - lv m s i := by
  rw [sumN_cong 64 (fun q _ => lvC_d (m := m) (s := s) (i := i) (q := q) (c := c)), sumN_add, sum_k hi]
theorem lvL_sum {c : Nat → Int32} {s i : Nat} (hs : s < 4) : sumN (lvL m s i c) 4 = sumN c 4 + lv m s i := by
  rw [sumN_cong 4 (fun q _ => lvL_d (m := m) (s := s) (i := i) (q := q) (c := c)), sumN_add, sum_k hs]
theorem lvA_sum : ∀ k, k ≤ 8 → sumN (lvCA m k) 64 + sumN (lvLA m k) 4 = sumN m.2.2.2.2.1 4
  | 0, _ => by rw [lvCA, flA_sum 64 (Nat.le_refl _), Int32.zero_add]; rfl
  | k + 1, h => by
    rw [lvCA, lvC4, lvC_sum (by omega), lvC_sum (by omega), lvC_sum (by omega), lvC_sum (by omega), lvLA, lvL4, lvL_sum (by omega), lvL_sum (by omega), lvL_sum (by omega), lvL_sum (by omega), ← lvA_sum k (by omega)]
    grind
theorem flow_sum : sumN (flowM m).2.1 64 + sumN (flowM m).2.2.2.2.1 4 = sumN m.2.1 64 + sumN m.2.2.2.2.1 4 := by
  show sumN (fun q => m.2.1 q + lvCA m 8 q) 64 + sumN (lvLA m 8) 4 = _
  rw [sumN_add, ← lvA_sum 8 (Nat.le_refl _), Int32.add_assoc]
/-- what slownesses come to -/
def ks (k : Int32) : Prop := k = 4 ∨ k = 6 ∨ k = 8 ∨ k = 10 ∨ k = 12 ∨ k = 16
theorem ks_1 (a b : Nat) : ks (slowC m a + slowC m b) := by
  unfold slowC ks
  repeat' split
  all_goals decide
theorem ks_2 (a : Nat) : ks (2 * slowC m a) := by
  unfold slowC ks
  repeat' split
  all_goals decide
theorem ks_d {x k : Int32} (hk : ks k) (h : 0 ≤ x.toInt ∧ x.toInt ≤ 1000000) : 0 ≤ (x / k).toInt ∧ (x / k).toInt ≤ x.toInt / 4 := by
  rw [dvI (by omega), Int.tdiv_eq_ediv_of_nonneg h.1]
  rcases hk with e | e | e | e | e | e <;> subst e
  · show 0 ≤ x.toInt / 4 ∧ x.toInt / 4 ≤ x.toInt / 4; omega
  · show 0 ≤ x.toInt / 6 ∧ x.toInt / 6 ≤ x.toInt / 4; omega
  · show 0 ≤ x.toInt / 8 ∧ x.toInt / 8 ≤ x.toInt / 4; omega
  · show 0 ≤ x.toInt / 10 ∧ x.toInt / 10 ≤ x.toInt / 4; omega
  · show 0 ≤ x.toInt / 12 ∧ x.toInt / 12 ≤ x.toInt / 4; omega
  · show 0 ≤ x.toInt / 16 ∧ x.toInt / 16 ≤ x.toInt / 4; omega
theorem ks_s {a b k : Int32} (hk : ks k) (ha : bn a) (hb : bn b) : -(a.toInt / 4) ≤ ((b - a) / k).toInt ∧ ((b - a) / k).toInt ≤ b.toInt / 4 := by
  have e1 := bd_sub hb ha
  have e2 := bd_sub ha hb
  unfold bn at ha hb
  rcases (show a.toInt ≤ b.toInt ∨ b.toInt ≤ a.toInt by omega) with h | h
  · have z := ks_d hk (x := b - a) (by omega)
    omega
  · have z := ks_d hk (x := a - b) (by omega)
    rw [dv_neg ha hb, fb_negI (by omega)]
    omega
theorem lv_bd (hb : ∀ i, i < 64 → bn (m.2.1 i)) (ht : ∀ s, s < 4 → bn (m.2.2.2.1 s)) {s q : Nat} (hs : s < 4) (hq : q < 64) : 0 ≤ (lv m s q).toInt ∧ (lv m s q).toInt ≤ (m.2.1 q).toInt / 4 := by
  have h1 := hb q hq
  have h2 := ht s hs
  have e := bd_sub h1 h2
  unfold bn at h1 h2
  unfold lv
  by_cases h : noLv m s q
  · rw [if_pos h]
    show (0 : Int) ≤ 0 ∧ (0 : Int) ≤ _
    omega
  · rw [if_neg h]
    have h3 : ¬ m.2.1 q - m.2.2.2.1 s ≤ 0 := fun w => h (Or.inr w)
    rw [Int32.le_iff_toInt_le, e] at h3
    have h4 : ¬ (m.2.1 q).toInt - (m.2.2.2.1 s).toInt ≤ 0 := h3
    have z := ks_d (ks_2 (m := m) q) (x := m.2.1 q - m.2.2.2.1 s) (by omega)
    unfold lvs
    omega
def sx (m : MS) (q s : Nat) : Int32 := if s = 1 ∨ s = 2 then - ew m q s + lvq m q s else en m q s + lvq m q s
theorem sx_bd (hb : ∀ i, i < 64 → bn (m.2.1 i)) (ht : ∀ s, s < 4 → bn (m.2.2.2.1 s)) {s q : Nat} (hs : s < 4) (hq : q < 64) : -((m.2.1 q).toInt / 4) ≤ (sx m q s).toInt ∧ (sx m q s).toInt ≤ 250000 := by
  have hq2 := hb q hq
  unfold bn at hq2
  rcases hn : nb q s with _ | n
  · have e : sx m q s = - lv m s q := by
      unfold sx ew en lvq
      rw [hn]
      simp only []
      rw [show -(0 : Int32) = 0 from rfl, Int32.zero_add, ite_self]
    have z := lv_bd hb ht hs hq
    rw [e, fb_negI (by omega)]
    omega
  · have hn2 := nb_lt hq hn
    have hop := (nb_op2 hq hn2 hs).mp hn
    have e : sx m q s = if m.1 q = 35 ∨ m.1 n = 35 then 0 else (m.2.1 n - m.2.1 q) / (slowC m q + slowC m n) := by
      unfold sx ew en lvq
      rw [hn]
      simp only []
      unfold ew
      rw [hop]
      simp only []
      unfold flw
      rw [Int32.add_comm (slowC m n)]
      by_cases h : m.1 q = 35 ∨ m.1 n = 35
      · rw [if_pos h, if_pos h, if_pos h.symm]
        rw [show -(0 : Int32) = 0 from rfl, Int32.zero_add, ite_self]
      · rw [if_neg h, if_neg h, if_neg (show ¬ (m.1 n = 35 ∨ m.1 q = 35) from fun w => h w.symm), dv_neg (hb q hq) (hb n hn2), Int32.add_zero, ite_self]
    rw [e]
    by_cases h : m.1 q = 35 ∨ m.1 n = 35
    · rw [if_pos h]
      show -((m.2.1 q).toInt / 4) ≤ 0 ∧ (0 : Int) ≤ 250000
      omega
    · rw [if_neg h]
      have z := ks_s (ks_1 (m := m) q n) (hb q hq) (hb n hn2)
      have hn3 := hb n hn2
      unfold bn at hn3
      omega
theorem flow_sx {q : Nat} (hq : q < 64) : (flowM m).2.1 q = m.2.1 q + sx m q 0 + sx m q 1 + sx m q 2 + sx m q 3 := by
  show m.2.1 q + lvCA m 8 q = _
  rw [lvCA_d, lv_sum hq, flAll_64 hq]
  rw [show sx m q 0 = en m q 0 + lvq m q 0 from rfl, show sx m q 1 = - ew m q 1 + lvq m q 1 from rfl, show sx m q 2 = - ew m q 2 + lvq m q 2 from rfl, show sx m q 3 = en m q 3 + lvq m q 3 from rfl]
  ac_rfl
theorem flow_bd (hb : ∀ i, i < 64 → bn (m.2.1 i)) (ht : ∀ s, s < 4 → bn (m.2.2.2.1 s)) {q : Nat} (hq : q < 64) : 0 ≤ ((flowM m).2.1 q).toInt ∧ ((flowM m).2.1 q).toInt ≤ 2000000 := by
  have hq2 := hb q hq
  unfold bn at hq2
  have s0 := sx_bd hb ht (s := 0) (by omega) hq
  have s1 := sx_bd hb ht (s := 1) (by omega) hq
  have s2 := sx_bd hb ht (s := 2) (by omega) hq
  have s3 := sx_bd hb ht (s := 3) (by omega) hq
  have a0 : (m.2.1 q + sx m q 0).toInt = _ := fb_addI (by omega) (by omega)
  have a1 : (m.2.1 q + sx m q 0 + sx m q 1).toInt = _ := fb_addI (by omega) (by omega)
  have a2 : (m.2.1 q + sx m q 0 + sx m q 1 + sx m q 2).toInt = _ := fb_addI (by omega) (by omega)
  have a3 : (m.2.1 q + sx m q 0 + sx m q 1 + sx m q 2 + sx m q 3).toInt = _ := fb_addI (by omega) (by omega)
  rw [flow_sx hq]
  omega
theorem lost_bd (hb : ∀ i, i < 64 → bn (m.2.1 i)) (ht : ∀ s, s < 4 → bn (m.2.2.2.1 s)) (hl : ∀ s, s < 4 → bn (m.2.2.2.2.1 s)) {s : Nat} (hs : s < 4) : 0 ≤ ((flowM m).2.2.2.2.1 s).toInt ∧ ((flowM m).2.2.2.2.1 s).toInt ≤ 3000000 := by
  show 0 ≤ (lvLA m 8 s).toInt ∧ (lvLA m 8 s).toInt ≤ 3000000
  rw [lvLA_d]
  have lb : ∀ s, s < 4 → ∀ q, q < 64 → 0 ≤ (lv m s q).toInt ∧ (lv m s q).toInt ≤ 250000 := fun s hs q hq => by
    have z := lv_bd hb ht hs hq
    have y := hb q hq
    unfold bn at y
    omega
  have h := sumN_I (f := fun k => (if s = 0 then lv m 0 k else 0) + (if s = 1 then lv m 1 (8 * k + 7) else 0) + (if s = 2 then lv m 2 (56 + k) else 0) + (if s = 3 then lv m 3 (8 * k) else 0)) (C := 250000) (by omega) 8 (by omega) (fun k hk => by
    rcases (show s = 0 ∨ s = 1 ∨ s = 2 ∨ s = 3 by omega) with e | e | e | e <;> subst e <;> simp only [if_true, Int32.add_zero, Int32.zero_add, show ((0 : Nat) = 1) = False by simp, show ((0 : Nat) = 2) = False by simp, show ((0 : Nat) = 3) = False by simp, show ((1 : Nat) = 0) = False by simp, show ((1 : Nat) = 2) = False by simp, show ((1 : Nat) = 3) = False by simp, show ((2 : Nat) = 0) = False by simp, show ((2 : Nat) = 1) = False by simp, show ((2 : Nat) = 3) = False by simp, show ((3 : Nat) = 0) = False by simp, show ((3 : Nat) = 1) = False by simp, show ((3 : Nat) = 2) = False by simp, if_false]
    · exact lb 0 (by omega) k (by omega)
    · exact lb 1 (by omega) _ (by omega)
    · exact lb 2 (by omega) _ (by omega)
    · exact lb 3 (by omega) _ (by omega))
  have y := hl s hs
  unfold bn at y
  rw [fb_addI (by omega) (by omega)]
  omega
end AC
