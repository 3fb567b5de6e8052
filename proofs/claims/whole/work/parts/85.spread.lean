/-! Legends: spreads, begins, classes. -/
section SD
variable {H P Hs B : Nat → Int32} {K : Int64} {n c : Nat} {S : LgS}
/-- a legend of c classes: begins where the marks are -/
def lgR (K : Int64) (n c : Nat) (S : LgS) : Prop := S.2.2.2.2.2 = c ∧ fb_ct (tb K) n = c ∧ tb K 0 = true ∧ (∀ x, x < n → tb K x = true → S.2.2.1 (fb_ct (tb K) x) = x) ∧ S.2.2.1 c = n
theorem sp_inv (h : hsO H P S.2.1 n) (hm : mkR K B n) (hl : lgR K n c S) : ∀ k, k < n → ∃ q x, fb_ct (tb K) (k + 1) = q + 1 ∧ x ≤ k ∧ tb K x = true ∧ fb_ct (tb K) x = q ∧ lsN H P B k = spN S q + (S.2.1 k - S.2.1 x)
  | 0, hk => ⟨0, 0, by rw [fb_ct_succ, if_pos hl.2.2.1]; rfl, Nat.le_refl _, hl.2.2.1, rfl, by
    show (0 : Int32) = 0 + (S.2.1 0 - S.2.1 0)
    rw [Int32.sub_self]; rfl⟩
  | k + 1, hk => by
    obtain ⟨q, x, h1, h2, h3, h4, h5⟩ := sp_inv h hm hl k (by omega)
    have e := (gp_eq h hk).1
    have ss := fb_ct_succ (tb K) (k + 1)
    by_cases m : tb K (k + 1) = true
    · rw [if_pos m] at ss
      have lt := fb_ct_mono (tb K) (show k + 1 + 1 ≤ n by omega)
      have qd : q < S.2.2.2.2.2 := by rw [hl.1, ← hl.2.1]; omega
      refine ⟨q + 1, k + 1, by omega, Nat.le_refl _, m, h1, ?_⟩
      have b1 := hl.2.2.2.1 (k + 1) hk m
      rw [h1] at b1
      have b0 := hl.2.2.2.1 x (by omega) h3
      rw [h4] at b0
      rw [lsN, if_neg ((hm (k + 1) hk).mp m), h5, spN]
      unfold grH smH
      rw [if_pos qd, if_pos qd, b1, b0, Nat.add_sub_cancel, Int32.add_zero, Int32.sub_self, Int32.add_zero]
    · rw [if_neg m] at ss
      have z : B (k + 1) = 0 := Decidable.byContradiction (fun w => m ((hm (k + 1) hk).mpr w))
      refine ⟨q, x, by omega, by omega, h3, h4, ?_⟩
      rw [lsN, if_pos z, h5, ← e]
      generalize S.2.1 (k + 1) = a1
      generalize S.2.1 k = a2
      generalize S.2.1 x = a3
      grind
/-- the sum of the classes' spreads -/
theorem sp_eq (h : hsO H P S.2.1 n) (h1 : 1 ≤ n) (hm : mkR K B n) (hl : lgR K n c S) : spN S S.2.2.2.2.2 = lsN H P B (n - 1) := by
  obtain ⟨q, x, a1, a2, a3, a4, a5⟩ := sp_inv h hm hl (n - 1) (by omega)
  rw [show n - 1 + 1 = n by omega, hl.2.1] at a1
  have b0 := hl.2.2.2.1 x (by omega) a3
  rw [a4] at b0
  have qd : q < S.2.2.2.2.2 := by rw [hl.1]; omega
  rw [a5, hl.1, a1, spN]
  unfold grH smH
  rw [if_pos qd, if_pos qd, b0, ← a1, hl.2.2.2.2]
theorem at_ct (hm : mkR K B n) : ∀ k, k ≤ n → atM B k = nI (fb_ct (tb K) k) - 1
  | 0, _ => rfl
  | k + 1, hk => by
    rw [atM, at_ct hm k (by omega), fb_ct_succ]
    by_cases e : tb K k = true
    · rw [if_pos e, if_neg ((hm k (by omega)).mp e), nI_succ]
      generalize nI (fb_ct (tb K) k) = a
      grind
    · rw [if_neg e, if_pos (Decidable.byContradiction (fun w => e ((hm k (by omega)).mpr w))), Int32.add_zero, Nat.add_zero]
theorem fs_some {p : Nat → Bool} {x : Nat} : ∀ j k, k ≤ x → x < k + j → p x = true → (∀ i, k ≤ i → i < x → p i = false) → fsN p j k = some x
  | 0, k, h1, h2, _, _ => absurd h2 (by omega)
  | j + 1, k, h1, h2, h3, h4 => by
    rw [fsN]
    by_cases e : k = x
    · rw [e, if_pos h3]
    · rw [if_neg (by rw [h4 k (Nat.le_refl _) (by omega)]; decide)]
      exact fs_some j (k + 1) (by omega) (by omega) h3 (fun i h5 h6 => h4 i (by omega) h6)
theorem fs_none {p : Nat → Bool} : ∀ j k, (∀ i, k ≤ i → i < k + j → p i = false) → fsN p j k = none
  | 0, _, _ => rfl
  | j + 1, k, h => by
    rw [fsN, if_neg (by rw [h k (Nat.le_refl _) (by omega)]; decide)]
    exact fs_none j (k + 1) (fun i h1 h2 => h i (by omega) (by omega))
theorem nI_m1_inj {a b : Nat} (ha : a ≤ 64) (hb : b ≤ 64) : nI a - 1 = nI b ↔ a = b + 1 := by
  have h : ∀ a, a < 65 → ∀ b, b < 65 → (decide (nI a - 1 = nI b) = decide (a = b + 1)) := by decide +kernel
  have z := h a (by omega) b (by omega)
  exact ⟨fun q => of_decide_eq_true (z.symm.trans (decide_eq_true q)), fun q => of_decide_eq_true (z.trans (decide_eq_true q))⟩
/-- the u-th marked place -/
theorem mk_kth (hl : lgR K n c S) {u : Nat} (hu : u < c) : ∃ x, x < n ∧ tb K x = true ∧ fb_ct (tb K) x = u ∧ S.2.2.1 u = x := by
  obtain ⟨x, h1, h2, h3⟩ := fb_ct_kth (p := tb K) (n := n) (k := u) (by rw [hl.2.1]; exact hu)
  refine ⟨x, h1, h2, h3, ?_⟩
  have z := hl.2.2.2.1 x h1 h2
  rwa [h3] at z
/-- where class u begins -/
theorem clb_some (h64 : n ≤ 64) (hm : mkR K B n) (hl : lgR K n c S) {u : Nat} (hu : u < c) : fsN (fun k => decide (atM B (k + 1) = nI u)) n 0 = some (S.2.2.1 u) := by
  obtain ⟨x, h1, h2, h3, h4⟩ := mk_kth hl hu
  have cl : fb_ct (tb K) n ≤ n := fb_ct_le _ _
  have c2 := hl.2.1
  have u64 : u ≤ 64 := by have := hl.2.1; omega
  rw [h4]
  refine fs_some n 0 (Nat.zero_le _) (by omega) ?_ (fun i _ hi => ?_)
  · rw [decide_eq_true_iff, at_ct hm (x + 1) h1, fb_ct_succ, if_pos h2, h3, nI_m1_inj (by omega) u64]
  · have mo := fb_ct_mono (tb K) (show i + 1 ≤ x by omega)
    have le := fb_ct_le (tb K) (i + 1)
    rw [at_ct hm (i + 1) (by omega)]
    refine decide_eq_false (fun w => ?_)
    have z := (nI_m1_inj (by omega) u64).mp w
    omega
theorem at_pos (hl : lgR K n c S) {k : Nat} (hk : k < n) : 1 ≤ fb_ct (tb K) (k + 1) ∧ fb_ct (tb K) (k + 1) ≤ c := by
  have m1 := fb_ct_mono (tb K) (show 1 ≤ k + 1 by omega)
  have m2 := fb_ct_mono (tb K) (show k + 1 ≤ n by omega)
  have e : fb_ct (tb K) 1 = 1 := by rw [fb_ct_succ, if_pos hl.2.2.1]; rfl
  rw [hl.2.1] at m2
  omega
theorem clb_none (h64 : n ≤ 64) (hm : mkR K B n) (hl : lgR K n c S) {u : Int32} (hu : ∀ w, w < c → ¬ u = nI w) : fsN (fun k => decide (atM B (k + 1) = u)) n 0 = none := fs_none n 0 (fun i _ hi => by
  have hi2 : i < n := by omega
  obtain ⟨p1, p2⟩ := at_pos hl hi2
  rw [at_ct hm (i + 1) hi2]
  refine decide_eq_false (fun w => ?_)
  have cl : fb_ct (tb K) (i + 1) ≤ i + 1 := fb_ct_le _ _
  have z := (nI_m1_inj (a := fb_ct (tb K) (i + 1)) (b := fb_ct (tb K) (i + 1) - 1) (by omega) (by omega)).mpr (by omega)
  exact hu (fb_ct (tb K) (i + 1) - 1) (by omega) (w.symm.trans z))
theorem in_cl {C : Nat → Int32} {x : Int32} : ∀ j i, inCl C x j i = true ↔ ∃ k, i ≤ k ∧ k < i + j ∧ C k = x
  | 0, i => ⟨fun q => (by cases q), fun ⟨k, h1, h2, _⟩ => absurd h2 (by omega)⟩
  | j + 1, i => by
    rw [inCl]
    by_cases e : C i = x
    · rw [if_pos e]
      exact ⟨fun _ => ⟨i, Nat.le_refl _, by omega, e⟩, fun _ => rfl⟩
    · rw [if_neg e, in_cl j (i + 1)]
      exact ⟨fun ⟨k, h1, h2, h3⟩ => ⟨k, by omega, by omega, h3⟩, fun ⟨k, h1, h2, h3⟩ => ⟨k, by
        have : k ≠ i := fun w => e (w ▸ h3)
        omega, by omega, h3⟩⟩
theorem cl_find {x : Int32} {q0 : Nat} : ∀ j q, q ≤ q0 → q0 < q + j → (∀ q, q < q0 → ¬ inCl S.1 x (S.2.2.1 (q + 1) - S.2.2.1 q) (S.2.2.1 q) = true) → inCl S.1 x (S.2.2.1 (q0 + 1) - S.2.2.1 q0) (S.2.2.1 q0) = true → clN S x j q = q0
  | 0, q, h1, h2, _, _ => absurd h2 (by omega)
  | j + 1, q, h1, h2, h3, h4 => by
    rw [clN]
    by_cases e : q = q0
    · rw [e, if_pos h4]
    · rw [if_neg (h3 q (by omega))]
      exact cl_find j (q + 1) (by omega) (by omega) h3 h4
/-- the class of the cell at place k0 -/
theorem cl_eq (hC : ∀ i, i < n → S.1 i = P i) (hm : mkR K B n) (hl : lgR K n c S) {x : Int32} {k0 : Nat} (hk : k0 < n) (h1 : P k0 = x) (h2 : ∀ i, i < k0 → ¬ P i = x) : nI (clN S x S.2.2.2.2.2 0) = atM B (k0 + 1) := by
  obtain ⟨p1, p2⟩ := at_pos hl hk
  have beg : ∀ u, u < c → ∃ y, y < n ∧ tb K y = true ∧ fb_ct (tb K) y = u ∧ S.2.2.1 u = y := fun u hu => mk_kth hl hu
  -- the place q begins at
  have mo : ∀ a b, a ≤ b → fb_ct (tb K) a ≤ fb_ct (tb K) b := fun a b h => fb_ct_mono (tb K) h
  have nxt : ∀ u, u < c → ∀ i, S.2.2.1 u ≤ i → i < S.2.2.1 (u + 1) → i < n ∧ fb_ct (tb K) (i + 1) = u + 1 := fun u hu i hi1 hi2 => by
    obtain ⟨y, y1, y2, y3, y4⟩ := beg u hu
    have a := mo (y + 1) (i + 1) (by omega)
    rw [fb_ct_succ, if_pos y2, y3] at a
    by_cases e : u + 1 = c
    · rw [e, hl.2.2.2.2] at hi2
      have b := mo (i + 1) n (by omega)
      rw [hl.2.1] at b
      exact ⟨hi2, by omega⟩
    · obtain ⟨z, z1, z2, z3, z4⟩ := beg (u + 1) (by omega)
      have b := mo (i + 1) z (by omega)
      exact ⟨by omega, by omega⟩
  have e : clN S x S.2.2.2.2.2 0 = fb_ct (tb K) (k0 + 1) - 1 := by
    refine cl_find _ 0 (Nat.zero_le _) (by rw [hl.1]; omega) (fun q hq w => ?_) ?_
    · obtain ⟨k, k1, k2, k3⟩ := (in_cl _ _).mp w
      obtain ⟨g1, g2⟩ := nxt q (by omega) k k1 (by omega)
      have lt : k < k0 := by
        refine Nat.not_le.mp (fun l => ?_)
        have := mo (k0 + 1) (k + 1) (by omega)
        omega
      exact h2 k lt ((hC k g1).symm.trans k3)
    · obtain ⟨y, y1, y2, y3, y4⟩ := beg (fb_ct (tb K) (k0 + 1) - 1) (by omega)
      have le : y ≤ k0 := by
        refine Nat.not_lt.mp (fun l => ?_)
        have := mo (k0 + 1) y (by omega)
        omega
      have lt : k0 < S.2.2.1 (fb_ct (tb K) (k0 + 1) - 1 + 1) := by
        rw [show fb_ct (tb K) (k0 + 1) - 1 + 1 = fb_ct (tb K) (k0 + 1) by omega]
        by_cases e : fb_ct (tb K) (k0 + 1) = c
        · rw [e, hl.2.2.2.2]; exact hk
        · obtain ⟨z, z1, z2, z3, z4⟩ := beg (fb_ct (tb K) (k0 + 1)) (by omega)
          rw [z4]
          refine Nat.not_le.mp (fun l => ?_)
          have a := mo (z + 1) (k0 + 1) (by omega)
          rw [fb_ct_succ, if_pos z2, z3] at a
          omega
      exact (in_cl _ _).mpr ⟨k0, by omega, by omega, (hC k0 hk).trans h1⟩
  rw [e, at_ct hm (k0 + 1) hk]
  have h := (nI_succ (fb_ct (tb K) (k0 + 1) - 1))
  rw [show fb_ct (tb K) (k0 + 1) - 1 + 1 = fb_ct (tb K) (k0 + 1) by omega] at h
  rw [h]
  generalize nI (fb_ct (tb K) (k0 + 1) - 1) = a
  grind
end SD
