/-! Parts of S less parts of the others are a quarter of the corners. -/
theorem fb_inj2 {p q : Nat → Bool} {n m : Nat} (f : Nat → Nat) (h : ∀ i, i < n → p i = true → f i < m ∧ q (f i) = true) (hi : ∀ i j, i < n → j < n → p i = true → p j = true → f i = f j → i = j) : fb_ct p n ≤ fb_ct q m := by
  have hk : ∀ k, ∃ i, k < fb_ct p n → i < n ∧ p i = true ∧ fb_ct p i = k := fun k => by
    by_cases e : k < fb_ct p n
    · obtain ⟨i, h1⟩ := fb_ct_kth e
      exact ⟨i, fun _ => h1⟩
    · exact ⟨0, fun q => absurd q e⟩
  refine fb_holes (fb_ct q m) (fb_ct p n) (fun k => fb_ct q (f (Classical.choose (hk k)))) (fun k hk2 => ?_) (fun k k2 h1 h2 e => ?_)
  · have z := Classical.choose_spec (hk k) hk2
    have y := h _ z.1 z.2.1
    exact fb_ct_lt y.1 y.2
  · have z := Classical.choose_spec (hk k) (by omega)
    have z2 := Classical.choose_spec (hk k2) h2
    have y := h _ z.1 z.2.1
    have y2 := h _ z2.1 z2.2.1
    have e1 := fb_ct_kth_one y.2 y2.2 e
    have e2 := hi _ _ z.1 z2.1 z.2.1 z2.2.1 e1
    have e3 := z.2.2
    rw [e2, z2.2.2] at e3
    omega
theorem iv_c {p q : Prop} (h : p ↔ q) : iv p = iv q := by rw [propext h]
theorem si_0 {f : Nat → Int} : ∀ n, (∀ q, q < n → f q = 0) → fb_si f n = 0
  | 0, _ => rfl
  | n + 1, h => by rw [fb_si_succ, si_0 n (fun q hq => h q (by omega)), h n (by omega)]; rfl
theorem si_sh {f : Nat → Int} (m n : Nat) (h1 : ∀ q, q < m → f q = 0) (h2 : ∀ q, m + n ≤ q → f q = 0) (hn : m + n ≤ 110) : fb_si (fun k => f (m + k)) n = fb_si f 110 := by
  have a := fb_si_split f m n
  rw [si_0 m h1] at a
  have b := fb_si_split f (m + n) (110 - (m + n))
  rw [si_0 (f := fun k => f (m + n + k)) _ (fun q _ => h2 _ (by omega)), show m + n + (110 - (m + n)) = 110 by omega] at b
  omega
section CS
variable {S : Nat → Prop}
noncomputable def cV (S : Nat → Prop) (q : Nat) : Int := iv (S q)
noncomputable def cH (S : Nat → Prop) (q : Nat) : Int := iv (S q ∧ S (1 + q))
noncomputable def cU (S : Nat → Prop) (q : Nat) : Int := iv (S q ∧ S (10 + q))
noncomputable def cF (S : Nat → Prop) (q : Nat) : Int := iv (S q ∧ S (1 + q) ∧ S (10 + q) ∧ S (11 + q))
noncomputable def cL (S : Nat → Prop) (q : Nat) : Int := iv (S q ∧ S (1 + q) ∧ S (10 + q))
noncomputable def cX (S : Nat → Prop) : Int := fb_si (cV S) 110 - fb_si (cH S) 110 - fb_si (cU S) 110 + fb_si (cF S) 110
theorem iv_n {p : Prop} : iv (¬ p) = 1 - iv p := by
  by_cases h : p
  · rw [iv_t h, iv_f (fun q => q h)]; rfl
  · rw [iv_f h, iv_t h]; rfl
theorem cV_0 (hS0 : ∀ c, S c → 11 ≤ c ∧ c ≤ 88) : (∀ q, q < 11 → cV S q = 0) ∧ ∀ q, 89 ≤ q → cV S q = 0 := ⟨fun q h => iv_f (fun s => by have := hS0 q s; omega), fun q h => iv_f (fun s => by have := hS0 q s; omega)⟩
theorem cH_0 (hS0 : ∀ c, S c → 11 ≤ c ∧ c ≤ 88) : (∀ q, q < 11 → cH S q = 0) ∧ ∀ q, 88 ≤ q → cH S q = 0 := ⟨fun q h => iv_f (fun s => by have := hS0 q s.1; omega), fun q h => iv_f (fun s => by have := hS0 _ s.2; omega)⟩
theorem cU_0 (hS0 : ∀ c, S c → 11 ≤ c ∧ c ≤ 88) : (∀ q, q < 11 → cU S q = 0) ∧ ∀ q, 79 ≤ q → cU S q = 0 := ⟨fun q h => iv_f (fun s => by have := hS0 q s.1; omega), fun q h => iv_f (fun s => by have := hS0 _ s.2; omega)⟩
theorem cF_0 (hS0 : ∀ c, S c → 11 ≤ c ∧ c ≤ 88) : (∀ q, q < 11 → cF S q = 0) ∧ ∀ q, 79 ≤ q → cF S q = 0 := ⟨fun q h => iv_f (fun s => by have := hS0 q s.1; omega), fun q h => iv_f (fun s => by have := hS0 _ s.2.2.1; omega)⟩
theorem cL_0 (hS0 : ∀ c, S c → 11 ≤ c ∧ c ≤ 88) : (∀ q, q < 11 → cL S q = 0) ∧ ∀ q, 79 ≤ q → cL S q = 0 := ⟨fun q h => iv_f (fun s => by have := hS0 q s.1; omega), fun q h => iv_f (fun s => by have := hS0 _ s.2.2; omega)⟩
theorem t1_k (k : Nat) : t1 S (11 + k) = cV S (11 + k) - cH S (10 + k) - cU S (1 + k) + cF S k := by
  unfold t1 cV cH cU cF
  rw [show 11 + k - 1 = 10 + k by omega, show 11 + k - 10 = 1 + k by omega, show 11 + k - 11 = k by omega, show 1 + (10 + k) = 11 + k by omega, show 10 + (1 + k) = 11 + k by omega]
  rw [iv_c (p := S (11 + k) ∧ S (10 + k)) (q := S (10 + k) ∧ S (11 + k)) And.comm, iv_c (p := S (11 + k) ∧ S (1 + k)) (q := S (1 + k) ∧ S (11 + k)) And.comm,
    iv_c (p := S (11 + k) ∧ S (10 + k) ∧ S (1 + k) ∧ S k) (q := S k ∧ S (1 + k) ∧ S (10 + k) ∧ S (11 + k)) ⟨fun q => ⟨q.2.2.2, q.2.2.1, q.2.1, q.1⟩, fun q => ⟨q.2.2.2, q.2.2.1, q.2.1, q.1⟩⟩]
theorem t2_k (k : Nat) : t2 S (11 + k) = cL S k - cF S k - (cV S (1 + k) - cU S (1 + k) - cH S (1 + k) + cL S (1 + k)) := by
  unfold t2 cV cH cU cF cL
  rw [show 11 + k - 1 = 10 + k by omega, show 11 + k - 10 = 1 + k by omega, show 11 + k - 11 = k by omega, show 11 + k - 9 = 2 + k by omega, show 10 + (1 + k) = 11 + k by omega, show 1 + (1 + k) = 2 + k by omega]
  unfold iv
  by_cases a : S k <;> by_cases b : S (1 + k) <;> by_cases c : S (10 + k) <;> by_cases d : S (11 + k) <;> by_cases e : S (2 + k) <;> simp [a, b, c, d, e]
theorem t1_sum (hS0 : ∀ c, S c → 11 ≤ c ∧ c ≤ 88) : fb_si (t1 S) 99 = cX S := by
  have z := fb_si_split (t1 S) 11 88
  rw [si_0 11 (fun q hq => by
    have n : ¬ S q := fun s => by have := hS0 q s; omega
    unfold t1
    rw [iv_f n, iv_f (fun w => n w.1), iv_f (fun w => n w.1), iv_f (fun w => n w.1)]
    rfl)] at z
  have v := si_sh (f := cV S) 11 88 (cV_0 hS0).1 (fun q h => (cV_0 hS0).2 q (by omega)) (by omega)
  have h := si_sh (f := cH S) 10 88 (fun q h => (cH_0 hS0).1 q (by omega)) (fun q h => (cH_0 hS0).2 q (by omega)) (by omega)
  have u := si_sh (f := cU S) 1 88 (fun q h => (cU_0 hS0).1 q (by omega)) (fun q h => (cU_0 hS0).2 q (by omega)) (by omega)
  have f := si_sh (f := cF S) 0 88 (fun q h => (cF_0 hS0).1 q (by omega)) (fun q h => (cF_0 hS0).2 q (by omega)) (by omega)
  rw [z, fb_si_cong (f := fun k => t1 S (11 + k)) (g := fun k => cV S (11 + k) - cH S (10 + k) - cU S (1 + k) + cF S (0 + k)) (fun k _ => by rw [t1_k, Nat.zero_add]), fb_si_add, fb_si_sub, fb_si_sub, v, h, u, f]
  unfold cX
  omega
theorem t2_sum (hS0 : ∀ c, S c → 11 ≤ c ∧ c ≤ 88) : fb_si (t2 S) 99 = - cX S := by
  have z := fb_si_split (t2 S) 11 88
  rw [si_0 11 (fun q hq => by
    have n : ¬ S (q - 10) := fun s => by have := hS0 _ s; omega
    unfold t2
    rw [iv_f (fun w => n w.2.2.1), iv_f (fun w => n w.2.1)]
    rfl)] at z
  have v := si_sh (f := cV S) 1 88 (fun q h => (cV_0 hS0).1 q (by omega)) (fun q h => (cV_0 hS0).2 q (by omega)) (by omega)
  have h := si_sh (f := cH S) 1 88 (fun q h => (cH_0 hS0).1 q (by omega)) (fun q h => (cH_0 hS0).2 q (by omega)) (by omega)
  have u := si_sh (f := cU S) 1 88 (fun q h => (cU_0 hS0).1 q (by omega)) (fun q h => (cU_0 hS0).2 q (by omega)) (by omega)
  have f := si_sh (f := cF S) 0 88 (fun q h => (cF_0 hS0).1 q (by omega)) (fun q h => (cF_0 hS0).2 q (by omega)) (by omega)
  have l := si_sh (f := cL S) 0 88 (fun q h => (cL_0 hS0).1 q (by omega)) (fun q h => (cL_0 hS0).2 q (by omega)) (by omega)
  have l2 := si_sh (f := cL S) 1 88 (fun q h => (cL_0 hS0).1 q (by omega)) (fun q h => (cL_0 hS0).2 q (by omega)) (by omega)
  rw [z, fb_si_cong (f := fun k => t2 S (11 + k)) (g := fun k => cL S (0 + k) - cF S (0 + k) - (cV S (1 + k) - cU S (1 + k) - cH S (1 + k) + cL S (1 + k))) (fun k _ => by rw [t2_k, Nat.zero_add]), fb_si_sub, fb_si_sub, fb_si_add, fb_si_sub, fb_si_sub, v, h, u, f, l, l2]
  unfold cX
  omega
/-- parts of S, less parts of the others -/
theorem eu_3 (hS0 : ∀ c, S c → 11 ≤ c ∧ c ≤ 88) : (gC 100 hS S : Int) - (gC 100 hT (fun c => ¬ S c) : Int) + 1 = cX S := by
  have a := eu_1 hS0 99 (by omega)
  have b := eu_2 hS0 99 (by omega) (by omega)
  rw [t1_sum hS0] at a
  rw [t2_sum hS0] at b
  have hlt : ∀ c, S c → c < 99 := fun c h => by have := hS0 c h; omega
  have n99 : ¬ S 99 := fun h => by have := hS0 _ h; omega
  rw [gC_congr (K := fun c => S c ∧ c < 99) (K' := S) (fun c _ => ⟨fun q => q.1, fun q => ⟨q, hlt c q⟩⟩), gC_congr (K := fun c => ¬ (S c ∧ c < 99)) (K' := fun c => ¬ S c) (fun c _ => ⟨fun q s => q ⟨s, hlt c s⟩, fun q s => q s.1⟩)] at a
  have c1 : gC 100 hS (fun c => S c ∨ 99 ≤ c) ≤ gC 100 hS S + 1 := gC_add0 hS_sy (p := 99) (by omega) n99 (fun c hc => ⟨fun q => q.imp id (fun w => by omega), fun q => q.imp id (fun w => by omega)⟩)
  have c2 : gC 100 hT (fun c => ¬ S c) ≤ gC 100 hT (fun c => ¬ S c ∧ c < 99) := gC_add1 hT_sy (p := 99) (by omega) (fun q => absurd q.2 (by omega)) (fun c hc => ⟨fun q => by
    by_cases e : c = 99
    · exact Or.inr e
    · exact Or.inl ⟨q, by omega⟩, fun q => by
    rcases q with q | q
    · exact q.1
    · subst q; exact n99⟩) (a := 98) (by omega) ⟨fun h => by have := hS0 _ h; omega, by omega⟩ (by unfold hT; omega)
  omega
/-- the corners of one window of four -/
noncomputable def cW (S : Nat → Prop) (q : Nat) : Int := cV S (0 + q) + cV S (1 + q) + cV S (10 + q) + cV S (11 + q) - 2 * (cH S (0 + q) + cH S (10 + q) + cU S (0 + q) + cU S (1 + q)) + 4 * cF S (0 + q)
theorem cW_sum (hS0 : ∀ c, S c → 11 ≤ c ∧ c ≤ 88) : fb_si (cW S) 90 = 4 * cX S := by
  have v0 := si_sh (f := cV S) 0 90 (fun q h => (cV_0 hS0).1 q (by omega)) (fun q h => (cV_0 hS0).2 q (by omega)) (by omega)
  have v1 := si_sh (f := cV S) 1 90 (fun q h => (cV_0 hS0).1 q (by omega)) (fun q h => (cV_0 hS0).2 q (by omega)) (by omega)
  have v2 := si_sh (f := cV S) 10 90 (fun q h => (cV_0 hS0).1 q (by omega)) (fun q h => (cV_0 hS0).2 q (by omega)) (by omega)
  have v3 := si_sh (f := cV S) 11 90 (fun q h => (cV_0 hS0).1 q (by omega)) (fun q h => (cV_0 hS0).2 q (by omega)) (by omega)
  have h0 := si_sh (f := cH S) 0 90 (fun q h => (cH_0 hS0).1 q (by omega)) (fun q h => (cH_0 hS0).2 q (by omega)) (by omega)
  have h1 := si_sh (f := cH S) 10 90 (fun q h => (cH_0 hS0).1 q (by omega)) (fun q h => (cH_0 hS0).2 q (by omega)) (by omega)
  have u0 := si_sh (f := cU S) 0 90 (fun q h => (cU_0 hS0).1 q (by omega)) (fun q h => (cU_0 hS0).2 q (by omega)) (by omega)
  have u1 := si_sh (f := cU S) 1 90 (fun q h => (cU_0 hS0).1 q (by omega)) (fun q h => (cU_0 hS0).2 q (by omega)) (by omega)
  have f0 := si_sh (f := cF S) 0 90 (fun q h => (cF_0 hS0).1 q (by omega)) (fun q h => (cF_0 hS0).2 q (by omega)) (by omega)
  rw [show cW S = fun q => cV S (0 + q) + cV S (1 + q) + cV S (10 + q) + cV S (11 + q) - 2 * (cH S (0 + q) + cH S (10 + q) + cU S (0 + q) + cU S (1 + q)) + 4 * cF S (0 + q) from rfl]
  rw [fb_si_add, fb_si_sub, fb_si_add, fb_si_add, fb_si_add, fb_si_mul, fb_si_mul, fb_si_add, fb_si_add, fb_si_add, v0, v1, v2, v3, h0, h1, u0, u1, f0]
  unfold cX
  omega
end CS
