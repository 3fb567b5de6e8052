/-! Legends: marks, begins, spreads. -/
section MK
variable {H P Hs B : Nat → Int32} {K : Int64} {n : Nat}
def mkR (K : Int64) (B : Nat → Int32) (n : Nat) : Prop := ∀ i, i < n → (tb K i = true ↔ ¬ B i = 0)
/-- heats in order, small -/
def hsO (H P Hs : Nat → Int32) (n : Nat) : Prop := n ≤ 64 ∧ (∀ i, i < n → Hs i = orH H (P i)) ∧ (∀ i, i + 1 < n → Hs i ≤ Hs (i + 1)) ∧ ∀ i, i < n → bn (Hs i)
theorem gp_eq (h : hsO H P Hs n) {k : Nat} (hk : k + 1 < n) : Hs (k + 1) - Hs k = gpM H P (k + 1) ∧ -1 < gpM H P (k + 1) := by
  have e : Hs (k + 1) - Hs k = gpM H P (k + 1) := by
    unfold gpM
    rw [h.2.1 (k + 1) hk, h.2.1 k (by omega), Nat.add_sub_cancel]
  refine ⟨e, ?_⟩
  have z := Int32.le_iff_toInt_le.mp (h.2.2.1 k hk)
  have y := bd_sub (h.2.2.2 (k + 1) hk) (h.2.2.2 k (by omega))
  rw [← e, Int32.lt_iff_toInt_lt, y]
  show (-1 : Int) < _
  omega
theorem gp_bs (h : hsO H P Hs n) (hm : mkR K B n) : ∀ k, k < n → match bsN H P B k with
    | none => gpN Hs K k = (0, -1) ∧ ∀ i, 1 ≤ i → i ≤ k → ¬ B i = 0
    | some b => gpN Hs K k = (b, gpM H P b) ∧ 1 ≤ b ∧ b ≤ k ∧ B b = 0
  | 0, _ => ⟨rfl, fun i h1 h2 => absurd h1 (by omega)⟩
  | k + 1, hk => by
    have ih := gp_bs h hm k (by omega)
    obtain ⟨e1, e2⟩ := gp_eq h hk
    have hin : inJ K (nI (k + 1)) ↔ ¬ B (k + 1) = 0 := (inJ_iff (by have := h.1; omega)).trans (hm (k + 1) hk)
    rw [bsN, gpN, e1]
    rcases hb : bsN H P B k with _ | b
    · rw [hb] at ih
      obtain ⟨i1, i2⟩ := ih
      rw [i1]
      by_cases e : B (k + 1) = 0
      · rw [@if_pos _ (Classical.propDecidable _) (show B (k + 1) = 0 ∧ bsC H P (k + 1) none from ⟨e, trivial⟩), if_pos (show ((0, -1) : Nat × Int32).2 < gpM H P (k + 1) ∧ ¬ inJ K (nI (k + 1)) from ⟨e2, fun q => hin.mp q e⟩)]
        exact ⟨rfl, by omega, by omega, e⟩
      · rw [@if_neg _ (Classical.propDecidable _) (show ¬ (B (k + 1) = 0 ∧ bsC H P (k + 1) none) from fun q => e q.1), if_neg (show ¬ (((0, -1) : Nat × Int32).2 < gpM H P (k + 1) ∧ ¬ inJ K (nI (k + 1))) from fun q => q.2 (hin.mpr e))]
        refine ⟨rfl, fun i h1 h2 => ?_⟩
        by_cases q : i = k + 1
        · rw [q]; exact e
        · exact i2 i h1 (by omega)
    · rw [hb] at ih
      obtain ⟨i1, i2, i3, i4⟩ := ih
      rw [i1]
      by_cases e : B (k + 1) = 0 ∧ bsC H P (k + 1) (some b)
      · rw [@if_pos _ (Classical.propDecidable _) e, if_pos (show ((b, gpM H P b) : Nat × Int32).2 < gpM H P (k + 1) ∧ ¬ inJ K (nI (k + 1)) from ⟨e.2, fun q => hin.mp q e.1⟩)]
        exact ⟨rfl, by omega, by omega, e.1⟩
      · rw [@if_neg _ (Classical.propDecidable _) e, if_neg (show ¬ (((b, gpM H P b) : Nat × Int32).2 < gpM H P (k + 1) ∧ ¬ inJ K (nI (k + 1))) from fun q => e ⟨Decidable.byContradiction (fun w => q.2 (hin.mpr w)), q.1⟩)]
        exact ⟨rfl, i2, by omega, i4⟩
/-- the marks after q of them, how many -/
theorem mk_R (h : hsO H P Hs n) (h1 : 1 ≤ n) (B0 : Nat → Int32) : ∀ q, q + 1 ≤ n → mkR (mkN Hs n q) (dvN H P n (ib n B0) q) n ∧ tb (mkN Hs n q) 0 = true ∧ fb_ct (tb (mkN Hs n q)) n = q + 1
  | 0, _ => by
    have hn := h.1
    have tR : ∀ i, i < n → tb (bitJ 0) i = decide (i = 0) := fun i hi => tb_bitJ (k := 0) (by omega) (by omega)
    refine ⟨fun i hi => ?_, by show tb (bitJ 0) 0 = true; rw [tR 0 h1]; rfl, ?_⟩
    · show tb (bitJ 0) i = true ↔ ¬ ib n B0 i = 0
      rw [tR i hi, decide_eq_true_iff]
      unfold ib
      rw [if_pos hi]
      by_cases e : i = 0
      · rw [if_pos e]; exact ⟨fun _ => by decide, fun _ => e⟩
      · rw [if_neg e]; exact ⟨fun w => absurd w e, fun w => absurd rfl w⟩
    · show fb_ct (tb (bitJ 0)) n = 0 + 1
      rw [fb_ct_cong tR]
      have z := fb_ct_upd (fun _ => false) true (i := 0) (n := n) (by omega)
      rw [show fb_ct (fun _ => false) n = 0 from fb_ct_zero.mpr (fun _ _ => rfl)] at z
      simp only [Bool.false_eq_true, if_false, if_true] at z
      have z2 : fb_ct (fun i => decide (i = 0)) n = fb_ct (fun k => if k = 0 then true else false) n := fb_ct_cong (fun i _ => by
        by_cases e : i = 0
        · rw [if_pos e, decide_eq_true e]
        · rw [if_neg e, decide_eq_false e])
      omega
  | q + 1, hq => by
    obtain ⟨m1, m2, m3⟩ := mk_R h h1 B0 q (by omega)
    have hn := h.1
    have z := gp_bs h m1 (n - 1) (by omega)
    rw [mkN, dvN]
    rcases hb : bsN H P (dvN H P n (ib n B0) q) (n - 1) with _ | b
    · rw [hb] at z
      have all : fb_ct (tb (mkN Hs n q)) n = n := fb_ct_all.mpr (fun i hi => by
        by_cases e : i = 0
        · rw [e]; exact m2
        · exact (m1 i hi).mpr (z.2 i (by omega) (by omega)))
      omega
    · rw [hb] at z
      obtain ⟨z1, z2, z3, z4⟩ := z
      rw [z1]
      have nb0 : ¬ tb (mkN Hs n q) b = true := fun w => (m1 b (by omega)).mp w z4
      have tR : ∀ i, i < n → tb (mkN Hs n q ||| bitJ (nI b)) i = if i = b then true else tb (mkN Hs n q) i := fun i hi => by
        rw [tb_or, tb_bitJ (by omega) (by omega)]
        by_cases e : i = b
        · rw [if_pos e, decide_eq_true e, Bool.or_true]
        · rw [if_neg e, decide_eq_false e, Bool.or_false]
      refine ⟨fun i hi => ?_, ?_, ?_⟩
      · show tb (mkN Hs n q ||| bitJ (nI b)) i = true ↔ ¬ va_up (dvN H P n (ib n B0) q) b 1 i = 0
        rw [tR i hi]
        by_cases e : i = b
        · rw [if_pos e, e, va_up_self]
          exact ⟨fun _ => by decide, fun _ => rfl⟩
        · rw [if_neg e, va_up_ne _ _ e]
          exact m1 i hi
      · show tb (mkN Hs n q ||| bitJ (nI b)) 0 = true
        rw [tb_or, m2, Bool.true_or]
      · show fb_ct (tb (mkN Hs n q ||| bitJ (nI b))) n = q + 1 + 1
        rw [fb_ct_cong tR]
        have y := fb_ct_upd (tb (mkN Hs n q)) true (i := b) (n := n) (by omega)
        rw [if_neg nb0] at y
        simp only [if_true, Nat.add_zero] at y
        omega
/-- the begins are the marked places in order -/
theorem dr_R {K : Int64} {n : Nat} (hn : n ≤ 64) (h6 : fb_ct (tb K) n ≤ 6) : ∀ (j p : Nat) (b : Nat → Nat), p + j = n → (∀ x, x < p → tb K x = true → b (fb_ct (tb K) x) = x) → (drN K j p b (fb_ct (tb K) p)).2 = fb_ct (tb K) n ∧ ∀ x, x < n → tb K x = true → (drN K j p b (fb_ct (tb K) p)).1 (fb_ct (tb K) x) = x
  | 0, p, b, hp, h => by
    have e : p = n := by omega
    subst e
    exact ⟨rfl, h⟩
  | j + 1, p, b, hp, h => by
    rw [drN]
    have ss := fb_ct_succ (tb K) p
    have mono := fb_ct_mono (tb K) (show p + 1 ≤ n by omega)
    by_cases e : tb K p = true
    · rw [if_pos e] at ss
      rw [if_pos (show fb_ct (tb K) p < 6 by omega), if_pos ((inJ_iff (by omega)).mpr e), ← ss]
      refine dr_R hn h6 j (p + 1) _ (by omega) (fun x hx q => ?_)
      by_cases e2 : x = p
      · subst e2; rw [va_up_self]
      · have l := fb_ct_mono (tb K) (show x + 1 ≤ p by omega)
        rw [fb_ct_succ, if_pos q] at l
        rw [va_up_ne _ _ (show fb_ct (tb K) x ≠ fb_ct (tb K) p by omega)]
        exact h x (by omega) q
    · rw [if_neg e] at ss
      have ss : fb_ct (tb K) (p + 1) = fb_ct (tb K) p := ss
      by_cases c6 : fb_ct (tb K) p < 6
      · rw [if_pos c6, if_neg (fun q => e ((inJ_iff (by omega)).mp q)), ← ss]
        refine dr_R hn h6 j (p + 1) _ (by omega) (fun x hx q => ?_)
        have e2 : x ≠ p := fun w => e (w ▸ q)
        exact h x (by omega) q
      · rw [if_neg c6]
        have e6 : fb_ct (tb K) p = fb_ct (tb K) n := by omega
        refine ⟨e6, fun x hx q => ?_⟩
        rcases Nat.lt_or_ge x p with l | l
        · exact h x l q
        · have l2 := fb_ct_mono (tb K) (show x + 1 ≤ n by omega)
          rw [fb_ct_succ, if_pos q] at l2
          have l3 := fb_ct_mono (tb K) l
          omega
end MK
