/-! Small answers: the model's are the class's. -/
theorem sz_eq {m : Nat → Int32} {v : Int32} {c : Nat} (hc : c < 64) : pcJ (fillJ (bitJ (nI c)) (levN m v 64)) = cntP (fun e => spK m v 1 c = true ∧ con (spr (spK m v 1) 0) c e) 64 := by
  rw [pcJ_cnt, fillJ_g]
  refine (cntP_ct (q := tb (gfl 0 (levN m v 64) 64 (bitJ (nI c) &&& levN m v 64))) 64 (fun i hi => ?_)).symm
  rw [spK_1 hc, con_congr (K := spK m v 1) (K' := tb (levN m v 64)) (fun i hi => spK_1 hi)]
  by_cases e : tb (levN m v 64) c = true
  · rw [gfl_con (Or.inl rfl) hc e hi]
    exact ⟨fun q => q.2, fun q => ⟨e, q⟩⟩
  · rw [gfl_none (Or.inl rfl) hc (Bool.eq_false_iff.mpr e) hi]
    exact ⟨fun q => absurd q.1 e, fun q => by cases q⟩
theorem cnt_eq {m : Nat → Int32} {v : Int32} : pcJ (levN m v 64) = cntM m v 64 := by
  have key : ∀ k, k ≤ 64 → cntM m v k = nI (fb_ct (tb (levN m v 64)) k) := fun k => by
    induction k with
    | zero => intro _; rfl
    | succ k ih =>
      intro hk
      rw [cntM, ih (by omega), fb_ct_succ]
      have z := tb_lev64 (f := m) (v := v) (i := k) (by omega)
      by_cases e : v ≤ m k
      · rw [if_pos e, if_pos (z.trans (decide_eq_true e))]
        exact (nI_succ _).symm
      · rw [if_neg e, if_neg (by rw [z, decide_eq_false e]; decide)]
        exact Int32.add_zero _
  rw [pcJ_cnt, key 64 (Nat.le_refl _)]
theorem op_eq {R : Nat → Int32} : ∀ k, openN R k = opM R k
  | 0 => rfl
  | k + 1 => by
    rw [openN, opM, op_eq k]
    by_cases e : R k = 35
    · rw [if_pos e, if_pos e, Int32.add_zero]
    · rw [if_neg e, if_neg e]
theorem bl_iff {m : Nat → Int32} {v : Int32} : ∀ k, blN m v k = true ↔ ∀ i, i < k → m i < v
  | 0 => ⟨fun _ i hi => absurd hi (Nat.not_lt_zero i), fun _ => rfl⟩
  | k + 1 => by
    rw [blN, Bool.and_eq_true, bl_iff k, decide_eq_true_iff]
    constructor
    · rintro ⟨h1, h2⟩ i hi
      rcases (show i < k ∨ i = k by omega) with q | q
      · exact h1 i q
      · exact q ▸ h2
    · exact fun h => ⟨fun i hi => h i (by omega), h k (by omega)⟩
/-- no cell of a level: all below -/
theorem lev_bl {m : Nat → Int32} {v : Int32} : levN m v 64 = 0 ↔ blN m v 64 = true := by
  rw [bl_iff]
  constructor
  · intro h i hi
    have z := tb_lev64 (f := m) (v := v) hi
    rw [h, tb_0] at z
    exact Int32.not_le.mp (fun q => by rw [decide_eq_true q] at z; cases z)
  · intro h
    refine tb_ext (fun i hi => ?_)
    rw [tb_lev64 hi, tb_0]
    exact decide_eq_false (Int32.not_le.mpr (h i hi))
/-- values within bounds -/
def bd (m : Nat → Int32) : Prop := ∀ i, i < 64 → 0 ≤ (m i).toInt ∧ (m i).toInt ≤ 1000000
theorem bd_sub {x y : Int32} (hx : 0 ≤ x.toInt ∧ x.toInt ≤ 1000000) (hy : 0 ≤ y.toInt ∧ y.toInt ≤ 1000000) : (x - y).toInt = x.toInt - y.toInt := fb_subI (by omega) (by omega)
theorem bf_iff {m : Nat → Int32} (hb : bd m) {c k : Nat} (hc : c < 64) (hk : k < 64) : bfP m c k ↔ m c < m k ∨ (m k = m c ∧ k < c) := by
  have b1 := hb c hc
  have b2 := hb k hk
  have e := bd_sub b2 b1
  unfold bfP
  rw [Int32.lt_iff_toInt_lt, Int32.lt_iff_toInt_lt, e, ← Int32.toInt_inj (x := m k - m c), ← Int32.toInt_inj (x := m k), e]
  show (0 < _ ∨ (_ = 0 ∧ _)) ↔ _
  constructor
  · rintro (h | ⟨h, h2⟩)
    · exact Or.inl (by omega)
    · exact Or.inr ⟨by omega, h2⟩
  · rintro (h | ⟨h, h2⟩)
    · exact Or.inl (by omega)
    · exact Or.inr ⟨by omega, h2⟩
theorem bf_rank {m f : Nat → Int32} (hb : bd m) (h : ∀ i, i < 64 → f i = m i) {c : Nat} (hc : c < 64) : ∀ k, k ≤ 64 → bfN m c k = rankN f c k
  | 0, _ => rfl
  | k + 1, hk => by
    rw [bfN, rankN, bf_rank hb h hc k (by omega), h c hc, h k (by omega)]
    have z := bf_iff hb hc (show k < 64 by omega)
    by_cases e : bfP m c k
    · rw [if_pos e, if_pos (z.mp e)]
    · rw [if_neg e, if_neg (fun q => e (z.mpr q)), Int32.add_zero]
/-- ranks -/
theorem rk_eq {m : MS} {mm : Nat → Int32} (hb : bd mm) (h : ∀ i, i < 64 → m.2.1 i = mm i) {r : Int32} : ∀ j k, k + j = 64 → rkM mm r j k = rkN m r j k
  | 0, _, _ => rfl
  | j + 1, k, hk => by
    rw [rkM, rkN, bf_rank hb h (by omega) 64 (Nat.le_refl _), rk_eq hb h j (k + 1) (by omega)]
theorem sumN_add (f g : Nat → Int32) : ∀ k, sumN (fun i => f i + g i) k = sumN f k + sumN g k
  | 0 => rfl
  | k + 1 => by
    rw [sumN, sumN, sumN, sumN_add f g k]
    rw [Int32.add_assoc, Int32.add_assoc, ← Int32.add_assoc (sumN g k), Int32.add_comm (sumN g k), Int32.add_assoc]
theorem sumN_cong {f g : Nat → Int32} : ∀ k, (∀ i, i < k → f i = g i) → sumN f k = sumN g k
  | 0, _ => rfl
  | k + 1, h => by rw [sumN, sumN, sumN_cong k (fun i hi => h i (by omega)), h k (by omega)]
theorem hs_sum {m : Nat → Int32} : hsN m 64 = sumN m 64 + sumN (fun i => m (64 + i)) 64 := by
  rw [← sumN_add]
  have key : ∀ k, hsN m k = sumN (fun i => m i + m (64 + i)) k := fun k => by
    induction k with
    | zero => rfl
    | succ k ih => rw [hsN, sumN, ih]
  exact key 64
