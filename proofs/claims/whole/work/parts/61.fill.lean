/-! Filling: what hangs together. -/
theorem mk_last : ∀ i, i < 64 → tb 9187201950435737471 i = decide (i % 8 ≠ 7) := by decide +kernel
theorem mk_first : ∀ i, i < 64 → tb (-72340172838076674) i = decide (i % 8 ≠ 0) := by decide +kernel
theorem tb_wRow (c : Int64) {i : Nat} (hi : i < 64) : tb (wRow c) i = (tb c i || (decide (i % 8 ≠ 0) && tb c (i - 1)) || (decide (i % 8 ≠ 7) && tb c (i + 1))) := by
  have h1 := tb_shl 1 (by decide) (c &&& 9187201950435737471) hi
  have h2 := tb_srl 1 (by decide) (c &&& (-72340172838076674)) i
  unfold wRow
  rw [tb_or, tb_or]
  rw [show tb ((c &&& 9187201950435737471) <<< ((1 : Int32).toInt64 &&& 63)) i = _ from h1, show tb (((c &&& (-72340172838076674)).toUInt64 >>> ((1 : Int32).toInt64.toUInt64 &&& Int64.toUInt64 63)).toInt64) i = _ from h2, tb_and, tb_and]
  congr 1
  · congr 1
    by_cases e : 1 ≤ i
    · rw [mk_last (i - 1) (by omega), decide_eq_true e, Bool.true_and, Bool.and_comm]
      congr 1
      exact decide_eq_decide.mpr ⟨fun q => by omega, fun q => by omega⟩
    · rw [decide_eq_false e, Bool.false_and, decide_eq_false (by omega), Bool.false_and]
  · rw [show 1 + i = i + 1 from Nat.add_comm _ _]
    by_cases e : i + 1 < 64
    · rw [mk_first (i + 1) e, Bool.and_comm]
      congr 1
      exact decide_eq_decide.mpr ⟨fun q => by omega, fun q => by omega⟩
    · rw [tb_big (by omega : 64 ≤ i + 1), Bool.false_and, Bool.and_false]
theorem tb_wCol (c : Int64) {i : Nat} (hi : i < 64) : tb (wCol c) i = (tb c i || (decide (8 ≤ i) && tb c (i - 8)) || tb c (i + 8)) := by
  have h1 := tb_shl 8 (by decide) c hi
  have h2 := tb_srl 8 (by decide) c i
  unfold wCol
  rw [tb_or, tb_or]
  rw [show tb (c <<< ((8 : Int32).toInt64 &&& 63)) i = _ from h1, show tb ((c.toUInt64 >>> ((8 : Int32).toInt64.toUInt64 &&& Int64.toUInt64 63)).toInt64) i = _ from h2, Nat.add_comm 8 i]
/-- touching by sides: in numbers of cells -/
theorem tch0_iff : ∀ c, c < 64 → ∀ d, d < 64 → (tch 0 c d = true ↔ ((d + 1 = c ∧ c % 8 ≠ 0) ∨ (c + 1 = d ∧ c % 8 ≠ 7) ∨ d + 8 = c ∨ c + 8 = d)) := by
  have h : ∀ c, c < 64 → ∀ d, d < 64 → tch 0 c d = decide ((d + 1 = c ∧ c % 8 ≠ 0) ∨ (c + 1 = d ∧ c % 8 ≠ 7) ∨ d + 8 = c ∨ c + 8 = d) := by decide +kernel
  intro c hc d hd
  rw [h c hc d hd, decide_eq_true_iff]
theorem tch1_iff : ∀ c, c < 64 → ∀ d, d < 64 → (tch 1 c d = true ↔ (c % 8 ≤ d % 8 + 1 ∧ d % 8 ≤ c % 8 + 1 ∧ c / 8 ≤ d / 8 + 1 ∧ d / 8 ≤ c / 8 + 1)) := by
  have h : ∀ c, c < 64 → ∀ d, d < 64 → tch 1 c d = decide (c % 8 ≤ d % 8 + 1 ∧ d % 8 ≤ c % 8 + 1 ∧ c / 8 ≤ d / 8 + 1 ∧ d / 8 ≤ c / 8 + 1) := by decide +kernel
  intro c hc d hd
  rw [h c hc d hd, decide_eq_true_iff]
/-- grown by sides -/
theorem gr0_iff (f : Int64) {i : Nat} (hi : i < 64) : tb (wRow f ||| wCol f) i = true ↔ tb f i = true ∨ ∃ j, j < 64 ∧ tb f j = true ∧ tch 0 j i = true := by
  rw [tb_or, tb_wRow f hi, tb_wCol f hi]
  simp only [Bool.or_eq_true, Bool.and_eq_true, decide_eq_true_iff]
  constructor
  · rintro (((h | ⟨h1, h2⟩) | ⟨h1, h2⟩) | ((h | ⟨h1, h2⟩) | h))
    · exact Or.inl h
    · exact Or.inr ⟨i - 1, by omega, h2, (tch0_iff _ (by omega) _ hi).mpr (by omega)⟩
    · by_cases e : i + 1 < 64
      · exact Or.inr ⟨i + 1, e, h2, (tch0_iff _ e _ hi).mpr (by omega)⟩
      · rw [tb_big (by omega)] at h2; cases h2
    · exact Or.inl h
    · exact Or.inr ⟨i - 8, by omega, h2, (tch0_iff _ (by omega) _ hi).mpr (by omega)⟩
    · by_cases e : i + 8 < 64
      · exact Or.inr ⟨i + 8, e, h, (tch0_iff _ e _ hi).mpr (by omega)⟩
      · rw [tb_big (by omega)] at h; cases h
  · rintro (h | ⟨j, hj, h, ht⟩)
    · exact Or.inl (Or.inl (Or.inl h))
    · rcases (tch0_iff j hj i hi).mp ht with ⟨e, e2⟩ | ⟨e, e2⟩ | e | e
      · refine Or.inl (Or.inr ⟨by omega, ?_⟩)
        rw [show i + 1 = j by omega]; exact h
      · refine Or.inl (Or.inl (Or.inr ⟨by omega, ?_⟩))
        rw [show i - 1 = j by omega]; exact h
      · refine Or.inr (Or.inr ?_)
        rw [show i + 8 = j by omega]; exact h
      · refine Or.inr (Or.inl (Or.inr ⟨by omega, ?_⟩))
        rw [show i - 8 = j by omega]; exact h
/-- grown by corners too -/
theorem gr1_iff (f : Int64) {i : Nat} (hi : i < 64) : tb (wCol (wRow f)) i = true ↔ ∃ j, j < 64 ∧ tb f j = true ∧ tch 1 j i = true := by
  have row : ∀ q, q < 64 → (tb (wRow f) q = true ↔ ∃ j, j < 64 ∧ tb f j = true ∧ j / 8 = q / 8 ∧ j % 8 ≤ q % 8 + 1 ∧ q % 8 ≤ j % 8 + 1) := by
    intro q hq
    rw [tb_wRow f hq]
    simp only [Bool.or_eq_true, Bool.and_eq_true, decide_eq_true_iff]
    constructor
    · rintro ((h | ⟨h1, h2⟩) | ⟨h1, h2⟩)
      · exact ⟨q, hq, h, rfl, by omega, by omega⟩
      · exact ⟨q - 1, by omega, h2, by omega, by omega, by omega⟩
      · by_cases e : q + 1 < 64
        · exact ⟨q + 1, e, h2, by omega, by omega, by omega⟩
        · rw [tb_big (by omega)] at h2; cases h2
    · rintro ⟨j, hj, h, h1, h2, h3⟩
      rcases (show j = q ∨ j + 1 = q ∨ j = q + 1 by omega) with rfl | rfl | rfl
      · exact Or.inl (Or.inl h)
      · exact Or.inl (Or.inr ⟨by omega, h⟩)
      · exact Or.inr ⟨by omega, h⟩
  rw [tb_wCol _ hi]
  simp only [Bool.or_eq_true, Bool.and_eq_true, decide_eq_true_iff]
  constructor
  · rintro ((h | ⟨h1, h2⟩) | h)
    · obtain ⟨j, hj, h, a1, a2, a3⟩ := (row i hi).mp h
      exact ⟨j, hj, h, (tch1_iff _ hj _ hi).mpr (by omega)⟩
    · obtain ⟨j, hj, h, a1, a2, a3⟩ := (row (i - 8) (by omega)).mp h2
      exact ⟨j, hj, h, (tch1_iff _ hj _ hi).mpr (by omega)⟩
    · by_cases e : i + 8 < 64
      · obtain ⟨j, hj, h, a1, a2, a3⟩ := (row (i + 8) e).mp h
        exact ⟨j, hj, h, (tch1_iff _ hj _ hi).mpr (by omega)⟩
      · rw [tb_big (by omega)] at h; cases h
  · rintro ⟨j, hj, h, ht⟩
    have t := (tch1_iff j hj i hi).mp ht
    rcases (show j / 8 = i / 8 ∨ j / 8 + 1 = i / 8 ∨ j / 8 = i / 8 + 1 by omega) with e | e | e
    · exact Or.inl (Or.inl ((row i hi).mpr ⟨j, hj, h, e, by omega, by omega⟩))
    · exact Or.inl (Or.inr ⟨by omega, (row (i - 8) (by omega)).mpr ⟨j, hj, h, by omega, by omega, by omega⟩⟩)
    · exact Or.inr ((row (i + 8) (by omega)).mpr ⟨j, hj, h, by omega, by omega, by omega⟩)
/-- one step of filling, by sides (b = 0) or corners too -/
def gst (b : Int32) (cs f : Int64) : Int64 := if b = 0 then (wRow f ||| wCol f) &&& cs else wCol (wRow f) &&& cs
theorem gst_iff {b : Int32} (hb : b = 0 ∨ b = 1) {cs f : Int64} (hs : ∀ i, i < 64 → tb f i = true → tb cs i = true) {i : Nat} (hi : i < 64) : tb (gst b cs f) i = true ↔ tb cs i = true ∧ (tb f i = true ∨ ∃ j, j < 64 ∧ tb f j = true ∧ tch b j i = true) := by
  unfold gst
  rcases hb with rfl | rfl
  · rw [if_pos rfl, tb_and, Bool.and_eq_true, gr0_iff f hi]
    exact ⟨fun h => ⟨h.2, h.1⟩, fun h => ⟨h.2, h.1⟩⟩
  · rw [if_neg (by decide), tb_and, Bool.and_eq_true, gr1_iff f hi]
    refine ⟨fun h => ⟨h.2, Or.inr h.1⟩, fun h => ⟨h.2.elim (fun q => ⟨i, hi, q, (tch1_iff _ hi _ hi).mpr (by omega)⟩) id, h.1⟩⟩
/-- filling, n steps at most -/
def gfl (b : Int32) (cs : Int64) : Nat → Int64 → Int64
  | 0, f => f
  | n + 1, f => if gst b cs f = f then f else gfl b cs n (gst b cs f)
theorem fillN_g {cs : Int64} : ∀ n f, fillN cs n f = gfl 0 cs n f
  | 0, f => rfl
  | n + 1, f => by rw [fillN, gfl, fillN_g n]; rfl
theorem fillC_g {cs : Int64} : ∀ n f, fillC cs n f = gfl 1 cs n f
  | 0, f => rfl
  | n + 1, f => by rw [fillC, gfl, fillC_g n]; rfl
def tbc (f : Int64) : Nat := fb_ct (tb f) 64
theorem gfl_ok {b : Int32} (hb : b = 0 ∨ b = 1) {cs : Int64} : ∀ (n : Nat) (f : Int64), (∀ i, i < 64 → tb f i = true → tb cs i = true) → 64 ≤ tbc f + n → (∃ i, i < 64 ∧ tb f i = true) ∨ 64 < n + 65 →
    (∀ i, i < 64 → tb (gfl b cs n f) i = true → tb cs i = true) ∧ (∀ i, i < 64 → tb f i = true → tb (gfl b cs n f) i = true) ∧ gst b cs (gfl b cs n f) = gfl b cs n f ∧ ∀ i, i < 64 → tb (gfl b cs n f) i = true → ∃ j, j < 64 ∧ tb f j = true ∧ con (spr (tb cs) b) j i
  | 0, f, hs, hn, _ => by
    have hall : ∀ i, i < 64 → tb f i = true := fb_ct_all.mp (by have := fb_ct_le (tb f) 64; unfold tbc at hn; omega)
    refine ⟨hs, fun i _ h => h, tb_ext (fun i hi => ?_), fun i hi h => ⟨i, hi, h, con_refl⟩⟩
    show tb (gst b cs f) i = tb f i
    rw [hall i hi]
    exact (gst_iff hb hs hi).mpr ⟨hs i hi (hall i hi), Or.inl (hall i hi)⟩
  | n + 1, f, hs, hn, h0 => by
    rw [gfl]
    by_cases e : gst b cs f = f
    · rw [if_pos e]
      exact ⟨hs, fun i _ h => h, e, fun i hi h => ⟨i, hi, h, con_refl⟩⟩
    · rw [if_neg e]
      have hs2 : ∀ i, i < 64 → tb (gst b cs f) i = true → tb cs i = true := fun i hi h => ((gst_iff hb hs hi).mp h).1
      have hsub : ∀ i, i < 64 → tb f i = true → tb (gst b cs f) i = true := fun i hi h => (gst_iff hb hs hi).mpr ⟨hs i hi h, Or.inl h⟩
      have hgrow : tbc f < tbc (gst b cs f) := by
        have h1 := fb_ct_sub (p := tb f) (q := tb (gst b cs f)) (n := 64) hsub
        rcases Nat.lt_or_ge (tbc f) (tbc (gst b cs f)) with q | q
        · exact q
        · exfalso
          apply e
          refine tb_ext (fun i hi => ?_)
          by_cases hf : tb f i = true
          · rw [hf]; exact hsub i hi hf
          · have hd := fb_ct_or (p := tb f) (q := fun k => tb (gst b cs f) k && !tb f k) (n := 64) (fun k hk z => by
              have z1 := z.1
              have z2 := z.2
              simp [z1] at z2)
            have hc : fb_ct (fun k => tb f k || (tb (gst b cs f) k && !tb f k)) 64 = fb_ct (tb (gst b cs f)) 64 := fb_ct_cong (fun k hk => by
              have := hsub k hk
              cases h1 : tb f k <;> cases h2 : tb (gst b cs f) k <;> simp_all)
            have hz : fb_ct (fun k => tb (gst b cs f) k && !tb f k) 64 = 0 := by unfold tbc at q; omega
            have := fb_ct_zero.mp hz i hi
            rw [Bool.eq_false_iff.mpr hf] at this ⊢
            simpa using this
      have ih := gfl_ok hb n (gst b cs f) hs2 (by omega) (Or.inr (by omega))
      refine ⟨ih.1, fun i hi h => ih.2.1 i hi (hsub i hi h), ih.2.2.1, fun i hi h => ?_⟩
      obtain ⟨j, hj, hg, hc⟩ := ih.2.2.2 i hi h
      rcases (gst_iff hb hs hj).mp hg with ⟨g1, g2 | ⟨k, hk, g2, g3⟩⟩
      · exact ⟨j, hj, g2, hc⟩
      · exact ⟨k, hk, g2, con_step ⟨hk, hj, hs k hk g2, g1, g3⟩ hc⟩
/-- what is filled from a cell: all that hangs together with it -/
theorem gfl_con {b : Int32} (hb : b = 0 ∨ b = 1) {cs : Int64} {s : Nat} (hs : s < 64) (hc : tb cs s = true) {i : Nat} (hi : i < 64) : tb (gfl b cs 64 (bitJ (nI s) &&& cs)) i = true ↔ con (spr (tb cs) b) s i := by
  have hf : ∀ i, i < 64 → (tb (bitJ (nI s) &&& cs) i = true ↔ i = s) := fun i hi => by
    rw [tb_and, tb_bitJ hs hi, Bool.and_eq_true, decide_eq_true_iff]
    exact ⟨fun q => q.1, fun q => by subst q; exact ⟨rfl, hc⟩⟩
  have hsub : ∀ i, i < 64 → tb (bitJ (nI s) &&& cs) i = true → tb cs i = true := fun i hi h => by
    have := (hf i hi).mp h
    subst this; exact hc
  obtain ⟨k1, k2, k3, k4⟩ := gfl_ok hb (cs := cs) 64 (bitJ (nI s) &&& cs) hsub (by omega) (Or.inr (by omega))
  constructor
  · intro h
    obtain ⟨j, hj, h1, h2⟩ := k4 i hi h
    have := (hf j hj).mp h1
    subst this; exact h2
  · intro h
    refine (con_ind (p := fun x => x < 64 ∧ tb (gfl b cs 64 (bitJ (nI s) &&& cs)) x = true) (fun x y hr hx => ⟨hr.2.1, ?_⟩) h ⟨hs, k2 s hs ((hf s hs).mpr rfl)⟩).2
    rw [← k3]
    exact (gst_iff hb k1 hr.2.1).mpr ⟨hr.2.2.2.1, Or.inr ⟨x, hx.1, hx.2, hr.2.2.2.2⟩⟩
theorem gfl_none {b : Int32} (hb : b = 0 ∨ b = 1) {cs : Int64} {s : Nat} (hs : s < 64) (hc : tb cs s = false) {i : Nat} (hi : i < 64) : tb (gfl b cs 64 (bitJ (nI s) &&& cs)) i = false := by
  have h0 : bitJ (nI s) &&& cs = 0 := tb_ext (fun i hi => by
    rw [tb_and, tb_bitJ hs hi, tb_0]
    by_cases e : i = s
    · subst e; rw [hc, Bool.and_false]
    · rw [decide_eq_false e, Bool.false_and])
  obtain ⟨k1, k2, k3, k4⟩ := gfl_ok hb (cs := cs) 64 (bitJ (nI s) &&& cs) (fun i hi h => by rw [h0, tb_0] at h; cases h) (by omega) (Or.inr (by omega))
  by_cases e : tb (gfl b cs 64 (bitJ (nI s) &&& cs)) i = true
  · obtain ⟨j, hj, h1, -⟩ := k4 i hi e
    rw [h0, tb_0] at h1; cases h1
  · exact Bool.eq_false_iff.mpr e
theorem fillJ_g {s cs : Int64} : fillJ s cs = gfl 0 cs 64 (s &&& cs) := fillN_g 64 _
theorem fillK_g {s cs : Int64} : fillK s cs = gfl 1 cs 64 (s &&& cs) := fillC_g 64 _
