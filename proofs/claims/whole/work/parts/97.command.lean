/-! A command carried out: the class's and the model's. -/
section CD
variable {m : MS} {mm f : Nat → Int32} {O : OB}
theorem ex_heat {a b : Int32} (ha : 0 ≤ a.toInt ∧ a.toInt ≤ 600000) (hb : 1 ≤ b.toInt ∧ b.toInt ≤ 999) : 0 < a + b - 9999 ↔ 9999 < a + b := by
  have e : (a + b).toInt = a.toInt + b.toInt := fb_addI (by omega) (by omega)
  have e2 : (a + b - 9999).toInt = (a + b).toInt - 9999 := fb_subI (by show _ ≤ (a + b).toInt - 9999; omega) (by show (a + b).toInt - 9999 < _; omega)
  rw [Int32.lt_iff_toInt_lt, Int32.lt_iff_toInt_lt, e2]
  show (0 : Int) < _ ↔ (9999 : Int) < _
  omega
theorem ex_ground {a b : Int32} (ha : 0 ≤ a.toInt ∧ a.toInt ≤ 600000) (hb : 0 ≤ b.toInt ∧ b.toInt ≤ 600000) : ¬ a + b = 0 ↔ 0 < a + b := by
  have e : (a + b).toInt = a.toInt + b.toInt := fb_addI (by omega) (by omega)
  rw [Int32.lt_iff_toInt_lt, ← Int32.toInt_inj, e]
  show ¬ _ = (0 : Int) ↔ (0 : Int) < _
  omega
theorem am_I {a : Int32} (h : amountP a) : 1 ≤ a.toInt ∧ a.toInt ≤ 999 := ⟨Int32.le_iff_toInt_le.mp h.1, Int32.le_iff_toInt_le.mp h.2⟩
theorem thF_at (f : Nat → Int32) (r d : Int32) : thF f r d 9 = r ∧ thF f r d 10 = d ∧ thF f r d 11 = 3 ∧ ∀ k, k ≠ 9 → k ≠ 10 → k ≠ 11 → thF f r d k = f k := by
  unfold thF
  refine ⟨?_, ?_, va_up_self _ _ _, fun k h1 h2 h3 => ?_⟩
  · rw [va_up_ne _ _ (by omega), va_up_ne _ _ (by omega), va_up_self]
  · rw [va_up_ne _ _ (by omega), va_up_self]
  · rw [va_up_ne _ _ h3, va_up_ne _ _ h2, va_up_ne _ _ h1]
/-- done by both, or failed in both -/
def cdP (m : MS) (mm f : Nat → Int32) (O : OB) (A : CR) (B : (Nat → Int32) × (Nat → Int32)) : Prop :=
  (A.2 = true ∧ B.2 = f ∧ A.1.2 = O ∧ mR A.1.1 B.1) ∨
  (A.2 = false ∧ 0 < B.2 11 ∧ A.1.1 = m ∧ B.1 = mm ∧ B.2 9 = A.1.2.2.1 ∧ B.2 10 = A.1.2.2.2.1 ∧ A.1.2.1 = O.1 ∧ A.1.2.2.2.2 = O.2.2.2 ∧ ∀ k, k ≠ 9 → k ≠ 10 → k ≠ 11 → B.2 k = f k)
theorem cd_bad (hO : f 9 = O.2.1 ∧ f 10 = O.2.2.1) {x : Int32} (hx : 0 < x) : cdP m mm f O ((m, O), false) (mm, va_up f 11 x) :=
  Or.inr ⟨rfl, by show 0 < va_up f 11 x 11; rw [va_up_self]; exact hx, rfl, rfl, (show va_up f 11 x 9 = O.2.1 from (va_up_ne _ _ (by omega)).trans hO.1), (show va_up f 11 x 10 = O.2.2.1 from (va_up_ne _ _ (by omega)).trans hO.2), rfl, rfl, fun k _ _ h3 => va_up_ne _ _ h3⟩
theorem cd_ref {r d : Int32} : cdP m mm f O ((m, oRef O (some (r, d))), false) (mm, thF f r d) := by
  obtain ⟨a, b, c, e⟩ := thF_at f r d
  exact Or.inr ⟨rfl, by show 0 < thF f r d 11; rw [c]; decide, rfl, rfl, a, b, rfl, rfl, e⟩
theorem cd_heat (h : mR m mm) (ha : aI m) (hO : f 9 = O.2.1 ∧ f 10 = O.2.2.1) {x y a : Int32} : cdP m mm f O (cHeat m O x y a) (hitM mm f x y a).2 := by
  unfold cHeat hitM
  by_cases c1 : cellB x y
  · by_cases c2 : amountP a
    · have hk := (cCell_eq c1).2
      have b1 := (aI_bd ha).1 _ hk
      rw [if_pos ⟨c1, c2⟩, if_neg (fun q => q c1), if_neg (fun q => q c2)]
      unfold hrf
      rw [← h.gr _ hk, ← h.he _ hk]
      by_cases c3 : m.1 (cCell x y) = 35
      · rw [if_pos c3, if_pos c3]; exact cd_ref
      · rw [if_neg c3, if_neg c3]
        have ex := ex_heat b1 (am_I c2)
        by_cases c4 : 0 < m.2.1 (cCell x y) + a - 9999
        · rw [if_pos c4, if_pos (ex.mp c4)]; exact cd_ref
        · rw [if_neg c4, if_neg (fun q => c4 (ex.mpr q))]
          refine Or.inl ⟨rfl, rfl, rfl, ?_⟩
          have z := ad_R h hk a
          rw [← h.he _ hk] at z
          exact z
    · rw [if_neg (fun q => c2 q.2), if_neg (fun q => q c1), if_pos c2]
      exact cd_bad hO (by decide)
  · rw [if_neg (fun q => c1 q.1), if_pos c1]
    exact cd_bad hO (by decide)
theorem cd_ground (h : mR m mm) (ha : aI m) (hO : f 9 = O.2.1 ∧ f 10 = O.2.2.1) {x y a : Int32} : cdP m mm f O (cGround m O x y a) (gitM mm f x y a).2 := by
  unfold cGround gitM
  by_cases c1 : cellB x y
  · by_cases c2 : groundP a
    · have hk := (cCell_eq c1).2
      have b1 := (aI_bd ha).1 _ hk
      have b2 := (aI_bd ha).2.1 _ hk
      rw [if_pos ⟨c1, c2⟩, if_neg (fun q => q c1), if_neg (fun q => q c2)]
      unfold grf
      rw [← h.em _ hk, ← h.he _ hk]
      have ex := ex_ground b1 b2
      by_cases c4 : a = 35 ∧ ¬ m.2.1 (cCell x y) + m.2.2.1 (cCell x y) = 0
      · rw [if_pos c4, if_pos ⟨c4.1, ex.mp c4.2⟩]; exact cd_ref
      · rw [if_neg c4, if_neg (fun q => c4 ⟨q.1, ex.mpr q.2⟩)]
        exact Or.inl ⟨rfl, rfl, rfl, gr_R h hk a⟩
    · rw [if_neg (fun q => c2 q.2), if_neg (fun q => q c1), if_pos c2]
      exact cd_bad hO (by decide)
  · rw [if_neg (fun q => c1 q.1), if_pos c1]
    exact cd_bad hO (by decide)
theorem cd_border (h : mR m mm) (hO : f 9 = O.2.1 ∧ f 10 = O.2.2.1) {x y : Int32} : cdP m mm f O (cBorder m O x y) (bitM mm f x y).2 := by
  unfold cBorder bitM
  by_cases c1 : sideP x
  · have hs : x.toNatClampNeg < 4 := by
      obtain ⟨e1, h1⟩ := nI_ofS c1.1
      exact (nI_lt' (b := 4) rfl h1 (by decide)).mp (by rw [← e1]; exact c1.2)
    by_cases c2 : tempP y
    · rw [if_pos ⟨c1, c2⟩, if_neg (fun q => q c1), if_neg (fun q => q c2)]
      exact Or.inl ⟨rfl, rfl, rfl, bo_R h hs y⟩
    · rw [if_neg (fun q => c2 q.2), if_neg (fun q => q c1), if_pos c2]
      exact cd_bad hO (by decide)
  · rw [if_neg (fun q => c1 q.1), if_pos c1]
    exact cd_bad hO (by decide)
theorem cd_pass (h : mR m mm) (ha : aI m) (ht : ∀ s, s < 4 → bn (m.2.2.2.1 s)) (hO : f 9 = O.2.1 ∧ f 10 = O.2.2.1) {x : Int32} : cdP m mm f O (cPass m O x) (titM mm f x).2 := by
  unfold cPass titM
  by_cases c1 : tickP x
  · rw [if_pos c1, if_neg (fun q => q c1)]
    exact Or.inl ⟨rfl, rfl, rfl, (ticks_R h ha ht _).1⟩
  · rw [if_neg c1, if_pos c1]
    exact cd_bad hO (by decide)
end CD
