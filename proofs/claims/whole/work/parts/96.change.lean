/-! The changes of a map keep the relation and the accounts. -/
section CHG
variable {m : MS} {mm : Nat → Int32}
theorem ad_R (h : mR m mm) {k : Nat} (hk : k < 64) (a : Int32) : mR (adM m k a) (va_up mm k (mm k + a)) := by
  refine ⟨fun i hi => ?_, fun i hi => (h.em i hi).trans (va_up_ne _ _ (by omega)).symm, fun i hi => (h.gr i hi).trans (va_up_ne _ _ (by omega)).symm, fun i hi => (h.te i hi).trans (va_up_ne _ _ (by omega)).symm, fun i hi => (h.lo i hi).trans (va_up_ne _ _ (by omega)).symm, h.ti.trans (va_up_ne _ _ (by omega)).symm, h.rl.trans (va_up_ne _ _ (by omega)).symm⟩
  show va_up m.2.1 k (m.2.1 k + a) i = _
  by_cases e : i = k
  · subst e
    rw [va_up_self, va_up_self, h.he i hi]
  · rw [va_up_ne _ _ e, va_up_ne _ _ e, h.he i hi]
theorem gr_R (h : mR m mm) {k : Nat} (hk : k < 64) (x : Int32) : mR (grM m k x) (va_up mm (128 + k) x) := by
  refine ⟨fun i hi => (h.he i hi).trans (va_up_ne _ _ (by omega)).symm, fun i hi => (h.em i hi).trans (va_up_ne _ _ (by omega)).symm, fun i hi => ?_, fun i hi => (h.te i hi).trans (va_up_ne _ _ (by omega)).symm, fun i hi => (h.lo i hi).trans (va_up_ne _ _ (by omega)).symm, h.ti.trans (va_up_ne _ _ (by omega)).symm, h.rl.trans (va_up_ne _ _ (by omega)).symm⟩
  show va_up m.1 k x i = _
  by_cases e : i = k
  · subst e
    rw [va_up_self, va_up_self]
  · rw [va_up_ne _ _ e, va_up_ne _ _ (by omega), h.gr i hi]
theorem bo_R (h : mR m mm) {s : Nat} (hs : s < 4) (x : Int32) : mR (boM m s x) (va_up mm (192 + s) x) := by
  refine ⟨fun i hi => (h.he i hi).trans (va_up_ne _ _ (by omega)).symm, fun i hi => (h.em i hi).trans (va_up_ne _ _ (by omega)).symm, fun i hi => (h.gr i hi).trans (va_up_ne _ _ (by omega)).symm, fun i hi => ?_, fun i hi => (h.lo i hi).trans (va_up_ne _ _ (by omega)).symm, h.ti.trans (va_up_ne _ _ (by omega)).symm, h.rl.trans (va_up_ne _ _ (by omega)).symm⟩
  show va_up m.2.2.2.1 s x i = _
  by_cases e : i = s
  · subst e
    rw [va_up_self, va_up_self]
  · rw [va_up_ne _ _ e, va_up_ne _ _ (by omega), h.te i hi]
theorem ad_aI (h : aI m) {k : Nat} (hk : k < 64) {a : Int32} (h1 : 1 ≤ a.toInt ∧ a.toInt ≤ 999) (hq : m.2.2.2.2.2.2.2.toInt ≤ 599001) : aI (adM m k a) ∧ (adM m k a).2.2.2.2.2.2.2.toInt = m.2.2.2.2.2.2.2.toInt + a.toInt := by
  obtain ⟨b1, b2, b3⟩ := aI_bd h
  have p0 := fb_rng m.2.2.2.2.2.2.2
  have pos : 0 ≤ m.2.2.2.2.2.2.2.toInt := by
    have s1 := (si_ge (f := fun i => (m.2.1 i).toInt) 64 h.1).1
    have s2 := (si_ge (f := fun i => (m.2.2.1 i).toInt) 64 h.2.1).1
    have s3 := (si_ge (f := fun i => (m.2.2.2.2.1 i).toInt) 4 h.2.2.1).1
    have h4 := h.2.2.2.1
    unfold tInt at h4
    omega
  have kb := b1 k hk
  have eh : (m.2.1 k + a).toInt = (m.2.1 k).toInt + a.toInt := fb_addI (by omega) (by omega)
  have ea : (m.2.2.2.2.2.2.2 + a).toInt = m.2.2.2.2.2.2.2.toInt + a.toInt := fb_addI (by omega) (by omega)
  have es : tInt (va_up m.2.1 k (m.2.1 k + a)) 64 = tInt m.2.1 64 + a.toInt := by
    have z := fb_si_upd (fun i => (m.2.1 i).toInt) ((m.2.1 k).toInt + a.toInt) hk
    have y : tInt (va_up m.2.1 k (m.2.1 k + a)) 64 = fb_si (fun i => if i = k then (m.2.1 k).toInt + a.toInt else (m.2.1 i).toInt) 64 := fb_si_cong (fun i _ => by
      unfold va_up
      by_cases e : i = k
      · rw [if_pos e, if_pos e, eh]
      · rw [if_neg e, if_neg e])
    have w : tInt m.2.1 64 = fb_si (fun i => (m.2.1 i).toInt) 64 := rfl
    omega
  refine ⟨⟨fun i hi => ?_, h.2.1, h.2.2.1, ?_, ?_⟩, ea⟩
  · show 0 ≤ (va_up m.2.1 k (m.2.1 k + a) i).toInt
    unfold va_up
    by_cases e : i = k
    · rw [if_pos e, eh]; omega
    · rw [if_neg e]; exact h.1 i hi
  · show tInt (va_up m.2.1 k (m.2.1 k + a)) 64 + tInt m.2.2.1 64 + tInt m.2.2.2.2.1 4 = (m.2.2.2.2.2.2.2 + a).toInt
    rw [es, ea, ← h.2.2.2.1]
    omega
  · show (m.2.2.2.2.2.2.2 + a).toInt ≤ 600000
    omega
theorem gr_aI (h : aI m) (k : Nat) (x : Int32) : aI (grM m k x) := h
theorem bo_aI (h : aI m) (s : Nat) (x : Int32) : aI (boM m s x) := h
theorem tk_aI (h : aI m) (ht : ∀ s, s < 4 → bn (m.2.2.2.1 s)) (n : Nat) : aI (tkM m n) ∧ (tkM m n).2.2.2.1 = m.2.2.2.1 ∧ (tkM m n).1 = m.1 := ticks_aI h ht n
end CHG
