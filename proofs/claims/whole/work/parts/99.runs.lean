/-! All commands of a text. -/
section RS9
/-- all commands carried out by both, or the same one failed in both -/
theorem run_R {K : Nat → CM} {C : Nat → Int32} : ∀ (j k : Nat) (m : MS) (mm f : Nat → Int32) (O : OB), mR m mm → okM m → m.2.2.2.2.2.2.2.toInt + 999 * j ≤ 600000 → f 11 = 0 → (f 9 = O.2.1 ∧ f 10 = O.2.2.1) → (∀ i, k ≤ i → i < k + j → cmR (K i) C i) →
    (cRun K j k m O).2 = (dsR C j k mm f).2 ∧
    ((dsR C j k mm f).2 = none → mR (cRun K j k m O).1.1 (dsR C j k mm f).1.1 ∧ okM (cRun K j k m O).1.1 ∧ (cRun K j k m O).1.1.2.2.2.2.2.2.2.toInt ≤ m.2.2.2.2.2.2.2.toInt + 999 * j ∧ (dsR C j k mm f).1.2 = f ∧ (cRun K j k m O).1.2 = O) ∧
    (¬ (dsR C j k mm f).2 = none → (dsR C j k mm f).1.2 9 = (cRun K j k m O).1.2.2.1 ∧ (dsR C j k mm f).1.2 10 = (cRun K j k m O).1.2.2.2.1 ∧ (cRun K j k m O).1.2.1 = O.1 ∧ (cRun K j k m O).1.2.2.2.2 = O.2.2.2 ∧ ∀ i, i ≠ 9 → i ≠ 10 → i ≠ 11 → (dsR C j k mm f).1.2 i = f i)
  | 0, k, m, mm, f, O, h, ho, hq, hf, hO, hK => ⟨rfl, fun _ => ⟨h, ho, by show m.2.2.2.2.2.2.2.toInt ≤ m.2.2.2.2.2.2.2.toInt + 999 * ((0 : Nat) : Int); omega, rfl, rfl⟩, fun q => absurd rfl q⟩
  | j + 1, k, m, mm, f, O, h, ho, hq, hf, hO, hK => by
    have z := cd_all (O := O) h ho hO (hK k (Nat.le_refl _) (by omega))
    have y := cd_ok (O := O) (c := K k) ho (by omega)
    rw [cRun, dsR]
    rcases z with ⟨z1, z2, z3, z4⟩ | ⟨z1, z2, z3, z4, z5, z6, z7, z8, z9⟩
    · have l : (dsM mm f (cmA C k)).2 11 ≤ 0 := by rw [z2, hf]; exact Int32.le_refl _
      rw [if_pos z1, if_pos l, z2, z3]
      obtain ⟨r1, r2, r3⟩ := run_R j (k + 1) (cCmd m O (K k)).1.1 (dsM mm f (cmA C k)).1 f O z4 y.1 (by omega) hf hO (fun i h1 h2 => hK i (by omega) (by omega))
      refine ⟨r1, fun q => ?_, r3⟩
      obtain ⟨a, b, c, d, e⟩ := r2 q
      exact ⟨a, b, by omega, d, e⟩
    · have l : ¬ (dsM mm f (cmA C k)).2 11 ≤ 0 := fun q => Int32.lt_irrefl (Int32.lt_of_lt_of_le z2 q)
      rw [if_neg (by rw [z1]; decide), if_neg l]
      exact ⟨rfl, fun q => (by cases q), fun _ => ⟨z5, z6, z7, z8, z9⟩⟩
end RS9
