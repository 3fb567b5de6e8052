/-! contracts that tell one end; the class's roles in the heap -/
def Rt (v : Option Value) (h' : AH) : Post := fun o h2 => o = .inl v ∧ h2 = h'
def Tr (E : String) (h' : AH) : Post := fun o h2 => o = .inr E ∧ h2 = h'
section RT
variable {l : Launch} {G : GG} {M : MD} {d kc ks pc : Nat} {P : Post} {L : List (Option Value)} {rest : List Value} {h' : AH}
theorem kr_rt {v : Value} (k : Go l G M d kc ks P pc L (v :: rest) h') : ∀ v2 h2, Rt (some v) h' (.inl v2) h2 → Go l G M d (kc - 0) (ks - 0) P pc L (v2.toList ++ rest) h2 := by
  rintro v2 h2 ⟨e1, rfl⟩
  cases e1
  exact k
theorem kr_vd (k : Go l G M d kc ks P pc L rest h') : ∀ v2 h2, Rt none h' (.inl v2) h2 → Go l G M d (kc - 0) (ks - 0) P pc L (v2.toList ++ rest) h2 := by
  rintro v2 h2 ⟨e1, rfl⟩
  cases e1
  exact k
theorem kr_rtm {v : Value} {mc ms : Nat} (k : Go l G M d (kc - mc) (ks - ms) P pc L (v :: rest) h') : ∀ v2 h2, Rt (some v) h' (.inl v2) h2 → Go l G M d (kc - mc) (ks - ms) P pc L (v2.toList ++ rest) h2 := by
  rintro v2 h2 ⟨e1, rfl⟩
  cases e1
  exact k
theorem kr_vdm {mc ms : Nat} (k : Go l G M d (kc - mc) (ks - ms) P pc L rest h') : ∀ v2 h2, Rt none h' (.inl v2) h2 → Go l G M d (kc - mc) (ks - ms) P pc L (v2.toList ++ rest) h2 := by
  rintro v2 h2 ⟨e1, rfl⟩
  cases e1
  exact k
theorem kx_rt {v : Option Value} {mc ms : Nat} : ∀ E h2, Rt v h' (.inr E) h2 → GoT l G M d (kc - mc) (ks - ms) P pc L E h2 := by
  rintro E h2 ⟨e1, -⟩
  cases e1
theorem kr_tr {E : String} {mc ms : Nat} : ∀ v2 h2, Tr E h' (.inl v2) h2 → Go l G M d (kc - mc) (ks - ms) P pc L (v2.toList ++ rest) h2 := by
  rintro v2 h2 ⟨e1, -⟩
  cases e1
theorem kx_tr {E : String} {mc ms : Nat} (ht : M.2.2.2.2 = []) (hP : P (.inr E) h') : ∀ E2 h2, Tr E h' (.inr E2) h2 → GoT l G M d (kc - mc) (ks - ms) P pc L E2 h2 := by
  rintro E2 h2 ⟨e1, rfl⟩
  cases e1
  exact gt_out ht hP
end RT
/-- the pure state of one map: ground, heat, embers, temperatures, lost; ticks, relapses, heat added -/
abbrev MS : Type := (Nat → Int32) × (Nat → Int32) × (Nat → Int32) × (Nat → Int32) × (Nat → Int32) × Int32 × Int32 × Int32
abbrev AD : Type := Nat → Nat → Nat
def mObj (A : AD) (g : Nat) (m : MS) : Nat × AC := (A 0 g, .inr (3, [.ref (A 1 g), .ref (A 2 g), .ref (A 3 g), .ref (A 4 g), .ref (A 5 g), .int m.2.2.2.2.2.1, .int m.2.2.2.2.2.2.1, .int m.2.2.2.2.2.2.2]))
abbrev cArr (a n : Nat) (f : Nat → Int32) : Nat × AC := (a, .inl (2, n, .inl f))
abbrev iArr (a n : Nat) (f : Nat → Int32) : Nat × AC := (a, .inl (0, n, .inl f))
abbrev zArr (a n : Nat) (f : Nat → Int32) : Nat × AC := (a, .inl (4, n, .inl f))
abbrev lArr (a n : Nat) (f : Nat → Int64) : Nat × AC := (a, .inl (1, n, .inr (.inl f)))
def isMap (h : AH) (A : AD) (g : Nat) (m : MS) : Prop :=
  h 0 g = some (mObj A g m) ∧ h 1 g = some (cArr (A 1 g) 64 m.1) ∧ h 2 g = some (iArr (A 2 g) 64 m.2.1) ∧ h 3 g = some (iArr (A 3 g) 64 m.2.2.1) ∧ h 4 g = some (iArr (A 4 g) 4 m.2.2.2.1) ∧ h 5 g = some (iArr (A 5 g) 4 m.2.2.2.2.1)
def setMap (h : AH) (A : AD) (g : Nat) (m : MS) : AH := up (up (up (up (up (up h 0 g (mObj A g m)) 1 g (cArr (A 1 g) 64 m.1)) 2 g (iArr (A 2 g) 64 m.2.1)) 3 g (iArr (A 3 g) 64 m.2.2.1)) 4 g (iArr (A 4 g) 4 m.2.2.2.1)) 5 g (iArr (A 5 g) 4 m.2.2.2.2.1)
theorem isMap_set (h : AH) (A : AD) (g : Nat) (m : MS) : isMap (setMap h A g m) A g m := by
  refine ⟨?_, ?_, ?_, ?_, ?_, ?_⟩ <;> simp [setMap, up]
theorem setMap_self {h : AH} {A : AD} {g : Nat} {m : MS} (H : isMap h A g m) : setMap h A g m = h := by
  obtain ⟨h0, h1, h2, h3, h4, h5⟩ := H
  funext s g'
  simp only [setMap, up]
  by_cases e : g' = g
  · subst e
    by_cases e5 : s = 5
    · subst e5; simp [h5]
    · by_cases e4 : s = 4
      · subst e4; simp [h4]
      · by_cases e3 : s = 3
        · subst e3; simp [h3]
        · by_cases e2 : s = 2
          · subst e2; simp [h2]
          · by_cases e1 : s = 1
            · subst e1; simp [h1]
            · by_cases e0 : s = 0
              · subst e0; simp [h0]
              · simp [e0, e1, e2, e3, e4, e5]
  · simp [e]
theorem setMap_role (h : AH) (A : AD) (g : Nat) (m : MS) {s : Nat} (g' : Nat) (hs : 6 ≤ s) : setMap h A g m s g' = h s g' := by
  simp only [setMap, up]
  rw [if_neg (by omega), if_neg (by omega), if_neg (by omega), if_neg (by omega), if_neg (by omega), if_neg (by omega)]
theorem setMap_grp (h : AH) (A : AD) {g g' : Nat} (m : MS) (s : Nat) (hg : g' ≠ g) : setMap h A g m s g' = h s g' := by
  simp [setMap, up, hg]
theorem isMap.grp {h : AH} {A : AD} {g g' : Nat} {m m' : MS} (H : isMap h A g' m') (hg : g' ≠ g) : isMap (setMap h A g m) A g' m' := by
  obtain ⟨h0, h1, h2, h3, h4, h5⟩ := H
  exact ⟨(setMap_grp h A m 0 hg).trans h0, (setMap_grp h A m 1 hg).trans h1, (setMap_grp h A m 2 hg).trans h2, (setMap_grp h A m 3 hg).trans h3, (setMap_grp h A m 4 hg).trans h4, (setMap_grp h A m 5 hg).trans h5⟩
theorem isMap.role {h : AH} {A : AD} {g s g' : Nat} {c : Nat × AC} {m : MS} (H : isMap h A g m) (hs : 6 ≤ s) : isMap (up h s g' c) A g m := by
  obtain ⟨h0, h1, h2, h3, h4, h5⟩ := H
  exact ⟨(up_role h _ _ c (by omega)).trans h0, (up_role h _ _ c (by omega)).trans h1, (up_role h _ _ c (by omega)).trans h2, (up_role h _ _ c (by omega)).trans h3, (up_role h _ _ c (by omega)).trans h4, (up_role h _ _ c (by omega)).trans h5⟩
/-- two maps that hold the same, cell by cell -/
theorem setMap_set (h : AH) (A : AD) (g : Nat) (m m' : MS) : setMap (setMap h A g m) A g m' = setMap h A g m' := by
  funext s g'
  simp only [setMap, up]
  by_cases e : g' = g
  · subst e
    simp only [if_true]
    repeat' split
    all_goals first | rfl | omega
  · simp [e]
theorem setMap_up (h : AH) (A : AD) (g s g' : Nat) (c : Nat × AC) (m : MS) (hs : 6 ≤ s) : setMap (up h s g' c) A g m = up (setMap h A g m) s g' c := by
  funext s1 g1
  by_cases e : s1 = s
  · subst e
    rw [setMap_role _ A g m g1 hs]
    simp only [up, if_true]
    split
    · rfl
    · exact (setMap_role h A g m g1 hs).symm
  · rw [up_role _ _ _ _ e]
    simp only [setMap, up, e, if_false]
