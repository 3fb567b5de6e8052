/-! Model: carrying the commands out (by wip/whole/gen/m41.py). -/
theorem nI_ex {x b : Int32} {n : Nat} (hb : b = nI n) (hn : n < 2 ^ 31) (h0 : 0 ≤ x) (h1 : x < b) : ∃ i, i < n ∧ x = nI i := by
  obtain ⟨e, hl⟩ := nI_ofS h0
  refine ⟨x.toNatClampNeg, ?_, e⟩
  rw [e] at h1
  exact (nI_lt' hb hl hn).mp h1
theorem cellB_ex {x y : Int32} (h : cellB x y) : ∃ i j, i < 8 ∧ j < 8 ∧ x = nI i ∧ y = nI j := by
  obtain ⟨i, hi, ei⟩ := nI_ex (b := 8) (n := 8) rfl (by decide) h.1 h.2.1
  obtain ⟨j, hj, ej⟩ := nI_ex (b := 8) (n := 8) rfl (by decide) h.2.2.1 h.2.2.2
  exact ⟨i, j, hi, hj, ei, ej⟩
theorem lt_le1 {x : Int32} {n : Nat} {a b : Int32} (ha : a = nI n) (hb : b = nI (n + 1)) (hn : n + 1 < 2 ^ 31) (h0 : 0 ≤ x) : x ≤ a ↔ x < b := by
  obtain ⟨e, hl⟩ := nI_ofS h0
  rw [e]
  exact ⟨fun h => (nI_lt' hb hl hn).mpr (by have := (nI_le' ha hl (by omega)).mp h; omega), fun h => (nI_le' ha hl (by omega)).mpr (by have := (nI_lt' hb hl hn).mp h; omega)⟩
/-- answer, map and fields of the four changes -/
abbrev IT : Type := Int32 × (Nat → Int32) × (Nat → Int32)
def thF (f : Nat → Int32) (r d : Int32) : Nat → Int32 := va_up (va_up (va_up f 9 r) 10 d) 11 3
def hitM (m f : Nat → Int32) (x y z : Int32) : IT :=
  if ¬ cellB x y then (-1, m, va_up f 11 1) else if ¬ amountP z then (-1, m, va_up f 11 2)
  else if m (128 + cCell x y) = 35 then (-1, m, thF f 1 (nI (cCell x y)))
  else if 9999 < m (cCell x y) + z then (-1, m, thF f 3 (m (cCell x y) + z - 9999))
  else (m (cCell x y) + z, va_up m (cCell x y) (m (cCell x y) + z), f)
def gitM (m f : Nat → Int32) (x y z : Int32) : IT :=
  if ¬ cellB x y then (-1, m, va_up f 11 1) else if ¬ groundP z then (-1, m, va_up f 11 2)
  else if z = 35 ∧ 0 < m (cCell x y) + m (64 + cCell x y) then (-1, m, thF f 2 (m (cCell x y) + m (64 + cCell x y)))
  else (m (128 + cCell x y), va_up m (128 + cCell x y) z, f)
def bitM (m f : Nat → Int32) (x z : Int32) : IT :=
  if ¬ sideP x then (-1, m, va_up f 11 1) else if ¬ tempP z then (-1, m, va_up f 11 2)
  else (m (192 + x.toNatClampNeg), va_up m (192 + x.toNatClampNeg) z, f)
def titM (m f : Nat → Int32) (x : Int32) : IT := if ¬ tickP x then (-1, m, va_up f 11 1) else (mtR m x.toNatClampNeg, mtk m x.toNatClampNeg, f)
/-- one command -/
def dsM (m f : Nat → Int32) (c : CM) : (Nat → Int32) × (Nat → Int32) :=
  if c.1 = 0 then (hitM m f c.2.1 c.2.2.1 c.2.2.2).2 else if c.1 = 1 then (gitM m f c.2.1 c.2.2.1 c.2.2.2).2
  else if c.1 = 2 then (bitM m f c.2.1 c.2.2.1).2 else (titM m f c.2.1).2
def cmA (C : Nat → Int32) (k : Nat) : CM := (C (4 * k), C (4 * k + 1), C (4 * k + 2), C (4 * k + 3))
/-- j commands from the k-th on: map and fields; the one that failed -/
def dsR (C : Nat → Int32) : Nat → Nat → (Nat → Int32) → (Nat → Int32) → ((Nat → Int32) × (Nat → Int32)) × Option Nat
  | 0, _, m, f => ((m, f), none)
  | j + 1, k, m, f => if (dsM m f (cmA C k)).2 11 ≤ 0 then dsR C j (k + 1) (dsM m f (cmA C k)).1 (dsM m f (cmA C k)).2 else (dsM m f (cmA C k), some k)
/-- reading the text: fuel, place, how many, commands; whether it is one -/
noncomputable def tmM (T : TX) : Nat → Nat → Nat → (Nat → Int32) → Bool × Nat × Nat × (Nat → Int32)
  | 0, p, n, C => (false, p, n, C)
  | j + 1, p, n, C => @ite _ (¬ fuM T p) (Classical.propDecidable _) (false, p + lkW T p (wdM T p), n, C)
    (if (raM T (wdM T p) (p + lkW T p (wdM T p))).2.2 = true then (false, (raM T (wdM T p) (p + lkW T p (wdM T p))).2.1, n + 1, raC T (wdM T p) (p + lkW T p (wdM T p)) (va_up C (4 * n) (nI (wdM T p))) (4 * n + 1))
    else if ¬ (raM T (wdM T p) (p + lkW T p (wdM T p))).2.1 < T.2 then (true, (raM T (wdM T p) (p + lkW T p (wdM T p))).2.1, n + 1, raC T (wdM T p) (p + lkW T p (wdM T p)) (va_up C (4 * n) (nI (wdM T p))) (4 * n + 1))
    else if nxt T (raM T (wdM T p) (p + lkW T p (wdM T p))).2.1 59 = true then tmM T j ((raM T (wdM T p) (p + lkW T p (wdM T p))).2.1 + 1) (n + 1) (raC T (wdM T p) (p + lkW T p (wdM T p)) (va_up C (4 * n) (nI (wdM T p))) (4 * n + 1))
    else (false, (raM T (wdM T p) (p + lkW T p (wdM T p))).2.1, n + 1, raC T (wdM T p) (p + lkW T p (wdM T p)) (va_up C (4 * n) (nI (wdM T p))) (4 * n + 1)))
section TM
variable {T : TX} {p n j : Nat} {C : Nat → Int32}
theorem tm_1 (h : ¬ fuM T p) : tmM T (j + 1) p n C = (false, p + lkW T p (wdM T p), n, C) := @if_pos _ (Classical.propDecidable _) h _ _ _
theorem tm_x (h : fuM T p) : tmM T (j + 1) p n C = (if (raM T (wdM T p) (p + lkW T p (wdM T p))).2.2 = true then (false, (raM T (wdM T p) (p + lkW T p (wdM T p))).2.1, n + 1, raC T (wdM T p) (p + lkW T p (wdM T p)) (va_up C (4 * n) (nI (wdM T p))) (4 * n + 1))
    else if ¬ (raM T (wdM T p) (p + lkW T p (wdM T p))).2.1 < T.2 then (true, (raM T (wdM T p) (p + lkW T p (wdM T p))).2.1, n + 1, raC T (wdM T p) (p + lkW T p (wdM T p)) (va_up C (4 * n) (nI (wdM T p))) (4 * n + 1))
    else if nxt T (raM T (wdM T p) (p + lkW T p (wdM T p))).2.1 59 = true then tmM T j ((raM T (wdM T p) (p + lkW T p (wdM T p))).2.1 + 1) (n + 1) (raC T (wdM T p) (p + lkW T p (wdM T p)) (va_up C (4 * n) (nI (wdM T p))) (4 * n + 1))
    else (false, (raM T (wdM T p) (p + lkW T p (wdM T p))).2.1, n + 1, raC T (wdM T p) (p + lkW T p (wdM T p)) (va_up C (4 * n) (nI (wdM T p))) (4 * n + 1))) := @if_neg _ (Classical.propDecidable _) (fun q => q h) _ _ _
theorem exM_ge {c : Int32} {w : Bool} : p ≤ (exM T c p w).1 := by
  unfold exM
  split
  · exact Nat.le_refl _
  · split
    · show p ≤ p + 1; omega
    · exact Nat.le_refl _
theorem dgM_ge {w : Bool} : p ≤ (dgM T p w).2.1 := by
  unfold dgM
  split
  · exact Nat.le_refl _
  · split
    · exact Nat.le_refl _
    · show p ≤ p + 1; omega
theorem nbM_ge {w : Bool} (hp : p ≤ T.2) : p ≤ (nbM T p w).2.1 := by
  unfold nbM
  split
  · exact Nat.le_refl _
  · cases e : dig T p with
    | none => exact Nat.le_refl _
    | some d =>
      have h1 := (dig_le e).2
      have := (mor_le 3 (p + 1) d (T := T) (by omega)).1
      show p ≤ (mor T 3 (p + 1) d).1
      omega
theorem ghM_ge {w : Bool} : p ≤ (ghM T p w).2.1 := by
  unfold ghM
  split
  · exact Nat.le_refl _
  · split
    · show p ≤ p + 1; omega
    · exact Nat.le_refl _
theorem nbB_in {c : Int32} {w : Bool} (hp : p ≤ T.2) : p ≤ (nbB T c p w).2.1 ∧ (nbB T c p w).2.1 ≤ T.2 := by
  have h1 := exM_le (c := c) (w := w) hp
  have h2 := exM_ge (T := T) (c := c) (p := p) (w := w)
  have h3 := nbM_ge (w := (exM T c p w).2) h1
  exact ⟨Nat.le_trans h2 h3, nbM_le h1⟩
theorem raM_in {i : Nat} (hp : p ≤ T.2) : p ≤ (raM T i p).2.1 ∧ (raM T i p).2.1 ≤ T.2 := by
  have h1 := dgM_ge (T := T) (p := p) (w := false)
  have h2 := dgM_le (w := false) hp
  have h3 := dgM_ge (T := T) (p := (dgM T p false).2.1) (w := (dgM T p false).2.2)
  have h4 := dgM_le (w := (dgM T p false).2.2) h2
  unfold raM
  split
  · have := nbB_in (c := 43) (w := (dgM T (dgM T p false).2.1 (dgM T p false).2.2).2.2) h4
    exact ⟨by show p ≤ (nbB T 43 _ _).2.1; omega, this.2⟩
  · split
    · have := ghM_ge (T := T) (p := (dgM T (dgM T p false).2.1 (dgM T p false).2.2).2.1) (w := (dgM T (dgM T p false).2.1 (dgM T p false).2.2).2.2)
      exact ⟨by show p ≤ (ghM T _ _).2.1; omega, ghM_le h4⟩
    · split
      · have := nbB_in (c := 61) (w := (dgM T p false).2.2) h2
        exact ⟨by show p ≤ (nbB T 61 _ _).2.1; omega, this.2⟩
      · exact ⟨nbM_ge hp, nbM_le hp⟩
theorem fu_in (hp : p ≤ T.2) (h : fuM T p) : p + 5 ≤ p + lkW T p (wdM T p) ∧ p + lkW T p (wdM T p) ≤ T.2 := by
  have h1 := lkW_le hp (wdM_lt (T := T) (p := p))
  have h2 : ∀ i, i < 4 → 5 ≤ bgN (i + 1) - bgN i := by decide
  have h3 := h2 _ (wdM_lt (T := T) (p := p))
  unfold fuM at h
  omega
end TM
theorem dsM_f {m f : Nat → Int32} {c : CM} {k : Nat} (h9 : k ≠ 9) (h10 : k ≠ 10) (h11 : k ≠ 11) : (dsM m f c).2 k = f k := by
  have ht : ∀ r d, thF f r d k = f k := fun r d => by unfold thF; rw [va_up_ne _ _ h11, va_up_ne _ _ h10, va_up_ne _ _ h9]
  have hu : ∀ x, va_up f 11 x k = f k := fun x => va_up_ne _ _ h11
  unfold dsM hitM gitM bitM titM
  (repeat' split) <;> first | exact ht _ _ | exact hu _ | rfl
theorem dsR_f {C : Nat → Int32} {k9 : Nat} (h9 : k9 ≠ 9) (h10 : k9 ≠ 10) (h11 : k9 ≠ 11) : ∀ (j k : Nat) (m f : Nat → Int32), (dsR C j k m f).1.2 k9 = f k9
  | 0, _, _, _ => rfl
  | j + 1, k, m, f => by
    rw [dsR]
    split
    · rw [dsR_f h9 h10 h11 j]; exact dsM_f h9 h10 h11
    · exact dsM_f h9 h10 h11

theorem ev_heatItT {l : Launch} {G : GG} (hl : l.stackTraces = false) {A : AD} {h : AH} {a : Nat → Nat → Int32} {f : Nat → Int32} {x y z : Int32} :
    Ev l G 12 0 0 mX10_heatIt [.ref (A 30 0), .int x, .int y, .int z] (mo h A (a, f)) (Rt (some (.int (hitM (a 0) f x y z).1)) (mo h A (va_up a 0 (hitM (a 0) f x y z).2.1, (hitM (a 0) f x y z).2.2))) := by
  by_cases hc : cellB x y
  · by_cases hz : amountP z
    · obtain ⟨i, j, hi, hj, rfl, rfl⟩ := cellB_ex hc
      have ec := cCell_nI hi hj
      have e0 : hitM (a 0) f (nI i) (nI j) z = if a 0 (128 + (8 * j + i)) = 35 then (-1, a 0, thF f 1 (nI (8 * j + i))) else if 9999 < a 0 (8 * j + i) + z then (-1, a 0, thF f 3 (a 0 (8 * j + i) + z - 9999)) else (a 0 (8 * j + i) + z, va_up (a 0) (8 * j + i) (a 0 (8 * j + i) + z), f) := by
        unfold hitM
        rw [if_neg (fun q => q hc), if_neg (fun q => q hz), ec]
      rw [e0]
      by_cases hr : a 0 (128 + (8 * j + i)) = 35
      · rw [if_pos hr]
        show Ev l G _ 0 0 _ _ _ (Rt _ (mo h A (va_up a 0 (a 0), _)))
        rw [va_self]
        exact ev_heatIt_no3a hl hi hj hz hr
      · rw [if_neg hr]
        by_cases hx : 9999 < a 0 (8 * j + i) + z
        · rw [if_pos hx]
          show Ev l G _ 0 0 _ _ _ (Rt _ (mo h A (va_up a 0 (a 0), _)))
          rw [va_self]
          exact ev_heatIt_no3b hl hi hj hz hr hx
        · rw [if_neg hx]
          exact ev_heatIt hl hi hj hz hr hx
    · rw [show hitM (a 0) f x y z = (-1, a 0, va_up f 11 2) from (if_neg (fun q => q hc)).trans (if_pos hz)]
      show Ev l G _ 0 0 _ _ _ (Rt _ (mo h A (va_up a 0 (a 0), _)))
      rw [va_self]
      exact ev_heatIt_no2 hl hc hz
  · rw [show hitM (a 0) f x y z = (-1, a 0, va_up f 11 1) from if_pos hc]
    show Ev l G _ 0 0 _ _ _ (Rt _ (mo h A (va_up a 0 (a 0), _)))
    rw [va_self]
    exact ev_heatIt_no1 hl hc

theorem ev_groundItT {l : Launch} {G : GG} (hl : l.stackTraces = false) {A : AD} {h : AH} {a : Nat → Nat → Int32} {f : Nat → Int32} {x y z : Int32} :
    Ev l G 12 0 0 mX10_groundIt [.ref (A 30 0), .int x, .int y, .int z] (mo h A (a, f)) (Rt (some (.int (gitM (a 0) f x y z).1)) (mo h A (va_up a 0 (gitM (a 0) f x y z).2.1, (gitM (a 0) f x y z).2.2))) := by
  by_cases hc : cellB x y
  · by_cases hz : groundP z
    · obtain ⟨i, j, hi, hj, rfl, rfl⟩ := cellB_ex hc
      have ec := cCell_nI hi hj
      have e0 : gitM (a 0) f (nI i) (nI j) z = if z = 35 ∧ 0 < a 0 (8 * j + i) + a 0 (64 + (8 * j + i)) then (-1, a 0, thF f 2 (a 0 (8 * j + i) + a 0 (64 + (8 * j + i)))) else (a 0 (128 + (8 * j + i)), va_up (a 0) (128 + (8 * j + i)) z, f) := by
        unfold gitM
        rw [if_neg (fun q => q hc), if_neg (fun q => q hz), ec]
      rw [e0]
      by_cases hr : z = 35 ∧ 0 < a 0 (8 * j + i) + a 0 (64 + (8 * j + i))
      · rw [if_pos hr]
        show Ev l G _ 0 0 _ _ _ (Rt _ (mo h A (va_up a 0 (a 0), _)))
        rw [va_self]
        exact ev_groundIt_no3 hl hi hj hz hr.1 hr.2
      · rw [if_neg hr]
        exact ev_groundIt hl hi hj hz hr
    · rw [show gitM (a 0) f x y z = (-1, a 0, va_up f 11 2) from (if_neg (fun q => q hc)).trans (if_pos hz)]
      show Ev l G _ 0 0 _ _ _ (Rt _ (mo h A (va_up a 0 (a 0), _)))
      rw [va_self]
      exact ev_groundIt_no2 hl hc hz
  · rw [show gitM (a 0) f x y z = (-1, a 0, va_up f 11 1) from if_pos hc]
    show Ev l G _ 0 0 _ _ _ (Rt _ (mo h A (va_up a 0 (a 0), _)))
    rw [va_self]
    exact ev_groundIt_no1 hl hc

theorem ev_borderItT {l : Launch} {G : GG} (hl : l.stackTraces = false) {A : AD} {h : AH} {a : Nat → Nat → Int32} {f : Nat → Int32} {x z : Int32} :
    Ev l G 11 0 0 mX10_borderIt [.ref (A 30 0), .int x, .int z] (mo h A (a, f)) (Rt (some (.int (bitM (a 0) f x z).1)) (mo h A (va_up a 0 (bitM (a 0) f x z).2.1, (bitM (a 0) f x z).2.2))) := by
  by_cases hc : sideP x
  · have hc' : 0 ≤ x ∧ x ≤ 3 := ⟨hc.1, (lt_le1 (n := 3) (b := 4) rfl rfl (by decide) hc.1).mpr hc.2⟩
    by_cases hz : tempP z
    · obtain ⟨i, hi, rfl⟩ := nI_ex (b := 4) (n := 4) rfl (by decide) hc.1 hc.2
      rw [show bitM (a 0) f (nI i) z = (a 0 (192 + i), va_up (a 0) (192 + i) z, f) from by unfold bitM; rw [if_neg (fun q => q hc), if_neg (fun q => q hz), nI_cl (by omega)]]
      exact ev_borderIt hl hi hz
    · rw [show bitM (a 0) f x z = (-1, a 0, va_up f 11 2) from (if_neg (fun q => q hc)).trans (if_pos hz)]
      show Ev l G _ 0 0 _ _ _ (Rt _ (mo h A (va_up a 0 (a 0), _)))
      rw [va_self]
      exact ev_borderIt_no2 hl hc' hz
  · rw [show bitM (a 0) f x z = (-1, a 0, va_up f 11 1) from if_pos hc]
    show Ev l G _ 0 0 _ _ _ (Rt _ (mo h A (va_up a 0 (a 0), _)))
    rw [va_self]
    exact ev_borderIt_no1 hl (fun q => hc ⟨q.1, (lt_le1 (n := 3) (a := 3) rfl rfl (by decide) q.1).mp q.2⟩)

theorem tick_ex {x : Int32} (h : tickP x) : ∃ n, 1 ≤ n ∧ n ≤ 20 ∧ x = nI n := by
  have h0 : 0 ≤ x := Int32.le_trans (by decide) h.1
  obtain ⟨e, hl⟩ := nI_ofS h0
  refine ⟨x.toNatClampNeg, ?_, ?_, e⟩
  · have := h.1; rw [e] at this; exact (le_nI (a := 1) rfl (by decide) hl).mp this
  · have := h.2; rw [e] at this; exact (nI_le' (b := 20) rfl hl (by decide)).mp this
theorem tab_out {x : Int32} (h0 : ¬ x = 0) (h1 : ¬ x = 1) (h2 : ¬ x = 2) : x.toInt < 0 ∨ 2 < x.toInt := by
  have e0 : ¬ x.toInt = 0 := fun q => h0 (Int32.toInt_inj.mp q)
  have e1 : ¬ x.toInt = 1 := fun q => h1 (Int32.toInt_inj.mp q)
  have e2 : ¬ x.toInt = 2 := fun q => h2 (Int32.toInt_inj.mp q)
  omega

set_option maxRecDepth 100000 in
theorem ev_does {l : Launch} {G : GG} (hl : l.stackTraces = false) {A : AD} {h : AH} {a : Nat → Nat → Int32} {f : Nat → Int32} {T R m : Nat → Int32} {k : Nat} (hk : k < 60) :
    Ev l G 14 0 0 mX10_does [.ref (A 30 0), .int (nI (4 * k))] (mo h A (A3 a T R m, f)) (RtX none (fun x : (Nat → Int32) × (Nat → Int32) => (mo h A (A3 a x.1 x.2 (dsM m f (cmA (a 14) k)).1, (dsM m f (cmA (a 14) k)).2)))) := by
  refine Ev.of hl (by decide) (Nat.le_of_ble_eq_true rfl) ?_
  refine g_aload_n (i := 0) dX10_does_0 rfl rfl ?_
  refine g_getf dX10_does_1 K_X10 (k := 23) fl_X10_61 (Nat.le_of_ble_eq_true rfl) mo_30 rfl ?_
  refine g_iload_n (i := 1) dX10_does_4 rfl rfl ?_
  refine g_iconst (v := 1) dX10_does_5 (by decide) ?_
  refine g_iadd dX10_does_6 ?_
  refine g_iald dX10_does_7 mo_45 (show ix (nI (4 * k) + 1) (4 * k + 1) by rw [show nI (4 * k) + 1 = nI (4 * k + 1) from nI_add (4 * k) 1]; exact ix_nI (by omega)) (show 4 * k + 1 < 244 by omega) ?_
  refine g_istore_n (i := 2) dX10_does_8 rfl (Nat.le_of_ble_eq_true rfl) ?_
  refine g_aload_n (i := 0) dX10_does_9 rfl rfl ?_
  refine g_getf dX10_does_10 K_X10 (k := 23) fl_X10_61 (Nat.le_of_ble_eq_true rfl) mo_30 rfl ?_
  refine g_iload_n (i := 1) dX10_does_13 rfl rfl ?_
  refine g_iconst (v := 2) dX10_does_14 (by decide) ?_
  refine g_iadd dX10_does_15 ?_
  refine g_iald dX10_does_16 mo_45 (show ix (nI (4 * k) + 2) (4 * k + 2) by rw [show nI (4 * k) + 2 = nI (4 * k + 2) from nI_add (4 * k) 2]; exact ix_nI (by omega)) (show 4 * k + 2 < 244 by omega) ?_
  refine g_istore_n (i := 3) dX10_does_17 rfl (Nat.le_of_ble_eq_true rfl) ?_
  refine g_aload_n (i := 0) dX10_does_18 rfl rfl ?_
  refine g_getf dX10_does_19 K_X10 (k := 23) fl_X10_61 (Nat.le_of_ble_eq_true rfl) mo_30 rfl ?_
  refine g_iload_n (i := 1) dX10_does_22 rfl rfl ?_
  refine g_iconst (v := 3) dX10_does_23 (by decide) ?_
  refine g_iadd dX10_does_24 ?_
  refine g_iald dX10_does_25 mo_45 (show ix (nI (4 * k) + 3) (4 * k + 3) by rw [show nI (4 * k) + 3 = nI (4 * k + 3) from nI_add (4 * k) 3]; exact ix_nI (by omega)) (show 4 * k + 3 < 244 by omega) ?_
  refine g_istore dX10_does_26 (Nat.le_of_ble_eq_true rfl) ?_
  refine g_aload_n (i := 0) dX10_does_28 rfl rfl ?_
  refine g_getf dX10_does_29 K_X10 (k := 23) fl_X10_61 (Nat.le_of_ble_eq_true rfl) mo_30 rfl ?_
  refine g_iload_n (i := 1) dX10_does_32 rfl rfl ?_
  refine g_iald dX10_does_33 mo_45 (ix_nI (j := 4 * k) (by omega)) (show 4 * k + 0 < 244 by omega) ?_
  by_cases k0 : (a 14 (4 * k)) = 0
  · rw [show ((A3 a T R m) 14 (4 * k)) = 0 from k0]
    refine g_tabIn (tgt := 60) dX10_does_34 (by decide) (by decide) rfl (by decide) ?_
    refine g_aload_n (i := 0) dX10_does_60 rfl rfl ?_
    refine g_iload_n (i := 2) dX10_does_61 rfl rfl ?_
    refine g_iload_n (i := 3) dX10_does_62 rfl rfl ?_
    refine g_iload dX10_does_63 rfl ?_
    refine g_callV (ev_heatItT hl (a := (A3 a T R m))) dX10_does_65 ml_X10_130 cvX10_heatIt K_X10 rfl mo_30 rfl rfl (Nat.le_of_ble_eq_true rfl) (Nat.le_of_ble_eq_true rfl) (Nat.zero_le _) (Nat.zero_le _) (kr_rt ?_) kx_rt
    refine g_pop dX10_does_68 rfl ?_
    refine g_goto (tgt := 100) dX10_does_69 (by decide) ?_
    refine g_vret dX10_does_100 rfl ?_
    have e : (dsM m f (cmA (a 14) k)) = (hitM m f (a 14 (4 * k + 1)) (a 14 (4 * k + 2)) (a 14 (4 * k + 3))).2 := if_pos k0
    refine ⟨rfl, (T, R), ?_⟩
    show mo h A (va_up (A3 a T R m) 0 _, _) = _
    rw [A3_0, e]
    rfl
  · by_cases k1 : (a 14 (4 * k)) = 1
    · rw [show ((A3 a T R m) 14 (4 * k)) = 1 from k1]
      refine g_tabIn (tgt := 72) dX10_does_34 (by decide) (by decide) rfl (by decide) ?_
      refine g_aload_n (i := 0) dX10_does_72 rfl rfl ?_
      refine g_iload_n (i := 2) dX10_does_73 rfl rfl ?_
      refine g_iload_n (i := 3) dX10_does_74 rfl rfl ?_
      refine g_iload dX10_does_75 rfl ?_
      refine g_callV (ev_groundItT hl (a := (A3 a T R m))) dX10_does_77 ml_X10_121 cvX10_groundIt K_X10 rfl mo_30 rfl rfl (Nat.le_of_ble_eq_true rfl) (Nat.le_of_ble_eq_true rfl) (Nat.zero_le _) (Nat.zero_le _) (kr_rt ?_) kx_rt
      refine g_pop dX10_does_80 rfl ?_
      refine g_goto (tgt := 100) dX10_does_81 (by decide) ?_
      refine g_vret dX10_does_100 rfl ?_
      have e : (dsM m f (cmA (a 14) k)) = (gitM m f (a 14 (4 * k + 1)) (a 14 (4 * k + 2)) (a 14 (4 * k + 3))).2 := (if_neg k0).trans (if_pos k1)
      refine ⟨rfl, (T, R), ?_⟩
      show mo h A (va_up (A3 a T R m) 0 _, _) = _
      rw [A3_0, e]
      rfl
    · by_cases k2 : (a 14 (4 * k)) = 2
      · rw [show ((A3 a T R m) 14 (4 * k)) = 2 from k2]
        refine g_tabIn (tgt := 84) dX10_does_34 (by decide) (by decide) rfl (by decide) ?_
        refine g_aload_n (i := 0) dX10_does_84 rfl rfl ?_
        refine g_iload_n (i := 2) dX10_does_85 rfl rfl ?_
        refine g_iload_n (i := 3) dX10_does_86 rfl rfl ?_
        refine g_callV (ev_borderItT hl (a := (A3 a T R m))) dX10_does_87 ml_X10_137 cvX10_borderIt K_X10 rfl mo_30 rfl rfl (Nat.le_of_ble_eq_true rfl) (Nat.le_of_ble_eq_true rfl) (Nat.zero_le _) (Nat.zero_le _) (kr_rt ?_) kx_rt
        refine g_pop dX10_does_90 rfl ?_
        refine g_goto (tgt := 100) dX10_does_91 (by decide) ?_
        refine g_vret dX10_does_100 rfl ?_
        have e : (dsM m f (cmA (a 14) k)) = (bitM m f (a 14 (4 * k + 1)) (a 14 (4 * k + 2))).2 := (if_neg k0).trans ((if_neg k1).trans (if_pos k2))
        refine ⟨rfl, (T, R), ?_⟩
        show mo h A (va_up (A3 a T R m) 0 _, _) = _
        rw [A3_0, e]
        rfl
      · have e4 : (dsM m f (cmA (a 14) k)) = (titM m f (a 14 (4 * k + 1))).2 := (if_neg k0).trans ((if_neg k1).trans (if_neg k2))
        refine g_tabOut (tgt := 94) dX10_does_34 (tab_out k0 k1 k2) (by decide) ?_
        by_cases ht : tickP (a 14 (4 * k + 1))
        · have e5 : titM m f (a 14 (4 * k + 1)) = (mtR m (a 14 (4 * k + 1)).toNatClampNeg, mtk m (a 14 (4 * k + 1)).toNatClampNeg, f) := if_neg (fun q => q ht)
          obtain ⟨n, h1, h2, en⟩ := tick_ex ht
          have ec : (a 14 (4 * k + 1)).toNatClampNeg = n := by rw [en, nI_cl (by omega)]
          rw [ec] at e5
          rw [show ((A3 a T R m) 14 (4 * k + 1)) = nI n from en]
          refine g_aload_n (i := 0) dX10_does_94 rfl rfl ?_
          refine g_iload_n (i := 2) dX10_does_95 rfl rfl ?_
          refine g_callV (ev_ticksIt hl h1 h2) dX10_does_96 ml_X10_146 cvX10_ticksIt K_X10 rfl mo_30 rfl rfl (Nat.le_of_ble_eq_true rfl) (Nat.le_of_ble_eq_true rfl) (Nat.zero_le _) (Nat.zero_le _) (kr_x (fun x9 => ?_)) kx_x
          refine g_pop dX10_does_99 rfl ?_
          refine g_vret dX10_does_100 rfl ?_
          refine ⟨rfl, x9, ?_⟩
          rw [e4, e5]
        · have e5 : titM m f (a 14 (4 * k + 1)) = (-1, m, va_up f 11 1) := if_pos ht
          refine g_aload_n (i := 0) dX10_does_94 rfl rfl ?_
          refine g_iload_n (i := 2) dX10_does_95 rfl rfl ?_
          refine g_callV (ev_ticksIt_no hl (a := (A3 a T R m)) ht) dX10_does_96 ml_X10_146 cvX10_ticksIt K_X10 rfl mo_30 rfl rfl (Nat.le_of_ble_eq_true rfl) (Nat.le_of_ble_eq_true rfl) (Nat.zero_le _) (Nat.zero_le _) (kr_rt ?_) kx_rt
          refine g_pop dX10_does_99 rfl ?_
          refine g_vret dX10_does_100 rfl ?_
          refine ⟨rfl, (T, R), ?_⟩
          rw [e4, e5]

