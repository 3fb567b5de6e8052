/-! Regions by unions. -/
theorem fb_ct_lt {q : Nat → Bool} {j n : Nat} (hj : j < n) (h : q j = true) : fb_ct q j < fb_ct q n := by
  have h1 := fb_ct_mono q (show j + 1 ≤ n by omega)
  rw [fb_ct_succ, if_pos h] at h1
  omega
theorem fb_inj_le {p q : Nat → Bool} {n : Nat} (f : Nat → Nat) (h : ∀ i, i < n → p i = true → f i < n ∧ q (f i) = true) (hi : ∀ i j, i < n → j < n → p i = true → p j = true → f i = f j → i = j) : fb_ct p n ≤ fb_ct q n := by
  have hk : ∀ k, ∃ i, k < fb_ct p n → i < n ∧ p i = true ∧ fb_ct p i = k := fun k => by
    by_cases e : k < fb_ct p n
    · obtain ⟨i, h1⟩ := fb_ct_kth e
      exact ⟨i, fun _ => h1⟩
    · exact ⟨0, fun q => absurd q e⟩
  refine fb_holes (fb_ct q n) (fb_ct p n) (fun k => fb_ct q (f (Classical.choose (hk k)))) (fun k hk2 => ?_) (fun k k2 h1 h2 e => ?_)
  · have z := Classical.choose_spec (hk k) hk2
    have y := h _ z.1 z.2.1
    exact fb_ct_lt y.1 y.2
  · have z := Classical.choose_spec (hk k) (by omega)
    have z2 := Classical.choose_spec (hk k2) h2
    have y := h _ z.1 z.2.1
    have y2 := h _ z2.1 z2.2.1
    have e1 := fb_ct_kth_one y.2 y2.2 e
    have e2 := hi _ _ z.1 z2.1 z.2.1 z2.2.1 e1
    have e3 := z.2.2
    rw [e2, z2.2.2] at e3
    omega
/-- depths in a forest -/
def ufD (q d : Nat → Nat) (u : Nat) : Prop := ∀ c, c < 64 → q c < 64 ∧ d c ≤ u ∧ (q c = c → d c = 0) ∧ (q c ≠ c → d c = d (q c) + 1)
def ufI (b : Int64) (q : Nat → Nat) (u m : Nat) : Prop :=
  (∃ d, ufD q d u) ∧ (∀ c, c < 64 → ∀ e, e < 64 → rootN q 64 c = rootN q 64 e → con (spr (tb b) 0) c e) ∧ fb_ct (fun c => tb b c && decide (q c = c)) 64 = m ∧ fb_ct (fun c => decide (q c = c)) 64 + u = 64 ∧ u ≤ 63
section UF
variable {b : Int64} {q d : Nat → Nat} {u m : Nat}
theorem rt_self {c : Nat} (h : q c = c) : ∀ j, rootN q j c = c
  | 0 => rfl
  | j + 1 => if_pos h
theorem rt_ok (hd : ufD q d u) : ∀ (j c : Nat), c < 64 → d c ≤ j → rootN q j c < 64 ∧ q (rootN q j c) = rootN q j c ∧ ∀ j2, d c ≤ j2 → rootN q j2 c = rootN q j c
  | 0, c, hc, hj => by
    have h := hd c hc
    have e : q c = c := by
      by_cases e : q c = c
      · exact e
      · have := h.2.2.2 e; omega
    exact ⟨hc, e, fun j2 _ => rt_self e j2⟩
  | j + 1, c, hc, hj => by
    have h := hd c hc
    by_cases e : q c = c
    · rw [rt_self e]
      exact ⟨hc, e, fun j2 _ => rt_self e j2⟩
    · have h2 := h.2.2.2 e
      have ih := rt_ok hd j (q c) h.1 (by omega)
      have e1 : rootN q (j + 1) c = rootN q j (q c) := if_neg e
      rw [e1]
      refine ⟨ih.1, ih.2.1, fun j2 hj2 => ?_⟩
      obtain ⟨j3, rfl⟩ : ∃ j3, j2 = j3 + 1 := ⟨j2 - 1, by omega⟩
      rw [show rootN q (j3 + 1) c = rootN q j3 (q c) from if_neg e]
      exact ih.2.2 j3 (by omega)
theorem rt_64 (hd : ufD q d u) (hu : u ≤ 63) {c : Nat} (hc : c < 64) : rootN q 64 c < 64 ∧ q (rootN q 64 c) = rootN q 64 c ∧ rootN q 64 (q c) = rootN q 64 c := by
  have h := hd c hc
  have z := rt_ok hd 64 c hc (by omega)
  refine ⟨z.1, z.2.1, ?_⟩
  by_cases e : q c = c
  · rw [e]
  · have h2 := h.2.2.2 e
    rw [show rootN q 64 c = rootN q 63 (q c) from if_neg e]
    exact ((rt_ok hd 63 (q c) h.1 (by omega)).2.2 64 (by omega))
theorem uf_rt {r1 r2 : Nat} (hd : ufD q d u) (hu : u ≤ 62) (h1 : r1 < 64) (h2 : r2 < 64) (e1 : q r1 = r1) (e2 : q r2 = r2) (hne : r1 ≠ r2) :
    (∃ d', ufD (va_up q r2 r1) d' (u + 1)) ∧ ∀ c, c < 64 → rootN (va_up q r2 r1) 64 c = if rootN q 64 c = r2 then r1 else rootN q 64 c := by
  have hd' : ufD (va_up q r2 r1) (fun c => if rootN q 64 c = r2 then d c + 1 else d c) (u + 1) := by
    intro c hc
    have h := hd c hc
    have hr := rt_64 hd (by omega) hc
    by_cases ec : c = r2
    · subst ec
      rw [va_up_self]
      have z1 : (if rootN q 64 c = c then d c + 1 else d c) = d c + 1 := if_pos (rt_self e2 64)
      have z2 : (if rootN q 64 r1 = c then d r1 + 1 else d r1) = d r1 := if_neg (by rw [rt_self e1]; exact hne)
      refine ⟨h1, by show (if rootN q 64 c = c then d c + 1 else d c) ≤ u + 1; rw [z1]; omega, fun q9 => absurd q9 hne, fun _ => ?_⟩
      show (if rootN q 64 c = c then d c + 1 else d c) = (if rootN q 64 r1 = c then d r1 + 1 else d r1) + 1
      rw [z1, z2, h.2.2.1 e2, (hd r1 h1).2.2.1 e1]
    · rw [va_up_ne _ _ ec]
      refine ⟨h.1, by show (if rootN q 64 c = r2 then d c + 1 else d c) ≤ u + 1; split <;> omega, fun e => ?_, fun e => ?_⟩
      · show (if rootN q 64 c = r2 then d c + 1 else d c) = 0
        rw [if_neg (by rw [rt_self e]; exact ec)]
        exact h.2.2.1 e
      · show (if rootN q 64 c = r2 then d c + 1 else d c) = (if rootN q 64 (q c) = r2 then d (q c) + 1 else d (q c)) + 1
        rw [hr.2.2, h.2.2.2 e]
        split <;> rfl
  refine ⟨⟨_, hd'⟩, ?_⟩
  have key : ∀ n c, c < 64 → d c = n → rootN (va_up q r2 r1) 64 c = if rootN q 64 c = r2 then r1 else rootN q 64 c := by
    intro n
    induction n with
    | zero =>
      intro c hc hn
      have e : q c = c := by
        by_cases e : q c = c
        · exact e
        · have := (hd c hc).2.2.2 e; omega
      rw [rt_self e 64]
      by_cases ec : c = r2
      · subst ec
        rw [if_pos rfl, ← (rt_64 hd' (by omega) hc).2.2, va_up_self]
        exact rt_self (by rw [va_up_ne _ _ hne]; exact e1) 64
      · rw [if_neg ec]
        exact rt_self (by rw [va_up_ne _ _ ec]; exact e) 64
    | succ n ih =>
      intro c hc hn
      have e : q c ≠ c := fun q9 => by have := (hd c hc).2.2.1 q9; omega
      have ec : c ≠ r2 := fun q9 => e (by rw [q9]; exact e2)
      have z := (hd c hc).2.2.2 e
      rw [← (rt_64 hd' (by omega) hc).2.2, va_up_ne _ _ ec, ih (q c) (hd c hc).1 (by omega), (rt_64 hd (by omega) hc).2.2]
  exact fun c hc => key _ c hc rfl
theorem uf_step (h : ufI b q u m) {c n : Nat} (hc : c < 64) (hn : n < 64) (ht : tch 0 c n = true) (hp : unP b c n) :
    (rootN q 64 c = rootN q 64 n → va_up q (rootN q 64 n) (rootN q 64 c) = q) ∧
    (rootN q 64 c ≠ rootN q 64 n → 1 ≤ m ∧ ufI b (va_up q (rootN q 64 n) (rootN q 64 c)) (u + 1) (m - 1) ∧ ∀ x, x < 64 → rootN (va_up q (rootN q 64 n) (rootN q 64 c)) 64 x = if rootN q 64 x = rootN q 64 n then rootN q 64 c else rootN q 64 x) := by
  obtain ⟨⟨d, hd⟩, hs, hm, hr, hu⟩ := h
  have rc := rt_64 hd hu hc
  have rn := rt_64 hd hu hn
  refine ⟨fun e => ?_, fun hne => ?_⟩
  · rw [e]
    conv => lhs; rw [show rootN q 64 n = q (rootN q 64 n) from rn.2.1.symm]
    rw [rn.2.1]
    have := va_self q (rootN q 64 n)
    rw [rn.2.1] at this
    exact this
  · have bc : tb b c = true := (inJ_iff hc).mp hp.1
    have bn : tb b n = true := (inJ_iff hn).mp hp.2
    have edge : con (spr (tb b) 0) c n := con_one ⟨hc, hn, bc, bn, ht⟩
    have br : tb b (rootN q 64 n) = true := (con_in (hs n hn _ rn.1 (by rw [rt_self rn.2.1])) ⟨hn, bn⟩).2
    have hcnt : 2 ≤ fb_ct (fun c => decide (q c = c)) 64 := by
      have z := fb_ct_upd (fun c => decide (q c = c)) false rn.1
      have z2 : 0 < fb_ct (fun k => if k = rootN q 64 n then false else decide (q k = k)) 64 := fb_ct_pos.mpr ⟨rootN q 64 c, rc.1, by rw [if_neg hne]; exact decide_eq_true rc.2.1⟩
      rw [if_pos (decide_eq_true rn.2.1)] at z
      simp only [Bool.false_eq_true, if_false] at z
      omega
    obtain ⟨hd', hrt⟩ := uf_rt hd (by omega) rc.1 rn.1 rc.2.1 rn.2.1 hne
    have cut : ∀ x, decide (va_up q (rootN q 64 n) (rootN q 64 c) x = x) = if x = rootN q 64 n then false else decide (q x = x) := fun x => by
      by_cases e : x = rootN q 64 n
      · rw [if_pos e, e, va_up_self]; exact decide_eq_false hne
      · rw [if_neg e, va_up_ne _ _ e]
    have m1 : fb_ct (fun x => tb b x && decide (va_up q (rootN q 64 n) (rootN q 64 c) x = x)) 64 + 1 = m := by
      have z := fb_ct_upd (fun c => tb b c && decide (q c = c)) false rn.1
      rw [if_pos (by rw [br, decide_eq_true rn.2.1]; rfl)] at z
      simp only [Bool.false_eq_true, if_false] at z
      rw [hm] at z
      refine Eq.trans (congrArg (fun q9 => q9 + 1) ?_) z
      refine fb_ct_cong (fun x hx => ?_)
      rw [cut x]
      by_cases e : x = rootN q 64 n
      · rw [if_pos e, if_pos e, Bool.and_false]
      · rw [if_neg e, if_neg e]
    have r1 : fb_ct (fun x => decide (va_up q (rootN q 64 n) (rootN q 64 c) x = x)) 64 + 1 = fb_ct (fun c => decide (q c = c)) 64 := by
      have z := fb_ct_upd (fun c => decide (q c = c)) false rn.1
      rw [if_pos (decide_eq_true rn.2.1)] at z
      simp only [Bool.false_eq_true, if_false] at z
      refine Eq.trans (congrArg (fun q9 => q9 + 1) ?_) z
      exact fb_ct_cong (fun x hx => cut x)
    refine ⟨by omega, ⟨hd', fun x hx y hy e => ?_, by omega, by omega, by omega⟩, hrt⟩
    rw [hrt x hx, hrt y hy] at e
    by_cases ex : rootN q 64 x = rootN q 64 n <;> by_cases ey : rootN q 64 y = rootN q 64 n
    · exact hs x hx y hy (ex.trans ey.symm)
    · rw [if_pos ex, if_neg ey] at e
      exact con_trans (hs x hx n hn ex) (con_trans (con_sy edge) (hs c hc y hy e))
    · rw [if_neg ex, if_pos ey] at e
      exact con_trans (hs x hx c hc e) (con_trans edge (hs n hn y hy ey.symm))
    · rw [if_neg ex, if_neg ey] at e
      exact hs x hx y hy e
end UF
/-- right and lower neighbours -/
theorem nb_rb : ∀ c, c < 64 → ∀ d, d < 64 → (tch 0 c d = true ↔ (nb c 1 = some d ∨ nb c 2 = some d ∨ nb d 1 = some c ∨ nb d 2 = some c)) := by
  have h : ∀ c, c < 64 → ∀ d, d < 64 → tch 0 c d = decide (nb c 1 = some d ∨ nb c 2 = some d ∨ nb d 1 = some c ∨ nb d 2 = some c) := by decide +kernel
  intro c hc d hd
  rw [h c hc d hd, decide_eq_true_iff]
/-- one step, of whichever neighbour -/
theorem uf_one {b : Int64} {q : Nat → Nat} {u m : Nat} (h : ufI b q u m) {c : Nat} (hc : c < 64) {o : Option Nat} (ho : ∀ n, o = some n → n < 64 ∧ tch 0 c n = true) :
    ∃ u' m', ufI b (unQ b c q o) u' m' ∧ ((unV b c q o = 0 ∧ m' = m) ∨ (unV b c q o = 1 ∧ m' + 1 = m)) ∧ (∀ x y, x < 64 → y < 64 → rootN q 64 x = rootN q 64 y → rootN (unQ b c q o) 64 x = rootN (unQ b c q o) 64 y) ∧ ∀ n, o = some n → unP b c n → rootN (unQ b c q o) 64 c = rootN (unQ b c q o) 64 n := by
  cases o with
  | none => exact ⟨u, m, h, Or.inl ⟨rfl, rfl⟩, fun x y _ _ e => e, fun n e => by cases e⟩
  | some n =>
    obtain ⟨hn, ht⟩ := ho n rfl
    by_cases hp : unP b c n
    · have z := uf_step h hc hn ht hp
      have eq : unQ b c q (some n) = va_up q (rootN q 64 n) (rootN q 64 c) := if_pos hp
      rw [eq]
      by_cases e : rootN q 64 c = rootN q 64 n
      · rw [z.1 e]
        refine ⟨u, m, h, Or.inl ⟨if_neg (fun w => w.2 e), rfl⟩, fun x y _ _ e => e, fun n2 e2 _ => by cases e2; exact e⟩
      · obtain ⟨z1, z2, z3⟩ := z.2 e
        refine ⟨u + 1, m - 1, z2, Or.inr ⟨if_pos ⟨hp, e⟩, by omega⟩, fun x y hx hy e1 => by rw [z3 x hx, z3 y hy, e1], fun n2 e2 _ => ?_⟩
        cases e2
        rw [z3 c hc, z3 n hn, if_neg e, if_pos rfl]
    · have eq : unQ b c q (some n) = q := if_neg hp
      rw [eq]
      exact ⟨u, m, h, Or.inl ⟨if_neg (fun w => hp w.1), rfl⟩, fun x y _ _ e => e, fun n2 e2 w => by cases e2; exact absurd w hp⟩
theorem nb_tch {c s n : Nat} (hc : c < 64) (hs : s = 1 ∨ s = 2) (e : nb c s = some n) : n < 64 ∧ tch 0 c n = true := by
  have hn := (nb_symm c hc s (by omega) n e).1
  refine ⟨hn, (nb_rb c hc n hn).mpr ?_⟩
  rcases hs with rfl | rfl
  · exact Or.inl e
  · exact Or.inr (Or.inl e)
theorem uf_all {b : Int64} : ∀ k, k ≤ 64 → ∃ u m, ufI b (unAQ b k) u m ∧ unAN b k = nI m ∧ ∀ c, c < k → ∀ s n, s = 1 ∨ s = 2 → nb c s = some n → unP b c n → rootN (unAQ b k) 64 c = rootN (unAQ b k) 64 n
  | 0, _ => by
    refine ⟨0, fb_ct (tb b) 64, ⟨⟨fun _ => 0, fun c hc => ⟨hc, Nat.le_refl _, fun _ => rfl, fun e => absurd rfl e⟩⟩, fun c hc e he q => ?_, ?_, ?_, by omega⟩, ?_, fun c hc => absurd hc (Nat.not_lt_zero c)⟩
    · rw [rt_self (q := unAQ b 0) rfl, rt_self (q := unAQ b 0) rfl] at q
      subst q
      exact con_refl
    · refine fb_ct_cong (fun c hc => ?_)
      rw [show decide (unAQ b 0 c = c) = true from decide_eq_true rfl, Bool.and_true]
    · rw [show fb_ct (fun c => decide (unAQ b 0 c = c)) 64 = 64 from fb_ct_all.mpr (fun c hc => decide_eq_true rfl)]
    · rw [unAN, pcJ_cnt]
  | k + 1, hk => by
    obtain ⟨u, m, h, hm, hall⟩ := uf_all (b := b) k (by omega)
    obtain ⟨u1, m1, h1, v1, k1, p1⟩ := uf_one h (c := k) (by omega) (o := nb k 1) (fun n e => nb_tch (by omega) (Or.inl rfl) e)
    obtain ⟨u2, m2, h2, v2, k2, p2⟩ := uf_one h1 (c := k) (by omega) (o := nb k 2) (fun n e => nb_tch (by omega) (Or.inr rfl) e)
    refine ⟨u2, m2, h2, ?_, fun c hc s n hs e hp => ?_⟩
    · rw [unAN, hm]
      have e1 : (if unV b k (unAQ b k) (nb k 1) = 0 then nI m else nI m + -1) = nI m1 := by
        rcases v1 with ⟨v, e⟩ | ⟨v, e⟩
        · rw [if_pos v, e]
        · rw [if_neg (by rw [v]; decide), ← e, nI_dec]
      rw [e1]
      rcases v2 with ⟨v, e⟩ | ⟨v, e⟩
      · rw [if_pos v, e]; exact Int32.add_zero _
      · rw [if_neg (by rw [v]; decide), ← e, nI_dec]
    · have hn := (nb_tch (show c < 64 by omega) hs e).1
      rcases (show c < k ∨ c = k by omega) with hlt | rfl
      · exact k2 _ _ (by omega) hn (k1 _ _ (by omega) hn (hall c hlt s n hs e hp))
      · rcases hs with rfl | rfl
        · exact k2 _ _ (by omega) hn (p1 n e hp)
        · exact p2 n e hp
/-- regions by unions are counted by their lowest cells -/
theorem un_eq {b : Int64} : unAN b 64 = cntP (isMn (tb b) 0) 64 := by
  obtain ⟨u, m, h, hm, hall⟩ := uf_all (b := b) 64 (Nat.le_refl _)
  obtain ⟨⟨d, hd⟩, hs, hc, hr, hu⟩ := h
  have hcon : ∀ c e, c < 64 → e < 64 → tb b c = true → con (spr (tb b) 0) c e → rootN (unAQ b 64) 64 c = rootN (unAQ b 64) 64 e := fun c e hc he hb h => by
    refine (con_ind (p := fun x => x < 64 ∧ rootN (unAQ b 64) 64 c = rootN (unAQ b 64) 64 x) (fun x y r hx => ⟨r.2.1, hx.2.trans ?_⟩) h ⟨hc, rfl⟩).2
    have bx := (inJ_iff r.1).mpr r.2.2.1
    have by_ := (inJ_iff r.2.1).mpr r.2.2.2.1
    rcases (nb_rb x r.1 y r.2.1).mp r.2.2.2.2 with q | q | q | q
    · exact hall x r.1 1 y (Or.inl rfl) q ⟨bx, by_⟩
    · exact hall x r.1 2 y (Or.inr rfl) q ⟨bx, by_⟩
    · exact (hall y r.2.1 1 x (Or.inl rfl) q ⟨by_, bx⟩).symm
    · exact (hall y r.2.1 2 x (Or.inr rfl) q ⟨by_, bx⟩).symm
  rw [hm, cntP_ct (q := fun c => @decide (isMn (tb b) 0 c) (Classical.propDecidable _)) 64 (fun i hi => (@decide_eq_true_iff _ (Classical.propDecidable _)).symm), ← hc]
  congr 1
  refine Nat.le_antisymm ?_ ?_
  · -- a root's part has a lowest cell
    have low : ∀ c, c < 64 → tb b c = true → ∃ e, e < 64 ∧ isMn (tb b) 0 e ∧ con (spr (tb b) 0) c e := fun c hc hb => by
      have ex : ∃ e, e < 64 ∧ @decide (con (spr (tb b) 0) c e) (Classical.propDecidable _) = true := ⟨c, hc, @decide_eq_true _ (Classical.propDecidable _) con_refl⟩
      obtain ⟨e, he, h1, h2⟩ := fb_first (p := fun e => @decide (con (spr (tb b) 0) c e) (Classical.propDecidable _) = true) ex
      have h1' := (@decide_eq_true_iff _ (Classical.propDecidable _)).mp h1
      refine ⟨e, he, ⟨(con_in h1' ⟨hc, hb⟩).2, fun x hx => Nat.not_lt.mp (fun q => h2 x q (@decide_eq_true _ (Classical.propDecidable _) (con_trans h1' hx)))⟩, h1'⟩
    refine fb_inj_le (fun c => if h : c < 64 ∧ tb b c = true then Classical.choose (low c h.1 h.2) else 0) (fun i hi hp => ?_) (fun i j hi hj hp hq e => ?_)
    · have hb := (Bool.and_eq_true _ _ ▸ hp).1
      have z := Classical.choose_spec (low i hi hb)
      rw [dif_pos ⟨hi, hb⟩]
      exact ⟨z.1, @decide_eq_true _ (Classical.propDecidable _) z.2.1⟩
    · have pi := Bool.and_eq_true _ _ ▸ hp
      have pj := Bool.and_eq_true _ _ ▸ hq
      rw [dif_pos ⟨hi, pi.1⟩, dif_pos ⟨hj, pj.1⟩] at e
      have zi := Classical.choose_spec (low i hi pi.1)
      have zj := Classical.choose_spec (low j hj pj.1)
      have hij : con (spr (tb b) 0) i j := con_trans zi.2.2 (by rw [e]; exact con_sy zj.2.2)
      have z := hcon i j hi hj pi.1 hij
      rw [rt_self (of_decide_eq_true pi.2), rt_self (of_decide_eq_true pj.2)] at z
      exact z
  · refine fb_inj_le (fun c => rootN (unAQ b 64) 64 c) (fun i hi hp => ?_) (fun i j hi hj hp hq e => ?_)
    · have mn := (@decide_eq_true_iff _ (Classical.propDecidable _)).mp hp
      have r := rt_64 hd hu hi
      refine ⟨r.1, ?_⟩
      show (tb b (rootN (unAQ b 64) 64 i) && decide (unAQ b 64 (rootN (unAQ b 64) 64 i) = rootN (unAQ b 64) 64 i)) = true
      rw [(con_in (hs i hi _ r.1 (by rw [rt_self r.2.1])) ⟨hi, mn.1⟩).2, decide_eq_true r.2.1]
      rfl
    · have mi := (@decide_eq_true_iff _ (Classical.propDecidable _)).mp hp
      have mj := (@decide_eq_true_iff _ (Classical.propDecidable _)).mp hq
      have cij := hs i hi j hj e
      have h1 := mi.2 j cij
      have h2 := mj.2 i (con_sy cij)
      omega
