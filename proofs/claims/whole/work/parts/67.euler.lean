/-! Parts of S less parts of the others, counted by corners: two bounds. -/
noncomputable def iv (p : Prop) : Int := @ite Int p (Classical.propDecidable p) 1 0
theorem iv_t {p : Prop} (h : p) : iv p = 1 := @if_pos p (Classical.propDecidable p) h Int 1 0
theorem iv_f {p : Prop} (h : ¬ p) : iv p = 0 := @if_neg p (Classical.propDecidable p) h Int 1 0
theorem iv_01 (p : Prop) : iv p = 0 ∨ iv p = 1 := (Classical.em p).elim (fun h => Or.inr (iv_t h)) (fun h => Or.inl (iv_f h))
/-- what cell q adds, coming to the others -/
noncomputable def t1 (S : Nat → Prop) (q : Nat) : Int := iv (S q) - iv (S q ∧ S (q - 1)) - iv (S q ∧ S (q - 10)) + iv (S q ∧ S (q - 1) ∧ S (q - 10) ∧ S (q - 11))
noncomputable def t2 (S : Nat → Prop) (q : Nat) : Int := iv (¬ S q ∧ S (q - 1) ∧ S (q - 10) ∧ S (q - 11)) - iv (¬ S q ∧ S (q - 10) ∧ ¬ S (q - 9))
section EU
variable {S : Nat → Prop} (hS0 : ∀ c, S c → 11 ≤ c ∧ c ≤ 88)
theorem gr_cut {r : Nat → Nat → Prop} {K : Nat → Prop} {p : Nat} (hp : p ≤ 100) {a b : Nat} : con (gr 100 r (fun c => K c ∧ c < p)) a b ↔ con (gr p r K) a b :=
  ⟨con_mono (fun a b q => ⟨q.2.2.1.2, q.2.2.2.1.2, q.2.2.1.1, q.2.2.2.1.1, q.2.2.2.2⟩), con_mono (fun a b q => ⟨by have := q.1; omega, by have := q.2.1; omega, ⟨q.2.2.1, q.1⟩, ⟨q.2.2.2.1, q.2.1⟩, q.2.2.2.2⟩)⟩
theorem eu_1 (hS0 : ∀ c, S c → 11 ≤ c ∧ c ≤ 88) : ∀ p, p ≤ 99 → (gC 100 hS (fun c => S c ∧ c < p) : Int) - (gC 100 hT (fun c => ¬ (S c ∧ c < p)) : Int) ≤ -1 + fb_si (t1 S) p
  | 0, _ => by
    have z1 : gC 100 hS (fun c => S c ∧ c < 0) = 0 := gC_zero (fun i _ h => absurd h.2 (Nat.not_lt_zero i))
    have z2 : 1 ≤ gC 100 hT (fun c => ¬ (S c ∧ c < 0)) := gC_pos hT_sy (c := 0) (by omega) (fun h => absurd h.2 (Nat.not_lt_zero 0))
    rw [z1]
    show (0 : Int) - _ ≤ -1 + 0
    omega
  | p + 1, hp => by
    have ih := eu_1 hS0 p (by omega)
    rw [fb_si_succ]
    by_cases sp : S p
    · have b0 := hS0 p sp
      have hK : ∀ c, c < 100 → ((S c ∧ c < p + 1) ↔ (S c ∧ c < p) ∨ c = p) := fun c _ => ⟨fun q => by
        by_cases e : c = p
        · exact Or.inr e
        · exact Or.inl ⟨q.1, by omega⟩, fun q => by
        rcases q with q | q
        · exact ⟨q.1, by omega⟩
        · exact ⟨q ▸ sp, by omega⟩⟩
      have hn : ¬ (S p ∧ p < p) := fun q => absurd q.2 (Nat.lt_irrefl p)
      have hK2 : ∀ c, c < 100 → (¬ (S c ∧ c < p) ↔ ¬ (S c ∧ c < p + 1) ∨ c = p) := fun c hc => by
        rw [hK c hc]
        by_cases e : c = p
        · subst e; exact ⟨fun _ => Or.inr rfl, fun _ => hn⟩
        · exact ⟨fun q => Or.inl (fun w => w.elim q e), fun q => q.elim (fun w z => w (Or.inl z)) (fun w => absurd w e)⟩
      have hn2 : ¬ ¬ (S p ∧ p < p + 1) := fun q => q ⟨sp, by omega⟩
      have q1 : gC 100 hT (fun c => ¬ (S c ∧ c < p)) ≤ gC 100 hT (fun c => ¬ (S c ∧ c < p + 1)) :=
        gC_add1 hT_sy (p := p) (by omega) hn2 hK2 (a := p + 1) (by omega) (fun q => absurd q.2 (by omega)) (by unfold hT; omega)
      have r0 : gC 100 hS (fun c => S c ∧ c < p + 1) ≤ gC 100 hS (fun c => S c ∧ c < p) + 1 := gC_add0 hS_sy (p := p) (by omega) hn hK
      have r1 : ∀ a, a < p → S a → hS a p → gC 100 hS (fun c => S c ∧ c < p + 1) ≤ gC 100 hS (fun c => S c ∧ c < p) := fun a ha sa ra => gC_add1 hS_sy (p := p) (by omega) hn hK (a := a) (by omega) ⟨sa, ha⟩ ra
      have cw := iv_01 (S p ∧ S (p - 1) ∧ S (p - 10) ∧ S (p - 11))
      have e0 := iv_t sp
      rw [show t1 S p = iv (S p) - iv (S p ∧ S (p - 1)) - iv (S p ∧ S (p - 10)) + iv (S p ∧ S (p - 1) ∧ S (p - 10) ∧ S (p - 11)) from rfl]
      by_cases s1 : S (p - 1)
      · have e1 := iv_t (And.intro sp s1)
        by_cases s2 : S (p - 10)
        · have e2 := iv_t (And.intro sp s2)
          by_cases h : con (gr p hS S) (p - 10) (p - 1)
          · have rr := r1 (p - 1) (by omega) s1 (by unfold hS; omega)
            by_cases s3 : S (p - 11)
            · have e3 := iv_t (And.intro sp (And.intro s1 (And.intro s2 s3)))
              omega
            · have q2 : gC 100 hT (fun c => ¬ (S c ∧ c < p)) + 1 ≤ gC 100 hT (fun c => ¬ (S c ∧ c < p + 1)) := by
                have bw := hS0 _ s2
                refine gC_add2 hT_sy (p := p) (by omega) hn2 hK2 (a := p - 11) (b := p + 1) (by omega) (fun q => s3 q.1) (by unfold hT; omega) (by omega) (fun q => absurd q.2 (by omega)) (by unfold hT; omega) (fun q => ?_)
                obtain ⟨x, y, x1, x2, x3, x4, x5⟩ := gr_exit (p := p) (K := fun c => ¬ S c) (fun x hx w sx => w ⟨sx, by omega⟩) hn2 q (by omega) (by omega)
                unfold hT at x4
                have n1 := nc_ne s1 x3
                have n2 := nc_ne s2 x3
                have z := nc_PQ (nc_all (S := S) p) (p - 10) (p - 11) (p - 1) x (by omega) (by omega) (by omega) x1 (by omega) (by omega) (by omega) (by omega) s2 s1 s3 x3 h x5 (by omega)
                omega
              omega
          · have rr : gC 100 hS (fun c => S c ∧ c < p + 1) + 1 ≤ gC 100 hS (fun c => S c ∧ c < p) := gC_add2 hS_sy (p := p) (by omega) hn hK (a := p - 10) (b := p - 1) (by omega) ⟨s2, by omega⟩ (by unfold hS; omega) (by omega) ⟨s1, by omega⟩ (by unfold hS; omega) (fun q => h ((gr_cut (by omega)).mp q))
            omega
        · have e2 := iv_f (fun q : S p ∧ S (p - 10) => s2 q.2)
          have rr := r1 (p - 1) (by omega) s1 (by unfold hS; omega)
          omega
      · have e1 := iv_f (fun q : S p ∧ S (p - 1) => s1 q.2)
        by_cases s2 : S (p - 10)
        · have e2 := iv_t (And.intro sp s2)
          have rr := r1 (p - 10) (by omega) s2 (by unfold hS; omega)
          omega
        · have e2 := iv_f (fun q : S p ∧ S (p - 10) => s2 q.2)
          omega
    · have e : t1 S p = 0 := by
        unfold t1
        rw [iv_f sp, iv_f (fun q => sp q.1), iv_f (fun q => sp q.1), iv_f (fun q => sp q.1)]
        rfl
      have hK : ∀ c, c < 100 → ((S c ∧ c < p + 1) ↔ (S c ∧ c < p)) := fun c _ => ⟨fun q => ⟨q.1, by
        have n1 := nc_ne q.1 sp
        omega⟩, fun q => ⟨q.1, by omega⟩⟩
      rw [e, gC_congr hK, gC_congr (K := fun c => ¬ (S c ∧ c < p + 1)) (K' := fun c => ¬ (S c ∧ c < p)) (fun c hc => by rw [hK c hc])]
      omega
theorem eu_2 (hS0 : ∀ c, S c → 11 ≤ c ∧ c ≤ 88) : ∀ p, 1 ≤ p → p ≤ 99 → - fb_si (t2 S) p ≤ (gC 100 hS (fun c => S c ∨ p ≤ c) : Int) - (gC 100 hT (fun c => ¬ S c ∧ c < p) : Int)
  | 0, h, _ => absurd h (by omega)
  | p + 1, _, hp => by
    by_cases hp0 : p = 0
    · subst hp0
      have z1 : 1 ≤ gC 100 hS (fun c => S c ∨ 0 + 1 ≤ c) := gC_pos hS_sy (c := 1) (by omega) (Or.inr (by omega))
      have z2 : gC 100 hT (fun c => ¬ S c ∧ c < 0 + 1) ≤ 1 := fb_ct_one (fun i j hi hj pi pj => by
        have a := (pd_iff.mp pi).1.2
        have b := (pd_iff.mp pj).1.2
        omega)
      rw [fb_si_succ]
      have e : t2 S 0 = 0 := by
        unfold t2
        rw [iv_f (fun q => by have := hS0 _ q.2.1; omega), iv_f (fun q => by have := hS0 _ q.2.1; omega)]
        rfl
      rw [e]
      show -((0 : Int) + 0) ≤ _
      omega
    · have ih := eu_2 hS0 p (by omega) (by omega)
      rw [fb_si_succ]
      by_cases sp : S p
      · have e : t2 S p = 0 := by
          unfold t2
          rw [iv_f (fun q => q.1 sp), iv_f (fun q => q.1 sp)]
          rfl
        have hK : ∀ c, c < 100 → ((S c ∨ p + 1 ≤ c) ↔ (S c ∨ p ≤ c)) := fun c _ => ⟨fun q => q.imp id (fun w => by omega), fun q => by
          by_cases e : c = p
          · exact Or.inl (e ▸ sp)
          · exact q.imp id (fun w => by omega)⟩
        have hK2 : ∀ c, c < 100 → ((¬ S c ∧ c < p + 1) ↔ (¬ S c ∧ c < p)) := fun c _ => ⟨fun q => ⟨q.1, by
          have n1 := nc_ne sp q.1
          omega⟩, fun q => ⟨q.1, by omega⟩⟩
        rw [e, gC_congr hK, gC_congr hK2]
        omega
      · have hK : ∀ c, c < 100 → ((¬ S c ∧ c < p + 1) ↔ (¬ S c ∧ c < p) ∨ c = p) := fun c _ => ⟨fun q => by
          by_cases e : c = p
          · exact Or.inr e
          · exact Or.inl ⟨q.1, by omega⟩, fun q => by
          rcases q with q | q
          · exact ⟨q.1, by omega⟩
          · exact ⟨q ▸ sp, by omega⟩⟩
        have hn : ¬ (¬ S p ∧ p < p) := fun q => absurd q.2 (Nat.lt_irrefl p)
        have hK2 : ∀ c, c < 100 → ((S c ∨ p ≤ c) ↔ (S c ∨ p + 1 ≤ c) ∨ c = p) := fun c hc => ⟨fun q => by
          by_cases e : c = p
          · exact Or.inr e
          · exact Or.inl (q.imp id (fun w => by omega)), fun q => by
          rcases q with q | q
          · exact q.imp id (fun w => by omega)
          · exact Or.inr (by omega)⟩
        have hn2 : ¬ (S p ∨ p + 1 ≤ p) := fun q => q.elim sp (by omega)
        have q1 : gC 100 hS (fun c => S c ∨ p ≤ c) ≤ gC 100 hS (fun c => S c ∨ p + 1 ≤ c) :=
          gC_add1 hS_sy (p := p) (by omega) hn2 hK2 (a := p + 1) (by omega) (Or.inr (by omega)) (by unfold hS; omega)
        have r0 : gC 100 hT (fun c => ¬ S c ∧ c < p + 1) ≤ gC 100 hT (fun c => ¬ S c ∧ c < p) + 1 := gC_add0 hT_sy (p := p) (by omega) hn hK
        have r1 : ∀ a, a < p → ¬ S a → hT a p → gC 100 hT (fun c => ¬ S c ∧ c < p + 1) ≤ gC 100 hT (fun c => ¬ S c ∧ c < p) := fun a ha sa ra => gC_add1 hT_sy (p := p) (by omega) hn hK (a := a) (by omega) ⟨sa, ha⟩ ra
        have cw := iv_01 (¬ S p ∧ S (p - 10) ∧ ¬ S (p - 9))
        rw [show t2 S p = iv (¬ S p ∧ S (p - 1) ∧ S (p - 10) ∧ S (p - 11)) - iv (¬ S p ∧ S (p - 10) ∧ ¬ S (p - 9)) from rfl]
        by_cases s3 : S (p - 1) ∧ S (p - 10) ∧ S (p - 11)
        · have e1 := iv_t (And.intro sp s3)
          by_cases s4 : S (p - 10) ∧ ¬ S (p - 9)
          · have b1 := hS0 _ s4.1
            have e2 := iv_t (And.intro sp s4)
            have rr := r1 (p - 9) (by omega) s4.2 (by unfold hT; omega)
            omega
          · have e2 := iv_f (fun q : ¬ S p ∧ S (p - 10) ∧ ¬ S (p - 9) => s4 q.2)
            omega
        · have e1 := iv_f (fun q : ¬ S p ∧ S (p - 1) ∧ S (p - 10) ∧ S (p - 11) => s3 q.2)
          have al : ∃ a, a < p ∧ ¬ S a ∧ hT a p ∧ (a = p - 1 ∨ a = p - 10 ∨ a = p - 11) := by
            by_cases s1 : S (p - 1)
            · have b1 := hS0 _ s1
              by_cases s2 : S (p - 10)
              · have b2 := hS0 _ s2
                exact ⟨p - 11, by omega, fun q => s3 ⟨s1, s2, q⟩, by unfold hT; omega, by omega⟩
              · exact ⟨p - 10, by omega, s2, by unfold hT; omega, by omega⟩
            · exact ⟨p - 1, by omega, s1, by unfold hT; omega, by omega⟩
          obtain ⟨a, a1, a2, a3, a4⟩ := al
          by_cases s4 : S (p - 10) ∧ ¬ S (p - 9)
          · have b1 := hS0 _ s4.1
            have e2 := iv_t (And.intro sp s4)
            have na := nc_ne s4.1 a2
            by_cases h : con (gr p hT (fun c => ¬ S c)) a (p - 9)
            · have rr := r1 a a1 a2 a3
              have q2 : gC 100 hS (fun c => S c ∨ p ≤ c) + 1 ≤ gC 100 hS (fun c => S c ∨ p + 1 ≤ c) := by
                refine gC_add2 hS_sy (p := p) (by omega) hn2 hK2 (a := p - 10) (b := p + 1) (by omega) (Or.inl s4.1) (by unfold hS; omega) (by omega) (Or.inr (by omega)) (by unfold hS; omega) (fun q => ?_)
                obtain ⟨x, y, x1, x2, x3, x4, x5⟩ := gr_exit (p := p) (K := S) (fun x hx w => w.resolve_right (by omega)) hn2 q (by omega) (by omega)
                unfold hS at x4
                have n1 := nc_ne x3 s4.2
                have n2 := nc_ne x3 a2
                have z := nc_PQ (nc_all (S := S) p) (p - 10) a x (p - 9) (by omega) a1 x1 (by omega) (by omega) (by omega) (by omega) (by omega) s4.1 x3 a2 s4.2 x5 h (by omega)
                omega
              omega
            · have rr : gC 100 hT (fun c => ¬ S c ∧ c < p + 1) + 1 ≤ gC 100 hT (fun c => ¬ S c ∧ c < p) := gC_add2 hT_sy (p := p) (by omega) hn hK (a := a) (b := p - 9) (by omega) ⟨a2, a1⟩ a3 (by omega) ⟨s4.2, by omega⟩ (by unfold hT; omega) (fun q => h ((gr_cut (by omega)).mp q))
              omega
          · have e2 := iv_f (fun q : ¬ S p ∧ S (p - 10) ∧ ¬ S (p - 9) => s4 q.2)
            have rr := r1 a a1 a2 a3
            omega
end EU
