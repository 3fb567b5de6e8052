/-! Places in a row of ten, wound up: a place's left one is one before, its upper one ten before. -/
def hS (a b : Nat) : Prop := b = a + 1 ∨ a = b + 1 ∨ b = a + 10 ∨ a = b + 10
def hT (a b : Nat) : Prop := b = a + 1 ∨ a = b + 1 ∨ b = a + 9 ∨ a = b + 9 ∨ b = a + 10 ∨ a = b + 10 ∨ b = a + 11 ∨ a = b + 11
theorem hS_sy : ∀ a b, hS a b → hS b a := fun a b h => by unfold hS at *; omega
theorem hT_sy : ∀ a b, hT a b → hT b a := fun a b h => by unfold hT at *; omega
section NC
variable {S : Nat → Prop} {p : Nat}
/-- x hangs on p, among the places below p -/
def tou (r : Nat → Nat → Prop) (K : Nat → Prop) (p x : Nat) : Prop := x = p ∨ ∃ y, y < p ∧ K y ∧ r y p ∧ con (gr p r K) x y
theorem gr_grow {r : Nat → Nat → Prop} (hr : ∀ a b, r a b → r b a) {K : Nat → Prop} {a c : Nat} (h : con (gr (p + 1) r K) a c) : con (gr p r K) a c ∨ (tou r K p a ∧ tou r K p c) := by
  refine con_ind (p := fun x => con (gr p r K) a x ∨ (tou r K p a ∧ tou r K p x)) (fun x y q hx => ?_) h (Or.inl con_refl)
  obtain ⟨qx, qy, kx, ky, rxy⟩ := q
  by_cases ex : x = p
  · subst ex
    have ta : tou r K x a := by
      rcases hx with hx | hx
      · by_cases e : a = x
        · exact Or.inl e
        · obtain ⟨n, hn⟩ := con_symm (gr_symm hr) hx
          cases n with
          | zero => exact absurd hn.symm e
          | succ n => obtain ⟨w, hw, -⟩ := hn; exact absurd hw.1 (Nat.lt_irrefl _)
      · exact hx.1
    by_cases ey : y = x
    · exact Or.inr ⟨ta, Or.inl ey⟩
    · exact Or.inr ⟨ta, Or.inr ⟨y, by omega, ky, hr _ _ rxy, con_refl⟩⟩
  · by_cases ey : y = p
    · subst ey
      rcases hx with hx | hx
      · exact Or.inr ⟨Or.inr ⟨x, by omega, kx, rxy, hx⟩, Or.inl rfl⟩
      · exact Or.inr ⟨hx.1, Or.inl rfl⟩
    · have hxy : con (gr p r K) x y := con_one ⟨by omega, by omega, kx, ky, rxy⟩
      rcases hx with hx | ⟨h1, h2⟩
      · exact Or.inl (con_trans hx hxy)
      · refine Or.inr ⟨h1, ?_⟩
        rcases h2 with h2 | ⟨z, z1, z2, z3, z4⟩
        · exact absurd h2 ex
        · exact Or.inr ⟨z, z1, z2, z3, con_trans (con_symm (gr_symm hr) hxy) z4⟩
theorem gr_same {r : Nat → Nat → Prop} {K : Nat → Prop} (hn : ¬ K p) {a c : Nat} (h : con (gr (p + 1) r K) a c) : con (gr p r K) a c := by
  refine con_mono (fun x y q => ⟨?_, ?_, q.2.2.1, q.2.2.2.1, q.2.2.2.2⟩) h
  · have h1 := q.1
    have h2 : x ≠ p := fun z => hn (z ▸ q.2.2.1)
    omega
  · have h1 := q.2.1
    have h2 : y ≠ p := fun z => hn (z ▸ q.2.2.2.1)
    omega
/-- no chord of S crosses a chord of the others -/
def ncP (S : Nat → Prop) (p : Nat) : Prop := ∀ a b c d, a < p → b < p → c < p → d < p → p ≤ a + 10 → p ≤ c + 10 → p ≤ b + 11 → p ≤ d + 11 → S a → S c → ¬ S b → ¬ S d → con (gr p hS S) a c → con (gr p hT (fun x => ¬ S x)) b d → b < d → (b < a ∧ a < d ↔ b < c ∧ c < d)
def ncQ (S : Nat → Prop) (p : Nat) : Prop := ∀ a b c d, a < p → b < p → c < p → d < p → p ≤ a + 10 → p ≤ c + 10 → p ≤ b + 11 → p ≤ d + 11 → S a → S c → ¬ S b → ¬ S d → con (gr p hS S) a c → con (gr p hT (fun x => ¬ S x)) b d → a < c → (a < b ∧ b < c ↔ a < d ∧ d < c)
theorem nc_ne {a b : Nat} (ha : S a) (hb : ¬ S b) : a ≠ b := fun e => hb (e ▸ ha)
theorem nc_PQ (h : ncP S p) : ncQ S p := fun a b c d ha hb hc hd ra rc rb rd sa sc sb sd hac hbd hlt => by
  have h1 := h a b c d ha hb hc hd ra rc rb rd sa sc sb sd hac hbd
  have h2 := h a d c b ha hd hc hb ra rc rd rb sa sc sd sb hac (con_symm (gr_symm hT_sy) hbd)
  have e1 := nc_ne sa sb
  have e2 := nc_ne sa sd
  have e3 := nc_ne sc sb
  have e4 := nc_ne sc sd
  rcases Nat.lt_trichotomy b d with q | q | q
  · have z := h1 q; omega
  · subst q; exact Iff.rfl
  · have z := h2 q; omega
theorem nc_QP (h : ncQ S p) : ncP S p := fun a b c d ha hb hc hd ra rc rb rd sa sc sb sd hac hbd hlt => by
  have h1 := h a b c d ha hb hc hd ra rc rb rd sa sc sb sd hac hbd
  have h2 := h c b a d hc hb ha hd rc ra rb rd sc sa sb sd (con_symm (gr_symm hS_sy) hac) hbd
  have e1 := nc_ne sa sb
  have e2 := nc_ne sa sd
  have e3 := nc_ne sc sb
  have e4 := nc_ne sc sd
  rcases Nat.lt_trichotomy a c with q | q | q
  · have z := h1 q; omega
  · subst q; exact Iff.rfl
  · have z := h2 q; omega
theorem nc_all : ∀ p, ncP S p
  | 0 => fun a b c d ha => absurd ha (Nat.not_lt_zero a)
  | p + 1 => by
    have ih := nc_all p
    by_cases hp : S p
    · intro a b c d ha hb hc hd ra rc rb rd sa sc sb sd hac hbd hlt
      have hbd' := gr_same (fun q : ¬ S p => q hp) hbd
      have b1 := nc_ne hp sb
      have d1 := nc_ne hp sd
      have key : ∀ x, x < p + 1 → p + 1 ≤ x + 10 → S x → tou hS S p x → ¬ (b < x ∧ x < d) := fun x hx rx sx t => by
        rcases t with t | ⟨y, y1, y2, y3, y4⟩
        · omega
        · unfold hS at y3
          by_cases ex : x = p
          · omega
          · have z := ih x b y d (by omega) (by omega) y1 (by omega) (by omega) (by omega) (by omega) (by omega) sx y2 sb sd y4 hbd' hlt
            omega
      rcases gr_grow hS_sy hac with h1 | ⟨h1, h2⟩
      · by_cases ea : a = p
        · have : c = a := by
            subst ea
            obtain ⟨n, hn⟩ := h1
            cases n with
            | zero => exact hn.symm
            | succ n => obtain ⟨w, hw, -⟩ := hn; exact absurd hw.1 (Nat.lt_irrefl _)
          subst this
          exact Iff.rfl
        · by_cases ec : c = p
          · have : a = c := by
              subst ec
              obtain ⟨n, hn⟩ := con_symm (gr_symm hS_sy) h1
              cases n with
              | zero => exact hn.symm
              | succ n => obtain ⟨w, hw, -⟩ := hn; exact absurd hw.1 (Nat.lt_irrefl _)
            omega
          · exact ih a b c d (by omega) (by omega) (by omega) (by omega) (by omega) (by omega) (by omega) (by omega) sa sc sb sd h1 hbd' hlt
      · have z1 := key a ha ra sa h1
        have z2 := key c hc rc sc h2
        exact ⟨fun q => absurd q z1, fun q => absurd q z2⟩
    · refine nc_QP (fun a b c d ha hb hc hd ra rc rb rd sa sc sb sd hac hbd hlt => ?_)
      have ihq := nc_PQ ih
      have hac' := gr_same hp hac
      have a1 := nc_ne sa hp
      have c1 := nc_ne sc hp
      have key : ∀ x, x < p + 1 → p + 1 ≤ x + 11 → ¬ S x → tou hT (fun x => ¬ S x) p x → ¬ (a < x ∧ x < c) := fun x hx rx sx t => by
        rcases t with t | ⟨y, y1, y2, y3, y4⟩
        · omega
        · unfold hT at y3
          by_cases ex : x = p
          · omega
          · have z := ihq a x c y (by omega) (by omega) (by omega) y1 (by omega) (by omega) (by omega) (by omega) sa sc sx y2 hac' y4 hlt
            omega
      rcases gr_grow hT_sy hbd with h1 | ⟨h1, h2⟩
      · by_cases ea : b = p
        · have : d = b := by
            subst ea
            obtain ⟨n, hn⟩ := h1
            cases n with
            | zero => exact hn.symm
            | succ n => obtain ⟨w, hw, -⟩ := hn; exact absurd hw.1 (Nat.lt_irrefl _)
          subst this
          exact Iff.rfl
        · by_cases ec : d = p
          · have : b = d := by
              subst ec
              obtain ⟨n, hn⟩ := con_symm (gr_symm hT_sy) h1
              cases n with
              | zero => exact hn.symm
              | succ n => obtain ⟨w, hw, -⟩ := hn; exact absurd hw.1 (Nat.lt_irrefl _)
            omega
          · exact ihq a b c d (by omega) (by omega) (by omega) (by omega) (by omega) (by omega) (by omega) (by omega) sa sc sb sd hac' h1 hlt
      · have z1 := key b hb rb sb h1
        have z2 := key d hd rd sd h2
        exact ⟨fun q => absurd q z1, fun q => absurd q z2⟩
/-- a way that leaves the places below p, p being shut -/
theorem gr_exit {n : Nat} {r : Nat → Nat → Prop} {K K2 : Nat → Prop} (h1 : ∀ x, x < p → (K2 x → K x)) (h2 : ¬ K2 p) {a e : Nat} (h : con (gr n r K2) a e) (ha : a < p) (he : p ≤ e) : ∃ x q, x < p ∧ p < q ∧ K x ∧ r x q ∧ con (gr p r K) a x := by
  have z := con_ind (p := fun y => (y < p ∧ con (gr p r K) a y) ∨ ∃ x q, x < p ∧ p < q ∧ K x ∧ r x q ∧ con (gr p r K) a x) (fun x y q hx => ?_) h (Or.inl ⟨ha, con_refl⟩)
  · rcases z with z | z
    · omega
    · exact z
  · rcases hx with hx | hx
    · by_cases hy : y < p
      · exact Or.inl ⟨hy, con_trans hx.2 (con_one ⟨hx.1, hy, h1 x hx.1 q.2.2.1, h1 y hy q.2.2.2.1, q.2.2.2.2⟩)⟩
      · have ey : y ≠ p := fun z => h2 (z ▸ q.2.2.2.1)
        exact Or.inr ⟨x, y, hx.1, by omega, h1 x hx.1 q.2.2.1, q.2.2.2.2, hx.2⟩
    · exact Or.inr hx
end NC
