/-! How many parts a set of places has; one place more. -/
noncomputable def pd (p : Prop) : Bool := @decide p (Classical.propDecidable p)
theorem pd_iff {p : Prop} : pd p = true ↔ p := @decide_eq_true_iff p (Classical.propDecidable p)
theorem fb_ct_cut (p q : Nat → Bool) : ∀ n, fb_ct (fun k => p k && q k) n + fb_ct (fun k => p k && !q k) n = fb_ct p n
  | 0 => rfl
  | n + 1 => by
    have h := fb_ct_cut p q n
    rw [fb_ct_succ, fb_ct_succ, fb_ct_succ]
    cases hp : p n <;> cases hq : q n <;> simp <;> omega
theorem fb_ct_one {p : Nat → Bool} {n : Nat} (h : ∀ i j, i < n → j < n → p i = true → p j = true → i = j) : fb_ct p n ≤ 1 := by
  refine Nat.not_lt.mp (fun q => ?_)
  obtain ⟨i, h1, h2, h3⟩ := fb_ct_kth (p := p) (n := n) (k := 0) (by omega)
  obtain ⟨j, g1, g2, g3⟩ := fb_ct_kth (p := p) (n := n) (k := 1) q
  have := h i j h1 g1 h2 g2
  subst this
  omega
theorem fb_ct_two {p : Nat → Bool} {n i j : Nat} (hi : i < n) (hj : j < n) (hne : i ≠ j) (pi : p i = true) (pj : p j = true) : 2 ≤ fb_ct p n := by
  have z := fb_ct_upd p false hi
  have z2 : 0 < fb_ct (fun k => if k = i then false else p k) n := fb_ct_pos.mpr ⟨j, hj, by rw [if_neg (fun q => hne q.symm)]; exact pj⟩
  rw [if_pos pi] at z
  simp only [Bool.false_eq_true, if_false] at z
  omega
/-- neighbours among the places K below n -/
def gr (n : Nat) (r : Nat → Nat → Prop) (K : Nat → Prop) (a b : Nat) : Prop := a < n ∧ b < n ∧ K a ∧ K b ∧ r a b
/-- the lowest place of its part -/
def gm (n : Nat) (r : Nat → Nat → Prop) (K : Nat → Prop) (c : Nat) : Prop := K c ∧ ∀ e, con (gr n r K) c e → c ≤ e
noncomputable def gC (n : Nat) (r : Nat → Nat → Prop) (K : Nat → Prop) : Nat := fb_ct (fun c => pd (gm n r K c)) n
section GC
variable {n : Nat} {r : Nat → Nat → Prop} {K K' : Nat → Prop}
theorem gr_symm (hr : ∀ a b, r a b → r b a) : ∀ a b, gr n r K a b → gr n r K b a := fun _ _ h => ⟨h.2.1, h.1, h.2.2.2.1, h.2.2.1, hr _ _ h.2.2.2.2⟩
theorem gr_in {a b : Nat} (h : con (gr n r K) a b) (ha : a < n ∧ K a) : b < n ∧ K b := con_ind (p := fun x => x < n ∧ K x) (fun _ _ q _ => ⟨q.2.1, q.2.2.2.1⟩) h ha
theorem gr_congr (h : ∀ i, i < n → (K i ↔ K' i)) {a b : Nat} : con (gr n r K) a b ↔ con (gr n r K') a b :=
  ⟨con_mono (fun a b q => ⟨q.1, q.2.1, (h a q.1).mp q.2.2.1, (h b q.2.1).mp q.2.2.2.1, q.2.2.2.2⟩), con_mono (fun a b q => ⟨q.1, q.2.1, (h a q.1).mpr q.2.2.1, (h b q.2.1).mpr q.2.2.2.1, q.2.2.2.2⟩)⟩
theorem gC_congr (h : ∀ i, i < n → (K i ↔ K' i)) : gC n r K = gC n r K' := fb_ct_cong (fun c hc => by
  have e : gm n r K c ↔ gm n r K' c := by
    unfold gm
    rw [h c hc]
    exact ⟨fun q => ⟨q.1, fun e he => q.2 e ((gr_congr h).mpr he)⟩, fun q => ⟨q.1, fun e he => q.2 e ((gr_congr h).mp he)⟩⟩
  rw [propext e])
theorem gr_low (hr : ∀ a b, r a b → r b a) {c : Nat} (hc : c < n) (hk : K c) : ∃ e, e < n ∧ gm n r K e ∧ con (gr n r K) c e := by
  have ex : ∃ e, e < n ∧ pd (con (gr n r K) c e) = true := ⟨c, hc, pd_iff.mpr con_refl⟩
  obtain ⟨e, he, h1, h2⟩ := fb_first (p := fun e => pd (con (gr n r K) c e) = true) ex
  have h1' := pd_iff.mp h1
  exact ⟨e, he, ⟨(gr_in h1' ⟨hc, hk⟩).2, fun x hx => Nat.not_lt.mp (fun q => h2 x q (pd_iff.mpr (con_trans h1' hx)))⟩, h1'⟩
theorem gC_pos (hr : ∀ a b, r a b → r b a) {c : Nat} (hc : c < n) (hk : K c) : 1 ≤ gC n r K := by
  obtain ⟨e, he, h1, -⟩ := gr_low hr hc hk
  exact fb_ct_pos.mpr ⟨e, he, pd_iff.mpr h1⟩
theorem gC_zero (h : ∀ i, i < n → ¬ K i) : gC n r K = 0 := fb_ct_zero.mpr (fun k hk => Bool.eq_false_iff.mpr (fun q => h k hk (pd_iff.mp q).1))
theorem gr_up (hr : ∀ a b, r a b → r b a) {p : Nat} (hp : p < n) (hn : ¬ K p) (hK : ∀ c, c < n → (K' c ↔ K c ∨ c = p)) {a b : Nat} (h : con (gr n r K) a b) : con (gr n r K') a b := con_mono (fun a b q => ⟨q.1, q.2.1, (hK a q.1).mpr (Or.inl q.2.2.1), (hK b q.2.1).mpr (Or.inl q.2.2.2.1), q.2.2.2.2⟩) h
theorem gr_off (hr : ∀ a b, r a b → r b a) {p : Nat} (hp : p < n) (hn : ¬ K p) (hK : ∀ c, c < n → (K' c ↔ K c ∨ c = p)) {m e : Nat} (h : con (gr n r K') m e) (hm : ¬ con (gr n r K') m p) : con (gr n r K) m e := by
  refine (con_ind (p := fun x => con (gr n r K') m x ∧ con (gr n r K) m x) (fun x y q hx => ?_) h ⟨con_refl, con_refl⟩).2
  have hy : con (gr n r K') m y := con_trans hx.1 (con_one q)
  have ex : x ≠ p := fun z => hm (z ▸ hx.1)
  have ey : y ≠ p := fun z => hm (z ▸ hy)
  refine ⟨hy, con_trans hx.2 (con_one ⟨q.1, q.2.1, ?_, ?_, q.2.2.2.2⟩)⟩
  · exact ((hK x q.1).mp q.2.2.1).resolve_right ex
  · exact ((hK y q.2.1).mp q.2.2.2.1).resolve_right ey
/-- the bound: k places of K, apart in K, that p touches -/
theorem gC_add (hr : ∀ a b, r a b → r b a) {p : Nat} (hp : p < n) (hn : ¬ K p) (hK : ∀ c, c < n → (K' c ↔ K c ∨ c = p)) {k : Nat} (hk : k ≤ fb_ct (fun c => pd (gm n r K c) && pd (con (gr n r K') c p)) n) : gC n r K' + k ≤ gC n r K + 1 := by
  have c1 := fb_ct_cut (fun c => pd (gm n r K' c)) (fun c => pd (con (gr n r K') c p)) n
  have c2 := fb_ct_cut (fun c => pd (gm n r K c)) (fun c => pd (con (gr n r K') c p)) n
  have h1 : fb_ct (fun c => pd (gm n r K' c) && pd (con (gr n r K') c p)) n ≤ 1 := fb_ct_one (fun i j hi hj pi pj => by
    have qi := Bool.and_eq_true _ _ ▸ pi
    have qj := Bool.and_eq_true _ _ ▸ pj
    have mi := pd_iff.mp qi.1
    have mj := pd_iff.mp qj.1
    have ci := pd_iff.mp qi.2
    have cj := pd_iff.mp qj.2
    have z1 := mi.2 j (con_trans ci (con_symm (gr_symm hr) cj))
    have z2 := mj.2 i (con_trans cj (con_symm (gr_symm hr) ci))
    omega)
  have h2 : fb_ct (fun c => pd (gm n r K' c) && !pd (con (gr n r K') c p)) n ≤ fb_ct (fun c => pd (gm n r K c) && !pd (con (gr n r K') c p)) n := fb_ct_sub (fun i hi pi => by
    have qi := Bool.and_eq_true _ _ ▸ pi
    have mi := pd_iff.mp qi.1
    have ni : ¬ con (gr n r K') i p := fun q => by have z := qi.2; rw [pd_iff.mpr q] at z; cases z
    have ki : K i := ((hK i hi).mp mi.1).resolve_right (fun q => ni (q ▸ con_refl))
    rw [Bool.and_eq_true]
    exact ⟨pd_iff.mpr ⟨ki, fun e he => mi.2 e (gr_up hr hp hn hK he)⟩, qi.2⟩)
  unfold gC
  omega
theorem gC_add0 (hr : ∀ a b, r a b → r b a) {p : Nat} (hp : p < n) (hn : ¬ K p) (hK : ∀ c, c < n → (K' c ↔ K c ∨ c = p)) : gC n r K' ≤ gC n r K + 1 := gC_add hr hp hn hK (k := 0) (Nat.zero_le _)
theorem gr_tip (hr : ∀ a b, r a b → r b a) {p : Nat} (hp : p < n) (hn : ¬ K p) (hK : ∀ c, c < n → (K' c ↔ K c ∨ c = p)) {a : Nat} (ha : a < n) (ka : K a) (ra : r a p) : con (gr n r K') a p := con_one ⟨ha, hp, (hK a ha).mpr (Or.inl ka), (hK p hp).mpr (Or.inr rfl), ra⟩
theorem gC_add1 (hr : ∀ a b, r a b → r b a) {p : Nat} (hp : p < n) (hn : ¬ K p) (hK : ∀ c, c < n → (K' c ↔ K c ∨ c = p)) {a : Nat} (ha : a < n) (ka : K a) (ra : r a p) : gC n r K' ≤ gC n r K := by
  obtain ⟨e, he, h1, h2⟩ := gr_low (K := K) hr ha ka
  have z := gC_add hr hp hn hK (k := 1) (fb_ct_pos.mpr ⟨e, he, by
    rw [pd_iff.mpr h1, pd_iff.mpr (con_trans (con_symm (gr_symm hr) (gr_up hr hp hn hK h2)) (gr_tip hr hp hn hK ha ka ra))]; rfl⟩)
  omega
theorem gC_add2 (hr : ∀ a b, r a b → r b a) {p : Nat} (hp : p < n) (hn : ¬ K p) (hK : ∀ c, c < n → (K' c ↔ K c ∨ c = p)) {a b : Nat} (ha : a < n) (ka : K a) (ra : r a p) (hb : b < n) (kb : K b) (rb : r b p) (hab : ¬ con (gr n r K) a b) : gC n r K' + 1 ≤ gC n r K := by
  obtain ⟨e, he, h1, h2⟩ := gr_low (K := K) hr ha ka
  obtain ⟨f, hf, g1, g2⟩ := gr_low (K := K) hr hb kb
  have z := gC_add hr hp hn hK (k := 2) (fb_ct_two he hf (fun q => hab (con_trans h2 (q ▸ con_symm (gr_symm hr) g2)))
    (by rw [pd_iff.mpr h1, pd_iff.mpr (con_trans (con_symm (gr_symm hr) (gr_up hr hp hn hK h2)) (gr_tip hr hp hn hK ha ka ra))]; rfl)
    (by rw [pd_iff.mpr g1, pd_iff.mpr (con_trans (con_symm (gr_symm hr) (gr_up hr hp hn hK g2)) (gr_tip hr hp hn hK hb kb rb))]; rfl))
  omega
end GC
