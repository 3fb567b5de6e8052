/-! Model: regions, holes, contours (by wip/whole/gen/m36.py). -/
/-- b from a in n steps -/
def rch (r : Nat → Nat → Prop) : Nat → Nat → Nat → Prop
  | 0, a, b => a = b
  | n + 1, a, b => ∃ e, r a e ∧ rch r n e b
/-- a and b hang together -/
def con (r : Nat → Nat → Prop) (a b : Nat) : Prop := ∃ n, rch r n a b
section CON
variable {r r' : Nat → Nat → Prop} {a b c : Nat}
theorem con_refl : con r a a := ⟨0, rfl⟩
theorem con_step (h : r a b) (k : con r b c) : con r a c := k.elim fun n k => ⟨n + 1, b, h, k⟩
theorem con_one (h : r a b) : con r a b := con_step h con_refl
theorem rch_trans : ∀ (n : Nat) {a : Nat}, rch r n a b → con r b c → con r a c
  | 0, _, h, k => by cases h; exact k
  | n + 1, _, h, k => h.elim fun e h => con_step h.1 (rch_trans n h.2 k)
theorem con_trans (h : con r a b) (k : con r b c) : con r a c := h.elim fun n h => rch_trans n h k
theorem rch_symm (hs : ∀ a b, r a b → r b a) : ∀ (n : Nat) {a : Nat}, rch r n a b → con r b a
  | 0, _, h => by cases h; exact con_refl
  | n + 1, _, h => h.elim fun e h => con_trans (rch_symm hs n h.2) (con_one (hs _ _ h.1))
theorem con_symm (hs : ∀ a b, r a b → r b a) (h : con r a b) : con r b a := h.elim fun n h => rch_symm hs n h
theorem rch_ind {p : Nat → Prop} (hp : ∀ a b, r a b → p a → p b) : ∀ (n : Nat) {a : Nat}, rch r n a b → p a → p b
  | 0, _, h, k => by cases h; exact k
  | n + 1, _, h, k => h.elim fun e h => rch_ind hp n h.2 (hp _ _ h.1 k)
theorem con_ind {p : Nat → Prop} (hp : ∀ a b, r a b → p a → p b) (h : con r a b) : p a → p b := h.elim fun n h => rch_ind hp n h
theorem rch_mono (hm : ∀ a b, r a b → r' a b) : ∀ (n : Nat) {a : Nat}, rch r n a b → rch r' n a b
  | 0, _, h => h
  | n + 1, _, h => h.elim fun e h => ⟨e, hm _ _ h.1, rch_mono hm n h.2⟩
theorem con_mono (hm : ∀ a b, r a b → r' a b) (h : con r a b) : con r' a b := h.elim fun n h => ⟨n, rch_mono hm n h⟩
end CON
def dst (x y : Nat) : Nat := (x - y) + (y - x)
theorem dstA : ∀ x, x < 8 → ∀ y, y < 8 → (if 0 ≤ nI x - nI y then nI x - nI y else 0 - (nI x - nI y)) = nI (dst x y) := by decide +kernel
/-- c and d touch; by corners too, if b isn't 0 -/
def tch (b : Int32) (c d : Nat) : Bool :=
  if b = 0 then decide (nI (dst (c % 8) (d % 8)) + nI (dst (c / 8) (d / 8)) = 1) else !(decide (1 < nI (dst (c % 8) (d % 8))) || decide (1 < nI (dst (c / 8) (d / 8))))
section TCH
variable {b : Int32} {c d : Nat}
theorem dst_symm {x y : Nat} : dst x y = dst y x := Nat.add_comm _ _
theorem tch_symm : tch b c d = tch b d c := by unfold tch; rw [dst_symm (x := c % 8), dst_symm (x := c / 8)]
theorem tch_1 (h : b = 0) (h2 : ¬ nI (dst (c % 8) (d % 8)) + nI (dst (c / 8) (d / 8)) = 1) : ¬ tch b c d = true := by rw [tch, if_pos h, decide_eq_false h2]; decide
theorem tch_2 (h : b = 0) (h2 : nI (dst (c % 8) (d % 8)) + nI (dst (c / 8) (d / 8)) = 1) : tch b c d = true := by rw [tch, if_pos h, decide_eq_true h2]
theorem tch_3 (h : ¬ b = 0) (h2 : 1 < nI (dst (c % 8) (d % 8))) : ¬ tch b c d = true := by rw [tch, if_neg h, decide_eq_true h2]; simp
theorem tch_4 (h : ¬ b = 0) (h2 : 1 < nI (dst (c / 8) (d / 8))) : ¬ tch b c d = true := by rw [tch, if_neg h, decide_eq_true h2]; simp
theorem tch_5 (h : ¬ b = 0) (h2 : ¬ 1 < nI (dst (c % 8) (d % 8))) (h3 : ¬ 1 < nI (dst (c / 8) (d / 8))) : tch b c d = true := by rw [tch, if_neg h, decide_eq_false h2, decide_eq_false h3]; rfl
end TCH
/-- the cells that are of a level (t = 1), or are not (t = 0) -/
def spK (m : Nat → Int32) (v t : Int32) (c : Nat) : Bool := decide ((if v ≤ m c then (1 : Int32) else 0) = t)
/-- neighbours among the cells K -/
def spr (K : Nat → Bool) (b : Int32) (c d : Nat) : Prop := c < 64 ∧ d < 64 ∧ K c = true ∧ K d = true ∧ tch b c d = true
def spI (K : Nat → Bool) (b : Int32) (P : Nat → Int32) : Prop := ∀ c, c < 64 → (K c = false → P c = -1) ∧ (K c = true → ∃ d, d ≤ c ∧ P c = nI d ∧ con (spr K b) c d)
/-- each cell has its part's lowest cell -/
def spF (K : Nat → Bool) (b : Int32) (P : Nat → Int32) : Prop := ∀ c, c < 64 → (K c = false → P c = -1) ∧ (K c = true → ∃ d, d ≤ c ∧ P c = nI d ∧ con (spr K b) c d ∧ ∀ e, con (spr K b) c e → d ≤ e)
def muN (P : Nat → Int32) : Nat → Nat
  | 0 => 0
  | k + 1 => muN P k + (P k).toNatClampNeg
/-- the pairs before (c, d) are settled, or something has sunk -/
def spJ (K : Nat → Bool) (b : Int32) (P0 : Nat → Int32) (c d : Nat) (P : Nat → Int32) (F : Int32) : Prop :=
  spI K b P ∧ ((F = 0 ∧ P = P0 ∧ ∀ c' d', (c' < c ∨ (c' = c ∧ d' < d)) → d' < 64 → spr K b c' d' → ¬ P0 d' < P0 c') ∨ (F = 1 ∧ muN P 64 < muN P0 64))
section SP
variable {K : Nat → Bool} {b : Int32} {P P0 : Nat → Int32} {c d : Nat} {F : Int32}
theorem spr_symm (h : spr K b c d) : spr K b d c := ⟨h.2.1, h.1, h.2.2.2.1, h.2.2.1, tch_symm.trans h.2.2.2.2⟩
theorem con_in (h : con (spr K b) c d) (hc : c < 64 ∧ K c = true) : d < 64 ∧ K d = true := con_ind (p := fun x => x < 64 ∧ K x = true) (fun _ _ q _ => ⟨q.2.1, q.2.2.2.1⟩) h hc
theorem nI_cl {n : Nat} (h : n < 2 ^ 31) : (nI n).toNatClampNeg = n := by
  show (nI n).toInt.toNat = n
  rw [nI_toInt h]; rfl
theorem mu_ge {x : Int32} : ∀ n, n ≤ c → muN (va_up P c x) n = muN P n
  | 0, _ => rfl
  | n + 1, h => by rw [muN, muN, mu_ge n (by omega), va_up_ne _ _ (by omega)]
theorem mu_lt {x : Int32} : ∀ n, c < n → muN (va_up P c x) n + (P c).toNatClampNeg = muN P n + x.toNatClampNeg
  | n + 1, h => by
    rw [muN, muN]
    by_cases e : c = n
    · subst e
      rw [mu_ge c (Nat.le_refl _), va_up_self]; omega
    · rw [va_up_ne _ _ (fun q => e q.symm)]
      have := mu_lt (x := x) n (by omega)
      omega
theorem spI_K (h : spI K b P) (hc : c < 64) (hn : ¬ P c = -1) : K c = true := by
  by_cases e : K c = true
  · exact e
  · exact absurd ((h c hc).1 (Bool.eq_false_iff.mpr e)) hn
theorem spI_n (h : spI K b P) (hc : c < 64) (hk : K c = true) : ¬ P c = -1 := by
  obtain ⟨d, hd, e, -⟩ := (h c hc).2 hk
  rw [e]
  exact nI_nm (by omega)
theorem spI_up (h : spI K b P) (hs : spr K b c d) (hlt : P d < P c) : spI K b (va_up P c (P d)) ∧ muN (va_up P c (P d)) 64 < muN P 64 := by
  obtain ⟨hc, hd, kc, kd, ht⟩ := id hs
  obtain ⟨c', hc', ec, cc⟩ := (h c hc).2 kc
  obtain ⟨d', hd', ed, cd⟩ := (h d hd).2 kd
  have hl : d' < c' := by rw [ec, ed] at hlt; exact (lt_nI rfl (by omega) (by omega)).mp hlt
  refine ⟨fun x hx => ?_, ?_⟩
  · by_cases e : x = c
    · subst e
      rw [va_up_self]
      exact ⟨fun q => (by rw [kc] at q; cases q), fun _ => ⟨d', by omega, ed, con_step hs cd⟩⟩
    · rw [va_up_ne _ _ e]
      exact h x hx
  · have := mu_lt (P := P) (x := P d) 64 hc
    rw [ec, ed, nI_cl (by omega), nI_cl (by omega)] at this
    rw [ed]
    omega
theorem spJ_keep (hJ : spJ K b P0 c d P F) (hn : spr K b c d → ¬ P d < P c) : spJ K b P0 c (d + 1) P F := by
  refine ⟨hJ.1, hJ.2.elim (fun q => Or.inl ⟨q.1, q.2.1, fun c' d' hb hd hs => ?_⟩) Or.inr⟩
  by_cases e : c' < c ∨ (c' = c ∧ d' < d)
  · exact q.2.2 c' d' e hd hs
  · obtain ⟨rfl, rfl⟩ : c' = c ∧ d' = d := by omega
    rw [← q.2.1]
    exact hn hs
theorem spJ_set (hJ : spJ K b P0 c d P F) (hs : spr K b c d) (hlt : P d < P c) : spJ K b P0 c (d + 1) (va_up P c (P d)) 1 := by
  have z := spI_up hJ.1 hs hlt
  refine ⟨z.1, Or.inr ⟨rfl, ?_⟩⟩
  rcases hJ.2 with q | q
  · rw [← q.2.1]; exact z.2
  · exact Nat.lt_trans z.2 q.2
theorem spJ_next (hJ : spJ K b P0 c 64 P F) : spJ K b P0 (c + 1) 0 P F :=
  ⟨hJ.1, hJ.2.elim (fun q => Or.inl ⟨q.1, q.2.1, fun c' d' hb hd hs => q.2.2 c' d' (by omega) hd hs⟩) Or.inr⟩
theorem spJ_0 (h : spI K b P) : spJ K b P 0 0 P 0 := ⟨h, Or.inl ⟨rfl, rfl, fun c' d' hb => by omega⟩⟩
theorem spJ_end (hJ : spJ K b P0 64 0 P 0) : spF K b P := by
  obtain ⟨hI, q | q⟩ := hJ
  · obtain ⟨-, rfl, hst⟩ := q
    intro c hc
    refine ⟨(hI c hc).1, fun hk => ?_⟩
    obtain ⟨d, hd, e, hcd⟩ := (hI c hc).2 hk
    refine ⟨d, hd, e, hcd, fun x hx => ?_⟩
    have z := con_ind (p := fun y => y < 64 ∧ K y = true ∧ P y = P c) (fun y w hs hy => ⟨hs.2.1, hs.2.2.2.1, by
      rw [← hy.2.2]
      exact Int32.le_antisymm (Int32.not_lt.mp (hst w y (Or.inl hs.2.1) hs.1 (spr_symm hs))) (Int32.not_lt.mp (hst y w (Or.inl hs.1) hs.2.1 hs))⟩) hx ⟨hc, hk, rfl⟩
    obtain ⟨x', hx', ex, -⟩ := (hI x z.1).2 z.2.1
    rw [ex, e] at z
    have := (nI_inj (by omega) (by omega)).mp z.2.2
    omega
  · exact absurd q.1 (by decide)
theorem spI_0 {m : Nat → Int32} {v t : Int32} : spI (spK m v t) b (fun i => if i < 64 then (if spK m v t i = true then nI i else -1) else P i) := by
  intro c hc
  show (_ → (if c < 64 then (if spK m v t c = true then nI c else -1) else P c) = -1) ∧ (_ → ∃ d, d ≤ c ∧ (if c < 64 then (if spK m v t c = true then nI c else -1) else P c) = nI d ∧ _)
  rw [if_pos hc]
  exact ⟨fun q => if_neg (by rw [q]; decide), fun q => ⟨c, Nat.le_refl _, if_pos q, con_refl⟩⟩
end SP
/-- counted -/
noncomputable def cntP (p : Nat → Prop) : Nat → Int32
  | 0 => 0
  | k + 1 => cntP p k + @ite Int32 (p k) (Classical.propDecidable _) 1 0
theorem cntP_t {p : Nat → Prop} {k : Nat} (h : p k) : cntP p k + 1 = cntP p (k + 1) := by
  rw [cntP]
  exact congrArg (cntP p k + ·) (@if_pos _ (Classical.propDecidable _) h Int32 1 0).symm
theorem cntP_f {p : Nat → Prop} {k : Nat} (h : ¬ p k) : cntP p k + 0 = cntP p (k + 1) := by
  rw [cntP]
  exact congrArg (cntP p k + ·) (@if_neg _ (Classical.propDecidable _) h Int32 1 0).symm
theorem cntP_eq {p q : Nat → Prop} : ∀ k, (∀ i, i < k → (p i ↔ q i)) → cntP p k = cntP q k
  | 0, _ => rfl
  | k + 1, h => by
    by_cases e : p k
    · rw [← cntP_t e, ← cntP_t ((h k (by omega)).mp e), cntP_eq k (fun i hi => h i (by omega))]
    · rw [← cntP_f e, ← cntP_f (fun z => e ((h k (by omega)).mpr z)), cntP_eq k (fun i hi => h i (by omega))]
/-- the lowest cell of its part -/
def isMn (K : Nat → Bool) (b : Int32) (c : Nat) : Prop := K c = true ∧ ∀ e, con (spr K b) c e → c ≤ e
def edg (c : Nat) : Prop := nI (c % 8) = 0 ∨ nI (c % 8) = 7 ∨ nI (c / 8) = 0 ∨ nI (c / 8) = 7
def edB (c : Nat) : Bool := decide (nI (c % 8) = 0) || decide (nI (c % 8) = 7) || decide (nI (c / 8) = 0) || decide (nI (c / 8) = 7)
def aeB (P : Nat → Int32) (x : Int32) : Nat → Bool
  | 0 => false
  | k + 1 => aeB P x k || (decide (P k = x) && edB k)
/-- a part that is no hole's -/
def isHo (K : Nat → Bool) (b : Int32) (c : Nat) : Prop := isMn K b c ∧ ¬ ∃ e, e < 64 ∧ con (spr K b) c e ∧ edB e = true
section SF
variable {K : Nat → Bool} {b : Int32} {P : Nat → Int32} {c e : Nat}
theorem spF_mn (h : spF K b P) (hc : c < 64) : P c = nI c ↔ isMn K b c := by
  constructor
  · intro q
    have hk : K c = true := by
      by_cases k : K c = true
      · exact k
      · exact absurd (q.symm.trans ((h c hc).1 (Bool.eq_false_iff.mpr k))) (nI_nm (by omega))
    obtain ⟨d, hd, ed, -, hm⟩ := (h c hc).2 hk
    have := (nI_inj (by omega) (by omega)).mp (q.symm.trans ed)
    subst this
    exact ⟨hk, hm⟩
  · intro q
    obtain ⟨d, hd, ed, hcd, -⟩ := (h c hc).2 q.1
    have := q.2 d hcd
    rw [ed, show d = c by omega]
theorem spF_eq (h : spF K b P) (hc : c < 64) (he : e < 64) (hk : K c = true) : P e = P c ↔ con (spr K b) c e := by
  obtain ⟨d, hd, ed, hcd, hm⟩ := (h c hc).2 hk
  constructor
  · intro q
    have hke : K e = true := by
      by_cases k : K e = true
      · exact k
      · exact absurd (ed.symm.trans (q.symm.trans ((h e he).1 (Bool.eq_false_iff.mpr k)))) (nI_nm (by omega))
    obtain ⟨d2, hd2, ed2, hcd2, -⟩ := (h e he).2 hke
    have := (nI_inj (by omega) (by omega)).mp (ed2.symm.trans (q.trans ed))
    subst this
    exact con_trans hcd (con_symm (fun _ _ => spr_symm) hcd2)
  · intro q
    have hke := (con_in q ⟨hc, hk⟩).2
    obtain ⟨d2, hd2, ed2, hcd2, hm2⟩ := (h e he).2 hke
    have h1 := hm d2 (con_trans q hcd2)
    have h2 := hm2 d (con_trans (con_symm (fun _ _ => spr_symm) q) hcd)
    rw [ed, ed2, show d = d2 by omega]
theorem aeB_iff {x : Int32} : ∀ k, aeB P x k = true ↔ ∃ e, e < k ∧ P e = x ∧ edB e = true
  | 0 => ⟨fun q => (by cases q), fun ⟨e, he, _⟩ => (by omega)⟩
  | k + 1 => by
    rw [aeB, Bool.or_eq_true, aeB_iff k, Bool.and_eq_true, decide_eq_true_iff]
    constructor
    · rintro (⟨e, he, h⟩ | h)
      · exact ⟨e, by omega, h⟩
      · exact ⟨k, by omega, h⟩
    · rintro ⟨e, he, h⟩
      by_cases q : e = k
      · subst q; exact Or.inr h
      · exact Or.inl ⟨e, by omega, h⟩
theorem spF_ho (h : spF K b P) (hc : c < 64) : (P c = nI c ∧ ¬ aeB P (nI c) 64 = true) ↔ isHo K b c := by
  unfold isHo
  rw [spF_mn h hc, aeB_iff]
  constructor
  · rintro ⟨q1, q2⟩
    refine ⟨q1, fun ⟨e, he, hce, hed⟩ => q2 ⟨e, he, ?_, hed⟩⟩
    rw [(spF_eq h hc he q1.1).mpr hce]
    exact (spF_mn h hc).mpr q1
  · rintro ⟨q1, q2⟩
    refine ⟨q1, fun ⟨e, he, hpe, hed⟩ => q2 ⟨e, he, (spF_eq h hc he q1.1).mp ?_, hed⟩⟩
    rw [hpe]
    exact ((spF_mn h hc).mpr q1).symm
theorem ed_1 (h : nI (c % 8) = 0) : edB c = true := by unfold edB; rw [decide_eq_true h]; simp
theorem ed_2 (h : nI (c % 8) = 7) : edB c = true := by unfold edB; rw [decide_eq_true h]; simp
theorem ed_3 (h : nI (c / 8) = 0) : edB c = true := by unfold edB; rw [decide_eq_true h]; simp
theorem ed_4 (h : nI (c / 8) = 7) : edB c = true := by unfold edB; rw [decide_eq_true h]; simp
theorem ed_5 (h1 : ¬ nI (c % 8) = 0) (h2 : ¬ nI (c % 8) = 7) (h3 : ¬ nI (c / 8) = 0) (h4 : ¬ nI (c / 8) = 7) : ¬ edB c = true := by unfold edB; rw [decide_eq_false h1, decide_eq_false h2, decide_eq_false h3, decide_eq_false h4]; decide
theorem ae_1 {x : Int32} {k : Nat} (h : aeB P x k = true) : aeB P x (k + 1) = true := by rw [aeB, h]; rfl
theorem ae_2 {x : Int32} {k : Nat} (h : P k = x) (h2 : edB k = true) : aeB P x (k + 1) = true := by rw [aeB, decide_eq_true h, h2]; simp
theorem ae_3 {x : Int32} {k : Nat} (h : ¬ aeB P x k = true) (h2 : ¬ P k = x) : ¬ aeB P x (k + 1) = true := by rw [aeB, Bool.eq_false_iff.mpr h, decide_eq_false h2]; simp
theorem ae_4 {x : Int32} {k : Nat} (h : ¬ aeB P x k = true) (h2 : ¬ edB k = true) : ¬ aeB P x (k + 1) = true := by rw [aeB, Bool.eq_false_iff.mpr h, Bool.eq_false_iff.mpr h2]; simp
end SF
section MP8
variable {h : AH} {A : AD} {a : Nat → Nat → Int32} {f : Nat → Int32} {P x : Nat → Int32}
theorem mo_p39 : mo h A (va_up a 8 P, f) 39 0 = some (iArr (A 39 0) 64 P) := rfl
theorem mo_q39 : up (mo h A (va_up a 8 P, f)) 39 0 (iArr (A 39 0) 64 x) = mo h A (va_up a 8 x, f) := by rw [mo_a8, va_up2]
end MP8

set_option maxRecDepth 100000 in
theorem ev_touches {l : Launch} {G : GG} (hl : l.stackTraces = false) {h : AH} {c d : Nat} (hc : c < 64) (hd : d < 64) {b : Int32} :
    Ev l G 11 0 0 mX10_touches [.int (nI c), .int (nI d), .int b] h (Rt (some (.int (if tch b c d = true then 1 else 0))) h) := by
  refine Ev.of hl (by decide) (Nat.le_of_ble_eq_true rfl) ?_
  refine g_iload_n (i := 0) dX10_touches_0 rfl rfl ?_
  refine g_bipush (v := 8) dX10_touches_1 (by decide) ?_
  refine g_irem dX10_touches_3 (by decide) ?_
  refine g_iload_n (i := 1) dX10_touches_4 rfl rfl ?_
  refine g_bipush (v := 8) dX10_touches_5 (by decide) ?_
  refine g_irem dX10_touches_7 (by decide) ?_
  refine g_isub dX10_touches_8 ?_
  rw [(nbG c hc).1.1, (nbG d hd).1.1]
  refine g_abs dX10_touches_9 ml_X10_160 w_static_yJ9_abs_0f7a4 w_init_java_lang_Math w_code_Math_abs (Nat.le_of_ble_eq_true rfl) (Nat.le_of_ble_eq_true rfl) ?_
  rw [dstA (c % 8) (by omega) (d % 8) (by omega)]
  refine g_istore_n (i := 3) dX10_touches_12 rfl (Nat.le_of_ble_eq_true rfl) ?_
  refine g_iload_n (i := 0) dX10_touches_13 rfl rfl ?_
  refine g_bipush (v := 8) dX10_touches_14 (by decide) ?_
  refine g_idiv dX10_touches_16 (by decide) ?_
  refine g_iload_n (i := 1) dX10_touches_17 rfl rfl ?_
  refine g_bipush (v := 8) dX10_touches_18 (by decide) ?_
  refine g_idiv dX10_touches_20 (by decide) ?_
  refine g_isub dX10_touches_21 ?_
  rw [(nbG c hc).1.2, (nbG d hd).1.2]
  refine g_abs dX10_touches_22 ml_X10_160 w_static_yJ9_abs_0f7a4 w_init_java_lang_Math w_code_Math_abs (Nat.le_of_ble_eq_true rfl) (Nat.le_of_ble_eq_true rfl) ?_
  rw [dstA (c / 8) (by omega) (d / 8) (by omega)]
  refine g_istore dX10_touches_25 (Nat.le_of_ble_eq_true rfl) ?_
  refine g_iload_n (i := 2) dX10_touches_27 rfl rfl ?_
  refine g_if_eq (tgt := 50) dX10_touches_28 (by decide) (fun c28 => ?_) (fun c28 => ?_)
  · refine g_iload_n (i := 3) dX10_touches_50 rfl rfl ?_
    refine g_iload dX10_touches_51 rfl ?_
    refine g_iadd dX10_touches_53 ?_
    refine g_iconst (v := 1) dX10_touches_54 (by decide) ?_
    refine g_icmp_ne (tgt := 62) dX10_touches_55 (by decide) (fun c55 => ?_) (fun c55 => ?_)
    · refine g_iconst (v := 0) dX10_touches_62 (by decide) ?_
      refine g_iret dX10_touches_63 rfl rfl ?_
      exact ⟨by rw [if_neg (tch_1 c28 c55)], rfl⟩
    · refine g_iconst (v := 1) dX10_touches_58 (by decide) ?_
      refine g_goto (tgt := 63) dX10_touches_59 (by decide) ?_
      refine g_iret dX10_touches_63 rfl rfl ?_
      exact ⟨by rw [if_pos (tch_2 c28 c55)], rfl⟩
  · refine g_iload_n (i := 3) dX10_touches_31 rfl rfl ?_
    refine g_iconst (v := 1) dX10_touches_32 (by decide) ?_
    refine g_icmp_gt (tgt := 46) dX10_touches_33 (by decide) (fun c33 => ?_) (fun c33 => ?_)
    · refine g_iconst (v := 0) dX10_touches_46 (by decide) ?_
      refine g_goto (tgt := 63) dX10_touches_47 (by decide) ?_
      refine g_iret dX10_touches_63 rfl rfl ?_
      exact ⟨by rw [if_neg (tch_3 c28 c33)], rfl⟩
    · refine g_iload dX10_touches_36 rfl ?_
      refine g_iconst (v := 1) dX10_touches_38 (by decide) ?_
      refine g_icmp_gt (tgt := 46) dX10_touches_39 (by decide) (fun c39 => ?_) (fun c39 => ?_)
      · refine g_iconst (v := 0) dX10_touches_46 (by decide) ?_
        refine g_goto (tgt := 63) dX10_touches_47 (by decide) ?_
        refine g_iret dX10_touches_63 rfl rfl ?_
        exact ⟨by rw [if_neg (tch_4 c28 c39)], rfl⟩
      · refine g_iconst (v := 1) dX10_touches_42 (by decide) ?_
        refine g_goto (tgt := 63) dX10_touches_43 (by decide) ?_
        refine g_iret dX10_touches_63 rfl rfl ?_
        exact ⟨by rw [if_pos (tch_5 c28 c33 c39)], rfl⟩

set_option maxRecDepth 100000 in
theorem sp_inner {l : Launch} {G : GG} (hl : l.stackTraces = false) {A : AD} {h : AH} {a : Nat → Nat → Int32} {f : Nat → Int32} {v t b : Int32} {P0 : Nat → Int32} {P9 : Post} {k : Nat} (hk : k < 64) (hout : (∀ (P : Nat → Int32) (F : Int32) (X : Option Value), spJ (spK (a 0) v t) b P0 (k + 1) 0 P F → Go l G mX10_spreads 12 0 0 P9 144 [some (.ref (A 30 0)), some (.int v), some (.int t), some (.int b), some (.int F), some (.int (nI k)), X] [] (mo h A (va_up a 8 P, f)))) : ∀ (j : Nat) (q : Nat) (P : Nat → Int32) (F : Int32), q + j = 64 → spJ (spK (a 0) v t) b P0 k q P F → Go l G mX10_spreads 12 0 0 P9 64 [some (.ref (A 30 0)), some (.int v), some (.int t), some (.int b), some (.int F), some (.int (nI k)), some (.int (nI q))] [] (mo h A (va_up a 8 P, f)) := by
  have inner : ∀ (j : Nat) (q : Nat) (P : Nat → Int32) (F : Int32), q + j = 64 → spJ (spK (a 0) v t) b P0 k q P F → Go l G mX10_spreads 12 0 0 P9 64 [some (.ref (A 30 0)), some (.int v), some (.int t), some (.int b), some (.int F), some (.int (nI k)), some (.int (nI q))] [] (mo h A (va_up a 8 P, f)) := by
    intro j
    induction j with
    | zero =>
      intro q P F hq hJ
      refine g_iload dX10_spreads_64 rfl ?_
      refine g_bipush (v := 64) dX10_spreads_66 (by decide) ?_
      refine g_icmp_ge (tgt := 144) dX10_spreads_68 (by decide) (fun c68 => ?_) (fun c68 => ?_)
      · obtain rfl : q = 64 := by omega
        exact hout _ _ _ (spJ_next hJ)
      · exact absurd ((le_nI (a := 64) (b := q) rfl (by omega) (by omega)).mpr (by omega)) c68
    | succ j ih =>
      intro q P F hq hJ
      refine g_iload dX10_spreads_64 rfl ?_
      refine g_bipush (v := 64) dX10_spreads_66 (by decide) ?_
      refine g_icmp_ge (tgt := 144) dX10_spreads_68 (by decide) (fun c68 => ?_) (fun c68 => ?_)
      · exact absurd ((le_nI (a := 64) (b := q) rfl (by omega) (by omega)).mp c68) (by omega)
      · refine g_aload_n (i := 0) dX10_spreads_71 rfl rfl ?_
        refine g_getf dX10_spreads_72 K_X10 (k := 16) fl_X10_42 (Nat.le_of_ble_eq_true rfl) mo_30 rfl ?_
        refine g_iload dX10_spreads_75 rfl ?_
        refine g_iald dX10_spreads_77 mo_p39 (ix_nI (j := k) (by omega)) (by omega) ?_
        refine g_iconst (v := (-1)) dX10_spreads_78 (by decide) ?_
        refine g_icmp_eq (tgt := 138) dX10_spreads_79 (by decide) (fun c79 => ?_) (fun c79 => ?_)
        · refine g_iinc (w := 1) dX10_spreads_138 (by decide) rfl (nI_succ q).symm (Nat.le_of_ble_eq_true rfl) ?_
          refine g_goto (tgt := 64) dX10_spreads_141 (by decide) ?_
          exact ih (q + 1) _ _ (by omega) (spJ_keep hJ (fun s9 => absurd c79 (spI_n hJ.1 hk s9.2.2.1)))
        · refine g_aload_n (i := 0) dX10_spreads_82 rfl rfl ?_
          refine g_getf dX10_spreads_83 K_X10 (k := 16) fl_X10_42 (Nat.le_of_ble_eq_true rfl) mo_30 rfl ?_
          refine g_iload dX10_spreads_86 rfl ?_
          refine g_iald dX10_spreads_88 mo_p39 (ix_nI (j := q) (by omega)) (by omega) ?_
          refine g_iconst (v := (-1)) dX10_spreads_89 (by decide) ?_
          refine g_icmp_eq (tgt := 138) dX10_spreads_90 (by decide) (fun c90 => ?_) (fun c90 => ?_)
          · refine g_iinc (w := 1) dX10_spreads_138 (by decide) rfl (nI_succ q).symm (Nat.le_of_ble_eq_true rfl) ?_
            refine g_goto (tgt := 64) dX10_spreads_141 (by decide) ?_
            exact ih (q + 1) _ _ (by omega) (spJ_keep hJ (fun s9 => absurd c90 (spI_n hJ.1 (by omega) s9.2.2.2.1)))
          · refine g_aload_n (i := 0) dX10_spreads_93 rfl rfl ?_
            refine g_getf dX10_spreads_94 K_X10 (k := 16) fl_X10_42 (Nat.le_of_ble_eq_true rfl) mo_30 rfl ?_
            refine g_iload dX10_spreads_97 rfl ?_
            refine g_iald dX10_spreads_99 mo_p39 (ix_nI (j := q) (by omega)) (by omega) ?_
            refine g_aload_n (i := 0) dX10_spreads_100 rfl rfl ?_
            refine g_getf dX10_spreads_101 K_X10 (k := 16) fl_X10_42 (Nat.le_of_ble_eq_true rfl) mo_30 rfl ?_
            refine g_iload dX10_spreads_104 rfl ?_
            refine g_iald dX10_spreads_106 mo_p39 (ix_nI (j := k) (by omega)) (by omega) ?_
            refine g_icmp_ge (tgt := 138) dX10_spreads_107 (by decide) (fun c107 => ?_) (fun c107 => ?_)
            · refine g_iinc (w := 1) dX10_spreads_138 (by decide) rfl (nI_succ q).symm (Nat.le_of_ble_eq_true rfl) ?_
              refine g_goto (tgt := 64) dX10_spreads_141 (by decide) ?_
              exact ih (q + 1) _ _ (by omega) (spJ_keep hJ (fun s9 => nlt c107))
            · refine g_iload dX10_spreads_110 rfl ?_
              refine g_iload dX10_spreads_112 rfl ?_
              refine g_iload_n (i := 3) dX10_spreads_114 rfl rfl ?_
              refine g_callS (ev_touches hl (c := k) (d := q) hk (by omega)) dX10_spreads_115 ml_X10_166 csX10_touches rfl rfl (Nat.le_of_ble_eq_true rfl) (Nat.le_of_ble_eq_true rfl) (Nat.zero_le _) (Nat.zero_le _) (kr_rt ?_) kx_rt
              refine g_if_eq (tgt := 138) dX10_spreads_118 (by decide) (fun c118 => ?_) (fun c118 => ?_)
              · refine g_iinc (w := 1) dX10_spreads_138 (by decide) rfl (nI_succ q).symm (Nat.le_of_ble_eq_true rfl) ?_
                refine g_goto (tgt := 64) dX10_spreads_141 (by decide) ?_
                exact ih (q + 1) _ _ (by omega) (spJ_keep hJ (fun s9 => absurd s9.2.2.2.2 (ite_0 c118)))
              · refine g_aload_n (i := 0) dX10_spreads_121 rfl rfl ?_
                refine g_getf dX10_spreads_122 K_X10 (k := 16) fl_X10_42 (Nat.le_of_ble_eq_true rfl) mo_30 rfl ?_
                refine g_iload dX10_spreads_125 rfl ?_
                refine g_aload_n (i := 0) dX10_spreads_127 rfl rfl ?_
                refine g_getf dX10_spreads_128 K_X10 (k := 16) fl_X10_42 (Nat.le_of_ble_eq_true rfl) mo_30 rfl ?_
                refine g_iload dX10_spreads_131 rfl ?_
                refine g_iald dX10_spreads_133 mo_p39 (ix_nI (j := q) (by omega)) (by omega) ?_
                refine g_iast dX10_spreads_134 mo_p39 (ix_nI (j := k) (by omega)) (by omega) rfl (Go.heap mo_q39 ?_)
                refine g_iconst (v := 1) dX10_spreads_135 (by decide) ?_
                refine g_istore dX10_spreads_136 (Nat.le_of_ble_eq_true rfl) ?_
                refine g_iinc (w := 1) dX10_spreads_138 (by decide) rfl (nI_succ q).symm (Nat.le_of_ble_eq_true rfl) ?_
                refine g_goto (tgt := 64) dX10_spreads_141 (by decide) ?_
                exact ih (q + 1) _ _ (by omega) (spJ_set hJ ⟨hk, by omega, spI_K hJ.1 hk c79, spI_K hJ.1 (by omega) c90, ite_1 c118⟩ (ltn c107))
  exact inner

set_option maxRecDepth 100000 in
theorem sp_mid {l : Launch} {G : GG} (hl : l.stackTraces = false) {A : AD} {h : AH} {a : Nat → Nat → Int32} {f : Nat → Int32} {v t b : Int32} {P0 : Nat → Int32} {P9 : Post} (hout : (∀ (P : Nat → Int32) (F : Int32) (X Y : Option Value), spJ (spK (a 0) v t) b P0 64 0 P F → Go l G mX10_spreads 12 0 0 P9 43 [some (.ref (A 30 0)), some (.int v), some (.int t), some (.int b), some (.int F), X, Y] [] (mo h A (va_up a 8 P, f)))) : ∀ (j : Nat) (k : Nat) (P : Nat → Int32) (F : Int32) (X : Option Value), k + j = 64 → spJ (spK (a 0) v t) b P0 k 0 P F → Go l G mX10_spreads 12 0 0 P9 54 [some (.ref (A 30 0)), some (.int v), some (.int t), some (.int b), some (.int F), some (.int (nI k)), X] [] (mo h A (va_up a 8 P, f)) := by
  have mid : ∀ (j : Nat) (k : Nat) (P : Nat → Int32) (F : Int32) (X : Option Value), k + j = 64 → spJ (spK (a 0) v t) b P0 k 0 P F → Go l G mX10_spreads 12 0 0 P9 54 [some (.ref (A 30 0)), some (.int v), some (.int t), some (.int b), some (.int F), some (.int (nI k)), X] [] (mo h A (va_up a 8 P, f)) := by
    intro j
    induction j with
    | zero =>
      intro k P F X hk hJ
      refine g_iload dX10_spreads_54 rfl ?_
      refine g_bipush (v := 64) dX10_spreads_56 (by decide) ?_
      refine g_icmp_ge (tgt := 150) dX10_spreads_58 (by decide) (fun c58 => ?_) (fun c58 => ?_)
      · refine g_goto (tgt := 43) dX10_spreads_150 (by decide) ?_
        obtain rfl : k = 64 := by omega
        exact hout _ _ _ _ hJ
      · exact absurd ((le_nI (a := 64) (b := k) rfl (by omega) (by omega)).mpr (by omega)) c58
    | succ j ih =>
      intro k P F X hk hJ
      refine g_iload dX10_spreads_54 rfl ?_
      refine g_bipush (v := 64) dX10_spreads_56 (by decide) ?_
      refine g_icmp_ge (tgt := 150) dX10_spreads_58 (by decide) (fun c58 => ?_) (fun c58 => ?_)
      · exact absurd ((le_nI (a := 64) (b := k) rfl (by omega) (by omega)).mp c58) (by omega)
      · refine g_iconst (v := 0) dX10_spreads_61 (by decide) ?_
        refine g_istore dX10_spreads_62 (Nat.le_of_ble_eq_true rfl) ?_
        refine sp_inner hl (k := k) (by omega) (fun P2 F2 X2 hJ2 => ?_) 64 0 P F rfl hJ
        refine g_iinc (w := 1) dX10_spreads_144 (by decide) rfl (nI_succ k).symm (Nat.le_of_ble_eq_true rfl) ?_
        refine g_goto (tgt := 54) dX10_spreads_147 (by decide) ?_
        exact ih (k + 1) _ _ _ (by omega) hJ2
  exact mid

set_option maxRecDepth 100000 in
theorem ev_spreads {l : Launch} {G : GG} (hl : l.stackTraces = false) {A : AD} {h : AH} {a : Nat → Nat → Int32} {f : Nat → Int32} {v t b : Int32} :
    Ev l G 12 0 0 mX10_spreads [.ref (A 30 0), .int v, .int t, .int b] (mo h A (a, f)) (RtX none (fun x : {P : Nat → Int32 // spF (spK (a 0) v t) b P} => (mo h A (va_up a 8 x.1, f)))) := by
  refine Ev.of hl (by decide) (Nat.le_of_ble_eq_true rfl) ?_
  have wl : ∀ (j : Nat) (P : Nat → Int32) (X Y : Option Value), muN P 64 < j → spI (spK (a 0) v t) b P → Go l G mX10_spreads 12 0 0 (RtX none (fun x : {P : Nat → Int32 // spF (spK (a 0) v t) b P} => (mo h A (va_up a 8 x.1, f)))) 43 [some (.ref (A 30 0)), some (.int v), some (.int t), some (.int b), some (.int 1), X, Y] [] (mo h A (va_up a 8 P, f)) := by
    intro j
    induction j with
    | zero => intros; omega
    | succ j ih =>
      intro P X Y hn hP
      refine g_iload dX10_spreads_43 rfl ?_
      refine g_if_eq (tgt := 153) dX10_spreads_45 (by decide) (fun c45 => ?_) (fun c45 => ?_)
      · exact absurd c45 (by decide)
      · refine g_iconst (v := 0) dX10_spreads_48 (by decide) ?_
        refine g_istore dX10_spreads_49 (Nat.le_of_ble_eq_true rfl) ?_
        refine g_iconst (v := 0) dX10_spreads_51 (by decide) ?_
        refine g_istore dX10_spreads_52 (Nat.le_of_ble_eq_true rfl) ?_
        refine sp_mid hl (P0 := P) (fun P2 F2 X2 Y2 hJ2 => ?_) 64 0 P 0 _ rfl (spJ_0 hP)
        rcases hJ2.2 with q9 | q9
        · obtain ⟨rfl, q9⟩ := q9
          refine g_iload dX10_spreads_43 rfl ?_
          refine g_if_eq (tgt := 153) dX10_spreads_45 (by decide) (fun c45 => ?_) (fun c45 => ?_)
          · refine g_vret dX10_spreads_153 rfl ?_
            exact ⟨rfl, ⟨P2, spJ_end hJ2⟩, rfl⟩
          · exact absurd rfl c45
        · obtain ⟨rfl, q9⟩ := q9
          exact ih P2 _ _ (Nat.lt_of_lt_of_le q9 (Nat.le_of_lt_succ hn)) hJ2.1
  have ini : ∀ (j : Nat) (k : Nat), k + j = 64 → Go l G mX10_spreads 12 0 0 (RtX none (fun x : {P : Nat → Int32 // spF (spK (a 0) v t) b P} => (mo h A (va_up a 8 x.1, f)))) 3 [some (.ref (A 30 0)), some (.int v), some (.int t), some (.int b), some (.int (nI k)), none, none] [] (mo h A (va_up a 8 (fun i => if i < k then (if (spK (a 0) v t) i = true then nI i else -1) else a 8 i), f)) := by
    intro j
    induction j with
    | zero =>
      intro k hk
      refine g_iload dX10_spreads_3 rfl ?_
      refine g_bipush (v := 64) dX10_spreads_5 (by decide) ?_
      refine g_icmp_ge (tgt := 40) dX10_spreads_7 (by decide) (fun c7 => ?_) (fun c7 => ?_)
      · refine g_iconst (v := 1) dX10_spreads_40 (by decide) ?_
        refine g_istore dX10_spreads_41 (Nat.le_of_ble_eq_true rfl) ?_
        obtain rfl : k = 64 := by omega
        exact wl _ _ _ _ (Nat.lt_succ_self _) spI_0
      · exact absurd ((le_nI (a := 64) (b := k) rfl (by omega) (by omega)).mpr (by omega)) c7
    | succ j ih =>
      intro k hk
      refine g_iload dX10_spreads_3 rfl ?_
      refine g_bipush (v := 64) dX10_spreads_5 (by decide) ?_
      refine g_icmp_ge (tgt := 40) dX10_spreads_7 (by decide) (fun c7 => ?_) (fun c7 => ?_)
      · exact absurd ((le_nI (a := 64) (b := k) rfl (by omega) (by omega)).mp c7) (by omega)
      · refine g_aload_n (i := 0) dX10_spreads_10 rfl rfl ?_
        refine g_getf dX10_spreads_11 K_X10 (k := 16) fl_X10_42 (Nat.le_of_ble_eq_true rfl) mo_30 rfl ?_
        refine g_iload dX10_spreads_14 rfl ?_
        refine g_aload_n (i := 0) dX10_spreads_16 rfl rfl ?_
        refine g_iload dX10_spreads_17 rfl ?_
        refine g_iload_n (i := 1) dX10_spreads_19 rfl rfl ?_
        refine g_callV (ev_mIsOf hl (k := k) (by omega)) dX10_spreads_20 ml_X10_163 cvX10_isOf K_X10 rfl mo_30 rfl rfl (Nat.le_of_ble_eq_true rfl) (Nat.le_of_ble_eq_true rfl) (Nat.zero_le _) (Nat.zero_le _) (kr_rt ?_) kx_rt
        refine g_iload_n (i := 2) dX10_spreads_23 rfl rfl ?_
        refine g_icmp_ne (tgt := 32) dX10_spreads_24 (by decide) (fun c24 => ?_) (fun c24 => ?_)
        · refine g_iconst (v := (-1)) dX10_spreads_32 (by decide) ?_
          refine g_iast dX10_spreads_33 mo_p39 (ix_nI (j := k) (by omega)) (by omega) rfl (Go.heap mo_q39 ?_)
          refine g_iinc (w := 1) dX10_spreads_34 (by decide) rfl (nI_succ k).symm (Nat.le_of_ble_eq_true rfl) ?_
          refine g_goto (tgt := 3) dX10_spreads_37 (by decide) ?_
          have z := ih (k + 1) (by omega)
          have e := cpS (b := fun i => if (spK (a 0) v t) i = true then nI i else (-1 : Int32)) (c := a 8) (k := k)
          rw [show (if (spK (a 0) v t) k = true then nI k else (-1 : Int32)) = -1 from if_neg (fun q9 => c24 (of_decide_eq_true q9))] at e
          rw [← e] at z
          exact z
        · refine g_iload dX10_spreads_27 rfl ?_
          refine g_goto (tgt := 33) dX10_spreads_29 (by decide) ?_
          refine g_iast dX10_spreads_33 mo_p39 (ix_nI (j := k) (by omega)) (by omega) rfl (Go.heap mo_q39 ?_)
          refine g_iinc (w := 1) dX10_spreads_34 (by decide) rfl (nI_succ k).symm (Nat.le_of_ble_eq_true rfl) ?_
          refine g_goto (tgt := 3) dX10_spreads_37 (by decide) ?_
          have z := ih (k + 1) (by omega)
          have e := cpS (b := fun i => if (spK (a 0) v t) i = true then nI i else (-1 : Int32)) (c := a 8) (k := k)
          rw [show (if (spK (a 0) v t) k = true then nI k else (-1 : Int32)) = nI k from if_pos (decide_eq_true c24)] at e
          rw [← e] at z
          exact z
  refine g_iconst (v := 0) dX10_spreads_0 (by decide) ?_
  refine g_istore dX10_spreads_1 (Nat.le_of_ble_eq_true rfl) ?_
  refine Go.heap (h' := (mo h A (va_up a 8 (fun i => if i < 0 then (if (spK (a 0) v t) i = true then nI i else -1) else a 8 i), f))) ?_ (ini 64 0 rfl)
  congr 2; exact (va_self a 8).symm

set_option maxRecDepth 100000 in
theorem ev_mRegions {l : Launch} {G : GG} (hl : l.stackTraces = false) {A : AD} {h : AH} {a : Nat → Nat → Int32} {f : Nat → Int32} {v : Int32} (hv : levP v) :
    Ev l G 13 0 0 mX10_regions [.ref (A 30 0), .int v] (mo h A (a, f)) (RtX (some (.int (cntP (isMn (spK (a 0) v 1) 0) 64))) (fun x : Nat → Int32 => (mo h A (va_up a 8 x, va_up f 11 0)))) := by
  refine Ev.of hl (by decide) (Nat.le_of_ble_eq_true rfl) ?_
  have loop : ∀ (j : Nat) (P : Nat → Int32) (hP : spF (spK (a 0) v 1) 0 P) (k : Nat), k + j = 64 → Go l G mX10_regions 13 0 0 (RtX (some (.int (cntP (isMn (spK (a 0) v 1) 0) 64))) (fun x : Nat → Int32 => (mo h A (va_up a 8 x, va_up f 11 0)))) 34 [some (.ref (A 30 0)), some (.int v), some (.int (cntP (isMn (spK (a 0) v 1) 0) k)), some (.int (nI k))] [] (mo h A (va_up a 8 P, va_up f 11 0)) := by
    intro j
    induction j with
    | zero =>
      intro P hP k hk
      refine g_iload_n (i := 3) dX10_regions_34 rfl rfl ?_
      refine g_bipush (v := 64) dX10_regions_35 (by decide) ?_
      refine g_icmp_ge (tgt := 64) dX10_regions_37 (by decide) (fun c37 => ?_) (fun c37 => ?_)
      · obtain rfl : k = 64 := by omega
        refine g_iload_n (i := 2) dX10_regions_64 rfl rfl ?_
        refine g_iret dX10_regions_65 rfl rfl ?_
        exact ⟨rfl, P, rfl⟩
      · exact absurd ((le_nI (a := 64) (b := k) rfl (by omega) (by omega)).mpr (by omega)) c37
    | succ j ih =>
      intro P hP k hk
      refine g_iload_n (i := 3) dX10_regions_34 rfl rfl ?_
      refine g_bipush (v := 64) dX10_regions_35 (by decide) ?_
      refine g_icmp_ge (tgt := 64) dX10_regions_37 (by decide) (fun c37 => ?_) (fun c37 => ?_)
      · exact absurd ((le_nI (a := 64) (b := k) rfl (by omega) (by omega)).mp c37) (by omega)
      · refine g_iload_n (i := 2) dX10_regions_40 rfl rfl ?_
        refine g_aload_n (i := 0) dX10_regions_41 rfl rfl ?_
        refine g_getf dX10_regions_42 K_X10 (k := 16) fl_X10_42 (Nat.le_of_ble_eq_true rfl) mo_30 rfl ?_
        refine g_iload_n (i := 3) dX10_regions_45 rfl rfl ?_
        refine g_iald dX10_regions_46 mo_p39 (ix_nI (j := k) (by omega)) (by omega) ?_
        refine g_iload_n (i := 3) dX10_regions_47 rfl rfl ?_
        refine g_icmp_ne (tgt := 55) dX10_regions_48 (by decide) (fun c48 => ?_) (fun c48 => ?_)
        · refine g_iconst (v := 0) dX10_regions_55 (by decide) ?_
          refine g_iadd dX10_regions_56 ?_
          refine g_istore_n (i := 2) dX10_regions_57 rfl (Nat.le_of_ble_eq_true rfl) ?_
          refine g_iinc (w := 1) dX10_regions_58 (by decide) rfl (nI_succ k).symm (Nat.le_of_ble_eq_true rfl) ?_
          refine g_goto (tgt := 34) dX10_regions_61 (by decide) ?_
          rw [cntP_f (p := isMn (spK (a 0) v 1) 0) (fun z => c48 ((spF_mn hP (by omega)).mpr z))]
          exact ih P hP (k + 1) (by omega)
        · refine g_iconst (v := 1) dX10_regions_51 (by decide) ?_
          refine g_goto (tgt := 56) dX10_regions_52 (by decide) ?_
          refine g_iadd dX10_regions_56 ?_
          refine g_istore_n (i := 2) dX10_regions_57 rfl (Nat.le_of_ble_eq_true rfl) ?_
          refine g_iinc (w := 1) dX10_regions_58 (by decide) rfl (nI_succ k).symm (Nat.le_of_ble_eq_true rfl) ?_
          refine g_goto (tgt := 34) dX10_regions_61 (by decide) ?_
          rw [cntP_t (p := isMn (spK (a 0) v 1) 0) ((spF_mn hP (by omega)).mp c48)]
          exact ih P hP (k + 1) (by omega)
  refine g_aload_n (i := 0) dX10_regions_0 rfl rfl ?_
  refine g_iconst (v := 0) dX10_regions_1 (by decide) ?_
  refine g_putf dX10_regions_2 K_X10 (k := 11) fl_X10_67 (Nat.le_of_ble_eq_true rfl) rfl mo_30 (Nat.le_of_ble_eq_true rfl) rfl rfl (Go.heap (mo_f11) ?_)
  refine g_iload_n (i := 1) dX10_regions_5 rfl rfl ?_
  refine g_i2l dX10_regions_6 ?_
  refine g_lconst (v := 1) dX10_regions_7 (by decide) ?_
  refine g_ldc2 dX10_regions_8 co_X10_135 ?_
  refine g_callS (ev_in hl (lo := 1) (hi := 9999) (by decide) (by decide)) dX10_regions_11 ml_X10_85 csX10_in rfl rfl (Nat.le_of_ble_eq_true rfl) (Nat.le_of_ble_eq_true rfl) (Nat.zero_le _) (Nat.zero_le _) (kr_rt ?_) kx_rt
  refine g_if_ne (tgt := 23) dX10_regions_14 (by decide) (fun c14 => ?_) (fun c14 => ?_)
  · refine g_aload_n (i := 0) dX10_regions_23 rfl rfl ?_
    refine g_iload_n (i := 1) dX10_regions_24 rfl rfl ?_
    refine g_iconst (v := 1) dX10_regions_25 (by decide) ?_
    refine g_iconst (v := 0) dX10_regions_26 (by decide) ?_
    refine g_callV (ev_spreads hl) dX10_regions_27 ml_X10_170 cvX10_spreads K_X10 rfl mo_30 rfl rfl (Nat.le_of_ble_eq_true rfl) (Nat.le_of_ble_eq_true rfl) (Nat.zero_le _) (Nat.zero_le _) (kr_xv (fun x9 => ?_)) kx_x
    refine g_iconst (v := 0) dX10_regions_30 (by decide) ?_
    refine g_istore_n (i := 2) dX10_regions_31 rfl (Nat.le_of_ble_eq_true rfl) ?_
    refine g_iconst (v := 0) dX10_regions_32 (by decide) ?_
    refine g_istore_n (i := 3) dX10_regions_33 rfl (Nat.le_of_ble_eq_true rfl) ?_
    exact loop 64 x9.1 x9.2 0 rfl
  · exact absurd c14 (by rw [if_pos hv]; decide)

set_option maxRecDepth 100000 in
theorem ev_mRegions_no {l : Launch} {G : GG} (hl : l.stackTraces = false) {A : AD} {h : AH} {a : Nat → Nat → Int32} {f : Nat → Int32} {v : Int32} (hv : ¬ levP v) :
    Ev l G 13 0 0 mX10_regions [.ref (A 30 0), .int v] (mo h A (a, f)) (Rt (some (.int (-1))) (mo h A (a, va_up f 11 1))) := by
  refine Ev.of hl (by decide) (Nat.le_of_ble_eq_true rfl) ?_
  refine g_aload_n (i := 0) dX10_regions_0 rfl rfl ?_
  refine g_iconst (v := 0) dX10_regions_1 (by decide) ?_
  refine g_putf dX10_regions_2 K_X10 (k := 11) fl_X10_67 (Nat.le_of_ble_eq_true rfl) rfl mo_30 (Nat.le_of_ble_eq_true rfl) rfl rfl (Go.heap (mo_f11) ?_)
  refine g_iload_n (i := 1) dX10_regions_5 rfl rfl ?_
  refine g_i2l dX10_regions_6 ?_
  refine g_lconst (v := 1) dX10_regions_7 (by decide) ?_
  refine g_ldc2 dX10_regions_8 co_X10_135 ?_
  refine g_callS (ev_in hl (lo := 1) (hi := 9999) (by decide) (by decide)) dX10_regions_11 ml_X10_85 csX10_in rfl rfl (Nat.le_of_ble_eq_true rfl) (Nat.le_of_ble_eq_true rfl) (Nat.zero_le _) (Nat.zero_le _) (kr_rt ?_) kx_rt
  refine g_if_ne (tgt := 23) dX10_regions_14 (by decide) (fun c14 => ?_) (fun c14 => ?_)
  · exact absurd (if_neg hv) c14
  · refine g_aload_n (i := 0) dX10_regions_17 rfl rfl ?_
    refine g_iconst (v := 1) dX10_regions_18 (by decide) ?_
    refine g_callV (ev_throwing hl (x := 1)) dX10_regions_19 ml_X10_76 cvX10_throwing K_X10 rfl mo_30 rfl rfl (Nat.le_of_ble_eq_true rfl) (Nat.le_of_ble_eq_true rfl) (Nat.zero_le _) (Nat.zero_le _) (kr_rt ?_) kx_rt
    refine g_iret dX10_regions_22 rfl rfl ?_
    exact ⟨rfl, by rw [va_up2]⟩

set_option maxRecDepth 100000 in
theorem ev_mRegionsU {l : Launch} {G : GG} (hl : l.stackTraces = false) {A : AD} {h : AH} {a : Nat → Nat → Int32} {f : Nat → Int32} {v : Int32} (hv : levP v) :
    Ev l G 14 0 0 mX10_regionsByUnions [.ref (A 30 0), .int v] (mo h A (a, f)) (RtX (some (.int (cntP (isMn (spK (a 0) v 1) 0) 64))) (fun x : Nat → Int32 => (mo h A (va_up a 8 x, va_up f 11 0)))) := by
  refine Ev.of hl (by decide) (Nat.le_of_ble_eq_true rfl) ?_
  refine g_aload_n (i := 0) dX10_regionsByUnions_0 rfl rfl ?_
  refine g_iload_n (i := 1) dX10_regionsByUnions_1 rfl rfl ?_
  refine g_callV (ev_mRegions hl hv) dX10_regionsByUnions_2 ml_X10_174 cvX10_regions K_X10 rfl mo_30 rfl rfl (Nat.le_of_ble_eq_true rfl) (Nat.le_of_ble_eq_true rfl) (Nat.zero_le _) (Nat.zero_le _) (kr_x (fun x9 => ?_)) kx_x
  refine g_iret dX10_regionsByUnions_5 rfl rfl ?_
  exact ⟨rfl, x9, rfl⟩

set_option maxRecDepth 100000 in
theorem ev_mRegionsU_no {l : Launch} {G : GG} (hl : l.stackTraces = false) {A : AD} {h : AH} {a : Nat → Nat → Int32} {f : Nat → Int32} {v : Int32} (hv : ¬ levP v) :
    Ev l G 14 0 0 mX10_regionsByUnions [.ref (A 30 0), .int v] (mo h A (a, f)) (Rt (some (.int (-1))) (mo h A (a, va_up f 11 1))) := by
  refine Ev.of hl (by decide) (Nat.le_of_ble_eq_true rfl) ?_
  refine g_aload_n (i := 0) dX10_regionsByUnions_0 rfl rfl ?_
  refine g_iload_n (i := 1) dX10_regionsByUnions_1 rfl rfl ?_
  refine g_callV (ev_mRegions_no hl hv) dX10_regionsByUnions_2 ml_X10_174 cvX10_regions K_X10 rfl mo_30 rfl rfl (Nat.le_of_ble_eq_true rfl) (Nat.le_of_ble_eq_true rfl) (Nat.zero_le _) (Nat.zero_le _) (kr_rt ?_) kx_rt
  refine g_iret dX10_regionsByUnions_5 rfl rfl ?_
  exact ⟨rfl, rfl⟩

set_option maxRecDepth 100000 in
theorem ev_isAtEdge {l : Launch} {G : GG} (hl : l.stackTraces = false) {A : AD} {h : AH} {a : Nat → Nat → Int32} {f : Nat → Int32} {P : Nat → Int32} {x : Int32} :
    Ev l G 10 0 0 mX10_isAtEdge [.ref (A 30 0), .int x] (mo h A (va_up a 8 P, f)) (Rt (some (.int (if aeB P x 64 = true then 1 else 0))) (mo h A (va_up a 8 P, f))) := by
  refine Ev.of hl (by decide) (Nat.le_of_ble_eq_true rfl) ?_
  have loop : ∀ (j : Nat) (k : Nat) (X : Option Value), k + j = 64 → Go l G mX10_isAtEdge 10 0 0 (Rt (some (.int (if aeB P x 64 = true then 1 else 0))) (mo h A (va_up a 8 P, f))) 4 [some (.ref (A 30 0)), some (.int x), some (.int (if aeB P x k = true then (1 : Int32) else 0)), some (.int (nI k)), X] [] (mo h A (va_up a 8 P, f)) := by
    intro j
    induction j with
    | zero =>
      intro k X hk
      refine g_iload_n (i := 3) dX10_isAtEdge_4 rfl rfl ?_
      refine g_bipush (v := 64) dX10_isAtEdge_5 (by decide) ?_
      refine g_icmp_ge (tgt := 80) dX10_isAtEdge_7 (by decide) (fun c7 => ?_) (fun c7 => ?_)
      · obtain rfl : k = 64 := by omega
        refine g_iload_n (i := 2) dX10_isAtEdge_80 rfl rfl ?_
        refine g_iret dX10_isAtEdge_81 rfl (by split <;> rfl) ?_
        exact ⟨rfl, rfl⟩
      · exact absurd ((le_nI (a := 64) (b := k) rfl (by omega) (by omega)).mpr (by omega)) c7
    | succ j ih =>
      intro k X hk
      have h49 : ∀ E : Int32, E = (if edB k = true then 1 else 0) → k < 64 → Go l G mX10_isAtEdge 10 0 0 (Rt (some (.int (if aeB P x 64 = true then 1 else 0))) (mo h A (va_up a 8 P, f))) 49 [some (.ref (A 30 0)), some (.int x), some (.int (if aeB P x k = true then (1 : Int32) else 0)), some (.int (nI k)), some (.int E)] [] (mo h A (va_up a 8 P, f)) := by
        intro E hE hk9
        refine g_iload_n (i := 2) dX10_isAtEdge_49 rfl rfl ?_
        refine g_if_ne (tgt := 68) dX10_isAtEdge_50 (by decide) (fun c50 => ?_) (fun c50 => ?_)
        · refine g_iconst (v := 1) dX10_isAtEdge_68 (by decide) ?_
          refine g_goto (tgt := 73) dX10_isAtEdge_69 (by decide) ?_
          refine g_istore_n (i := 2) dX10_isAtEdge_73 rfl (Nat.le_of_ble_eq_true rfl) ?_
          refine g_iinc (w := 1) dX10_isAtEdge_74 (by decide) rfl (nI_succ k).symm (Nat.le_of_ble_eq_true rfl) ?_
          refine g_goto (tgt := 4) dX10_isAtEdge_77 (by decide) ?_
          have z := ih (k + 1) (some (.int E)) (by omega)
          rw [show (if aeB P x (k + 1) = true then (1 : Int32) else 0) = 1 from if_pos (ae_1 (ite_1 c50))] at z
          exact z
        · refine g_aload_n (i := 0) dX10_isAtEdge_53 rfl rfl ?_
          refine g_getf dX10_isAtEdge_54 K_X10 (k := 16) fl_X10_42 (Nat.le_of_ble_eq_true rfl) mo_30 rfl ?_
          refine g_iload_n (i := 3) dX10_isAtEdge_57 rfl rfl ?_
          refine g_iald dX10_isAtEdge_58 mo_p39 (ix_nI (j := k) (by omega)) (by omega) ?_
          refine g_iload_n (i := 1) dX10_isAtEdge_59 rfl rfl ?_
          refine g_icmp_ne (tgt := 72) dX10_isAtEdge_60 (by decide) (fun c60 => ?_) (fun c60 => ?_)
          · refine g_iconst (v := 0) dX10_isAtEdge_72 (by decide) ?_
            refine g_istore_n (i := 2) dX10_isAtEdge_73 rfl (Nat.le_of_ble_eq_true rfl) ?_
            refine g_iinc (w := 1) dX10_isAtEdge_74 (by decide) rfl (nI_succ k).symm (Nat.le_of_ble_eq_true rfl) ?_
            refine g_goto (tgt := 4) dX10_isAtEdge_77 (by decide) ?_
            have z := ih (k + 1) (some (.int E)) (by omega)
            rw [show (if aeB P x (k + 1) = true then (1 : Int32) else 0) = 0 from if_neg (ae_3 (ite_0 c50) c60)] at z
            exact z
          · refine g_iload dX10_isAtEdge_63 rfl ?_
            refine g_if_eq (tgt := 72) dX10_isAtEdge_65 (by decide) (fun c65 => ?_) (fun c65 => ?_)
            · refine g_iconst (v := 0) dX10_isAtEdge_72 (by decide) ?_
              refine g_istore_n (i := 2) dX10_isAtEdge_73 rfl (Nat.le_of_ble_eq_true rfl) ?_
              refine g_iinc (w := 1) dX10_isAtEdge_74 (by decide) rfl (nI_succ k).symm (Nat.le_of_ble_eq_true rfl) ?_
              refine g_goto (tgt := 4) dX10_isAtEdge_77 (by decide) ?_
              have z := ih (k + 1) (some (.int E)) (by omega)
              rw [show (if aeB P x (k + 1) = true then (1 : Int32) else 0) = 0 from if_neg (ae_4 (ite_0 c50) (ite_0 (hE.symm.trans c65)))] at z
              exact z
            · refine g_iconst (v := 1) dX10_isAtEdge_68 (by decide) ?_
              refine g_goto (tgt := 73) dX10_isAtEdge_69 (by decide) ?_
              refine g_istore_n (i := 2) dX10_isAtEdge_73 rfl (Nat.le_of_ble_eq_true rfl) ?_
              refine g_iinc (w := 1) dX10_isAtEdge_74 (by decide) rfl (nI_succ k).symm (Nat.le_of_ble_eq_true rfl) ?_
              refine g_goto (tgt := 4) dX10_isAtEdge_77 (by decide) ?_
              have z := ih (k + 1) (some (.int E)) (by omega)
              rw [show (if aeB P x (k + 1) = true then (1 : Int32) else 0) = 1 from if_pos (ae_2 c60 (ite_1 (fun q9 => c65 (hE.trans q9))))] at z
              exact z
      refine g_iload_n (i := 3) dX10_isAtEdge_4 rfl rfl ?_
      refine g_bipush (v := 64) dX10_isAtEdge_5 (by decide) ?_
      refine g_icmp_ge (tgt := 80) dX10_isAtEdge_7 (by decide) (fun c7 => ?_) (fun c7 => ?_)
      · exact absurd ((le_nI (a := 64) (b := k) rfl (by omega) (by omega)).mp c7) (by omega)
      · refine g_iload_n (i := 3) dX10_isAtEdge_10 rfl rfl ?_
        refine g_bipush (v := 8) dX10_isAtEdge_11 (by decide) ?_
        refine g_irem dX10_isAtEdge_13 (by decide) ?_
        rw [(nbG k (by omega)).1.1]
        refine g_if_eq (tgt := 42) dX10_isAtEdge_14 (by decide) (fun c14 => ?_) (fun c14 => ?_)
        · refine g_iconst (v := 1) dX10_isAtEdge_42 (by decide) ?_
          refine g_goto (tgt := 47) dX10_isAtEdge_43 (by decide) ?_
          refine g_istore dX10_isAtEdge_47 (Nat.le_of_ble_eq_true rfl) ?_
          exact h49 1 (if_pos (ed_1 c14)).symm (by omega)
        · refine g_iload_n (i := 3) dX10_isAtEdge_17 rfl rfl ?_
          refine g_bipush (v := 8) dX10_isAtEdge_18 (by decide) ?_
          refine g_irem dX10_isAtEdge_20 (by decide) ?_
          rw [(nbG k (by omega)).1.1]
          refine g_bipush (v := 7) dX10_isAtEdge_21 (by decide) ?_
          refine g_icmp_eq (tgt := 42) dX10_isAtEdge_23 (by decide) (fun c23 => ?_) (fun c23 => ?_)
          · refine g_iconst (v := 1) dX10_isAtEdge_42 (by decide) ?_
            refine g_goto (tgt := 47) dX10_isAtEdge_43 (by decide) ?_
            refine g_istore dX10_isAtEdge_47 (Nat.le_of_ble_eq_true rfl) ?_
            exact h49 1 (if_pos (ed_2 c23)).symm (by omega)
          · refine g_iload_n (i := 3) dX10_isAtEdge_26 rfl rfl ?_
            refine g_bipush (v := 8) dX10_isAtEdge_27 (by decide) ?_
            refine g_idiv dX10_isAtEdge_29 (by decide) ?_
            rw [(nbG k (by omega)).1.2]
            refine g_if_eq (tgt := 42) dX10_isAtEdge_30 (by decide) (fun c30 => ?_) (fun c30 => ?_)
            · refine g_iconst (v := 1) dX10_isAtEdge_42 (by decide) ?_
              refine g_goto (tgt := 47) dX10_isAtEdge_43 (by decide) ?_
              refine g_istore dX10_isAtEdge_47 (Nat.le_of_ble_eq_true rfl) ?_
              exact h49 1 (if_pos (ed_3 c30)).symm (by omega)
            · refine g_iload_n (i := 3) dX10_isAtEdge_33 rfl rfl ?_
              refine g_bipush (v := 8) dX10_isAtEdge_34 (by decide) ?_
              refine g_idiv dX10_isAtEdge_36 (by decide) ?_
              rw [(nbG k (by omega)).1.2]
              refine g_bipush (v := 7) dX10_isAtEdge_37 (by decide) ?_
              refine g_icmp_ne (tgt := 46) dX10_isAtEdge_39 (by decide) (fun c39 => ?_) (fun c39 => ?_)
              · refine g_iconst (v := 0) dX10_isAtEdge_46 (by decide) ?_
                refine g_istore dX10_isAtEdge_47 (Nat.le_of_ble_eq_true rfl) ?_
                exact h49 0 (if_neg (ed_5 c14 c23 c30 c39)).symm (by omega)
              · refine g_iconst (v := 1) dX10_isAtEdge_42 (by decide) ?_
                refine g_goto (tgt := 47) dX10_isAtEdge_43 (by decide) ?_
                refine g_istore dX10_isAtEdge_47 (Nat.le_of_ble_eq_true rfl) ?_
                exact h49 1 (if_pos (ed_4 c39)).symm (by omega)
  refine g_iconst (v := 0) dX10_isAtEdge_0 (by decide) ?_
  refine g_istore_n (i := 2) dX10_isAtEdge_1 rfl (Nat.le_of_ble_eq_true rfl) ?_
  refine g_iconst (v := 0) dX10_isAtEdge_2 (by decide) ?_
  refine g_istore_n (i := 3) dX10_isAtEdge_3 rfl (Nat.le_of_ble_eq_true rfl) ?_
  exact loop 64 0 _ rfl

set_option maxRecDepth 100000 in
theorem ev_mHoles {l : Launch} {G : GG} (hl : l.stackTraces = false) {A : AD} {h : AH} {a : Nat → Nat → Int32} {f : Nat → Int32} {v : Int32} (hv : levP v) :
    Ev l G 13 0 0 mX10_holes [.ref (A 30 0), .int v] (mo h A (a, f)) (RtX (some (.int (cntP (isHo (spK (a 0) v 0) 1) 64))) (fun x : Nat → Int32 => (mo h A (va_up a 8 x, va_up f 11 0)))) := by
  refine Ev.of hl (by decide) (Nat.le_of_ble_eq_true rfl) ?_
  have loop : ∀ (j : Nat) (P : Nat → Int32) (hP : spF (spK (a 0) v 0) 1 P) (k : Nat), k + j = 64 → Go l G mX10_holes 13 0 0 (RtX (some (.int (cntP (isHo (spK (a 0) v 0) 1) 64))) (fun x : Nat → Int32 => (mo h A (va_up a 8 x, va_up f 11 0)))) 34 [some (.ref (A 30 0)), some (.int v), some (.int (cntP (isHo (spK (a 0) v 0) 1) k)), some (.int (nI k))] [] (mo h A (va_up a 8 P, va_up f 11 0)) := by
    intro j
    induction j with
    | zero =>
      intro P hP k hk
      refine g_iload_n (i := 3) dX10_holes_34 rfl rfl ?_
      refine g_bipush (v := 64) dX10_holes_35 (by decide) ?_
      refine g_icmp_ge (tgt := 72) dX10_holes_37 (by decide) (fun c37 => ?_) (fun c37 => ?_)
      · obtain rfl : k = 64 := by omega
        refine g_iload_n (i := 2) dX10_holes_72 rfl rfl ?_
        refine g_iret dX10_holes_73 rfl rfl ?_
        exact ⟨rfl, P, rfl⟩
      · exact absurd ((le_nI (a := 64) (b := k) rfl (by omega) (by omega)).mpr (by omega)) c37
    | succ j ih =>
      intro P hP k hk
      refine g_iload_n (i := 3) dX10_holes_34 rfl rfl ?_
      refine g_bipush (v := 64) dX10_holes_35 (by decide) ?_
      refine g_icmp_ge (tgt := 72) dX10_holes_37 (by decide) (fun c37 => ?_) (fun c37 => ?_)
      · exact absurd ((le_nI (a := 64) (b := k) rfl (by omega) (by omega)).mp c37) (by omega)
      · refine g_iload_n (i := 2) dX10_holes_40 rfl rfl ?_
        refine g_aload_n (i := 0) dX10_holes_41 rfl rfl ?_
        refine g_getf dX10_holes_42 K_X10 (k := 16) fl_X10_42 (Nat.le_of_ble_eq_true rfl) mo_30 rfl ?_
        refine g_iload_n (i := 3) dX10_holes_45 rfl rfl ?_
        refine g_iald dX10_holes_46 mo_p39 (ix_nI (j := k) (by omega)) (by omega) ?_
        refine g_iload_n (i := 3) dX10_holes_47 rfl rfl ?_
        refine g_icmp_ne (tgt := 63) dX10_holes_48 (by decide) (fun c48 => ?_) (fun c48 => ?_)
        · refine g_iconst (v := 0) dX10_holes_63 (by decide) ?_
          refine g_iadd dX10_holes_64 ?_
          refine g_istore_n (i := 2) dX10_holes_65 rfl (Nat.le_of_ble_eq_true rfl) ?_
          refine g_iinc (w := 1) dX10_holes_66 (by decide) rfl (nI_succ k).symm (Nat.le_of_ble_eq_true rfl) ?_
          refine g_goto (tgt := 34) dX10_holes_69 (by decide) ?_
          rw [cntP_f (p := isHo (spK (a 0) v 0) 1) (fun z => c48 ((spF_ho hP (by omega)).mpr z).1)]
          exact ih P hP (k + 1) (by omega)
        · refine g_aload_n (i := 0) dX10_holes_51 rfl rfl ?_
          refine g_iload_n (i := 3) dX10_holes_52 rfl rfl ?_
          refine g_callV (ev_isAtEdge hl (f := va_up f 11 0)) dX10_holes_53 ml_X10_177 cvX10_isAtEdge K_X10 rfl mo_30 rfl rfl (Nat.le_of_ble_eq_true rfl) (Nat.le_of_ble_eq_true rfl) (Nat.zero_le _) (Nat.zero_le _) (kr_rt ?_) kx_rt
          refine g_if_ne (tgt := 63) dX10_holes_56 (by decide) (fun c56 => ?_) (fun c56 => ?_)
          · refine g_iconst (v := 0) dX10_holes_63 (by decide) ?_
            refine g_iadd dX10_holes_64 ?_
            refine g_istore_n (i := 2) dX10_holes_65 rfl (Nat.le_of_ble_eq_true rfl) ?_
            refine g_iinc (w := 1) dX10_holes_66 (by decide) rfl (nI_succ k).symm (Nat.le_of_ble_eq_true rfl) ?_
            refine g_goto (tgt := 34) dX10_holes_69 (by decide) ?_
            rw [cntP_f (p := isHo (spK (a 0) v 0) 1) (fun z => ((spF_ho hP (by omega)).mpr z).2 (ite_1 c56))]
            exact ih P hP (k + 1) (by omega)
          · refine g_iconst (v := 1) dX10_holes_59 (by decide) ?_
            refine g_goto (tgt := 64) dX10_holes_60 (by decide) ?_
            refine g_iadd dX10_holes_64 ?_
            refine g_istore_n (i := 2) dX10_holes_65 rfl (Nat.le_of_ble_eq_true rfl) ?_
            refine g_iinc (w := 1) dX10_holes_66 (by decide) rfl (nI_succ k).symm (Nat.le_of_ble_eq_true rfl) ?_
            refine g_goto (tgt := 34) dX10_holes_69 (by decide) ?_
            rw [cntP_t (p := isHo (spK (a 0) v 0) 1) ((spF_ho hP (by omega)).mp ⟨c48, ite_0 c56⟩)]
            exact ih P hP (k + 1) (by omega)
  refine g_aload_n (i := 0) dX10_holes_0 rfl rfl ?_
  refine g_iconst (v := 0) dX10_holes_1 (by decide) ?_
  refine g_putf dX10_holes_2 K_X10 (k := 11) fl_X10_67 (Nat.le_of_ble_eq_true rfl) rfl mo_30 (Nat.le_of_ble_eq_true rfl) rfl rfl (Go.heap (mo_f11) ?_)
  refine g_iload_n (i := 1) dX10_holes_5 rfl rfl ?_
  refine g_i2l dX10_holes_6 ?_
  refine g_lconst (v := 1) dX10_holes_7 (by decide) ?_
  refine g_ldc2 dX10_holes_8 co_X10_135 ?_
  refine g_callS (ev_in hl (lo := 1) (hi := 9999) (by decide) (by decide)) dX10_holes_11 ml_X10_85 csX10_in rfl rfl (Nat.le_of_ble_eq_true rfl) (Nat.le_of_ble_eq_true rfl) (Nat.zero_le _) (Nat.zero_le _) (kr_rt ?_) kx_rt
  refine g_if_ne (tgt := 23) dX10_holes_14 (by decide) (fun c14 => ?_) (fun c14 => ?_)
  · refine g_aload_n (i := 0) dX10_holes_23 rfl rfl ?_
    refine g_iload_n (i := 1) dX10_holes_24 rfl rfl ?_
    refine g_iconst (v := 0) dX10_holes_25 (by decide) ?_
    refine g_iconst (v := 1) dX10_holes_26 (by decide) ?_
    refine g_callV (ev_spreads hl) dX10_holes_27 ml_X10_170 cvX10_spreads K_X10 rfl mo_30 rfl rfl (Nat.le_of_ble_eq_true rfl) (Nat.le_of_ble_eq_true rfl) (Nat.zero_le _) (Nat.zero_le _) (kr_xv (fun x9 => ?_)) kx_x
    refine g_iconst (v := 0) dX10_holes_30 (by decide) ?_
    refine g_istore_n (i := 2) dX10_holes_31 rfl (Nat.le_of_ble_eq_true rfl) ?_
    refine g_iconst (v := 0) dX10_holes_32 (by decide) ?_
    refine g_istore_n (i := 3) dX10_holes_33 rfl (Nat.le_of_ble_eq_true rfl) ?_
    exact loop 64 x9.1 x9.2 0 rfl
  · exact absurd c14 (by rw [if_pos hv]; decide)

set_option maxRecDepth 100000 in
theorem ev_mHoles_no {l : Launch} {G : GG} (hl : l.stackTraces = false) {A : AD} {h : AH} {a : Nat → Nat → Int32} {f : Nat → Int32} {v : Int32} (hv : ¬ levP v) :
    Ev l G 13 0 0 mX10_holes [.ref (A 30 0), .int v] (mo h A (a, f)) (Rt (some (.int (-1))) (mo h A (a, va_up f 11 1))) := by
  refine Ev.of hl (by decide) (Nat.le_of_ble_eq_true rfl) ?_
  refine g_aload_n (i := 0) dX10_holes_0 rfl rfl ?_
  refine g_iconst (v := 0) dX10_holes_1 (by decide) ?_
  refine g_putf dX10_holes_2 K_X10 (k := 11) fl_X10_67 (Nat.le_of_ble_eq_true rfl) rfl mo_30 (Nat.le_of_ble_eq_true rfl) rfl rfl (Go.heap (mo_f11) ?_)
  refine g_iload_n (i := 1) dX10_holes_5 rfl rfl ?_
  refine g_i2l dX10_holes_6 ?_
  refine g_lconst (v := 1) dX10_holes_7 (by decide) ?_
  refine g_ldc2 dX10_holes_8 co_X10_135 ?_
  refine g_callS (ev_in hl (lo := 1) (hi := 9999) (by decide) (by decide)) dX10_holes_11 ml_X10_85 csX10_in rfl rfl (Nat.le_of_ble_eq_true rfl) (Nat.le_of_ble_eq_true rfl) (Nat.zero_le _) (Nat.zero_le _) (kr_rt ?_) kx_rt
  refine g_if_ne (tgt := 23) dX10_holes_14 (by decide) (fun c14 => ?_) (fun c14 => ?_)
  · exact absurd (if_neg hv) c14
  · refine g_aload_n (i := 0) dX10_holes_17 rfl rfl ?_
    refine g_iconst (v := 1) dX10_holes_18 (by decide) ?_
    refine g_callV (ev_throwing hl (x := 1)) dX10_holes_19 ml_X10_76 cvX10_throwing K_X10 rfl mo_30 rfl rfl (Nat.le_of_ble_eq_true rfl) (Nat.le_of_ble_eq_true rfl) (Nat.zero_le _) (Nat.zero_le _) (kr_rt ?_) kx_rt
    refine g_iret dX10_holes_22 rfl rfl ?_
    exact ⟨rfl, by rw [va_up2]⟩

set_option maxRecDepth 100000 in
theorem ev_mHolesS {l : Launch} {G : GG} (hl : l.stackTraces = false) {A : AD} {h : AH} {a : Nat → Nat → Int32} {f : Nat → Int32} {v : Int32} (hv : levP v) :
    Ev l G 14 0 0 mX10_holesBySquares [.ref (A 30 0), .int v] (mo h A (a, f)) (RtX (some (.int (cntP (isHo (spK (a 0) v 0) 1) 64))) (fun x : Nat → Int32 => (mo h A (va_up a 8 x, va_up f 11 0)))) := by
  refine Ev.of hl (by decide) (Nat.le_of_ble_eq_true rfl) ?_
  refine g_aload_n (i := 0) dX10_holesBySquares_0 rfl rfl ?_
  refine g_iload_n (i := 1) dX10_holesBySquares_1 rfl rfl ?_
  refine g_callV (ev_mHoles hl hv) dX10_holesBySquares_2 ml_X10_180 cvX10_holes K_X10 rfl mo_30 rfl rfl (Nat.le_of_ble_eq_true rfl) (Nat.le_of_ble_eq_true rfl) (Nat.zero_le _) (Nat.zero_le _) (kr_x (fun x9 => ?_)) kx_x
  refine g_iret dX10_holesBySquares_5 rfl rfl ?_
  exact ⟨rfl, x9, rfl⟩

set_option maxRecDepth 100000 in
theorem ev_mHolesS_no {l : Launch} {G : GG} (hl : l.stackTraces = false) {A : AD} {h : AH} {a : Nat → Nat → Int32} {f : Nat → Int32} {v : Int32} (hv : ¬ levP v) :
    Ev l G 14 0 0 mX10_holesBySquares [.ref (A 30 0), .int v] (mo h A (a, f)) (Rt (some (.int (-1))) (mo h A (a, va_up f 11 1))) := by
  refine Ev.of hl (by decide) (Nat.le_of_ble_eq_true rfl) ?_
  refine g_aload_n (i := 0) dX10_holesBySquares_0 rfl rfl ?_
  refine g_iload_n (i := 1) dX10_holesBySquares_1 rfl rfl ?_
  refine g_callV (ev_mHoles_no hl hv) dX10_holesBySquares_2 ml_X10_180 cvX10_holes K_X10 rfl mo_30 rfl rfl (Nat.le_of_ble_eq_true rfl) (Nat.le_of_ble_eq_true rfl) (Nat.zero_le _) (Nat.zero_le _) (kr_rt ?_) kx_rt
  refine g_iret dX10_holesBySquares_5 rfl rfl ?_
  exact ⟨rfl, rfl⟩

set_option maxRecDepth 100000 in
theorem ev_mRegionSize {l : Launch} {G : GG} (hl : l.stackTraces = false) {A : AD} {h : AH} {a : Nat → Nat → Int32} {f : Nat → Int32} {i j9 : Nat} (hi : i < 8) (hj : j9 < 8) {v : Int32} (hv : levP v) :
    Ev l G 13 0 0 mX10_regionSize [.ref (A 30 0), .int (nI i), .int (nI j9), .int v] (mo h A (a, f)) (RtX (some (.int (cntP (fun e => spK (a 0) v 1 (8 * j9 + i) = true ∧ con (spr (spK (a 0) v 1) 0) (8 * j9 + i) e) 64))) (fun x : Nat → Int32 => (mo h A (va_up a 8 x, va_up f 11 0)))) := by
  refine Ev.of hl (by decide) (Nat.le_of_ble_eq_true rfl) ?_
  have loop : ∀ (j : Nat) (P : Nat → Int32) (hP : spF (spK (a 0) v 1) 0 P) (k : Nat), k + j = 64 → Go l G mX10_regionSize 13 0 0 (RtX (some (.int (cntP (fun e => spK (a 0) v 1 (8 * j9 + i) = true ∧ con (spr (spK (a 0) v 1) 0) (8 * j9 + i) e) 64))) (fun x : Nat → Int32 => (mo h A (va_up a 8 x, va_up f 11 0)))) 63 [some (.ref (A 30 0)), some (.int (nI i)), some (.int (nI j9)), some (.int v), some (.int (P (8 * j9 + i))), some (.int (cntP (fun e => spK (a 0) v 1 (8 * j9 + i) = true ∧ con (spr (spK (a 0) v 1) 0) (8 * j9 + i) e) k)), some (.int (nI k))] [] (mo h A (va_up a 8 P, va_up f 11 0)) := by
    intro j
    induction j with
    | zero =>
      intro P hP k hk
      refine g_iload dX10_regionSize_63 rfl ?_
      refine g_bipush (v := 64) dX10_regionSize_65 (by decide) ?_
      refine g_icmp_ge (tgt := 104) dX10_regionSize_67 (by decide) (fun c67 => ?_) (fun c67 => ?_)
      · obtain rfl : k = 64 := by omega
        refine g_iload dX10_regionSize_104 rfl ?_
        refine g_iret dX10_regionSize_106 rfl rfl ?_
        exact ⟨rfl, P, rfl⟩
      · exact absurd ((le_nI (a := 64) (b := k) rfl (by omega) (by omega)).mpr (by omega)) c67
    | succ j ih =>
      intro P hP k hk
      refine g_iload dX10_regionSize_63 rfl ?_
      refine g_bipush (v := 64) dX10_regionSize_65 (by decide) ?_
      refine g_icmp_ge (tgt := 104) dX10_regionSize_67 (by decide) (fun c67 => ?_) (fun c67 => ?_)
      · exact absurd ((le_nI (a := 64) (b := k) rfl (by omega) (by omega)).mp c67) (by omega)
      · refine g_iload dX10_regionSize_70 rfl ?_
        refine g_iload dX10_regionSize_72 rfl ?_
        refine g_iconst (v := (-1)) dX10_regionSize_74 (by decide) ?_
        refine g_icmp_eq (tgt := 94) dX10_regionSize_75 (by decide) (fun c75 => ?_) (fun c75 => ?_)
        · refine g_iconst (v := 0) dX10_regionSize_94 (by decide) ?_
          refine g_iadd dX10_regionSize_95 ?_
          refine g_istore dX10_regionSize_96 (Nat.le_of_ble_eq_true rfl) ?_
          refine g_iinc (w := 1) dX10_regionSize_98 (by decide) rfl (nI_succ k).symm (Nat.le_of_ble_eq_true rfl) ?_
          refine g_goto (tgt := 63) dX10_regionSize_101 (by decide) ?_
          rw [cntP_f (p := fun e => spK (a 0) v 1 (8 * j9 + i) = true ∧ con (spr (spK (a 0) v 1) 0) (8 * j9 + i) e) (fun z => absurd ((hP (8 * j9 + i) (by omega)).2 z.1) (fun ⟨d, hd, e9, _⟩ => nI_nm (n := d) (by omega) (e9.symm.trans c75)))]
          exact ih P hP (k + 1) (by omega)
        · refine g_aload_n (i := 0) dX10_regionSize_78 rfl rfl ?_
          refine g_getf dX10_regionSize_79 K_X10 (k := 16) fl_X10_42 (Nat.le_of_ble_eq_true rfl) mo_30 rfl ?_
          refine g_iload dX10_regionSize_82 rfl ?_
          refine g_iald dX10_regionSize_84 mo_p39 (ix_nI (j := k) (by omega)) (by omega) ?_
          refine g_iload dX10_regionSize_85 rfl ?_
          refine g_icmp_ne (tgt := 94) dX10_regionSize_87 (by decide) (fun c87 => ?_) (fun c87 => ?_)
          · refine g_iconst (v := 0) dX10_regionSize_94 (by decide) ?_
            refine g_iadd dX10_regionSize_95 ?_
            refine g_istore dX10_regionSize_96 (Nat.le_of_ble_eq_true rfl) ?_
            refine g_iinc (w := 1) dX10_regionSize_98 (by decide) rfl (nI_succ k).symm (Nat.le_of_ble_eq_true rfl) ?_
            refine g_goto (tgt := 63) dX10_regionSize_101 (by decide) ?_
            rw [cntP_f (p := fun e => spK (a 0) v 1 (8 * j9 + i) = true ∧ con (spr (spK (a 0) v 1) 0) (8 * j9 + i) e) (fun z => c87 ((spF_eq hP (by omega) (by omega) z.1).mpr z.2))]
            exact ih P hP (k + 1) (by omega)
          · refine g_iconst (v := 1) dX10_regionSize_90 (by decide) ?_
            refine g_goto (tgt := 95) dX10_regionSize_91 (by decide) ?_
            refine g_iadd dX10_regionSize_95 ?_
            refine g_istore dX10_regionSize_96 (Nat.le_of_ble_eq_true rfl) ?_
            refine g_iinc (w := 1) dX10_regionSize_98 (by decide) rfl (nI_succ k).symm (Nat.le_of_ble_eq_true rfl) ?_
            refine g_goto (tgt := 63) dX10_regionSize_101 (by decide) ?_
            rw [cntP_t (p := fun e => spK (a 0) v 1 (8 * j9 + i) = true ∧ con (spr (spK (a 0) v 1) 0) (8 * j9 + i) e) (have hk9 : spK (a 0) v 1 (8 * j9 + i) = true := (by by_cases z : spK (a 0) v 1 (8 * j9 + i) = true; exact z; exact absurd ((hP (8 * j9 + i) (by omega)).1 (Bool.eq_false_iff.mpr z)) c75); ⟨hk9, (spF_eq hP (by omega) (by omega) hk9).mp c87⟩)]
            exact ih P hP (k + 1) (by omega)
  refine g_aload_n (i := 0) dX10_regionSize_0 rfl rfl ?_
  refine g_iconst (v := 0) dX10_regionSize_1 (by decide) ?_
  refine g_putf dX10_regionSize_2 K_X10 (k := 11) fl_X10_67 (Nat.le_of_ble_eq_true rfl) rfl mo_30 (Nat.le_of_ble_eq_true rfl) rfl rfl (Go.heap (mo_f11) ?_)
  refine g_iload_n (i := 1) dX10_regionSize_5 rfl rfl ?_
  refine g_iload_n (i := 2) dX10_regionSize_6 rfl rfl ?_
  refine g_callS (ev_mIsCell hl) dX10_regionSize_7 ml_X10_108 csX10_isCell rfl rfl (Nat.le_of_ble_eq_true rfl) (Nat.le_of_ble_eq_true rfl) (Nat.zero_le _) (Nat.zero_le _) (kr_rt ?_) kx_rt
  refine g_if_ne (tgt := 19) dX10_regionSize_10 (by decide) (fun c10 => ?_) (fun c10 => ?_)
  · refine g_iload_n (i := 3) dX10_regionSize_19 rfl rfl ?_
    refine g_i2l dX10_regionSize_20 ?_
    refine g_lconst (v := 1) dX10_regionSize_21 (by decide) ?_
    refine g_ldc2 dX10_regionSize_22 co_X10_135 ?_
    refine g_callS (ev_in hl (lo := 1) (hi := 9999) (by decide) (by decide)) dX10_regionSize_25 ml_X10_85 csX10_in rfl rfl (Nat.le_of_ble_eq_true rfl) (Nat.le_of_ble_eq_true rfl) (Nat.zero_le _) (Nat.zero_le _) (kr_rt ?_) kx_rt
    refine g_if_ne (tgt := 37) dX10_regionSize_28 (by decide) (fun c28 => ?_) (fun c28 => ?_)
    · refine g_aload_n (i := 0) dX10_regionSize_37 rfl rfl ?_
      refine g_iload_n (i := 3) dX10_regionSize_38 rfl rfl ?_
      refine g_iconst (v := 1) dX10_regionSize_39 (by decide) ?_
      refine g_iconst (v := 0) dX10_regionSize_40 (by decide) ?_
      refine g_callV (ev_spreads hl) dX10_regionSize_41 ml_X10_170 cvX10_spreads K_X10 rfl mo_30 rfl rfl (Nat.le_of_ble_eq_true rfl) (Nat.le_of_ble_eq_true rfl) (Nat.zero_le _) (Nat.zero_le _) (kr_xv (fun x9 => ?_)) kx_x
      refine g_aload_n (i := 0) dX10_regionSize_44 rfl rfl ?_
      refine g_getf dX10_regionSize_45 K_X10 (k := 16) fl_X10_42 (Nat.le_of_ble_eq_true rfl) mo_30 rfl ?_
      refine g_bipush (v := 8) dX10_regionSize_48 (by decide) ?_
      refine g_iload_n (i := 2) dX10_regionSize_50 rfl rfl ?_
      refine g_imul dX10_regionSize_51 ?_
      refine g_iload_n (i := 1) dX10_regionSize_52 rfl rfl ?_
      refine g_iadd dX10_regionSize_53 ?_
      rw [cel]
      refine g_iald dX10_regionSize_54 mo_p39 (ix_nI (j := 8 * j9 + i) (by omega)) (by omega) ?_
      refine g_istore dX10_regionSize_55 (Nat.le_of_ble_eq_true rfl) ?_
      refine g_iconst (v := 0) dX10_regionSize_57 (by decide) ?_
      refine g_istore dX10_regionSize_58 (Nat.le_of_ble_eq_true rfl) ?_
      refine g_iconst (v := 0) dX10_regionSize_60 (by decide) ?_
      refine g_istore dX10_regionSize_61 (Nat.le_of_ble_eq_true rfl) ?_
      exact loop 64 x9.1 x9.2 0 rfl
    · exact absurd c28 (by rw [if_pos hv]; decide)
  · exact absurd c10 (by rw [if_pos (cellB_nI hi hj)]; decide)

set_option maxRecDepth 100000 in
theorem ev_mRegionSize_no1 {l : Launch} {G : GG} (hl : l.stackTraces = false) {A : AD} {h : AH} {a : Nat → Nat → Int32} {f : Nat → Int32} {x y v : Int32} (hc : ¬ cellB x y) :
    Ev l G 13 0 0 mX10_regionSize [.ref (A 30 0), .int x, .int y, .int v] (mo h A (a, f)) (Rt (some (.int (-1))) (mo h A (a, va_up f 11 1))) := by
  refine Ev.of hl (by decide) (Nat.le_of_ble_eq_true rfl) ?_
  refine g_aload_n (i := 0) dX10_regionSize_0 rfl rfl ?_
  refine g_iconst (v := 0) dX10_regionSize_1 (by decide) ?_
  refine g_putf dX10_regionSize_2 K_X10 (k := 11) fl_X10_67 (Nat.le_of_ble_eq_true rfl) rfl mo_30 (Nat.le_of_ble_eq_true rfl) rfl rfl (Go.heap (mo_f11) ?_)
  refine g_iload_n (i := 1) dX10_regionSize_5 rfl rfl ?_
  refine g_iload_n (i := 2) dX10_regionSize_6 rfl rfl ?_
  refine g_callS (ev_mIsCell hl) dX10_regionSize_7 ml_X10_108 csX10_isCell rfl rfl (Nat.le_of_ble_eq_true rfl) (Nat.le_of_ble_eq_true rfl) (Nat.zero_le _) (Nat.zero_le _) (kr_rt ?_) kx_rt
  refine g_if_ne (tgt := 19) dX10_regionSize_10 (by decide) (fun c10 => ?_) (fun c10 => ?_)
  · exact absurd (if_neg hc) c10
  · refine g_aload_n (i := 0) dX10_regionSize_13 rfl rfl ?_
    refine g_iconst (v := 1) dX10_regionSize_14 (by decide) ?_
    refine g_callV (ev_throwing hl (x := 1)) dX10_regionSize_15 ml_X10_76 cvX10_throwing K_X10 rfl mo_30 rfl rfl (Nat.le_of_ble_eq_true rfl) (Nat.le_of_ble_eq_true rfl) (Nat.zero_le _) (Nat.zero_le _) (kr_rt ?_) kx_rt
    refine g_iret dX10_regionSize_18 rfl rfl ?_
    exact ⟨rfl, by rw [va_up2]⟩

set_option maxRecDepth 100000 in
theorem ev_mRegionSize_no2 {l : Launch} {G : GG} (hl : l.stackTraces = false) {A : AD} {h : AH} {a : Nat → Nat → Int32} {f : Nat → Int32} {x y v : Int32} (hc : cellB x y) (hv : ¬ levP v) :
    Ev l G 13 0 0 mX10_regionSize [.ref (A 30 0), .int x, .int y, .int v] (mo h A (a, f)) (Rt (some (.int (-1))) (mo h A (a, va_up f 11 2))) := by
  refine Ev.of hl (by decide) (Nat.le_of_ble_eq_true rfl) ?_
  refine g_aload_n (i := 0) dX10_regionSize_0 rfl rfl ?_
  refine g_iconst (v := 0) dX10_regionSize_1 (by decide) ?_
  refine g_putf dX10_regionSize_2 K_X10 (k := 11) fl_X10_67 (Nat.le_of_ble_eq_true rfl) rfl mo_30 (Nat.le_of_ble_eq_true rfl) rfl rfl (Go.heap (mo_f11) ?_)
  refine g_iload_n (i := 1) dX10_regionSize_5 rfl rfl ?_
  refine g_iload_n (i := 2) dX10_regionSize_6 rfl rfl ?_
  refine g_callS (ev_mIsCell hl) dX10_regionSize_7 ml_X10_108 csX10_isCell rfl rfl (Nat.le_of_ble_eq_true rfl) (Nat.le_of_ble_eq_true rfl) (Nat.zero_le _) (Nat.zero_le _) (kr_rt ?_) kx_rt
  refine g_if_ne (tgt := 19) dX10_regionSize_10 (by decide) (fun c10 => ?_) (fun c10 => ?_)
  · refine g_iload_n (i := 3) dX10_regionSize_19 rfl rfl ?_
    refine g_i2l dX10_regionSize_20 ?_
    refine g_lconst (v := 1) dX10_regionSize_21 (by decide) ?_
    refine g_ldc2 dX10_regionSize_22 co_X10_135 ?_
    refine g_callS (ev_in hl (lo := 1) (hi := 9999) (by decide) (by decide)) dX10_regionSize_25 ml_X10_85 csX10_in rfl rfl (Nat.le_of_ble_eq_true rfl) (Nat.le_of_ble_eq_true rfl) (Nat.zero_le _) (Nat.zero_le _) (kr_rt ?_) kx_rt
    refine g_if_ne (tgt := 37) dX10_regionSize_28 (by decide) (fun c28 => ?_) (fun c28 => ?_)
    · exact absurd (if_neg hv) c28
    · refine g_aload_n (i := 0) dX10_regionSize_31 rfl rfl ?_
      refine g_iconst (v := 2) dX10_regionSize_32 (by decide) ?_
      refine g_callV (ev_throwing hl (x := 2)) dX10_regionSize_33 ml_X10_76 cvX10_throwing K_X10 rfl mo_30 rfl rfl (Nat.le_of_ble_eq_true rfl) (Nat.le_of_ble_eq_true rfl) (Nat.zero_le _) (Nat.zero_le _) (kr_rt ?_) kx_rt
      refine g_iret dX10_regionSize_36 rfl rfl ?_
      exact ⟨rfl, by rw [va_up2]⟩
  · exact absurd c10 (by rw [if_pos hc]; decide)

/-- a cell's free sides -/
def cf1 (m : Nat → Int32) (v : Int32) : Option Nat → Int32
  | none => 1
  | some n => if v ≤ m n then 0 else 1
def cfN (m : Nat → Int32) (v : Int32) (c : Nat) : Nat → Int32
  | 0 => 0
  | k + 1 => cfN m v c k + cf1 m v (nb c k)
def ccN (m : Nat → Int32) (v : Int32) : Nat → Int32
  | 0 => 0
  | k + 1 => ccN m v k + (if v ≤ m k then cfN m v k 4 else 0)

set_option maxRecDepth 100000 in
theorem ct_inner {l : Launch} {G : GG} (hl : l.stackTraces = false) {A : AD} {h : AH} {a : Nat → Nat → Int32} {f : Nat → Int32} {v : Int32} {P9 : Post} {k : Nat} (hk : k < 64) (hv9 : v ≤ a 0 k) (hout : (∀ X Y, Go l G mX10_contourLength 11 0 0 P9 89 [some (.ref (A 30 0)), some (.int v), some (.int (ccN (a 0) v (k + 1))), some (.int (nI k)), X, Y] [] (mo h A (a, va_up f 11 0)))) : ∀ (j : Nat) (s : Nat) (X : Option Value), s + j = 4 → Go l G mX10_contourLength 11 0 0 P9 36 [some (.ref (A 30 0)), some (.int v), some (.int (ccN (a 0) v k + cfN (a 0) v k s)), some (.int (nI k)), some (.int (nI s)), X] [] (mo h A (a, va_up f 11 0)) := by
  have inner : ∀ (j : Nat) (s : Nat) (X : Option Value), s + j = 4 → Go l G mX10_contourLength 11 0 0 P9 36 [some (.ref (A 30 0)), some (.int v), some (.int (ccN (a 0) v k + cfN (a 0) v k s)), some (.int (nI k)), some (.int (nI s)), X] [] (mo h A (a, va_up f 11 0)) := by
    intro j
    induction j with
    | zero =>
      intro s X hs
      refine g_iload dX10_contourLength_36 rfl ?_
      refine g_iconst (v := 4) dX10_contourLength_38 (by decide) ?_
      refine g_icmp_ge (tgt := 89) dX10_contourLength_39 (by decide) (fun c39 => ?_) (fun c39 => ?_)
      · obtain rfl : s = 4 := by omega
        rw [show ccN (a 0) v (k + 1) = ccN (a 0) v k + cfN (a 0) v k 4 from by rw [ccN, if_pos hv9]] at hout
        exact hout _ _
      · exact absurd ((le_nI (a := 4) (b := s) rfl (by omega) (by omega)).mpr (by omega)) c39
    | succ j ih =>
      intro s X hs
      refine g_iload dX10_contourLength_36 rfl ?_
      refine g_iconst (v := 4) dX10_contourLength_38 (by decide) ?_
      refine g_icmp_ge (tgt := 89) dX10_contourLength_39 (by decide) (fun c39 => ?_) (fun c39 => ?_)
      · exact absurd ((le_nI (a := 4) (b := s) rfl (by omega) (by omega)).mp c39) (by omega)
      · refine g_aload_n (i := 0) dX10_contourLength_42 rfl rfl ?_
        refine g_iload_n (i := 3) dX10_contourLength_43 rfl rfl ?_
        refine g_iload_n (i := 1) dX10_contourLength_44 rfl rfl ?_
        refine g_callV (ev_mIsOf hl (k := k) (by omega)) dX10_contourLength_45 ml_X10_163 cvX10_isOf K_X10 rfl mo_30 rfl rfl (Nat.le_of_ble_eq_true rfl) (Nat.le_of_ble_eq_true rfl) (Nat.zero_le _) (Nat.zero_le _) (kr_rt ?_) kx_rt
        refine g_if_eq (tgt := 89) dX10_contourLength_48 (by decide) (fun c48 => ?_) (fun c48 => ?_)
        · exact absurd hv9 (ite_0 c48)
        · refine g_iload_n (i := 3) dX10_contourLength_51 rfl rfl ?_
          refine g_iload dX10_contourLength_52 rfl ?_
          refine g_callS (ev_beside hl hk (by omega)) dX10_contourLength_54 ml_X10_93 csX10_beside rfl rfl (Nat.le_of_ble_eq_true rfl) (Nat.le_of_ble_eq_true rfl) (Nat.zero_le _) (Nat.zero_le _) (kr_rt ?_) kx_rt
          refine g_istore dX10_contourLength_57 (Nat.le_of_ble_eq_true rfl) ?_
          refine g_iload_n (i := 2) dX10_contourLength_59 rfl rfl ?_
          refine g_iload dX10_contourLength_60 rfl ?_
          refine g_iconst (v := (-1)) dX10_contourLength_62 (by decide) ?_
          refine g_icmp_eq (tgt := 76) dX10_contourLength_63 (by decide) (fun c63 => ?_) (fun c63 => ?_)
          · refine g_iconst (v := 1) dX10_contourLength_76 (by decide) ?_
            refine g_goto (tgt := 81) dX10_contourLength_77 (by decide) ?_
            refine g_iadd dX10_contourLength_81 ?_
            refine g_istore_n (i := 2) dX10_contourLength_82 rfl (Nat.le_of_ble_eq_true rfl) ?_
            refine g_iinc (w := 1) dX10_contourLength_83 (by decide) rfl (nI_succ s).symm (Nat.le_of_ble_eq_true rfl) ?_
            refine g_goto (tgt := 36) dX10_contourLength_86 (by decide) ?_
            rw [show ccN (a 0) v k + cfN (a 0) v k s + 1 = ccN (a 0) v k + cfN (a 0) v k (s + 1) from by rw [cfN, (nbS k hk s (by omega)).2 c63, show cf1 (a 0) v none = 1 from rfl, Int32.add_assoc]]
            exact ih (s + 1) _ (by omega)
          · obtain ⟨n, hn, en⟩ := (nbS k hk s (by omega)).1 c63
            rw [en]
            show Go l G mX10_contourLength 11 _ _ _ _ [_, _, _, _, _, some (.int (nI n))] _ _
            refine g_aload_n (i := 0) dX10_contourLength_66 rfl rfl ?_
            refine g_iload dX10_contourLength_67 rfl ?_
            refine g_iload_n (i := 1) dX10_contourLength_69 rfl rfl ?_
            refine g_callV (ev_mIsOf hl (k := n) (by omega)) dX10_contourLength_70 ml_X10_163 cvX10_isOf K_X10 rfl mo_30 rfl rfl (Nat.le_of_ble_eq_true rfl) (Nat.le_of_ble_eq_true rfl) (Nat.zero_le _) (Nat.zero_le _) (kr_rt ?_) kx_rt
            refine g_if_ne (tgt := 80) dX10_contourLength_73 (by decide) (fun c73 => ?_) (fun c73 => ?_)
            · refine g_iconst (v := 0) dX10_contourLength_80 (by decide) ?_
              refine g_iadd dX10_contourLength_81 ?_
              refine g_istore_n (i := 2) dX10_contourLength_82 rfl (Nat.le_of_ble_eq_true rfl) ?_
              refine g_iinc (w := 1) dX10_contourLength_83 (by decide) rfl (nI_succ s).symm (Nat.le_of_ble_eq_true rfl) ?_
              refine g_goto (tgt := 36) dX10_contourLength_86 (by decide) ?_
              rw [show ccN (a 0) v k + cfN (a 0) v k s + 0 = ccN (a 0) v k + cfN (a 0) v k (s + 1) from by rw [cfN, en, show cf1 (a 0) v (some n) = 0 from if_pos (ite_1 c73), Int32.add_assoc]]
              exact ih (s + 1) _ (by omega)
            · refine g_iconst (v := 1) dX10_contourLength_76 (by decide) ?_
              refine g_goto (tgt := 81) dX10_contourLength_77 (by decide) ?_
              refine g_iadd dX10_contourLength_81 ?_
              refine g_istore_n (i := 2) dX10_contourLength_82 rfl (Nat.le_of_ble_eq_true rfl) ?_
              refine g_iinc (w := 1) dX10_contourLength_83 (by decide) rfl (nI_succ s).symm (Nat.le_of_ble_eq_true rfl) ?_
              refine g_goto (tgt := 36) dX10_contourLength_86 (by decide) ?_
              rw [show ccN (a 0) v k + cfN (a 0) v k s + 1 = ccN (a 0) v k + cfN (a 0) v k (s + 1) from by rw [cfN, en, show cf1 (a 0) v (some n) = 1 from if_neg (ite_0 c73), Int32.add_assoc]]
              exact ih (s + 1) _ (by omega)
  exact inner

set_option maxRecDepth 100000 in
theorem ev_mContour {l : Launch} {G : GG} (hl : l.stackTraces = false) {A : AD} {h : AH} {a : Nat → Nat → Int32} {f : Nat → Int32} {v : Int32} (hv : levP v) :
    Ev l G 11 0 0 mX10_contourLength [.ref (A 30 0), .int v] (mo h A (a, f)) (Rt (some (.int (ccN (a 0) v 64))) (mo h A (a, va_up f 11 0))) := by
  refine Ev.of hl (by decide) (Nat.le_of_ble_eq_true rfl) ?_
  have loop : ∀ (j : Nat) (k : Nat) (X X2 : Option Value), k + j = 64 → Go l G mX10_contourLength 11 0 0 (Rt (some (.int (ccN (a 0) v 64))) (mo h A (a, va_up f 11 0))) 27 [some (.ref (A 30 0)), some (.int v), some (.int (ccN (a 0) v k)), some (.int (nI k)), X, X2] [] (mo h A (a, va_up f 11 0)) := by
    intro j
    induction j with
    | zero =>
      intro k X X2 hk
      refine g_iload_n (i := 3) dX10_contourLength_27 rfl rfl ?_
      refine g_bipush (v := 64) dX10_contourLength_28 (by decide) ?_
      refine g_icmp_ge (tgt := 95) dX10_contourLength_30 (by decide) (fun c30 => ?_) (fun c30 => ?_)
      · obtain rfl : k = 64 := by omega
        refine g_iload_n (i := 2) dX10_contourLength_95 rfl rfl ?_
        refine g_iret dX10_contourLength_96 rfl rfl ?_
        exact ⟨rfl, rfl⟩
      · exact absurd ((le_nI (a := 64) (b := k) rfl (by omega) (by omega)).mpr (by omega)) c30
    | succ j ih =>
      intro k X X2 hk
      refine g_iload_n (i := 3) dX10_contourLength_27 rfl rfl ?_
      refine g_bipush (v := 64) dX10_contourLength_28 (by decide) ?_
      refine g_icmp_ge (tgt := 95) dX10_contourLength_30 (by decide) (fun c30 => ?_) (fun c30 => ?_)
      · exact absurd ((le_nI (a := 64) (b := k) rfl (by omega) (by omega)).mp c30) (by omega)
      · refine g_iconst (v := 0) dX10_contourLength_33 (by decide) ?_
        refine g_istore dX10_contourLength_34 (Nat.le_of_ble_eq_true rfl) ?_
        by_cases hv9 : v ≤ a 0 k
        · rw [show ccN (a 0) v k = ccN (a 0) v k + cfN (a 0) v k 0 from (Int32.add_zero _).symm]
          refine ct_inner hl (a := a) (f := f) (k := k) (by omega) hv9 (fun X Y => ?_) 4 0 X2 rfl
          refine g_iinc (w := 1) dX10_contourLength_89 (by decide) rfl (nI_succ k).symm (Nat.le_of_ble_eq_true rfl) ?_
          refine g_goto (tgt := 27) dX10_contourLength_92 (by decide) ?_
          exact ih (k + 1) _ _ (by omega)
        · refine g_iload dX10_contourLength_36 rfl ?_
          refine g_iconst (v := 4) dX10_contourLength_38 (by decide) ?_
          refine g_icmp_ge (tgt := 89) dX10_contourLength_39 (by decide) (fun c39 => ?_) (fun c39 => ?_)
          · exact absurd c39 (by decide)
          · refine g_aload_n (i := 0) dX10_contourLength_42 rfl rfl ?_
            refine g_iload_n (i := 3) dX10_contourLength_43 rfl rfl ?_
            refine g_iload_n (i := 1) dX10_contourLength_44 rfl rfl ?_
            refine g_callV (ev_mIsOf hl (k := k) (by omega)) dX10_contourLength_45 ml_X10_163 cvX10_isOf K_X10 rfl mo_30 rfl rfl (Nat.le_of_ble_eq_true rfl) (Nat.le_of_ble_eq_true rfl) (Nat.zero_le _) (Nat.zero_le _) (kr_rt ?_) kx_rt
            refine g_if_eq (tgt := 89) dX10_contourLength_48 (by decide) (fun c48 => ?_) (fun c48 => ?_)
            · have z := ih (k + 1)
              rw [show ccN (a 0) v (k + 1) = ccN (a 0) v k from by rw [ccN, if_neg hv9, Int32.add_zero]] at z
              refine g_iinc (w := 1) dX10_contourLength_89 (by decide) rfl (nI_succ k).symm (Nat.le_of_ble_eq_true rfl) ?_
              refine g_goto (tgt := 27) dX10_contourLength_92 (by decide) ?_
              exact z _ _ (by omega)
            · exact absurd (ite_1 c48) hv9
  refine g_aload_n (i := 0) dX10_contourLength_0 rfl rfl ?_
  refine g_iconst (v := 0) dX10_contourLength_1 (by decide) ?_
  refine g_putf dX10_contourLength_2 K_X10 (k := 11) fl_X10_67 (Nat.le_of_ble_eq_true rfl) rfl mo_30 (Nat.le_of_ble_eq_true rfl) rfl rfl (Go.heap (mo_f11) ?_)
  refine g_iload_n (i := 1) dX10_contourLength_5 rfl rfl ?_
  refine g_i2l dX10_contourLength_6 ?_
  refine g_lconst (v := 1) dX10_contourLength_7 (by decide) ?_
  refine g_ldc2 dX10_contourLength_8 co_X10_135 ?_
  refine g_callS (ev_in hl (lo := 1) (hi := 9999) (by decide) (by decide)) dX10_contourLength_11 ml_X10_85 csX10_in rfl rfl (Nat.le_of_ble_eq_true rfl) (Nat.le_of_ble_eq_true rfl) (Nat.zero_le _) (Nat.zero_le _) (kr_rt ?_) kx_rt
  refine g_if_ne (tgt := 23) dX10_contourLength_14 (by decide) (fun c14 => ?_) (fun c14 => ?_)
  · refine g_iconst (v := 0) dX10_contourLength_23 (by decide) ?_
    refine g_istore_n (i := 2) dX10_contourLength_24 rfl (Nat.le_of_ble_eq_true rfl) ?_
    refine g_iconst (v := 0) dX10_contourLength_25 (by decide) ?_
    refine g_istore_n (i := 3) dX10_contourLength_26 rfl (Nat.le_of_ble_eq_true rfl) ?_
    exact loop 64 0 _ _ rfl
  · exact absurd c14 (by rw [if_pos hv]; decide)

set_option maxRecDepth 100000 in
theorem ev_mContour_no {l : Launch} {G : GG} (hl : l.stackTraces = false) {A : AD} {h : AH} {a : Nat → Nat → Int32} {f : Nat → Int32} {v : Int32} (hv : ¬ levP v) :
    Ev l G 11 0 0 mX10_contourLength [.ref (A 30 0), .int v] (mo h A (a, f)) (Rt (some (.int (-1))) (mo h A (a, va_up f 11 1))) := by
  refine Ev.of hl (by decide) (Nat.le_of_ble_eq_true rfl) ?_
  refine g_aload_n (i := 0) dX10_contourLength_0 rfl rfl ?_
  refine g_iconst (v := 0) dX10_contourLength_1 (by decide) ?_
  refine g_putf dX10_contourLength_2 K_X10 (k := 11) fl_X10_67 (Nat.le_of_ble_eq_true rfl) rfl mo_30 (Nat.le_of_ble_eq_true rfl) rfl rfl (Go.heap (mo_f11) ?_)
  refine g_iload_n (i := 1) dX10_contourLength_5 rfl rfl ?_
  refine g_i2l dX10_contourLength_6 ?_
  refine g_lconst (v := 1) dX10_contourLength_7 (by decide) ?_
  refine g_ldc2 dX10_contourLength_8 co_X10_135 ?_
  refine g_callS (ev_in hl (lo := 1) (hi := 9999) (by decide) (by decide)) dX10_contourLength_11 ml_X10_85 csX10_in rfl rfl (Nat.le_of_ble_eq_true rfl) (Nat.le_of_ble_eq_true rfl) (Nat.zero_le _) (Nat.zero_le _) (kr_rt ?_) kx_rt
  refine g_if_ne (tgt := 23) dX10_contourLength_14 (by decide) (fun c14 => ?_) (fun c14 => ?_)
  · exact absurd (if_neg hv) c14
  · refine g_aload_n (i := 0) dX10_contourLength_17 rfl rfl ?_
    refine g_iconst (v := 1) dX10_contourLength_18 (by decide) ?_
    refine g_callV (ev_throwing hl (x := 1)) dX10_contourLength_19 ml_X10_76 cvX10_throwing K_X10 rfl mo_30 rfl rfl (Nat.le_of_ble_eq_true rfl) (Nat.le_of_ble_eq_true rfl) (Nat.zero_le _) (Nat.zero_le _) (kr_rt ?_) kx_rt
    refine g_iret dX10_contourLength_22 rfl rfl ?_
    exact ⟨rfl, by rw [va_up2]⟩

set_option maxRecDepth 100000 in
theorem ev_mContourP {l : Launch} {G : GG} (hl : l.stackTraces = false) {A : AD} {h : AH} {a : Nat → Nat → Int32} {f : Nat → Int32} {v : Int32} (hv : levP v) :
    Ev l G 12 0 0 mX10_contourLengthByPairs [.ref (A 30 0), .int v] (mo h A (a, f)) (Rt (some (.int (ccN (a 0) v 64))) (mo h A (a, va_up f 11 0))) := by
  refine Ev.of hl (by decide) (Nat.le_of_ble_eq_true rfl) ?_
  refine g_aload_n (i := 0) dX10_contourLengthByPairs_0 rfl rfl ?_
  refine g_iload_n (i := 1) dX10_contourLengthByPairs_1 rfl rfl ?_
  refine g_callV (ev_mContour hl hv) dX10_contourLengthByPairs_2 ml_X10_183 cvX10_contourLength K_X10 rfl mo_30 rfl rfl (Nat.le_of_ble_eq_true rfl) (Nat.le_of_ble_eq_true rfl) (Nat.zero_le _) (Nat.zero_le _) (kr_rt ?_) kx_rt
  refine g_iret dX10_contourLengthByPairs_5 rfl rfl ?_
  exact ⟨rfl, rfl⟩

set_option maxRecDepth 100000 in
theorem ev_mContourP_no {l : Launch} {G : GG} (hl : l.stackTraces = false) {A : AD} {h : AH} {a : Nat → Nat → Int32} {f : Nat → Int32} {v : Int32} (hv : ¬ levP v) :
    Ev l G 12 0 0 mX10_contourLengthByPairs [.ref (A 30 0), .int v] (mo h A (a, f)) (Rt (some (.int (-1))) (mo h A (a, va_up f 11 1))) := by
  refine Ev.of hl (by decide) (Nat.le_of_ble_eq_true rfl) ?_
  refine g_aload_n (i := 0) dX10_contourLengthByPairs_0 rfl rfl ?_
  refine g_iload_n (i := 1) dX10_contourLengthByPairs_1 rfl rfl ?_
  refine g_callV (ev_mContour_no hl hv) dX10_contourLengthByPairs_2 ml_X10_183 cvX10_contourLength K_X10 rfl mo_30 rfl rfl (Nat.le_of_ble_eq_true rfl) (Nat.le_of_ble_eq_true rfl) (Nat.zero_le _) (Nat.zero_le _) (kr_rt ?_) kx_rt
  refine g_iret dX10_contourLengthByPairs_5 rfl rfl ?_
  exact ⟨rfl, rfl⟩

