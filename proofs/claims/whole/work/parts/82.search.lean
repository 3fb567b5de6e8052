/-! The coolest way, by the heap. -/
def mx (a b : Int32) : Int32 := if a < b then b else a
theorem mx_1 (a b : Int32) : a ≤ mx a b := by
  unfold mx
  by_cases h : a < b
  · rw [if_pos h]; exact Int32.le_of_lt h
  · rw [if_neg h]; exact Int32.le_refl _
theorem mx_2 (a b : Int32) : b ≤ mx a b := by
  unfold mx
  by_cases h : a < b
  · rw [if_pos h]; exact Int32.le_refl _
  · rw [if_neg h]; exact Int32.not_lt.mp h
theorem mx_lub {a b c : Int32} (h1 : a ≤ c) (h2 : b ≤ c) : mx a b ≤ c := by
  unfold mx
  split
  · exact h2
  · exact h1
theorem mx_mono {a b c : Int32} (h : a ≤ b) : mx a c ≤ mx b c := mx_lub (Int32.le_trans h (mx_1 b c)) (mx_2 b c)
section DJ
variable {m : MS} {fm to : Nat}
/-- what holds while the heap is worked off: D the cells taken, P the values; of t only the sides before k are done -/
def djI (m : MS) (fm t k : Nat) (R : Int64) (S : HS) (D : Nat → Prop) (P : Nat → Int32) : Prop :=
  (hO S.1 S.2 ∧ S.1 ≤ 64) ∧
  (∀ x, hc S.2 x S.1 = fb_ct (fun c => pd (tb R c = true ∧ ¬ D c ∧ ent (P c) c = x)) 64) ∧
  (∀ c, c < 64 → D c → tb R c = true) ∧
  (∀ c, c < 64 → tb R c = true → 0 ≤ P c ∧ wyP m.2.1 m.1 fm (P c) c) ∧
  (∀ d, d < 64 → D d → ∀ s, s < 4 → (d = t → s < k) → ∀ n, nb d s = some n → ¬ m.1 n = 35 → tb R n = true ∧ P n ≤ mx (P d) (m.2.1 n)) ∧
  (∀ d e, d < 64 → e < 64 → D d → tb R e = true → ¬ D e → P d ≤ P e) ∧
  (∀ n, n < 64 → tb R n = true → P n ≤ m.2.1 n ∨ ∃ d, d < 64 ∧ D d ∧ P n ≤ mx (P d) (m.2.1 n)) ∧
  (¬ m.1 fm = 35 → tb R fm = true ∧ P fm ≤ m.2.1 fm)
/-- places of the heap are at most the cells in it -/
theorem dj_sz {t k : Nat} {R : Int64} {S : HS} {D : Nat → Prop} {P : Nat → Int32} (h : djI m fm t k R S D P) : S.1 ≤ fb_ct (fun c => pd (tb R c = true ∧ ¬ D c)) 64 := by
  obtain ⟨-, hb, -, hd, -⟩ := h
  have ex : ∀ i, i < S.1 → ∃ c, c < 64 ∧ (tb R c = true ∧ ¬ D c ∧ ent (P c) c = S.2 i) := fun i hi => by
    have z : 0 < hc S.2 (S.2 i) S.1 := fb_ct_pos.mpr ⟨i, hi, decide_eq_true rfl⟩
    rw [hb] at z
    obtain ⟨c, hc, q⟩ := fb_ct_pos.mp z
    exact ⟨c, hc, pd_iff.mp q⟩
  have all : fb_ct (fun _ => true) S.1 = S.1 := fb_ct_all.mpr (fun _ _ => rfl)
  have z := fb_inj2 (p := fun _ => true) (q := fun c => pd (tb R c = true ∧ ¬ D c)) (n := S.1) (m := 64) (fun i => if hi : i < S.1 then Classical.choose (ex i hi) else 0) (fun i hi _ => by
    have y := Classical.choose_spec (ex i hi)
    rw [dif_pos hi]
    exact ⟨y.1, pd_iff.mpr ⟨y.2.1, y.2.2.1⟩⟩) (fun i j hi hj _ _ e => by
    rw [dif_pos hi, dif_pos hj] at e
    have yi := Classical.choose_spec (ex i hi)
    have yj := Classical.choose_spec (ex j hj)
    have eij : S.2 i = S.2 j := by rw [← yi.2.2.2, ← yj.2.2.2, e]
    refine Classical.byContradiction (fun ne => ?_)
    have two : 2 ≤ hc S.2 (S.2 i) S.1 := fb_ct_two hi hj ne (decide_eq_true rfl) (decide_eq_true eij.symm)
    rw [hb] at two
    have one := fb_ct_one (p := fun c => pd (tb R c = true ∧ ¬ D c ∧ ent (P c) c = S.2 i)) (n := 64) (fun a b ha hb2 pa pb => by
      have qa := pd_iff.mp pa
      have qb := pd_iff.mp pb
      exact ent_inj (hd a ha qa.1).1 (hd b hb2 qb.1).1 ha hb2 (qa.2.2.trans qb.2.2.symm))
    omega)
  rw [all] at z
  exact z
theorem dj_step {t k : Nat} {R : Int64} {S : HS} {D : Nat → Prop} {P : Nat → Int32} (ht : t < 64) (hk : k < 4) (hD : D t) (hj : ∀ d, d < 64 → D d → P d ≤ P t) (h : djI m fm t k R S D P) {n : Nat} (hn : nb t k = some n) (hr : ¬ m.1 n = 35) (hi : ¬ inJ R (nI n)) : djI m fm t (k + 1) (R ||| bitJ (nI n)) (putH (mx (P t) (m.2.1 n)) n S) D (va_up P n (mx (P t) (m.2.1 n))) := by
  have hn2 := nb_lt ht hn
  have sz := dj_sz h
  obtain ⟨⟨a1, a2⟩, hb, hcc, hd, he, hg, hh, hi2⟩ := h
  have nR : ¬ tb R n = true := fun q => hi ((inJ_iff hn2).mpr q)
  have nD : ¬ D n := fun q => nR (hcc n hn2 q)
  have tR : ∀ c, c < 64 → (tb (R ||| bitJ (nI n)) c = true ↔ tb R c = true ∨ c = n) := fun c hc => by
    rw [tb_or, tb_bitJ hn2 hc, Bool.or_eq_true, decide_eq_true_iff]
  have ne : ∀ c, tb R c = true → c ≠ n := fun c q e => nR (e ▸ q)
  have pe : ∀ c, tb R c = true → va_up P n (mx (P t) (m.2.1 n)) c = P c := fun c q => va_up_ne _ _ (ne c q)
  have td := hcc t ht hD
  have s64 : S.1 < 64 := by
    have z := fb_ct_upd (fun c => pd (tb R c = true ∧ ¬ D c)) true hn2
    have z2 := fb_ct_le (fun k => if k = n then true else pd (tb R k = true ∧ ¬ D k)) 64
    rw [if_neg (show ¬ pd (tb R n = true ∧ ¬ D n) = true from fun q => nR (pd_iff.mp q).1)] at z
    simp only [if_true] at z
    omega
  have eS : putH (mx (P t) (m.2.1 n)) n S = (S.1 + 1, putL (ent (mx (P t) (m.2.1 n)) n) S.1 S.1 S.2) := if_pos s64
  have v0 : 0 ≤ mx (P t) (m.2.1 n) := Int32.le_trans (hd t ht td).1 (mx_1 _ _)
  rw [eS]
  refine ⟨⟨put_o a1, by show S.1 + 1 ≤ 64; omega⟩, fun x => ?_, fun c hc q => (tR c hc).mpr (Or.inl (hcc c hc q)), fun c hc q => ?_, fun d hd2 q s hs hts n2 hn3 hr2 => ?_, fun d e hd2 he2 q qe qn => ?_, fun c hc q => ?_, fun q => ?_⟩
  · show hc (putL (ent (mx (P t) (m.2.1 n)) n) S.1 S.1 S.2) x (S.1 + 1) = _
    rw [put_c, hb]
    have z := fb_ct_upd (fun c => pd (tb R c = true ∧ ¬ D c ∧ ent (P c) c = x)) (pd (ent (mx (P t) (m.2.1 n)) n = x)) hn2
    rw [if_neg (show ¬ pd (tb R n = true ∧ ¬ D n ∧ ent (P n) n = x) = true from fun q => nR (pd_iff.mp q).1)] at z
    have e2 : (if pd (ent (mx (P t) (m.2.1 n)) n = x) = true then 1 else 0) = i1 (ent (mx (P t) (m.2.1 n)) n) x := by
      unfold i1
      by_cases e : ent (mx (P t) (m.2.1 n)) n = x
      · rw [if_pos e, if_pos (pd_iff.mpr e)]
      · rw [if_neg e, if_neg (fun q => e (pd_iff.mp q))]
    rw [e2] at z
    rw [← z, Nat.add_zero]
    refine fb_ct_cong (fun c hc => ?_)
    by_cases e : c = n
    · subst e
      rw [if_pos rfl, va_up_self]
      congr 1
      exact propext ⟨fun q => ⟨(tR c hc).mpr (Or.inr rfl), nD, q⟩, fun q => q.2.2⟩
    · rw [if_neg e, va_up_ne _ _ e]
      congr 1
      exact propext ⟨fun q => ⟨(tR c hc).mpr (Or.inl q.1), q.2⟩, fun q => ⟨((tR c hc).mp q.1).resolve_right e, q.2⟩⟩
  · rcases (tR c hc).mp q with q | q
    · rw [pe c q]; exact hd c hc q
    · subst q
      rw [va_up_self]
      have w := wy_up2 (mx_1 (P t) (m.2.1 c)) (hd t ht td).2
      refine ⟨v0, w.1, con_trans w.2 (con_one ⟨ht, hc, ?_, ⟨hr, mx_2 _ _⟩, k, hk, hn⟩)⟩
      have w3 : t < 64 ∧ opP m.2.1 m.1 (mx (P t) (m.2.1 c)) t := con_ind (p := fun x => x = fm ∨ (x < 64 ∧ opP m.2.1 m.1 (mx (P t) (m.2.1 c)) x)) (fun a b r _ => Or.inr ⟨r.2.1, r.2.2.2.1⟩) w.2 (Or.inl rfl) |>.elim (fun e => ⟨ht, e ▸ w.1⟩) id
      exact w3.2
  · have dR := hcc d hd2 q
    rw [pe d dR]
    by_cases e : d = t ∧ s = k
    · obtain ⟨e1, e2⟩ := e
      subst e1
      subst e2
      rw [hn] at hn3
      cases hn3
      exact ⟨(tR n hn2).mpr (Or.inr rfl), by rw [va_up_self]; exact Int32.le_refl _⟩
    · obtain ⟨z1, z2⟩ := he d hd2 q s hs (fun w => by
        have := hts w
        have : s ≠ k := fun y => e ⟨w, y⟩
        omega) n2 hn3 hr2
      exact ⟨(tR n2 (nb_lt hd2 hn3)).mpr (Or.inl z1), by rw [pe n2 z1]; exact z2⟩
  · rw [pe d (hcc d hd2 q)]
    rcases (tR e he2).mp qe with y | y
    · rw [pe e y]; exact hg d e hd2 he2 q y qn
    · subst y
      rw [va_up_self]
      exact Int32.le_trans (hj d hd2 q) (mx_1 _ _)
  · rcases (tR c hc).mp q with y | y
    · rw [pe c y]
      rcases hh c hc y with w | ⟨d, d1, d2, d3⟩
      · exact Or.inl w
      · exact Or.inr ⟨d, d1, d2, by rw [pe d (hcc d d1 d2)]; exact d3⟩
    · subst y
      rw [va_up_self]
      exact Or.inr ⟨t, ht, hD, by rw [pe t td]; exact Int32.le_refl _⟩
  · obtain ⟨z1, z2⟩ := hi2 q
    by_cases e : fm < 64
    · exact ⟨(tR fm e).mpr (Or.inl z1), by rw [pe fm z1]; exact z2⟩
    · exact absurd z1 (by rw [tb_big (by omega)]; decide)
theorem dj_keep {t k : Nat} {R : Int64} {S : HS} {D : Nat → Prop} {P : Nat → Int32} (h : djI m fm t k R S D P) (hn : ∀ n, nb t k = some n → ¬ m.1 n = 35 → tb R n = true ∧ P n ≤ mx (P t) (m.2.1 n)) : djI m fm t (k + 1) R S D P := by
  obtain ⟨a, b, c, d, e, g⟩ := h
  refine ⟨a, b, c, d, fun d2 h1 h2 s hs h3 n h4 h5 => ?_, g⟩
  by_cases q : d2 = t ∧ s = k
  · obtain ⟨q1, q2⟩ := q
    subst q1
    subst q2
    exact hn n h4 h5
  · exact e d2 h1 h2 s hs (fun w => by
      have := h3 w
      have : s ≠ k := fun y => q ⟨w, y⟩
      omega) n h4 h5
/-- the neighbours of t put -/
theorem dj_put {t : Nat} {R : Int64} {S : HS} {D : Nat → Prop} {P : Nat → Int32} (ht : t < 64) (hD : D t) (hj : ∀ d, d < 64 → D d → P d ≤ P t) (h : djI m fm t 0 R S D P) : ∀ k, k ≤ 4 → ∃ P', djI m fm t k (pnN m t (P t) R S k).1 (pnN m t (P t) R S k).2 D P' ∧ ∀ c, c < 64 → D c → P' c = P c
  | 0, _ => ⟨P, h, fun _ _ _ => rfl⟩
  | k + 1, hk => by
    obtain ⟨P', h1, h2⟩ := dj_put ht hD hj h k (by omega)
    have hj' : ∀ d, d < 64 → D d → P' d ≤ P' t := fun d hd q => by rw [h2 d hd q, h2 t ht hD]; exact hj d hd q
    have et : P' t = P t := h2 t ht hD
    rcases hn : nb t k with _ | n
    · rw [pnN_0 hn]
      exact ⟨P', dj_keep h1 (fun n q => by rw [hn] at q; cases q), h2⟩
    · by_cases hr : m.1 n = 35
      · rw [pnN_r hn hr]
        exact ⟨P', dj_keep h1 (fun n2 q w => by rw [hn] at q; cases q; exact absurd hr w), h2⟩
      · have hn2 := nb_lt ht hn
        by_cases hi : inJ (pnN m t (P t) R S k).1 (nI n)
        · rw [pnN_i hn hr hi]
          refine ⟨P', dj_keep h1 (fun n2 q w => ?_), h2⟩
          rw [hn] at q
          cases q
          have nR := (inJ_iff hn2).mp hi
          refine ⟨nR, ?_⟩
          rcases h1.2.2.2.2.2.2.1 n hn2 nR with y | ⟨d, d1, d2, d3⟩
          · exact Int32.le_trans y (mx_2 _ _)
          · exact Int32.le_trans d3 (mx_mono (hj' d d1 d2))
        · rw [pnN_p hn hr hi]
          have z := dj_step ht (by omega) hD hj' h1 hn hr hi
          rw [et] at z
          refine ⟨_, z, fun c hc q => ?_⟩
          have cR := h1.2.2.1 c hc q
          exact (va_up_ne _ _ (show c ≠ n from fun e => hi ((inJ_iff hn2).mpr (e ▸ cR)))).trans (h2 c hc q)
/-- the least of the heap taken: there is no way below its value but over cells taken -/
theorem dj_low {t k : Nat} {R : Int64} {S : HS} {D : Nat → Prop} {P : Nat → Int32} (hk : t < 64 → 4 ≤ k) (hf : fm < 64) (h : djI m fm t k R S D P) {w : Int32} (hw : ∀ e, e < 64 → tb R e = true → ¬ D e → ¬ P e ≤ w) (hy : wyP m.2.1 m.1 fm w to) : D to := by
  obtain ⟨-, -, hcc, -, he, -, -, hi⟩ := h
  have key : ∀ c, c < 64 → tb R c = true → P c ≤ w → D c := fun c hc q l => Classical.byContradiction (fun n => hw c hc q n l)
  obtain ⟨z1, z2⟩ := hi hy.1.1
  have z3 := Int32.le_trans z2 hy.1.2
  refine (con_ind (p := fun x => x < 64 ∧ D x ∧ P x ≤ w) (fun x y r hx => ?_) hy.2 ⟨hf, key fm hf z1 z3, z3⟩).2.1
  obtain ⟨r1, r2, r3, r4, s, hs, hn⟩ := r
  obtain ⟨y1, y2⟩ := he x r1 hx.2.1 s hs (fun e => by
    have := hk (e ▸ r1)
    omega) y hn r4.1
  have y3 := Int32.le_trans y2 (mx_lub hx.2.2 r4.2)
  exact ⟨r2, key y r2 y1 y3, y3⟩
theorem dj_run (hf : fm < 64) (ht : to < 64) : ∀ (j : Nat) (R : Int64) (S : HS) (D : Nat → Prop) (P : Nat → Int32), djI m fm 64 0 R S D P → ¬ D to → 64 ≤ j + fb_ct (fun c => pd (D c)) 64 → pkA m.2.1 m.1 fm to (fpN m to j R S)
  | 0, R, S, D, P, h, hto, hj => by
    have z : fb_ct (fun c => pd (D c)) 64 = 64 := by
      have := fb_ct_le (fun c => pd (D c)) 64
      omega
    exact absurd (pd_iff.mp (fb_ct_all.mp z to ht)) hto
  | j + 1, R, (n, f), D, P, h, hto, hj => by
    rw [fpN]
    rcases n with _ | n
    · rw [if_pos (show (takH (0, f)).1 = -1 from rfl)]
      refine Or.inl ⟨rfl, fun w hy => hto (dj_low (fun q => absurd q (by omega)) hf h (w := w) (fun e he q1 q2 => ?_) hy)⟩
      have z := h.2.1 (ent (P e) e)
      have y : 0 < fb_ct (fun c => pd (tb R c = true ∧ ¬ D c ∧ ent (P c) c = ent (P e) e)) 64 := fb_ct_pos.mpr ⟨e, he, pd_iff.mpr ⟨q1, q2, rfl⟩⟩
      rw [← z] at y
      exact absurd y (Nat.lt_irrefl 0)
    · have hO1 := h.1.1
      have n64 := h.1.2
      obtain ⟨t1, t2, t3, t4⟩ := tak_h (n := n) (f := f) hO1 (by have : n + 1 ≤ 64 := n64; omega)
      have hb := h.2.1
      have zp : 0 < hc f (f 0) (n + 1) := fb_ct_pos.mpr ⟨0, by omega, decide_eq_true rfl⟩
      have hb0 : hc f (f 0) (n + 1) = _ := hb (f 0)
      rw [hb0] at zp
      obtain ⟨t, ht64, q⟩ := fb_ct_pos.mp zp
      obtain ⟨tR, tD, te⟩ := pd_iff.mp q
      obtain ⟨p0, pw⟩ := h.2.2.2.1 t ht64 tR
      have least : ∀ e, e < 64 → tb R e = true → ¬ D e → P t ≤ P e := fun e he q1 q2 => by
        have y : 0 < fb_ct (fun c => pd (tb R c = true ∧ ¬ D c ∧ ent (P c) c = ent (P e) e)) 64 := fb_ct_pos.mpr ⟨e, he, pd_iff.mpr ⟨q1, q2, rfl⟩⟩
        rw [← hb] at y
        obtain ⟨i, hi, w⟩ := fb_ct_pos.mp y
        have w2 := of_decide_eq_true w
        have w3 := hO_min hO1 (i + 1) i (by omega) hi
        refine ent_le p0 (h.2.2.2.1 e he q1).1 ht64 he ?_
        rw [te, ← w2]
        exact w3
      rw [t3, ← te, if_neg (ent_m1 p0 ht64), ent_c p0 ht64, ent_v p0 ht64]
      by_cases e : t = to
      · subst e
        rw [if_pos rfl]
        refine Or.inr ⟨fun q => by rw [q] at p0; exact absurd p0 (by decide), pw, fun w hy => ?_⟩
        refine Int32.not_lt.mp (fun lt => tD (dj_low (fun q => absurd q (by omega)) hf h (w := w) (fun e he q1 q2 l => ?_) hy))
        exact Int32.lt_irrefl (Int32.lt_of_le_of_lt (Int32.le_trans (least e he q1 q2) l) lt)
      · rw [if_neg e]
        have D2 : djI m fm t 0 R (takH (n + 1, f)).2 (fun c => D c ∨ c = t) P := by
          obtain ⟨-, -, hcc, hd, he, hg, hh, hi⟩ := h
          refine ⟨⟨by rw [t2]; exact t1, by rw [t2]; have : n + 1 ≤ 64 := n64; omega⟩, fun x => ?_, fun c hc q => q.elim (hcc c hc) (fun w => w ▸ tR), hd, fun d hd2 q s hs hts => ?_, fun d e6 hd2 he2 q qe qn => ?_, fun c hc q => ?_, hi⟩
          · rw [t2]
            have z := t4 x
            have z0 : hc f x (n + 1) = _ := hb x
            rw [z0] at z
            have y := fb_ct_upd (fun c => pd (tb R c = true ∧ ¬ D c ∧ ent (P c) c = x)) false ht64
            have e3 : (if pd (tb R t = true ∧ ¬ D t ∧ ent (P t) t = x) = true then 1 else 0) = i1 (f 0) x := by
              unfold i1
              by_cases w : f 0 = x
              · rw [if_pos w, if_pos (pd_iff.mpr ⟨tR, tD, te.trans w⟩)]
              · rw [if_neg w, if_neg (fun q => w (te.symm.trans (pd_iff.mp q).2.2))]
            rw [e3] at y
            simp only [Bool.false_eq_true, if_false] at y
            have e4 : fb_ct (fun c => pd (tb R c = true ∧ ¬ (D c ∨ c = t) ∧ ent (P c) c = x)) 64 = fb_ct (fun k => if k = t then false else pd (tb R k = true ∧ ¬ D k ∧ ent (P k) k = x)) 64 := fb_ct_cong (fun c _ => by
              by_cases w : c = t
              · rw [if_pos w]
                exact Bool.eq_false_iff.mpr (fun q => (pd_iff.mp q).2.1 (Or.inr w))
              · rw [if_neg w]
                congr 1
                exact propext ⟨fun q => ⟨q.1, fun y => q.2.1 (Or.inl y), q.2.2⟩, fun q => ⟨q.1, fun y => y.elim q.2.1 w, q.2.2⟩⟩)
            rw [e4]
            omega
          · rcases q with q | q
            · exact he d hd2 q s hs (fun w => absurd w (by omega))
            · subst q
              have := hts rfl
              omega
          · rcases q with q | q
            · exact hg d e6 hd2 he2 q qe (fun w => qn (Or.inl w))
            · subst q
              exact least e6 he2 qe (fun w => qn (Or.inl w))
          · rcases hh c hc q with w | ⟨d, d1, d2, d3⟩
            · exact Or.inl w
            · exact Or.inr ⟨d, d1, Or.inl d2, d3⟩
        have hj2 : ∀ d, d < 64 → (D d ∨ d = t) → P d ≤ P t := fun d hd q => by
          rcases q with q | q
          · exact h.2.2.2.2.2.1 d t hd ht64 q tR tD
          · subst q; exact Int32.le_refl _
        obtain ⟨P', g1, g2⟩ := dj_put ht64 (D := fun c => D c ∨ c = t) (Or.inr rfl) hj2 D2 4 (Nat.le_refl _)
        refine dj_run hf ht j _ _ (fun c => D c ∨ c = t) P' ?_ (fun q => q.elim hto (fun w => e w.symm)) ?_
        · obtain ⟨a, b, c, d, e5, g⟩ := g1
          exact ⟨a, b, c, d, fun d2 h1 h2 s hs _ => e5 d2 h1 h2 s hs (fun _ => hs), g⟩
        · have y := fb_ct_upd (fun c => pd (D c)) true ht64
          rw [if_neg (fun q => tD (pd_iff.mp q))] at y
          simp only [if_true] at y
          have e4 : fb_ct (fun c => pd (D c ∨ c = t)) 64 = fb_ct (fun k => if k = t then true else pd (D k)) 64 := fb_ct_cong (fun c _ => by
            by_cases w : c = t
            · rw [if_pos w]; exact pd_iff.mpr (Or.inr w)
            · rw [if_neg w]
              congr 1
              exact propext ⟨fun q => q.resolve_right w, Or.inl⟩)
          omega
/-- the heap finds the coolest way's peak -/
theorem fp_pk (hf : fm < 64) (ht : to < 64) (hb : ∀ i, i < 64 → 0 ≤ m.2.1 i) (f : Nat → Int64) : pkA m.2.1 m.1 fm to (fpJ m fm to f) := by
  have none0 : ∀ {D : Nat → Prop}, (∀ c, ¬ D c) → fb_ct (fun c => pd (D c)) 64 = 0 := fun h => fb_ct_zero.mpr (fun k _ => Bool.eq_false_iff.mpr (fun q => h k (pd_iff.mp q)))
  unfold fpJ
  by_cases e : m.1 fm = 35
  · rw [if_pos e]
    refine dj_run hf ht 64 0 (0, f) (fun _ => False) (fun _ => 0) ⟨⟨fun i _ h => absurd h (Nat.not_lt_zero i), Nat.zero_le _⟩, fun x => ?_, fun c _ q => q.elim, fun c _ q => ?_, fun d _ q => q.elim, fun d _ _ _ q => q.elim, fun c _ q => ?_, fun q => absurd e q⟩ (fun q => q) (by omega)
    · exact (fb_ct_zero.mpr (fun k _ => Bool.eq_false_iff.mpr (fun q => by have z := (pd_iff.mp q).1; rw [tb_0] at z; cases z))).symm
    · rw [tb_0] at q; cases q
    · rw [tb_0] at q; cases q
  · rw [if_neg e, if_neg (fun q => by
      have z := tb_bitJ hf hf
      rw [q, tb_0, decide_eq_true rfl] at z
      cases z)]
    have tR : ∀ c, c < 64 → (tb (bitJ (nI fm)) c = true ↔ c = fm) := fun c hc => by rw [tb_bitJ hf hc, decide_eq_true_iff]
    have eS : putH (m.2.1 fm) fm (0, f) = (1, putL (ent (m.2.1 fm) fm) 0 0 f) := if_pos (show 0 < 64 by omega)
    rw [eS]
    refine dj_run hf ht 64 _ _ (fun _ => False) (fun c => m.2.1 c) ⟨⟨fun i h1 h2 => absurd (show i < 1 from h2) (by omega), by show 1 ≤ 64; omega⟩, fun x => ?_, fun c _ q => q.elim, fun c hc q => ?_, fun d _ q => q.elim, fun d _ _ _ q => q.elim, fun c _ q => Or.inl (Int32.le_refl _), fun q => ⟨(tR fm hf).mpr rfl, Int32.le_refl _⟩⟩ (fun q => q) (by omega)
    · show hc (putL (ent (m.2.1 fm) fm) 0 0 f) x (0 + 1) = _
      rw [put_c]
      show 0 + i1 (ent (m.2.1 fm) fm) x = _
      have y := fb_ct_upd (fun _ => false) (pd (ent (m.2.1 fm) fm = x)) hf
      have z0 : fb_ct (fun _ => false) 64 = 0 := fb_ct_zero.mpr (fun _ _ => rfl)
      rw [z0] at y
      simp only [Bool.false_eq_true, if_false] at y
      have e2 : (if pd (ent (m.2.1 fm) fm = x) = true then 1 else 0) = i1 (ent (m.2.1 fm) fm) x := by
        unfold i1
        by_cases w : ent (m.2.1 fm) fm = x
        · rw [if_pos w, if_pos (pd_iff.mpr w)]
        · rw [if_neg w, if_neg (fun q => w (pd_iff.mp q))]
      rw [e2] at y
      refine Eq.trans y.symm ?_
      refine fb_ct_cong (fun c hc => ?_)
      by_cases w : c = fm
      · subst w
        rw [if_pos rfl]
        congr 1
        exact propext ⟨fun q => ⟨(tR c hc).mpr rfl, fun z => z, q⟩, fun q => q.2.2⟩
      · rw [if_neg w]
        exact (Bool.eq_false_iff.mpr (fun q => w ((tR c hc).mp (pd_iff.mp q).1))).symm
    · have w := (tR c hc).mp q
      subst w
      exact ⟨hb c hc, ⟨e, Int32.le_refl _⟩, con_refl⟩
/-- both ways agree -/
theorem fp_try (hf : fm < 64) (ht : to < 64) (hb : ∀ i, i < 64 → 0 ≤ m.2.1 i) (f : Nat → Int64) : fpJ m fm to f = (tryN m fm to 64).2 := pkA_one (fp_pk hf ht hb f) (try_pk hf ht hb)
end DJ
