/-! Regions and holes by filling are the model's. -/
theorem cntP_ct {p : Nat → Prop} {q : Nat → Bool} : ∀ k, (∀ i, i < k → (p i ↔ q i = true)) → cntP p k = nI (fb_ct q k)
  | 0, _ => rfl
  | k + 1, h => by
    have ih := cntP_ct k (fun i hi => h i (by omega))
    by_cases e : p k
    · rw [← cntP_t e, ih, fb_ct_succ, if_pos ((h k (by omega)).mp e)]
      exact (nI_succ _).symm
    · rw [← cntP_f e, ih, fb_ct_succ, if_neg (fun z => e ((h k (by omega)).mpr z))]
      exact Int32.add_zero _
theorem spr_congr {K K' : Nat → Bool} {b : Int32} (h : ∀ i, i < 64 → K i = K' i) {c d : Nat} (q : spr K b c d) : spr K' b c d :=
  ⟨q.1, q.2.1, (h c q.1).symm.trans q.2.2.1, (h d q.2.1).symm.trans q.2.2.2.1, q.2.2.2.2⟩
theorem con_congr {K K' : Nat → Bool} {b : Int32} (h : ∀ i, i < 64 → K i = K' i) {c d : Nat} : con (spr K b) c d ↔ con (spr K' b) c d :=
  ⟨con_mono (fun _ _ => spr_congr h), con_mono (fun _ _ => spr_congr (fun i hi => (h i hi).symm))⟩
theorem isMn_congr {K K' : Nat → Bool} {b : Int32} (h : ∀ i, i < 64 → K i = K' i) {c : Nat} (hc : c < 64) : isMn K b c ↔ isMn K' b c := by
  unfold isMn
  rw [h c hc]
  exact ⟨fun q => ⟨q.1, fun e he => q.2 e ((con_congr h).mpr he)⟩, fun q => ⟨q.1, fun e he => q.2 e ((con_congr h).mp he)⟩⟩
theorem isHo_congr {K K' : Nat → Bool} {b : Int32} (h : ∀ i, i < 64 → K i = K' i) {c : Nat} (hc : c < 64) : isHo K b c ↔ isHo K' b c := by
  unfold isHo
  rw [isMn_congr h hc]
  exact ⟨fun q => ⟨q.1, fun ⟨e, h1, h2, h3⟩ => q.2 ⟨e, h1, (con_congr h).mpr h2, h3⟩⟩, fun q => ⟨q.1, fun ⟨e, h1, h2, h3⟩ => q.2 ⟨e, h1, (con_congr h).mp h2, h3⟩⟩⟩
/-- what is left when all parts with a cell below k are gone -/
def lfP (b : Int32) (cs lf : Int64) (k : Nat) : Prop := ∀ i, i < 64 → (tb lf i = true ↔ tb cs i = true ∧ ∀ e, e < k → ¬ con (spr (tb cs) b) i e)
section LF
variable {b : Int32} {cs lf : Int64} {k : Nat}
theorem con_sy {K : Nat → Bool} {c d : Nat} (h : con (spr K b) c d) : con (spr K b) d c := con_symm (fun _ _ => spr_symm) h
theorem lf_mn (h : lfP b cs lf k) (hk : k < 64) : tb lf k = true ↔ isMn (tb cs) b k := by
  rw [h k hk]
  exact ⟨fun q => ⟨q.1, fun e he => Nat.not_lt.mp (fun z => q.2 e z he)⟩, fun q => ⟨q.1, fun e he z => absurd (q.2 e z) (by omega)⟩⟩
theorem lf_con (h : lfP b cs lf k) {c i : Nat} (hc : c < 64) (hl : tb lf c = true) : con (spr (tb lf) b) c i ↔ con (spr (tb cs) b) c i := by
  constructor
  · exact con_mono (fun x y q => ⟨q.1, q.2.1, ((h x q.1).mp q.2.2.1).1, ((h y q.2.1).mp q.2.2.2.1).1, q.2.2.2.2⟩)
  · intro q
    refine (con_ind (p := fun x => x < 64 ∧ tb lf x = true ∧ con (spr (tb lf) b) c x) (fun x y hr hx => ?_) q ⟨hc, hl, con_refl⟩).2.2
    have hy : tb lf y = true := (h y hr.2.1).mpr ⟨hr.2.2.2.1, fun e he z => ((h x hx.1).mp hx.2.1).2 e he (con_step hr z)⟩
    exact ⟨hr.2.1, hy, con_trans hx.2.2 (con_one ⟨hr.1, hr.2.1, hx.2.1, hy, hr.2.2.2.2⟩)⟩
theorem lf_0 : lfP b cs cs 0 := fun i hi => ⟨fun q => ⟨q, fun e he => absurd he (Nat.not_lt_zero e)⟩, fun q => q.1⟩
theorem lf_keep (h : lfP b cs lf k) (hk : k < 64) (hn : ¬ tb lf k = true) : lfP b cs lf (k + 1) := fun i hi => by
  rw [h i hi]
  refine ⟨fun q => ⟨q.1, fun e he z => ?_⟩, fun q => ⟨q.1, fun e he => q.2 e (by omega)⟩⟩
  rcases (show e < k ∨ e = k by omega) with h2 | rfl
  · exact q.2 e h2 z
  · have hke := (con_in z ⟨hi, q.1⟩).2
    refine hn ((h e hk).mpr ⟨hke, fun e2 he2 z2 => q.2 e2 he2 (con_trans z z2)⟩)
theorem lf_cut (hb : b = 0 ∨ b = 1) (h : lfP b cs lf k) (hk : k < 64) (hl : tb lf k = true) : lfP b cs (lf &&& (gfl b lf 64 (bitJ (nI k) &&& lf) ^^^ (-1))) (k + 1) := fun i hi => by
  rw [tb_and, tb_not _ hi, Bool.and_eq_true, Bool.not_eq_true', ← Bool.not_eq_true, gfl_con hb hk hl hi, lf_con h hk hl, h i hi]
  constructor
  · rintro ⟨⟨q1, q2⟩, q3⟩
    refine ⟨q1, fun e he z => ?_⟩
    rcases (show e < k ∨ e = k by omega) with h2 | rfl
    · exact q2 e h2 z
    · exact q3 (con_sy z)
  · rintro ⟨q1, q2⟩
    exact ⟨⟨q1, fun e he => q2 e (by omega)⟩, fun z => q2 k (by omega) (con_sy z)⟩
end LF
theorem regN_eq {cs : Int64} : ∀ (j k : Nat) (lf : Int64), k + j = 64 → lfP 0 cs lf k → regN j k lf (cntP (isMn (tb cs) 0) k) = cntP (isMn (tb cs) 0) 64
  | 0, k, lf, hk, _ => by rw [regN, show k = 64 by omega]
  | j + 1, k, lf, hk, h => by
    rw [regN]
    have hk' : k < 64 := by omega
    by_cases e : tb lf k = true
    · rw [if_pos ((inJ_iff hk').mpr e), cntP_t ((lf_mn h hk').mp e), fillJ_g]
      exact regN_eq j (k + 1) _ (by omega) (lf_cut (Or.inl rfl) h hk' e)
    · rw [if_neg (fun q => e ((inJ_iff hk').mp q))]
      have z := cntP_f (p := isMn (tb cs) 0) (k := k) (fun q => e ((lf_mn h hk').mpr q))
      rw [Int32.add_zero] at z
      rw [z]
      exact regN_eq j (k + 1) _ (by omega) (lf_keep h hk' e)
theorem regN_64 {cs : Int64} : regN 64 0 cs 0 = cntP (isMn (tb cs) 0) 64 := regN_eq 64 0 cs rfl lf_0
theorem mk_edge : ∀ i, i < 64 → tb (-35604928818740737) i = edB i := by decide +kernel
theorem edge_iff {b : Int32} {cs : Int64} (hb : b = 0 ∨ b = 1) {k : Nat} (hk : k < 64) (hl : tb cs k = true) : gfl b cs 64 (bitJ (nI k) &&& cs) &&& (-35604928818740737) = 0 ↔ ¬ ∃ e, e < 64 ∧ con (spr (tb cs) b) k e ∧ edB e = true := by
  constructor
  · rintro h ⟨e, he, h1, h2⟩
    have z : tb (gfl b cs 64 (bitJ (nI k) &&& cs) &&& (-35604928818740737)) e = tb 0 e := by rw [h]
    rw [tb_and, mk_edge e he, h2, (gfl_con hb hk hl he).mpr h1, tb_0] at z
    cases z
  · intro h
    refine tb_ext (fun i hi => ?_)
    rw [tb_and, mk_edge i hi, tb_0]
    by_cases e1 : tb (gfl b cs 64 (bitJ (nI k) &&& cs)) i = true
    · by_cases e2 : edB i = true
      · exact absurd ⟨i, hi, (gfl_con hb hk hl hi).mp e1, e2⟩ h
      · rw [Bool.eq_false_iff.mpr e2, Bool.and_false]
    · rw [Bool.eq_false_iff.mpr e1, Bool.false_and]
theorem holN_eq {cs : Int64} : ∀ (j k : Nat) (lf : Int64), k + j = 64 → lfP 1 cs lf k → holN j k lf (cntP (isHo (tb cs) 1) k) = cntP (isHo (tb cs) 1) 64
  | 0, k, lf, hk, _ => by rw [holN, show k = 64 by omega]
  | j + 1, k, lf, hk, h => by
    rw [holN]
    have hk' : k < 64 := by omega
    have hz : ¬ isHo (tb cs) 1 k → cntP (isHo (tb cs) 1) k = cntP (isHo (tb cs) 1) (k + 1) := fun q => by
      have z := cntP_f (p := isHo (tb cs) 1) (k := k) q
      rwa [Int32.add_zero] at z
    by_cases e : tb lf k = true
    · rw [if_pos ((inJ_iff hk').mpr e), fillK_g]
      have hcut := lf_cut (Or.inr rfl) h hk' e
      by_cases e2 : gfl 1 lf 64 (bitJ (nI k) &&& lf) &&& (-35604928818740737) = 0
      · rw [if_pos e2, cntP_t (p := isHo (tb cs) 1) ⟨(lf_mn h hk').mp e, fun ⟨x, h1, h2, h3⟩ => (edge_iff (Or.inr rfl) hk' e).mp e2 ⟨x, h1, (lf_con h hk' e).mpr h2, h3⟩⟩]
        exact holN_eq j (k + 1) _ (by omega) hcut
      · rw [if_neg e2, hz (fun q => e2 ((edge_iff (Or.inr rfl) hk' e).mpr (fun ⟨x, h1, h2, h3⟩ => q.2 ⟨x, h1, (lf_con h hk' e).mp h2, h3⟩)))]
        exact holN_eq j (k + 1) _ (by omega) hcut
    · rw [if_neg (fun q => e ((inJ_iff hk').mp q)), hz (fun q => e ((lf_mn h hk').mpr q.1))]
      exact holN_eq j (k + 1) _ (by omega) (lf_keep h hk' e)
theorem holN_64 {cs : Int64} : holN 64 0 cs 0 = cntP (isHo (tb cs) 1) 64 := holN_eq 64 0 cs rfl lf_0
theorem spK_1 {m : Nat → Int32} {v : Int32} {i : Nat} (hi : i < 64) : spK m v 1 i = tb (levN m v 64) i := by
  rw [tb_lev64 hi, spK]
  by_cases e : v ≤ m i
  · rw [if_pos e, decide_eq_true e]; rfl
  · rw [if_neg e, decide_eq_false e]; rfl
theorem spK_0 {m : Nat → Int32} {v : Int32} {i : Nat} (hi : i < 64) : spK m v 0 i = tb (levN m v 64 ^^^ (-1)) i := by
  rw [tb_not _ hi, tb_lev64 hi, spK]
  by_cases e : v ≤ m i
  · rw [if_pos e, decide_eq_true e]; rfl
  · rw [if_neg e, decide_eq_false e]; rfl
theorem reg_eq {m : Nat → Int32} {v : Int32} : regN 64 0 (levN m v 64) 0 = cntP (isMn (spK m v 1) 0) 64 := by
  rw [regN_64]
  exact cntP_eq 64 (fun i hi => isMn_congr (fun x hx => (spK_1 hx).symm) hi)
theorem hol_eq {m : Nat → Int32} {v : Int32} : holN 64 0 (levN m v 64 ^^^ (-1)) 0 = cntP (isHo (spK m v 0) 1) 64 := by
  rw [holN_64]
  exact cntP_eq 64 (fun i hi => isHo_congr (fun x hx => (spK_0 hx).symm) hi)
/-- a level of the model's map is the level of the class's -/
theorem lev_congr {f g : Nat → Int32} {v : Int32} (h : ∀ i, i < 64 → f i = g i) : levN f v 64 = levN g v 64 := tb_ext (fun i hi => by rw [tb_lev64 hi, tb_lev64 hi, h i hi])
