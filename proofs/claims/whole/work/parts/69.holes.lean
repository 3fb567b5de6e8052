/-! Holes by squares are holes. -/
/-- the cells of b, in the board with a frame -/
def fS (b : Int64) (q : Nat) : Prop := 1 ≤ q % 10 ∧ q % 10 ≤ 8 ∧ 1 ≤ q / 10 ∧ q / 10 ≤ 8 ∧ tb b (8 * (q / 10 - 1) + (q % 10 - 1)) = true
def em (c : Nat) : Nat := 10 * (c / 8 + 1) + (c % 8 + 1)
theorem em_in {c : Nat} (hc : c < 64) : em c < 100 ∧ 1 ≤ em c % 10 ∧ em c % 10 ≤ 8 ∧ 1 ≤ em c / 10 ∧ em c / 10 ≤ 8 ∧ 8 * (em c / 10 - 1) + (em c % 10 - 1) = c ∧ em c ≠ 0 := by unfold em; omega
theorem em_of {q : Nat} (h : 1 ≤ q % 10 ∧ q % 10 ≤ 8 ∧ 1 ≤ q / 10 ∧ q / 10 ≤ 8) : ∃ c, c < 64 ∧ q = em c := ⟨8 * (q / 10 - 1) + (q % 10 - 1), by omega, by unfold em; omega⟩
theorem em_le {c d : Nat} (hc : c < 64) (hd : d < 64) : em c ≤ em d ↔ c ≤ d := by unfold em; omega
theorem em_inj {c d : Nat} (hc : c < 64) (hd : d < 64) (h : em c = em d) : c = d := by unfold em at h; omega
theorem fS_em {b : Int64} {c : Nat} (hc : c < 64) : fS b (em c) ↔ tb b c = true := by
  have z := em_in hc
  unfold fS
  rw [z.2.2.2.2.2.1]
  exact ⟨fun q => q.2.2.2.2, fun q => ⟨z.2.1, z.2.2.1, z.2.2.2.1, z.2.2.2.2.1, q⟩⟩
theorem fS_of {b : Int64} {q : Nat} (h : fS b q) : ∃ c, c < 64 ∧ q = em c ∧ tb b c = true := by
  obtain ⟨c, hc, e⟩ := em_of ⟨h.1, h.2.1, h.2.2.1, h.2.2.2.1⟩
  exact ⟨c, hc, e, (fS_em hc).mp (e ▸ h)⟩
theorem fS_0 {b : Int64} : ∀ c, fS b c → 11 ≤ c ∧ c ≤ 88 := fun c h => by
  obtain ⟨h1, h2, h3, h4, -⟩ := h
  omega
theorem em_S : ∀ c, c < 64 → ∀ d, d < 64 → tch 0 c d = decide (em d = em c + 1 ∨ em c = em d + 1 ∨ em d = em c + 10 ∨ em c = em d + 10) := by decide +kernel
theorem em_T : ∀ c, c < 64 → ∀ d, d < 64 → tch 1 c d = decide (c = d ∨ em d = em c + 1 ∨ em c = em d + 1 ∨ em d = em c + 9 ∨ em c = em d + 9 ∨ em d = em c + 10 ∨ em c = em d + 10 ∨ em d = em c + 11 ∨ em c = em d + 11) := by decide +kernel
theorem em_S2 {c d : Nat} (hc : c < 64) (hd : d < 64) : tch 0 c d = true ↔ hS (em c) (em d) := by rw [em_S c hc d hd, decide_eq_true_iff]; exact Iff.rfl
theorem em_T2 {c d : Nat} (hc : c < 64) (hd : d < 64) : tch 1 c d = true ↔ c = d ∨ hT (em c) (em d) := by rw [em_T c hc d hd, decide_eq_true_iff]; exact Iff.rfl
theorem edB_d : ∀ c, c < 64 → edB c = decide (c % 8 = 0 ∨ c % 8 = 7 ∨ c / 8 = 0 ∨ c / 8 = 7) := by decide +kernel
theorem em_E {c q : Nat} (hc : c < 64) (hq : q < 100) (hf : ¬ (1 ≤ q % 10 ∧ q % 10 ≤ 8 ∧ 1 ≤ q / 10 ∧ q / 10 ≤ 8)) (h : hT (em c) q) : edB c = true := by
  rw [edB_d c hc, decide_eq_true_iff]
  unfold hT em at h
  omega
theorem em_E2 {c : Nat} (hc : c < 64) (h : edB c = true) : ∃ q, q < 100 ∧ ¬ (1 ≤ q % 10 ∧ q % 10 ≤ 8 ∧ 1 ≤ q / 10 ∧ q / 10 ≤ 8) ∧ hT (em c) q := by
  rw [edB_d c hc, decide_eq_true_iff] at h
  unfold hT em
  rcases h with h | h | h | h
  · exact ⟨10 * (c / 8 + 1) + (c % 8 + 1) - 1, by omega, by omega, by omega⟩
  · exact ⟨10 * (c / 8 + 1) + (c % 8 + 1) + 1, by omega, by omega, by omega⟩
  · exact ⟨10 * (c / 8 + 1) + (c % 8 + 1) - 10, by omega, by omega, by omega⟩
  · exact ⟨10 * (c / 8 + 1) + (c % 8 + 1) + 10, by omega, by omega, by omega⟩
section TR
variable {b : Int64} {c : Nat}
theorem S_up {d : Nat} (h : con (spr (tb b) 0) c d) : con (gr 100 hS (fS b)) (em c) (em d) :=
  con_ind (p := fun x => con (gr 100 hS (fS b)) (em c) (em x)) (fun x y q hx => con_trans hx (con_one ⟨(em_in q.1).1, (em_in q.2.1).1, (fS_em q.1).mpr q.2.2.1, (fS_em q.2.1).mpr q.2.2.2.1, (em_S2 q.1 q.2.1).mp q.2.2.2.2⟩)) h con_refl
theorem S_dn (hc : c < 64) {x : Nat} (h : con (gr 100 hS (fS b)) (em c) x) : ∃ d, d < 64 ∧ x = em d ∧ con (spr (tb b) 0) c d := by
  refine con_ind (p := fun x => ∃ d, d < 64 ∧ x = em d ∧ con (spr (tb b) 0) c d) (fun x y q hx => ?_) h ⟨c, hc, rfl, con_refl⟩
  obtain ⟨d, hd, e, hcd⟩ := hx
  obtain ⟨f, hf, e2, tf⟩ := fS_of q.2.2.2.1
  subst e
  subst e2
  exact ⟨f, hf, rfl, con_trans hcd (con_one ⟨hd, hf, (fS_em hd).mp q.2.2.1, tf, (em_S2 hd hf).mpr q.2.2.2.2⟩)⟩
theorem S_gm (hc : c < 64) : gm 100 hS (fS b) (em c) ↔ isMn (tb b) 0 c := by
  unfold gm isMn
  rw [fS_em hc]
  refine ⟨fun q => ⟨q.1, fun e he => ?_⟩, fun q => ⟨q.1, fun x hx => ?_⟩⟩
  · have he2 := (con_in he ⟨hc, q.1⟩).1
    exact (em_le hc he2).mp (q.2 _ (S_up he))
  · obtain ⟨d, hd, e, h⟩ := S_dn hc hx
    rw [e, em_le hc hd]
    exact q.2 d h
theorem S_ct : gC 100 hS (fS b) = fb_ct (fun c => pd (isMn (tb b) 0 c)) 64 := by
  refine Nat.le_antisymm ?_ ?_
  · refine fb_inj2 (fun q => 8 * (q / 10 - 1) + (q % 10 - 1)) (fun i hi pi => ?_) (fun i j hi hj pi pj e => ?_)
    · have z := pd_iff.mp pi
      obtain ⟨c, hc, e, -⟩ := fS_of z.1
      subst e
      have w := em_in hc
      rw [w.2.2.2.2.2.1]
      exact ⟨hc, pd_iff.mpr ((S_gm hc).mp z)⟩
    · obtain ⟨c, hc, e1, -⟩ := fS_of (pd_iff.mp pi).1
      obtain ⟨d, hd, e2, -⟩ := fS_of (pd_iff.mp pj).1
      subst e1
      subst e2
      rw [(em_in hc).2.2.2.2.2.1, (em_in hd).2.2.2.2.2.1] at e
      rw [e]
  · refine fb_inj2 em (fun i hi pi => ⟨(em_in hi).1, pd_iff.mpr ((S_gm hi).mpr (pd_iff.mp pi))⟩) (fun i j hi hj _ _ e => em_inj hi hj e)
/-- the frame hangs together -/
theorem fr_low : ∀ n q, q < n → q < 100 → ¬ (1 ≤ q % 10 ∧ q % 10 ≤ 8 ∧ 1 ≤ q / 10 ∧ q / 10 ≤ 8) → con (gr 100 hT (fun x => ¬ fS b x)) q 0
  | 0, _, h, _, _ => absurd h (Nat.not_lt_zero _)
  | n + 1, q, h, hq, hf => by
    by_cases h0 : q = 0
    · subst h0; exact con_refl
    · have nf : ∀ x, ¬ (1 ≤ x % 10 ∧ x % 10 ≤ 8 ∧ 1 ≤ x / 10 ∧ x / 10 ≤ 8) → ¬ fS b x := fun x hx s => hx ⟨s.1, s.2.1, s.2.2.1, s.2.2.2.1⟩
      have step : ∀ x, x < q → ¬ (1 ≤ x % 10 ∧ x % 10 ≤ 8 ∧ 1 ≤ x / 10 ∧ x / 10 ≤ 8) → hT q x → con (gr 100 hT (fun x => ¬ fS b x)) q 0 := fun x hx hfx ht =>
        con_step ⟨hq, by omega, nf q hf, nf x hfx, ht⟩ (fr_low n x (by omega) (by omega) hfx)
      by_cases a : q / 10 = 0 ∨ q / 10 = 9
      · by_cases a2 : q = 90
        · exact step 80 (by omega) (by omega) (by unfold hT; omega)
        · exact step (q - 1) (by omega) (by omega) (by unfold hT; omega)
      · by_cases a2 : q % 10 = 0
        · exact step (q - 10) (by omega) (by omega) (by unfold hT; omega)
        · exact step (q - 9) (by omega) (by omega) (by unfold hT; omega)
theorem T_em (hc : c < 64) : ¬ fS b (em c) ↔ tb (b ^^^ (-1)) c = true := by
  rw [fS_em hc, tb_not _ hc]
  cases tb b c <;> simp
theorem T_up {d : Nat} (h : con (spr (tb (b ^^^ (-1))) 1) c d) : con (gr 100 hT (fun x => ¬ fS b x)) (em c) (em d) :=
  con_ind (p := fun x => con (gr 100 hT (fun x => ¬ fS b x)) (em c) (em x)) (fun x y q hx => by
    rcases (em_T2 q.1 q.2.1).mp q.2.2.2.2 with e | e
    · subst e; exact hx
    · exact con_trans hx (con_one ⟨(em_in q.1).1, (em_in q.2.1).1, (T_em q.1).mpr q.2.2.1, (T_em q.2.1).mpr q.2.2.2.1, e⟩)) h con_refl
theorem T_dn (hc : c < 64) (hn : ¬ ∃ e, e < 64 ∧ con (spr (tb (b ^^^ (-1))) 1) c e ∧ edB e = true) {x : Nat} (h : con (gr 100 hT (fun x => ¬ fS b x)) (em c) x) : ∃ d, d < 64 ∧ x = em d ∧ con (spr (tb (b ^^^ (-1))) 1) c d := by
  refine con_ind (p := fun x => ∃ d, d < 64 ∧ x = em d ∧ con (spr (tb (b ^^^ (-1))) 1) c d) (fun x y q hx => ?_) h ⟨c, hc, rfl, con_refl⟩
  obtain ⟨d, hd, e, hcd⟩ := hx
  subst e
  by_cases hf : 1 ≤ y % 10 ∧ y % 10 ≤ 8 ∧ 1 ≤ y / 10 ∧ y / 10 ≤ 8
  · obtain ⟨f, hf2, e2⟩ := em_of hf
    subst e2
    exact ⟨f, hf2, rfl, con_trans hcd (con_one ⟨hd, hf2, (T_em hd).mp q.2.2.1, (T_em hf2).mp q.2.2.2.1, (em_T2 hd hf2).mpr (Or.inr q.2.2.2.2)⟩)⟩
  · exact absurd ⟨d, hd, hcd, em_E hd q.2.1 hf q.2.2.2.2⟩ hn
theorem T_gm (hc : c < 64) : (gm 100 hT (fun x => ¬ fS b x) (em c) ∧ ¬ con (gr 100 hT (fun x => ¬ fS b x)) (em c) 0) ↔ isHo (tb (b ^^^ (-1))) 1 c := by
  unfold isHo
  constructor
  · rintro ⟨q, q0⟩
    have kc := (T_em hc).mp q.1
    refine ⟨⟨kc, fun e he => ?_⟩, ?_⟩
    · exact (em_le hc (con_in he ⟨hc, kc⟩).1).mp (q.2 _ (T_up he))
    · rintro ⟨e, he, h1, h2⟩
      obtain ⟨f, hf, f1, f2⟩ := em_E2 he h2
      refine q0 (con_trans (T_up h1) (con_step ⟨(em_in he).1, hf, (T_em he).mpr (con_in h1 ⟨hc, kc⟩).2, fun s => f1 ⟨s.1, s.2.1, s.2.2.1, s.2.2.2.1⟩, f2⟩ (fr_low 100 f hf hf f1)))
  · rintro ⟨q, hn⟩
    refine ⟨⟨(T_em hc).mpr q.1, fun x hx => ?_⟩, fun h => ?_⟩
    · obtain ⟨d, hd, e, h⟩ := T_dn hc hn hx
      rw [e, em_le hc hd]
      exact q.2 d h
    · obtain ⟨d, hd, e, -⟩ := T_dn hc hn h
      exact (em_in hd).2.2.2.2.2.2 e.symm
theorem T_no {q : Nat} (h : gm 100 hT (fun x => ¬ fS b x) q) (h0 : q ≠ 0) : ¬ con (gr 100 hT (fun x => ¬ fS b x)) q 0 := fun z => by
  have := h.2 0 z
  omega
theorem T_of {q : Nat} (hq : q < 100) (h : gm 100 hT (fun x => ¬ fS b x) q) (h0 : q ≠ 0) : ∃ c, c < 64 ∧ q = em c ∧ isHo (tb (b ^^^ (-1))) 1 c := by
  by_cases hf : 1 ≤ q % 10 ∧ q % 10 ≤ 8 ∧ 1 ≤ q / 10 ∧ q / 10 ≤ 8
  · obtain ⟨c, hc, e⟩ := em_of hf
    subst e
    exact ⟨c, hc, rfl, (T_gm hc).mp ⟨h, T_no h h0⟩⟩
  · exact absurd (fr_low 100 q hq hq hf) (T_no h h0)
theorem T_ct : gC 100 hT (fun x => ¬ fS b x) = fb_ct (fun c => pd (isHo (tb (b ^^^ (-1))) 1 c)) 64 + 1 := by
  have z := fb_ct_upd (fun c => pd (gm 100 hT (fun x => ¬ fS b x) c)) false (i := 0) (n := 100) (by omega)
  have g0 : gm 100 hT (fun x => ¬ fS b x) 0 := ⟨fun s => absurd s.1 (by decide), fun e _ => Nat.zero_le e⟩
  rw [if_pos (pd_iff.mpr g0)] at z
  simp only [Bool.false_eq_true, if_false] at z
  have key : fb_ct (fun k => if k = 0 then false else pd (gm 100 hT (fun x => ¬ fS b x) k)) 100 = fb_ct (fun c => pd (isHo (tb (b ^^^ (-1))) 1 c)) 64 := by
    refine Nat.le_antisymm ?_ ?_
    · have un : ∀ i, i < 100 → (if i = 0 then false else pd (gm 100 hT (fun x => ¬ fS b x) i)) = true → ∃ c, c < 64 ∧ i = em c ∧ isHo (tb (b ^^^ (-1))) 1 c := fun i hi pi => by
        by_cases e : i = 0
        · rw [if_pos e] at pi; cases pi
        · rw [if_neg e] at pi
          exact T_of hi (pd_iff.mp pi) e
      refine fb_inj2 (fun q => 8 * (q / 10 - 1) + (q % 10 - 1)) (fun i hi pi => ?_) (fun i j hi hj pi pj e => ?_)
      · obtain ⟨c, hc, e, h⟩ := un i hi pi
        subst e
        have w := em_in hc
        rw [w.2.2.2.2.2.1]
        exact ⟨hc, pd_iff.mpr h⟩
      · obtain ⟨c, hc, e1, -⟩ := un i hi pi
        obtain ⟨d, hd, e2, -⟩ := un j hj pj
        subst e1
        subst e2
        rw [(em_in hc).2.2.2.2.2.1, (em_in hd).2.2.2.2.2.1] at e
        rw [e]
    · refine fb_inj2 em (fun i hi pi => ⟨(em_in hi).1, ?_⟩) (fun i j hi hj _ _ e => em_inj hi hj e)
      rw [if_neg (em_in hi).2.2.2.2.2.2]
      exact pd_iff.mpr ((T_gm hi).mpr (pd_iff.mp pi)).1
  unfold gC
  omega
end TR
/-- regions less holes -/
theorem eu_4 (b : Int64) : (fb_ct (fun c => pd (isMn (tb b) 0 c)) 64 : Int) - (fb_ct (fun c => pd (isHo (tb (b ^^^ (-1))) 1 c)) 64 : Int) = cX (fS b) := by
  have z := eu_3 (S := fS b) fS_0
  rw [S_ct, T_ct] at z
  omega
