/-! The length of the contour. -/
def nfr (b : Int64) (c s : Nat) : Prop := ∃ n, nb c s = some n ∧ tb b n = true
theorem free_iv {b : Int64} {c : Nat} (hc : c < 64) : ∀ s, freeN b c s = Int32.ofInt (fb_si (fun s => 1 - iv (nfr b c s)) s)
  | 0 => rfl
  | s + 1 => by
    have ih := free_iv (b := b) hc s
    rw [fb_si_succ, Int32.ofInt_add, ← ih, freeN]
    rcases hn : nb c s with _ | n
    · have e : ¬ nfr b c s := fun ⟨n, h, _⟩ => by rw [hn] at h; cases h
      rw [iv_f e]
      rfl
    · have hn2 := nb_lt hc hn
      by_cases e : tb b n = true
      · rw [iv_t (show nfr b c s from ⟨n, hn, e⟩)]
        show (if inJ b (nI n) then freeN b c s else freeN b c s + 1) = _
        rw [if_pos ((inJ_iff hn2).mpr e)]
        exact (Int32.add_zero _).symm
      · have e2 : ¬ nfr b c s := fun ⟨n2, h, h2⟩ => by rw [hn] at h; cases h; exact e h2
        rw [iv_f e2]
        show (if inJ b (nI n) then freeN b c s else freeN b c s + 1) = _
        rw [if_neg (fun q => e ((inJ_iff hn2).mp q))]
        rfl
theorem con_iv {b : Int64} : ∀ k, k ≤ 64 → conN b k = Int32.ofInt (fb_si (fun c => 4 * iv (tb b c = true) - iv (tb b c = true ∧ nfr b c 0) - iv (tb b c = true ∧ nfr b c 1) - iv (tb b c = true ∧ nfr b c 2) - iv (tb b c = true ∧ nfr b c 3)) k)
  | 0, _ => rfl
  | k + 1, h => by
    rw [fb_si_succ, Int32.ofInt_add, ← con_iv k (by omega), conN]
    by_cases e : tb b k = true
    · rw [if_pos ((inJ_iff (by omega)).mpr e), free_iv (by omega)]
      congr 2
      rw [iv_t e, iv_c (show (tb b k = true ∧ nfr b k 0) ↔ nfr b k 0 from ⟨fun q => q.2, fun q => ⟨e, q⟩⟩), iv_c (show (tb b k = true ∧ nfr b k 1) ↔ nfr b k 1 from ⟨fun q => q.2, fun q => ⟨e, q⟩⟩), iv_c (show (tb b k = true ∧ nfr b k 2) ↔ nfr b k 2 from ⟨fun q => q.2, fun q => ⟨e, q⟩⟩), iv_c (show (tb b k = true ∧ nfr b k 3) ↔ nfr b k 3 from ⟨fun q => q.2, fun q => ⟨e, q⟩⟩)]
      show (0 : Int) + (1 - iv (nfr b k 0)) + (1 - iv (nfr b k 1)) + (1 - iv (nfr b k 2)) + (1 - iv (nfr b k 3)) = _
      omega
    · rw [if_neg (fun q => e ((inJ_iff (by omega)).mp q)), iv_f e, iv_f (fun q => e q.1), iv_f (fun q => e q.1), iv_f (fun q => e q.1), iv_f (fun q => e q.1)]
      exact (Int32.add_zero _).symm
theorem nb_1 : ∀ c, c < 64 → nb c 1 = if c % 8 ≠ 7 then some (c + 1) else none := by decide +kernel
theorem nb_3 : ∀ c, c < 64 → nb c 3 = if c % 8 ≠ 0 then some (c - 1) else none := by decide +kernel
theorem nb_2 : ∀ c, c < 64 → nb c 2 = if c < 56 then some (c + 8) else none := by decide +kernel
theorem nb_0 : ∀ c, c < 64 → nb c 0 = if 8 ≤ c then some (c - 8) else none := by decide +kernel
theorem fr_if {b : Int64} {c s d : Nat} {p : Prop} [Decidable p] (h : nb c s = if p then some d else none) : nfr b c s ↔ p ∧ tb b d = true := by
  unfold nfr
  rw [h]
  by_cases e : p
  · rw [if_pos e]
    exact ⟨fun ⟨n, h1, h2⟩ => by cases h1; exact ⟨e, h2⟩, fun q => ⟨d, rfl, q.2⟩⟩
  · rw [if_neg e]
    exact ⟨fun ⟨n, h1, h2⟩ => (by cases h1), fun q => absurd q.1 e⟩
noncomputable def gRn (b : Int64) (c : Nat) : Int := iv (tb b c = true ∧ c % 8 ≠ 7 ∧ tb b (c + 1) = true)
noncomputable def gDn (b : Int64) (c : Nat) : Int := iv (tb b c = true ∧ tb b (c + 8) = true)
theorem si_ct (p : Nat → Bool) : ∀ k, fb_si (fun c => iv (p c = true)) k = (fb_ct p k : Int)
  | 0 => rfl
  | k + 1 => by
    rw [fb_si_succ, fb_ct_succ, si_ct p k]
    by_cases e : p k = true
    · rw [iv_t e, if_pos e]; rfl
    · rw [iv_f e, if_neg e]; rfl
theorem si_rt {b : Int64} : fb_si (fun c => iv (tb b c = true ∧ nfr b c 1)) 64 = fb_si (gRn b) 64 := fb_si_cong (fun c hc => iv_c (by rw [fr_if (nb_1 c hc)]))
theorem si_dn {b : Int64} : fb_si (fun c => iv (tb b c = true ∧ nfr b c 2)) 64 = fb_si (gDn b) 64 := fb_si_cong (fun c hc => iv_c (by
  rw [fr_if (nb_2 c hc)]
  have h56 : tb b (c + 8) = true → c < 56 := fun h => by
    rcases Nat.lt_or_ge c 56 with h2 | h2
    · exact h2
    · rw [tb_big (by omega)] at h
      cases h
  exact ⟨fun q => ⟨q.1, q.2.2⟩, fun q => ⟨q.1, h56 q.2, q.2⟩⟩))
theorem si_lf {b : Int64} : fb_si (fun c => iv (tb b c = true ∧ nfr b c 3)) 64 = fb_si (gRn b) 64 := by
  have z := fb_si_split (fun c => iv (tb b c = true ∧ nfr b c 3)) 1 63
  have a : fb_si (fun c => iv (tb b c = true ∧ nfr b c 3)) 1 = 0 := si_0 1 (fun q hq => iv_f (fun w => by
    have w2 := (fr_if (nb_3 q (by omega))).mp w.2
    omega))
  have e : fb_si (fun k => iv (tb b (1 + k) = true ∧ nfr b (1 + k) 3)) 63 = fb_si (gRn b) 63 := fb_si_cong (fun c hc => iv_c (by
    rw [fr_if (nb_3 (1 + c) (by omega)), show 1 + c - 1 = c by omega, Nat.add_comm 1 c]
    exact ⟨fun q => ⟨q.2.2, by omega, q.1⟩, fun q => ⟨q.2.2, by omega, q.1⟩⟩))
  have l : gRn b 63 = 0 := iv_f (fun q => q.2.1 rfl)
  have s := fb_si_succ (gRn b) 63
  rw [show (1 : Nat) + 63 = 64 from rfl] at z
  rw [show (63 : Nat) + 1 = 64 from rfl] at s
  omega
theorem si_up {b : Int64} : fb_si (fun c => iv (tb b c = true ∧ nfr b c 0)) 64 = fb_si (gDn b) 64 := by
  have z := fb_si_split (fun c => iv (tb b c = true ∧ nfr b c 0)) 8 56
  have a : fb_si (fun c => iv (tb b c = true ∧ nfr b c 0)) 8 = 0 := si_0 8 (fun q hq => iv_f (fun w => by
    have w2 := (fr_if (nb_0 q (by omega))).mp w.2
    omega))
  have e : fb_si (fun k => iv (tb b (8 + k) = true ∧ nfr b (8 + k) 0)) 56 = fb_si (gDn b) 56 := fb_si_cong (fun c hc => iv_c (by
    rw [fr_if (nb_0 (8 + c) (by omega)), show 8 + c - 8 = c by omega, Nat.add_comm 8 c]
    exact ⟨fun q => ⟨q.2.2, q.1⟩, fun q => ⟨q.2, by omega, q.1⟩⟩))
  have s := fb_si_split (gDn b) 56 8
  have l : fb_si (fun k => gDn b (56 + k)) 8 = 0 := si_0 8 (fun q hq => iv_f (fun w => by
    have w2 := w.2
    rw [tb_big (by omega)] at w2
    cases w2))
  rw [show (8 : Nat) + 56 = 64 from rfl] at z
  rw [show (56 : Nat) + 8 = 64 from rfl] at s
  omega
theorem tb_m7 : ∀ i, i < 64 → tb 9187201950435737471 i = decide (i % 8 ≠ 7) := by decide +kernel
theorem pc_R {b : Int64} : fb_si (gRn b) 64 = (fb_ct (tb (b &&& srl b 1 &&& 9187201950435737471)) 64 : Int) := by
  rw [← si_ct]
  refine fb_si_cong (fun c hc => iv_c ?_)
  rw [tb_and, tb_and, tb_m7 c hc, show tb (srl b 1) c = tb b (1 + c) from tb_srl 1 (by decide) b c, Nat.add_comm 1 c]
  simp only [Bool.and_eq_true, decide_eq_true_iff]
  exact ⟨fun q => ⟨⟨q.1, q.2.2⟩, q.2.1⟩, fun q => ⟨q.1.1, q.2, q.1.2⟩⟩
theorem pc_D {b : Int64} : fb_si (gDn b) 64 = (fb_ct (tb (b &&& srl b 8)) 64 : Int) := by
  rw [← si_ct]
  refine fb_si_cong (fun c hc => iv_c ?_)
  rw [tb_and, show tb (srl b 8) c = tb b (8 + c) from tb_srl 8 (by decide) b c, Nat.add_comm 8 c, Bool.and_eq_true]
theorem ofInt_nI (n : Nat) : Int32.ofInt (n : Int) = nI n := rfl
theorem con_eq (b : Int64) : conN b 64 = 4 * pcJ b - 2 * (pcJ (b &&& srl b 1 &&& 9187201950435737471) + pcJ (b &&& srl b 8)) := by
  rw [con_iv 64 (Nat.le_refl _), pcJ_cnt, pcJ_cnt, pcJ_cnt, fb_si_sub, fb_si_sub, fb_si_sub, fb_si_sub, fb_si_mul, si_ct (tb b), si_rt, si_dn, si_lf, si_up, pc_R, pc_D]
  rw [← ofInt_nI, ← ofInt_nI, ← ofInt_nI, show (4 : Int32) = Int32.ofInt 4 from rfl, show (2 : Int32) = Int32.ofInt 2 from rfl, ← Int32.ofInt_add, ← Int32.ofInt_mul, ← Int32.ofInt_mul, ← Int32.ofInt_sub]
  congr 1
  omega
/-- the shapes of every level agree -/
theorem shp_all (m : MS) (v : Int32) : shpP m v := ⟨regN_64.trans un_eq.symm, hol_sq _, con_eq _⟩
theorem cf_free {m : Nat → Int32} {v : Int32} {c : Nat} (hc : c < 64) : ∀ s, cfN m v c s = freeN (levN m v 64) c s
  | 0 => rfl
  | s + 1 => by
    rw [cfN, freeN, cf_free hc s]
    rcases hn : nb c s with _ | n
    · rfl
    · have z : inJ (levN m v 64) (nI n) ↔ v ≤ m n := by
        have hn2 := nb_lt hc hn
        rw [inJ_iff hn2, tb_lev64 hn2, decide_eq_true_iff]
      show freeN (levN m v 64) c s + (if v ≤ m n then 0 else 1) = if inJ (levN m v 64) (nI n) then freeN (levN m v 64) c s else freeN (levN m v 64) c s + 1
      by_cases e : v ≤ m n
      · rw [if_pos e, if_pos (z.mpr e), Int32.add_zero]
      · rw [if_neg e, if_neg (fun q => e (z.mp q))]
/-- the model's contour is the class's -/
theorem cc_con {m : Nat → Int32} {v : Int32} : ∀ k, k ≤ 64 → ccN m v k = conN (levN m v 64) k
  | 0, _ => rfl
  | k + 1, h => by
    rw [ccN, conN, cc_con k (by omega), cf_free (by omega)]
    have z : inJ (levN m v 64) (nI k) ↔ v ≤ m k := by rw [inJ_iff (by omega), tb_lev64 (by omega), decide_eq_true_iff]
    by_cases e : v ≤ m k
    · rw [if_pos e, if_pos (z.mpr e)]
    · rw [if_neg e, if_neg (fun q => e (z.mp q)), Int32.add_zero]
