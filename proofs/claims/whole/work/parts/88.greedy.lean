/-! Legends: the greatest gaps divide best. -/
section GY
theorem gp_max {H : Nat → Int32} {K : Int64} : ∀ k i, 1 ≤ i → i ≤ k → ¬ inJ K (nI i) → H i - H (i - 1) ≤ (gpN H K k).2
  | 0, i, h1, h2, _ => absurd h1 (by omega)
  | k + 1, i, h1, h2, h3 => by
    rw [gpN]
    by_cases e : (gpN H K k).2 < H (k + 1) - H k ∧ ¬ inJ K (nI (k + 1))
    · rw [if_pos e]
      by_cases e2 : i = k + 1
      · subst e2
        rw [Nat.add_sub_cancel]
        exact Int32.le_refl _
      · exact Int32.le_trans (gp_max k i h1 (by omega) h3) (Int32.le_of_lt e.1)
    · rw [if_neg e]
      by_cases e2 : i = k + 1
      · subst e2
        rw [Nat.add_sub_cancel]
        exact Int32.not_lt.mp (fun w => e ⟨w, h3⟩)
      · exact gp_max k i h1 (by omega) h3
theorem gp_val {H : Nat → Int32} {K : Int64} : ∀ k, (gpN H K k).1 = 0 ∨ (1 ≤ (gpN H K k).1 ∧ (gpN H K k).1 ≤ k ∧ (gpN H K k).2 = H (gpN H K k).1 - H ((gpN H K k).1 - 1))
  | 0 => Or.inl rfl
  | k + 1 => by
    rw [gpN]
    by_cases e : (gpN H K k).2 < H (k + 1) - H k ∧ ¬ inJ K (nI (k + 1))
    · rw [if_pos e]
      exact Or.inr ⟨by show 1 ≤ k + 1; omega, Nat.le_refl _, by show H (k + 1) - H k = H (k + 1) - H (k + 1 - 1); rw [Nat.add_sub_cancel]⟩
    · rw [if_neg e]
      rcases gp_val k with h | ⟨h1, h2, h3⟩
      · exact Or.inl h
      · exact Or.inr ⟨h1, by omega, h3⟩
/-- a marked gap is at least an unmarked one -/
theorem mk_thr {H : Nat → Int32} {n : Nat} (h64 : n ≤ 64) : ∀ q k i, 1 ≤ k → k < n → 1 ≤ i → i < n → tb (mkN H n q) k = true → ¬ tb (mkN H n q) i = true → H i - H (i - 1) ≤ H k - H (k - 1)
  | 0, k, i, h1, h2, h3, h4, h5, h6 => by
    rw [show mkN H n 0 = bitJ (nI 0) from rfl, tb_bitJ (by omega) (by omega), decide_eq_true_iff] at h5
    omega
  | q + 1, k, i, h1, h2, h3, h4, h5, h6 => by
    have bl : (gpN H (mkN H n q) (n - 1)).1 ≤ n - 1 := gpN_le _
    rw [mkN, tb_or, tb_bitJ (by omega) (by omega), Bool.or_eq_true, decide_eq_true_iff] at h5 h6
    have n6 : ¬ tb (mkN H n q) i = true := fun w => h6 (Or.inl w)
    rcases h5 with h5 | h5
    · exact mk_thr h64 q k i h1 h2 h3 h4 h5 n6
    · have mx9 := gp_max (H := H) (K := mkN H n q) (n - 1) i h3 (by omega) (fun w => n6 ((inJ_iff (by omega)).mp w))
      rcases gp_val (H := H) (K := mkN H n q) (n - 1) with w | ⟨w1, w2, w3⟩
      · omega
      · rw [w3, ← h5] at mx9
        exact mx9
variable {h : Nat → Int} {n : Nat}
/-- as many divisions at the greatest gaps: no other spreads less -/
theorem gr_best (hh : hI h n) (h1 : 1 ≤ n) {G D : Nat → Bool} (hG : ∀ k i, 1 ≤ k → k < n → 1 ≤ i → i < n → G k = true → ¬ G i = true → h i - h (i - 1) ≤ h k - h (k - 1)) (hd : dn D n = dn G n) : vI h G n ≤ vI h D n := by
  obtain ⟨t, t0, t1, t2⟩ : ∃ t : Int, 0 ≤ t ∧ (∀ k, 1 ≤ k → k < n → G k = true → t ≤ h k - h (k - 1)) ∧ ∀ k, 1 ≤ k → k < n → ¬ G k = true → h k - h (k - 1) ≤ t := by
    have g0 : ∀ k, 1 ≤ k → k < n → 0 ≤ h k - h (k - 1) := fun k k1 k2 => by
      have z := hh.1 (k - 1) (by omega)
      rw [show k - 1 + 1 = k by omega] at z
      omega
    obtain ⟨i, i1, i2, -⟩ := fb_best (fun k => if 1 ≤ k ∧ ¬ G k = true then h k - h (k - 1) else 0) (n := n) (by omega)
    refine ⟨if 1 ≤ i ∧ ¬ G i = true then h i - h (i - 1) else 0, ?_, fun k k1 k2 k3 => ?_, fun k k1 k2 k3 => ?_⟩
    · split
      · next w => exact g0 i w.1 i1
      · exact Int.le_refl _
    · split
      · next w => exact hG k i k1 k2 w.1 i1 k3 w.2
      · exact g0 k k1 k2
    · have z := i2 k k2
      rw [if_pos (show 1 ≤ k ∧ ¬ G k = true from ⟨k1, k3⟩)] at z
      exact z
  have un : ∀ (E : Nat → Bool) i, fb_si (fun k => if k = 0 ∨ E k = true then (0 : Int) else 1) (i + 1) + (dn E (i + 1) : Int) = i := fun E i => by
    induction i with
    | zero => rfl
    | succ i ih =>
      rw [fb_si_succ, dn_s]
      by_cases e : E (i + 1) = true
      · rw [if_pos (Or.inr e), if_pos (by rw [e, decide_eq_true (by omega)]; rfl)]
        omega
      · rw [if_neg (fun w => w.elim (by omega) e), if_neg (by rw [Bool.and_eq_true]; exact fun w => e w.2)]
        omega
  have u1 := un D (n - 1)
  have u2 := un G (n - 1)
  rw [show n - 1 + 1 = n by omega] at u1 u2
  have ue : fb_si (fun k => if k = 0 ∨ D k = true then (0 : Int) else 1) n = fb_si (fun k => if k = 0 ∨ G k = true then (0 : Int) else 1) n := by omega
  have key : ∀ i, i ≤ n → vI h G i + fb_si (fun k => t * (if k = 0 ∨ D k = true then (0 : Int) else 1)) i ≤ vI h D i + fb_si (fun k => t * (if k = 0 ∨ G k = true then (0 : Int) else 1)) i := fun i => by
    induction i with
    | zero => intro _; exact Int.le_refl _
    | succ i ih =>
      intro hi
      have z := ih (by omega)
      rw [vI_s, vI_s, fb_si_succ, fb_si_succ]
      unfold gv
      by_cases e0 : i = 0
      · rw [if_pos (Or.inl e0), if_pos (Or.inl e0), if_pos (Or.inl e0), if_pos (Or.inl e0)]
        omega
      · have a := t1 i (by omega) (by omega)
        have b := t2 i (by omega) (by omega)
        by_cases eD : D i = true <;> by_cases eG : G i = true
        · rw [if_pos (Or.inr eG), if_pos (Or.inr eD), if_pos (Or.inr eG), if_pos (Or.inr eD)]
          omega
        · have b := b eG
          rw [if_neg (show ¬ (i = 0 ∨ G i = true) from fun w => w.elim e0 eG), if_pos (Or.inr eD), if_pos (Or.inr eD), if_neg (show ¬ (i = 0 ∨ G i = true) from fun w => w.elim e0 eG)]
          omega
        · have a := a eG
          rw [if_pos (Or.inr eG), if_neg (show ¬ (i = 0 ∨ D i = true) from fun w => w.elim e0 eD), if_neg (show ¬ (i = 0 ∨ D i = true) from fun w => w.elim e0 eD), if_pos (Or.inr eG)]
          omega
        · rw [if_neg (show ¬ (i = 0 ∨ G i = true) from fun w => w.elim e0 eG), if_neg (show ¬ (i = 0 ∨ D i = true) from fun w => w.elim e0 eD), if_neg (show ¬ (i = 0 ∨ D i = true) from fun w => w.elim e0 eD), if_neg (show ¬ (i = 0 ∨ G i = true) from fun w => w.elim e0 eG)]
          omega
  have z := key n (Nat.le_refl _)
  rw [fb_si_mul, fb_si_mul, ue] at z
  omega
/-- the model's sum of undivided gaps -/
theorem ls_I {H P Hs B : Nat → Int32} {K : Int64} {n : Nat} (hs : hsO H P Hs n) (hh : hI (fun i => (Hs i).toInt) n) (hm : mkR K B n) : ∀ k, k < n → (lsN H P B k).toInt = vI (fun i => (Hs i).toInt) (tb K) (k + 1)
  | 0, _ => rfl
  | k + 1, hk => by
    have ih := ls_I hs hh hm k (by omega)
    have e := (gp_eq hs hk).1
    have g : (gpM H P (k + 1)).toInt = (Hs (k + 1)).toInt - (Hs k).toInt := by rw [← e]; exact bd_sub (hs.2.2.2 _ hk) (hs.2.2.2 _ (by omega))
    have b1 := vI_bn (h := fun i => (Hs i).toInt) (D := tb K) hh (i := k + 1) (by omega)
    have b2 := vI_bn (h := fun i => (Hs i).toInt) (D := tb K) hh (i := k + 2) (by omega)
    rw [vI_s] at b2
    rw [lsN, vI_s]
    unfold gv at b2 ⊢
    rw [Nat.add_sub_cancel] at b2 ⊢
    by_cases m : tb K (k + 1) = true
    · rw [if_neg ((hm _ hk).mp m), if_pos (Or.inr m), Int32.add_zero, ih]
      omega
    · have z : B (k + 1) = 0 := Decidable.byContradiction (fun w => m ((hm _ hk).mpr w))
      rw [if_neg (show ¬ (k + 1 = 0 ∨ tb K (k + 1) = true) from fun w => w.elim (by omega) m)] at b2 ⊢
      have b3 : 0 ≤ vI (fun i => (Hs i).toInt) (tb K) (k + 1) + ((Hs (k + 1)).toInt - (Hs k).toInt) ∧ vI (fun i => (Hs i).toInt) (tb K) (k + 1) + ((Hs (k + 1)).toInt - (Hs k).toInt) ≤ 1000000 := b2
      rw [if_pos z, fb_addI (by omega) (by omega), ih, g]
/-- the table's answer is the model's -/
theorem tab_eq {m : MS} {a : Nat → Nat → Int32} {L : LgS} {c : Nat} (hH : ∀ i, i < 64 → m.2.1 i = a 0 i) (hR : ∀ i, i < 64 → m.1 i = a 0 (128 + i)) (hb : ∀ i, i < 64 → bn (a 0 i)) (h1 : 1 ≤ c) (h6 : c ≤ 6) (hc : c ≤ ordM a) : tabT (rdS m L 64) c c (rdS m L 64).2.2.2.2.1 = lsN (a 0) (ordP a) (dvB a c) (ordM a - 1) := by
  obtain ⟨hs, hm, hl, -⟩ := drw_R (L := L) hH hR hb h1 h6 hc
  have hs : hsO (a 0) (ordP a) (rdS m L 64).2.1 (ordM a) := hs
  have hm : mkR (mkN (rdS m L 64).2.1 (ordM a) (c - 1)) (dvB a c) (ordM a) := hm
  have ct : fb_ct (tb (mkN (rdS m L 64).2.1 (ordM a) (c - 1))) (ordM a) = c := hl.2.1
  have t0 : tb (mkN (rdS m L 64).2.1 (ordM a) (c - 1)) 0 = true := hl.2.2.1
  have o1 := (ord_64 (L := L) hH hR).1
  have hh : hI (fun i => ((rdS m L 64).2.1 i).toInt) (ordM a) := ⟨fun i hi => Int32.le_iff_toInt_le.mp (hs.2.2.1 i hi), fun i hi => hs.2.2.2 i hi⟩
  have opt := ta_opt (H := (rdS m L 64).2.1) hh (fun i _ => rfl) (c - 1) 1 (t1N (rdS m L 64).2.1 (rdS m L 64).2.2.2.1 (ordM a)) (Nat.le_refl _) (fun i k1 k2 => by rw [t1_at (ordM a) i k1 k2]; exact oT_1 hh (fun i _ => rfl) k1 k2) (ordM a) (by omega) (Nat.le_refl _)
  rw [show 1 + (c - 1) = c by omega] at opt
  have dnG : dn (tb (mkN (rdS m L 64).2.1 (ordM a) (c - 1))) (ordM a) + 1 = c := by
    have z := fb_ct_upd (tb (mkN (rdS m L 64).2.1 (ordM a) (c - 1))) false (i := 0) (n := ordM a) (by omega)
    rw [if_pos t0, ct] at z
    simp only [Bool.false_eq_true, if_false] at z
    have y : dn (tb (mkN (rdS m L 64).2.1 (ordM a) (c - 1))) (ordM a) = fb_ct (fun k => if k = 0 then false else tb (mkN (rdS m L 64).2.1 (ordM a) (c - 1)) k) (ordM a) := fb_ct_cong (fun k _ => by
      by_cases e : k = 0
      · rw [if_pos e, decide_eq_false (by omega), Bool.false_and]
      · rw [if_neg e, decide_eq_true (by omega), Bool.true_and])
    omega
  have up := opt.1 _ dnG
  obtain ⟨D, d1, d2⟩ := opt.2
  have dwn := gr_best hh (by omega) (G := tb (mkN (rdS m L 64).2.1 (ordM a) (c - 1))) (D := D) (fun k i k1 k2 i1 i2 gk gi => by
    have z := Int32.le_iff_toInt_le.mp (mk_thr hs.1 (c - 1) k i k1 k2 i1 i2 gk gi)
    rw [bd_sub (hs.2.2.2 _ i2) (hs.2.2.2 _ (by omega)), bd_sub (hs.2.2.2 _ k2) (hs.2.2.2 _ (by omega))] at z
    exact z) (by omega)
  have ls := ls_I hs hh hm (ordM a - 1) (by omega)
  rw [show ordM a - 1 + 1 = ordM a by omega] at ls
  rw [← Int32.toInt_inj, ls]
  unfold tabT
  rw [o1]
  omega
end GY
