/-! A legend's line, all together. -/
section LL
theorem dg_up {w : Nat} (h : w < 1000000) : w < 10 ^ sb_dg w ∧ 1 ≤ sb_dg w ∧ sb_dg w ≤ 6 := by
  have key : ∀ j, j ≤ 6 → 1 ≤ j → w < 10 ^ j → w < 10 ^ sb_dg w ∧ 1 ≤ sb_dg w ∧ sb_dg w ≤ j := fun j => by
    induction j with
    | zero => intro _ h1; exact absurd h1 (by omega)
    | succ j ih =>
      intro h1 _ h3
      by_cases e : j = 0
      · have z := dgk (k := j) (by omega) (Or.inl e) h3
        rw [z]
        exact ⟨h3, by omega, Nat.le_refl _⟩
      · by_cases e2 : w < 10 ^ j
        · obtain ⟨a, b, c⟩ := ih (by omega) (by omega) e2
          exact ⟨a, b, by omega⟩
        · have z := dgk (k := j) (by omega) (Or.inr (Nat.not_lt.mp e2)) h3
          rw [z]
          exact ⟨h3, by omega, Nat.le_refl _⟩
  exact key 6 (Nat.le_refl _) (by omega) h
theorem dg_mono {v w : Nat} (h : v ≤ w) (hw : w < 1000000) : sb_dg v ≤ sb_dg w := by
  obtain ⟨a, b, c⟩ := dg_up hw
  exact dg_le (by omega) (Nat.lt_of_le_of_lt h a) b
theorem nI_clI {x : Int32} (h : 0 ≤ x.toInt) : x = nI x.toNatClampNeg := by
  have z := fb_rng x
  have e : (x.toNatClampNeg : Int) = x.toInt := by
    show (x.toInt.toNat : Int) = _
    omega
  rw [← Int32.toInt_inj, nI_toInt (by omega), e]
variable {m : MS} {a : Nat → Nat → Int32} {L : LgS} {c : Nat}
/-- the line: alike, and of at most 79 letters -/
theorem line_R (hH : ∀ i, i < 64 → m.2.1 i = a 0 i) (hR : ∀ i, i < 64 → m.1 i = a 0 (128 + i)) (ha : aI m) (h1 : 1 ≤ c) (h6 : c ≤ 6) (hc : c ≤ ordM a) (hq : m.2.2.2.2.2.2.2.toInt ≤ 509490 ∨ ∀ i, i < 64 → (m.2.1 i).toInt ≤ 9999) :
    dlT (a 0) (ordP a) (dvB a c) (ordM a) (ordM a) = lgTx (lgA1 (a 0) (ordP a) c (drwS m c L)) (lgB1 (a 0) (ordP a) c (drwS m c L)) c ∧
    (dlT (a 0) (ordP a) (dvB a c) (ordM a) (ordM a)).2 ≤ 79 ∧
    (∀ w, lgA1 (a 0) (ordP a) c (drwS m c L) w < 10000000 ∧ lgB1 (a 0) (ordP a) c (drwS m c L) w < 10000000) ∧
    (∀ w, w < c → smH (drwS m c L) w = nI (lgA1 (a 0) (ordP a) c (drwS m c L) w) ∧ grH (drwS m c L) w = nI (lgB1 (a 0) (ordP a) c (drwS m c L) w)) := by
  have hb : ∀ i, i < 64 → bn (a 0 i) := fun i hi => by rw [← hH i hi]; exact (aI_bn ha).1 i hi
  have hb6 : ∀ i, i < 64 → 0 ≤ (a 0 i).toInt ∧ (a 0 i).toInt ≤ 600000 := fun i hi => by rw [← hH i hi]; exact (aI_bd ha).1 i hi
  obtain ⟨hs, hm, hl, -⟩ := drw_R (L := L) hH hR hb h1 h6 hc
  obtain ⟨-, -, -, -, o5⟩ := ord_64 (L := L) hH hR
  have pl : ∀ k, k < ordM a → 0 ≤ ((drwS m c L).2.1 k).toInt ∧ ((drwS m c L).2.1 k).toInt ≤ 600000 ∧ hvN (a 0) (ordP a) k = ((drwS m c L).2.1 k).toNatClampNeg ∧ ((∀ i, i < 64 → (m.2.1 i).toInt ≤ 9999) → ((drwS m c L).2.1 k).toInt ≤ 9999) := fun k hk => by
    obtain ⟨x, x1, x2, -⟩ := o5 k hk
    have e : (drwS m c L).2.1 k = a 0 x := by rw [hs.2.1 k hk, x2, orH_nI (by omega)]
    refine ⟨by rw [e]; exact (hb6 x x1).1, by rw [e]; exact (hb6 x x1).2, by unfold hvN; rw [hs.2.1 k hk], fun q => by rw [e, ← hH x x1]; exact q x x1⟩
  have cl : ∀ k, k < ordM a → ((hvN (a 0) (ordP a) k : Nat) : Int) = ((drwS m c L).2.1 k).toInt := fun k hk => by
    obtain ⟨p1, p2, p3, -⟩ := pl k hk
    rw [p3]
    show (((drwS m c L).2.1 k).toInt.toNat : Int) = _
    omega
  have be : ∀ w, w < c → (drwS m c L).2.2.1 w < ordM a ∧ (drwS m c L).2.2.1 w ≤ (drwS m c L).2.2.1 (w + 1) - 1 ∧ (drwS m c L).2.2.1 (w + 1) - 1 < ordM a := fun w hw => by
    obtain ⟨x, x1, x2, x3, x4⟩ := mk_kth hl hw
    by_cases e : w + 1 = c
    · rw [e, hl.2.2.2.2]; omega
    · obtain ⟨y, y1, y2, y3, y4⟩ := mk_kth hl (show w + 1 < c by omega)
      have : ¬ y ≤ x := fun q => by
        have := fb_ct_mono (tb (mkN (drwS m c L).2.1 (ordM a) (c - 1))) q
        omega
      omega
  have so : ∀ d k, k + d < ordM a → ((drwS m c L).2.1 k).toInt ≤ ((drwS m c L).2.1 (k + d)).toInt := fun d => by
    induction d with
    | zero => intro k _; exact Int.le_refl _
    | succ d ih =>
      intro k hk
      have z := ih k (by omega)
      have y := Int32.le_iff_toInt_le.mp (hs.2.2.1 (k + d) (by omega))
      exact Int.le_trans z y
  have bA : ∀ w, lgA1 (a 0) (ordP a) c (drwS m c L) w < 1000000 := fun w => by
    unfold lgA1
    by_cases e : w < c
    · rw [if_pos e]
      have z := cl _ (be w e).1
      have y := pl _ (be w e).1
      omega
    · rw [if_neg e]; omega
  have bB : ∀ w, lgB1 (a 0) (ordP a) c (drwS m c L) w < 1000000 := fun w => by
    unfold lgB1
    by_cases e : w < c
    · rw [if_pos e]
      have z := cl _ (be w e).2.2
      have y := pl _ (be w e).2.2
      omega
    · rw [if_neg e]; omega
  have dA : ∀ w, sb_dg (lgA1 (a 0) (ordP a) c (drwS m c L) w) ≤ sb_dg (lgB1 (a 0) (ordP a) c (drwS m c L) w) := fun w => by
    refine dg_mono ?_ (bB w)
    unfold lgA1 lgB1
    by_cases e : w < c
    · rw [if_pos e, if_pos e]
      obtain ⟨b1, b2, b3⟩ := be w e
      have z1 := cl _ b1
      have z2 := cl _ b3
      have y := so ((drwS m c L).2.2.1 (w + 1) - 1 - (drwS m c L).2.2.1 w) ((drwS m c L).2.2.1 w) (by omega)
      rw [show (drwS m c L).2.2.1 w + ((drwS m c L).2.2.1 (w + 1) - 1 - (drwS m c L).2.2.1 w) = (drwS m c L).2.2.1 (w + 1) - 1 by omega] at y
      omega
    · rw [if_neg e, if_neg e]; exact Nat.le_refl _
  have eq := dl_eq (H := a 0) (P := ordP a) hm hl
  have s34 : fb_sm (fun w => sb_dg (lgB1 (a 0) (ordP a) c (drwS m c L) w)) c ≤ 34 := by
    rcases hq with q | q
    · refine dg_34 bB h6 ?_
      have es := (ends_sum hs hl c (Nat.le_refl _)).2
      rw [hl.2.2.2.2] at es
      have os := ord_sum (H := a 0) (R := fun c => a 0 (128 + c)) (P0 := a 10) 64 (Nat.le_refl _)
      have e1 : fb_si (fun i => ((drwS m c L).2.1 i).toInt) (ordM a) = fb_si (fun i => (orH (a 0) (ordP a i)).toInt) (ordM a) := fb_si_cong (fun i hi => by rw [hs.2.1 i hi])
      have os2 : fb_si (fun i => (orH (a 0) (ordP a i)).toInt) (ordM a) = fb_si (fun x => if a 0 (128 + x) = 35 then 0 else (a 0 x).toInt) 64 := os
      have le : ∀ k, k ≤ 64 → fb_si (fun x => if a 0 (128 + x) = 35 then 0 else (a 0 x).toInt) k ≤ fb_si (fun i => (m.2.1 i).toInt) k := fun k => by
        induction k with
        | zero => intro _; exact Int.le_refl _
        | succ k ih =>
          intro hk
          have z := ih (by omega)
          have y := hb6 k (by omega)
          rw [fb_si_succ, fb_si_succ, hH k (by omega)]
          split <;> omega
      have l64 := le 64 (Nat.le_refl _)
      have h4 := ha.2.2.2.1
      have s2 := (si_ge (f := fun i => (m.2.2.1 i).toInt) 64 ha.2.1).1
      have s3 := (si_ge (f := fun i => (m.2.2.2.2.1 i).toInt) 4 ha.2.2.1).1
      unfold tInt at h4
      omega
    · refine dg_24 (fun w hw => ?_) h6
      have z := cl _ (be w hw).2.2
      have y := (pl _ (be w hw).2.2).2.2.2 q
      rw [lgB1, if_pos hw]
      omega
  refine ⟨eq, ?_, fun w => ⟨by have := bA w; omega, by have := bB w; omega⟩, fun w hw => ?_⟩
  · have z := lg_len dA c
    rw [if_neg (show ¬ c = 0 by omega)] at z
    rw [eq]
    omega
  · have b := be w hw
    unfold smH grH lgA1 lgB1
    rw [hl.1, if_pos hw, if_pos hw, if_pos hw, if_pos hw, (pl _ b.1).2.2.1, (pl _ b.2.2).2.2.1]
    exact ⟨nI_clI (pl _ b.1).1, nI_clI (pl _ b.2.2).1⟩
end LL
