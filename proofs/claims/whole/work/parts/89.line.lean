/-! A legend's line: the class's and the model's; its length. -/
section LN
variable {H P B : Nat → Int32} {K : Int64} {n c : Nat} {S : LgS}
/-- the first and the last heat of class w -/
def lgA1 (H P : Nat → Int32) (c : Nat) (S : LgS) (w : Nat) : Nat := if w < c then hvN H P (S.2.2.1 w) else 0
def lgB1 (H P : Nat → Int32) (c : Nat) (S : LgS) (w : Nat) : Nat := if w < c then hvN H P (S.2.2.1 (w + 1) - 1) else 0
theorem dl_inv (hm : mkR K B n) (hl : lgR K n c S) : ∀ k, k ≤ n →
    ((k = 0 ∨ k = n ∨ tb K k = true) → dlT H P B n k = lgTx (lgA1 H P c S) (lgB1 H P c S) (fb_ct (tb K) k)) ∧
    (¬ (k = 0 ∨ k = n ∨ tb K k = true) → ∃ q, fb_ct (tb K) k = q + 1 ∧ dlT H P B n k = tC (tI (if q = 0 then lgTx (lgA1 H P c S) (lgB1 H P c S) q else tC (lgTx (lgA1 H P c S) (lgB1 H P c S) q) 44) (lgA1 H P c S q)) 45)
  | 0, _ => ⟨fun _ => rfl, fun h => absurd (Or.inl rfl) h⟩
  | k + 1, hk => by
    obtain ⟨i1, i2⟩ := dl_inv hm hl k (by omega)
    have ss := fb_ct_succ (tb K) k
    have lt := fb_ct_mono (tb K) (show k + 1 ≤ n by omega)
    rw [hl.2.1] at lt
    -- after the begin: class q is open
    have op : ∃ q, fb_ct (tb K) (k + 1) = q + 1 ∧ dl2 H P B k (dlT H P B n k) = tC (tI (if q = 0 then lgTx (lgA1 H P c S) (lgB1 H P c S) q else tC (lgTx (lgA1 H P c S) (lgB1 H P c S) q) 44) (lgA1 H P c S q)) 45 := by
      by_cases m : tb K k = true
      · rw [if_pos m] at ss
        refine ⟨fb_ct (tb K) k, ss, ?_⟩
        have b0 := hl.2.2.2.1 k (by omega) m
        have e := i1 (Or.inr (Or.inr m))
        rw [dl2, if_neg ((hm k (by omega)).mp m), dl1, e, show lgA1 H P c S (fb_ct (tb K) k) = hvN H P k from by rw [lgA1, if_pos (by omega), b0]]
        by_cases e0 : k = 0
        · rw [if_pos e0, if_pos (by rw [e0]; rfl)]
        · have p1 := fb_ct_mono (tb K) (show 1 ≤ k by omega)
          rw [show fb_ct (tb K) 1 = 1 by rw [fb_ct_succ, if_pos hl.2.2.1]; rfl] at p1
          rw [if_neg e0, if_neg (by omega)]
      · rw [if_neg m] at ss
        have z : B k = 0 := Decidable.byContradiction (fun w => m ((hm k (by omega)).mpr w))
        obtain ⟨q, q1, q2⟩ := i2 (fun w => by
          rcases w with w | w | w
          · exact m (by rw [w]; exact hl.2.2.1)
          · omega
          · exact m w)
        refine ⟨q, by omega, ?_⟩
        rw [dl2, if_pos z, q2]
    obtain ⟨q, q1, q2⟩ := op
    rw [show dlT H P B n (k + 1) = dl3 H P B n k (dlT H P B n k) from rfl, dl3, q2]
    have en : k + 1 = n ∨ tb K (k + 1) = true → S.2.2.1 (q + 1) = k + 1 := fun w => by
      by_cases e : k + 1 = n
      · have cq : q + 1 = c := by rw [← hl.2.1, ← e, q1]
        rw [cq, hl.2.2.2.2, e]
      · have z := hl.2.2.2.1 (k + 1) (by omega) (w.resolve_left e)
        rwa [q1] at z
    refine ⟨fun w => ?_, fun w => ?_⟩
    · have w2 : k + 1 = n ∨ tb K (k + 1) = true := w.resolve_left (by omega)
      have w3 : k + 1 = n ∨ ¬ B (k + 1) = 0 := by
        by_cases e : k + 1 = n
        · exact Or.inl e
        · exact Or.inr ((hm (k + 1) (by omega)).mp (w2.resolve_left e))
      rw [if_pos w3, q1, lgTx, show lgB1 H P c S q = hvN H P k from by rw [lgB1, if_pos (by omega), en w2, Nat.add_sub_cancel]]
    · have w3 : ¬ (k + 1 = n ∨ ¬ B (k + 1) = 0) := fun y => by
        rcases y with y | y
        · exact w (Or.inr (Or.inl y))
        · by_cases e : k + 1 = n
          · exact w (Or.inr (Or.inl e))
          · exact w (Or.inr (Or.inr ((hm (k + 1) (by omega)).mpr y)))
      rw [if_neg w3]
      exact ⟨q, q1, rfl⟩
/-- the lines are the same -/
theorem dl_eq (hm : mkR K B n) (hl : lgR K n c S) : dlT H P B n n = lgTx (lgA1 H P c S) (lgB1 H P c S) c := by
  have z := (dl_inv (H := H) (P := P) hm hl n (Nat.le_refl _)).1 (Or.inr (Or.inl rfl))
  rwa [hl.2.1] at z
theorem tI_2 (T : TX) (v : Nat) : (tI T v).2 = T.2 + sb_dg v := rfl
theorem tC_2 (T : TX) (v : Nat) : (tC T v).2 = T.2 + 1 := rfl
/-- a line's length: twice the letters of the greater heats, and what stands between -/
theorem lg_len {a b : Nat → Nat} (h : ∀ w, sb_dg (a w) ≤ sb_dg (b w)) : ∀ k, (lgTx a b k).2 + 1 ≤ 2 * fb_sm (fun w => sb_dg (b w)) k + 2 * k + (if k = 0 then 1 else 0)
  | 0 => Nat.le_refl _
  | k + 1 => by
    have ih := lg_len h k
    have hk := h k
    rw [lgTx, tI_2, tC_2, tI_2, fb_sm_succ, if_neg (show ¬ k + 1 = 0 by omega)]
    by_cases e : k = 0
    · rw [if_pos e] at ih ⊢
      omega
    · rw [if_neg e] at ih ⊢
      rw [tC_2]
      omega
end LN
