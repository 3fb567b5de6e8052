/-! Calls in both: run (by wip/whole/gen/m60.py) -/
set_option maxRecDepth 100000 in
theorem cd_g {m : MS} {O : OB} {c : CM} (h : gOk m) : gOk (cCmd m O c).1.1 := by
  unfold cCmd
  split
  · unfold cHeat
    split
    · split <;> exact h
    · exact h
  · split
    · unfold cGround
      split
      · rename_i e
        split
        · exact gr_g h e.2
        · exact h
      · exact h
    · split
      · unfold cBorder
        split <;> exact h
      · unfold cPass
        split
        · intro i hi
          show groundP ((ticksM _ m).1 i)
          rw [(tks_add _).2]
          exact h i hi
        · exact h
theorem run_g {K : Nat → CM} : ∀ (j k : Nat) (m : MS) (O : OB), gOk m → gOk (cRun K j k m O).1.1
  | 0, _, _, _, h => h
  | j + 1, k, m, O, h => by
    rw [cRun]
    split
    · exact run_g j (k + 1) _ _ (cd_g h)
    · exact cd_g h
theorem rt_cnt {T : TX} (hT : tOk T) : ∀ (j n p : Nat) (K : Nat → CM), p ≤ T.2 → n ≤ p → (rTxt T j n p K).2.1 ≤ n + j ∧ ((rTxt T j n p K).1 = true → (rTxt T j n p K).2.1 ≤ T.2)
  | 0, n, p, K, _, _ => ⟨Nat.le_refl _, fun q => by cases q⟩
  | j + 1, n, p, K, hp, hn => by
    obtain ⟨e1, e2⟩ := cmd_eq (p := p) (c := K n) hT
    have le := cmd_le p (K n) hp
    rw [rTxt]
    by_cases hc : (rCmd T p (K n)).2.2 = true
    · have hf : fuM T p := by
        apply Classical.byContradiction
        intro hf
        have z := (e1 hf).1
        rw [hc] at z
        cases z
      obtain ⟨f1, -⟩ := e2 hf
      have fi := fu_in hp hf
      have ri := (raM_in (i := wdM T p) fi.2).1
      have ge : p + 5 ≤ (rCmd T p (K n)).1 := by rw [f1]; omega
      rw [if_pos hc]
      by_cases h59 : nxt T (rCmd T p (K n)).1 59 = true
      · rw [if_pos h59]
        have lt : (rCmd T p (K n)).1 < T.2 := (of_decide_eq_true h59).1
        have z := rt_cnt hT j (n + 1) ((rCmd T p (K n)).1 + 1) (va_up K n (rCmd T p (K n)).2.1) (by omega) (by omega)
        exact ⟨by omega, z.2⟩
      · rw [if_neg h59]
        exact ⟨by show n + 1 ≤ n + (j + 1); omega, fun _ => by show n + 1 ≤ T.2; omega⟩
    · rw [if_neg hc]
      exact ⟨by show n ≤ n + (j + 1); omega, fun q => by cases q⟩
theorem RelP.failed {n : Nat} {M M' : Nat → MS} {N : Nat × Nat} {t l t' : SB} {O O' : OB} {a a' : Nat → Nat → Int32} {f f' : Nat → Int32} (h : RelP n M N t l O a f) {u : Nat → Nat} (hl : isTx t' u 0) (f13 : f' 13 = 0) (h0 : M' 0 = M 0) (h2 : M' 2 = M 2) (hk : ∀ k, 4 ≤ k → M' k = M k) (e0 : a' 0 = a 0) (e3 : a' 3 = a 3) (e4 : a' 4 = a 4) (e12 : a' 12 = a 12) (e13 : a' 13 = a 13) (e15 : a' 15 = a 15) (f4 : f' 4 = f 4) (f6 : f' 6 = f 6) (f29 : f' 29 = f 29) (hO : O'.1 = f' 4 ∧ f' 9 = O'.2.1 ∧ f' 10 = O'.2.2.1 ∧ f' 7 = O'.2.2.2.1 ∧ f' 8 = O'.2.2.2.2) : RelP (n + 1) M' N t' l O' a' f' := by
  obtain ⟨B, T, T9, g0, g1, g2, g3, g4, g5, g6, g7, g8⟩ := h
  exact ⟨B, (u, 0), T9, by show B + 0 ≤ n + 1; omega, by rw [e0, h0]; exact g1, by rw [f4, e3, h2]; exact g2, ⟨g3.1, g3.2.1, by rw [f6]; exact g3.2.2.1, fun j hj => by rw [e4, hk _ (by omega)]; exact g3.2.2.2 j hj⟩, hO, ⟨hl, fun i hi => absurd hi (Nat.not_lt_zero i), Nat.zero_le _, f13, fun i hi => absurd hi (Nat.not_lt_zero i)⟩, by rw [f29, e15]; exact g6, by rw [e13]; exact g7, by rw [e12]; exact g8⟩

set_option maxRecDepth 100000 in
theorem jt_run {l : Launch} {G : GG} (hl : l.stackTraces = false) {A : AD} {n : Nat} {M : Nat → MS} {N : Nat × Nat} {c : Nat → Int32} {q : Nat → Nat} {H : HS} {L : LgS} {R : RS} {t l9 : SB} {O : OB} {a : Nat → Nat → Int32} {f : Nat → Int32} {fo : Nat → Int64} {fd : Nat → UInt64} (hR : RelX n (M, N, c, q, H, L, R, t, l9, O) (a, f)) (hn : n < 512) : Jt l G A n 34 mL_run [.ref (A 6 0), .ref (A 60 0)] 16 mX10_run [.ref (A 30 0)] (M, N, c, q, H, L, R, t, l9, O) (a, f) fo fd := by
  have hR : RelP n M N t l9 O a f := hR
  have hR0 := hR
  obtain ⟨B, T, T9, g0, ⟨hm, ⟨ho, ht⟩, hG, hbb⟩, g2, ⟨k1, k2, h6, k4⟩, ⟨o1, o2, o3, o4, o5⟩, ⟨hB, hT, h60, h13, h5⟩, g6, g7, g8⟩ := hR
  obtain ⟨x1, x2, x3⟩ := tx_eq hT h60 10 61 0 0 R.2.2 (a 14) rfl (by omega) (by omega) (by omega) (fun i hi => absurd hi (Nat.not_lt_zero i))
  obtain ⟨cn1, cn2⟩ := rt_cnt hT 10 0 0 R.2.2 (Nat.zero_le _) (Nat.le_refl _)
  have hle : (M 0).2.2.2.2.2.2.2.toInt ≤ 999 * (B : Int) := by
    rcases hbb with w | w
    · omega
    · exact w.1
  rcases htm : tmM T 61 0 0 (a 14) with ⟨b9, p9, n9, C9⟩
  rw [htm] at x1 x2 x3
  have x1 : (rTxt T 10 0 0 R.2.2).1 = b9 := x1
  have x2 : (rTxt T 10 0 0 R.2.2).2.2.1 = p9 := x2
  cases b9 with
  | false =>
    exact ⟨2, 148, by decide, by decide, wl_run hl LW_6 (ev_run_no1 hl hT hB x1) ok_trx (ex_trx (fun x9 => (Or.inl ⟨rfl, jp_no (by decide) (ev_mRun_no1 hl h13 h5 h60 hT g7 g8 htm) rfl (RelP.failed hR0 x9.2 rfl rfl rfl (fun _ _ => rfl) rfl rfl rfl rfl rfl rfl rfl rfl rfl ⟨o1, o2, o3, by rw [x2]; rfl, o5⟩)⟩)))⟩
  | true =>
    obtain ⟨c1, c2⟩ := x3 rfl
    have c1 : (rTxt T 10 0 0 R.2.2).2.1 = n9 := c1
    have c2 : ∀ i, i < n9 → cmR ((rTxt T 10 0 0 R.2.2).2.2.2 i) C9 i := c2
    have cn3 := cn2 x1
    have hkd : ∀ k, k < (rTxt T 10 0 0 R.2.2).2.1 → kindP ((rTxt T 10 0 0 R.2.2).2.2.2 k) := fun k hk => by
      obtain ⟨w, hw, e, -⟩ := c2 k (by omega)
      unfold kindP
      rw [e]
      rcases (show w = 0 ∨ w = 1 ∨ w = 2 ∨ w = 3 by omega) with rfl | rfl | rfl | rfl
      · exact Or.inl rfl
      · exact Or.inr (Or.inl rfl)
      · exact Or.inr (Or.inr (Or.inl rfl))
      · exact Or.inr (Or.inr (Or.inr rfl))
    have hg9 := run_g (K := (rTxt T 10 0 0 R.2.2).2.2.2) n9 0 (M 0) O hG
    obtain ⟨r1, r2, r3⟩ := run_R (K := (rTxt T 10 0 0 R.2.2).2.2.2) (C := C9) n9 0 (M 0) (a 0) (rf (rnF f) p9 false n9) O hm ⟨ho, ht⟩ (by omega) rfl ⟨o2, o3⟩ (fun i _ hi => c2 i (by omega))
    rcases hd : dsR C9 n9 0 (a 0) (rf (rnF f) p9 false n9) with ⟨⟨m9, f9⟩, z9⟩
    rcases hc : cRun (rTxt T 10 0 0 R.2.2).2.2.2 n9 0 (M 0) O with ⟨⟨mc, Oc⟩, zc⟩
    rw [hd, hc] at r1 r2 r3
    rw [hc] at hg9
    have r1 : zc = z9 := r1
    subst r1
    cases zc with
    | none =>
      obtain ⟨q1, q2, q3, q4, q5⟩ := r2 rfl
      have q1 : mR mc m9 := q1
      have q2 : okM mc := q2
      have q3 : mc.2.2.2.2.2.2.2.toInt ≤ (M 0).2.2.2.2.2.2.2.toInt + 999 * (n9 : Int) := q3
      have q4 : f9 = rf (rnF f) p9 false n9 := q4
      have q5 : Oc = O := q5
      have hg9 : gOk mc := hg9
      subst q4
      subst q5
      exact ⟨1, 142, by decide, by decide, wl_run hl LW_6 (ev_run hl hT hB k1 (by omega) x1 hG (by omega) hkd (by rw [c1]; exact hc)) (ok_rtx (fun x9 => jp_okx (ev_mRun hl h13 h5 h60 hT g7 g8 htm hd h6 k2 rfl) (fun _ => rfl) (by rw [c1]) (fun y9 => by
        refine ⟨B + T.2 + 1, (T.1, 0), T9, by show B + T.2 + 1 + 0 ≤ n + 1; omega, ?_, fun q => ?_, ?_, ⟨o1, o2, o3, o4, o5⟩, ⟨x9.1.2, fun i hi => absurd hi (Nat.not_lt_zero i), Nat.zero_le _, rfl, fun i hi => absurd hi (Nat.not_lt_zero i)⟩, g6, g7, g8⟩
        · show mP (B + T.2 + 1) (va_up (va_up (va_up M 1 (M 0)) 0 mc) (4 + N.1) (M 0) 0) m9
          rw [va_up_ne _ _ (by omega), va_up_self]
          exact ⟨q1, q2, hg9, Or.inl (by omega)⟩
        · show mP (B + T.2 + 1) (va_up (va_up (va_up M 1 (M 0)) 0 mc) (4 + N.1) (M 0) 2) (a 3)
          rw [va_up_ne _ _ (by omega), va_up_ne _ _ (by omega), va_up_ne _ _ (by omega)]
          exact (g2 q).mono (by omega)
        · exact his_push (B := B) (past := a 4) (a0 := a 0) (by omega) k1 k2 ⟨hm, ⟨ho, ht⟩, hG, hbb⟩ k4 (fun k hk => by
            show va_up (va_up (va_up M 1 (M 0)) 0 mc) (4 + N.1) (M 0) k = _
            by_cases e : k = 4 + N.1
            · rw [if_pos e, e, va_up_self]
            · rw [if_neg e, va_up_ne _ _ e, va_up_ne _ _ (by omega), va_up_ne _ _ (by omega)])))) ex_rtx⟩
    | some k9 =>
      obtain ⟨q1, q2, q3, q4, q5⟩ := r3 (fun w => by cases w)
      have q1 : f9 9 = Oc.2.1 := q1
      have q2 : f9 10 = Oc.2.2.1 := q2
      have q3 : Oc.1 = O.1 := q3
      have q4 : Oc.2.2.2 = O.2.2.2 := q4
      have q5 : ∀ i, i ≠ 9 → i ≠ 10 → i ≠ 11 → f9 i = rf (rnF f) p9 false n9 i := q5
      exact ⟨2, 148, by decide, by decide, wl_run hl LW_6 (ev_run_no2 hl hT hB x1 hG (by omega) hkd (by rw [c1]; exact hc)) ok_trx (ex_trx (fun x9 => Or.inr ⟨rfl, jp_nox (by decide) (ev_mRun_no2 hl h13 h5 h60 hT g7 g8 htm hd) (fun _ => rfl) (fun y9 => RelP.failed hR0 x9.1.2 (q5 13 (by omega) (by omega) (by omega)) rfl rfl (fun k hk => va_up_ne _ _ (by omega)) rfl rfl rfl rfl rfl rfl (q5 4 (by omega) (by omega) (by omega)) (q5 6 (by omega) (by omega) (by omega)) (q5 29 (by omega) (by omega) (by omega)) ⟨q3.trans (o1.trans (q5 4 (by omega) (by omega) (by omega)).symm), q1, q2, (q5 7 (by omega) (by omega) (by omega)).trans (o4.trans (congrArg (fun z => z.1) q4).symm), rfl⟩)⟩))⟩
