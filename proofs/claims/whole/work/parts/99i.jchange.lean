/-! Calls in both: changes (by wip/whole/gen/m60.py) -/
set_option maxRecDepth 100000 in
theorem gr_g {m : MS} (h : gOk m) {k : Nat} {x : Int32} (hx : groundP x) : gOk (grM m k x) := fun i hi => by
  show groundP (va_up m.1 k x i)
  unfold va_up
  split
  · exact hx
  · exact h i hi
theorem mP_gr {B : Nat} {m : MS} {mm : Nat → Int32} (h : mP B m mm) {k : Nat} (hk : k < 64) {x : Int32} (hx : groundP x) : mP (B + 1) (grM m k x) (va_up mm (128 + k) x) := by
  obtain ⟨h1, ⟨ho, ht⟩, hG, hb⟩ := h.mono (Nat.le_succ B)
  exact ⟨gr_R h1 hk x, ⟨gr_aI ho k x, ht⟩, gr_g hG hx, hb⟩
theorem mP_bo {B : Nat} {m : MS} {mm : Nat → Int32} (h : mP B m mm) {s : Nat} (hs : s < 4) {x : Int32} (hx : tempP x) : mP (B + 1) (boM m s x) (va_up mm (192 + s) x) := by
  obtain ⟨h1, ⟨ho, ht⟩, hG, hb⟩ := h.mono (Nat.le_succ B)
  refine ⟨bo_R h1 hs x, ⟨bo_aI ho s x, fun i hi => ?_⟩, hG, hb⟩
  show bn (va_up m.2.2.2.1 s x i)
  unfold va_up
  split
  · exact tmp_bn hx
  · exact ht i hi
theorem mP_ad {B : Nat} {m : MS} {mm : Nat → Int32} (h : mP B m mm) (hB : B ≤ 512) {k : Nat} (hk : k < 64) {x : Int32} (hx : amountP x) (hr : ¬ 9999 < m.2.1 k + x) : mP (B + 1) (adM m k x) (va_up mm k (mm k + x)) := by
  have hle := h.2.le
  obtain ⟨h1, ⟨ho, ht⟩, hG, hb⟩ := h
  have hx2 := am_I hx
  have b1 := (aI_bd ho).1 k hk
  obtain ⟨z1, z2⟩ := ad_aI ho hk hx2 (by omega)
  refine ⟨ad_R h1 hk x, ⟨z1, ht⟩, hG, ?_⟩
  rw [z2]
  rcases hb with q | ⟨q, w⟩
  · exact Or.inl (by omega)
  · refine Or.inr ⟨by omega, fun i hi => ?_⟩
    show (va_up m.2.1 k (m.2.1 k + x) i).toInt ≤ 9999
    unfold va_up
    split
    · have e : (m.2.1 k + x).toInt = (m.2.1 k).toInt + x.toInt := fb_addI (by omega) (by omega)
      rw [Int32.lt_iff_toInt_lt] at hr
      have hr2 : ¬ (9999 : Int) < (m.2.1 k + x).toInt := hr
      omega
    · exact w i hi
theorem tks_add {m : MS} : ∀ k, (ticksM k m).2.2.2.2.2.2.2 = m.2.2.2.2.2.2.2 ∧ (ticksM k m).1 = m.1
  | 0 => ⟨rfl, rfl⟩
  | k + 1 => tks_add (m := m) k
theorem mP_tk {B : Nat} {m : MS} {mm : Nat → Int32} (h : mP B m mm) (n : Nat) : mP (B + 1) (tkM m n) (mtk mm n) := by
  have hle := h.2.le
  obtain ⟨h1, ⟨ho, ht⟩, hG, hb⟩ := h
  obtain ⟨z1, z2, z3⟩ := tk_aI ho ht n
  refine ⟨(ticks_R h1 ho ht n).1, ⟨z1, fun s hs => by rw [z2]; exact ht s hs⟩, fun i hi => by rw [z3]; exact hG i hi, Or.inl ?_⟩
  rw [show (tkM m n).2.2.2.2.2.2.2 = m.2.2.2.2.2.2.2 from (tks_add n).1]
  omega
theorem kp_at {M : Nat → MS} {N : Nat × Nat} {m : MS} : ∀ k, 4 ≤ k → va_up (kpM M N 0) 0 m k = if k = 4 + N.1 then M 0 else M k := fun k hk => (va_up_ne _ _ (by omega)).trans rfl
theorem kp_2 {M : Nat → MS} {N : Nat × Nat} {m : MS} : va_up (kpM M N 0) 0 m 2 = M 2 := (va_up_ne _ _ (by omega)).trans (va_up_ne _ _ (by omega))

set_option maxRecDepth 100000 in
theorem jt_setGround {l : Launch} {G : GG} (hl : l.stackTraces = false) {A : AD} {n : Nat} {M : Nat → MS} {N : Nat × Nat} {c : Nat → Int32} {q : Nat → Nat} {H : HS} {L : LgS} {R : RS} {t l9 : SB} {O : OB} {a : Nat → Nat → Int32} {f : Nat → Int32} {fo : Nat → Int64} {fd : Nat → UInt64} (hR : RelX n (M, N, c, q, H, L, R, t, l9, O) (a, f)) {p0 p1 p2 : Int32} : Jt l G A n 13 mL_setGround [.ref (A 6 0), .int p0, .int p1, .int p2, .ref (A 60 0)] 13 mX10_setGround [.ref (A 30 0), .int p0, .int p1, .int p2] (M, N, c, q, H, L, R, t, l9, O) (a, f) fo fd := by
  have hR : RelP n M N t l9 O a f := hR
  obtain ⟨B, hB, hm, ⟨ho, ht⟩, hG, hbb⟩ := RelP.m0 hR
  obtain ⟨hN1, hN2, h6⟩ := RelP.hist hR
  by_cases hc : cellB p0 p1
  · obtain ⟨i, j, hi, hj, rfl, rfl⟩ := cellB_ex hc
    have hk : 8 * j + i < 64 := by omega
    have hc0 := hc
    have eg : groundP (a 0 (128 + (8 * j + i))) := by rw [← hm.gr _ hk]; exact hG _ hk
    by_cases hx : groundP p2
    · have b1 := (aI_bd ho).1 _ hk
      have b2 := (aI_bd ho).2.1 _ hk
      have ex := ex_ground b1 b2
      rw [hm.he _ hk, hm.em _ hk] at ex
      by_cases e : p2 = 35 ∧ ¬ (M 0).2.1 (8 * j + i) + (M 0).2.2.1 (8 * j + i) = 0
      · have hr : grf (M 0) (8 * j + i) p2 = some (2, (M 0).2.1 (8 * j + i) + (M 0).2.2.1 (8 * j + i)) := if_pos e
        exact ⟨1, 6, by decide, by decide, wl_setGround hl LW_6 (ev_setGround_no3 hl hi hj hx hr) ok_tr (ex_tr (Or.inr (Or.inr ⟨rfl, jp_no (by decide) (ev_mSetGround_no3 hl hi hj hx e.1 (ex.mp (by rw [← hm.he _ hk, ← hm.em _ hk]; exact e.2))) (rfl) (RelP.ref hR rfl rfl rfl rfl rfl rfl rfl rfl rfl rfl rfl rfl (by rw [hm.he _ hk, hm.em _ hk]; rfl) rfl rfl)⟩)))⟩
      · have hr : grf (M 0) (8 * j + i) p2 = none := if_neg e
        exact ⟨0, 0, by decide, by decide, wl_setGround hl LW_6 (ev_setGround hl hi hj hN1 (by omega) hG hx hr) (ok_rt (jp_ok (ev_mSetGround hl hi hj hx (fun w => e ⟨w.1, by rw [hm.he _ hk, hm.em _ hk]; exact ex.mpr w.2⟩) eg h6 hN2) rfl (hm.gr _ hk) (RelP.change hR (fun B2 hB2 h2 => mP_gr h2 hk hx) (kp_2 (m := grM (M 0) (8 * j + i) p2)) kp_at rfl rfl rfl rfl rfl rfl rfl rfl rfl rfl rfl rfl rfl rfl ))) ex_rt⟩
    · exact ⟨1, 6, by decide, by decide, wl_setGround hl LW_6 (ev_setGround_no2 hl hc0 hx) ok_tr (ex_tr (Or.inr (Or.inl ⟨rfl, jp_no (by decide) (ev_mSetGround_no2 hl hc0 hx) rfl (RelP.same hR rfl rfl rfl rfl rfl rfl rfl rfl rfl rfl rfl rfl rfl rfl rfl rfl rfl (fun _ _ => rfl))⟩)))⟩
  · exact ⟨1, 6, by decide, by decide, wl_setGround hl LW_6 (ev_setGround_no1 hl hc) ok_tr (ex_tr (Or.inl ⟨rfl, jp_no (by decide) (ev_mSetGround_no1 hl hc) rfl (RelP.same hR rfl rfl rfl rfl rfl rfl rfl rfl rfl rfl rfl rfl rfl rfl rfl rfl rfl (fun _ _ => rfl))⟩))⟩

set_option maxRecDepth 100000 in
theorem jt_heatUp {l : Launch} {G : GG} (hl : l.stackTraces = false) {A : AD} {n : Nat} {M : Nat → MS} {N : Nat × Nat} {c : Nat → Int32} {q : Nat → Nat} {H : HS} {L : LgS} {R : RS} {t l9 : SB} {O : OB} {a : Nat → Nat → Int32} {f : Nat → Int32} {fo : Nat → Int64} {fd : Nat → UInt64} (hR : RelX n (M, N, c, q, H, L, R, t, l9, O) (a, f)) (hn : n < 512) {p0 p1 p2 : Int32} : Jt l G A n 13 mL_heatUp [.ref (A 6 0), .int p0, .int p1, .int p2, .ref (A 60 0)] 13 mX10_heatUp [.ref (A 30 0), .int p0, .int p1, .int p2] (M, N, c, q, H, L, R, t, l9, O) (a, f) fo fd := by
  have hR : RelP n M N t l9 O a f := hR
  obtain ⟨B, hB, hm, ⟨ho, ht⟩, hG, hbb⟩ := RelP.m0 hR
  obtain ⟨hN1, hN2, h6⟩ := RelP.hist hR
  by_cases hc : cellB p0 p1
  · obtain ⟨i, j, hi, hj, rfl, rfl⟩ := cellB_ex hc
    have hk : 8 * j + i < 64 := by omega
    have hc0 := hc
    by_cases hx : amountP p2
    · have b1 := (aI_bd ho).1 _ hk
      have ex := ex_heat b1 (am_I hx)
      by_cases e1 : (M 0).1 (8 * j + i) = 35
      · have hr : hrf (M 0) (8 * j + i) p2 = some (1, nI (8 * j + i)) := if_pos e1
        exact ⟨1, 6, by decide, by decide, wl_heatUp hl LW_6 (ev_heatUp_no3 hl hi hj hx hr) ok_tr (ex_tr (Or.inr (Or.inr ⟨rfl, jp_no (by decide) (ev_mHeatUp_no3a hl hi hj hx ((hm.gr _ hk).symm.trans e1)) (rfl) (RelP.ref hR rfl rfl rfl rfl rfl rfl rfl rfl rfl rfl rfl rfl rfl rfl rfl )⟩)))⟩
      · by_cases e2 : 0 < (M 0).2.1 (8 * j + i) + p2 - 9999
        · have hr : hrf (M 0) (8 * j + i) p2 = some (3, (M 0).2.1 (8 * j + i) + p2 - 9999) := (if_neg e1).trans (if_pos e2)
          exact ⟨1, 6, by decide, by decide, wl_heatUp hl LW_6 (ev_heatUp_no3 hl hi hj hx hr) ok_tr (ex_tr (Or.inr (Or.inr ⟨rfl, jp_no (by decide) (ev_mHeatUp_no3b hl hi hj hx (fun w => e1 ((hm.gr _ hk).trans w)) (by rw [← hm.he _ hk]; exact ex.mp e2)) (rfl) (RelP.ref hR rfl rfl rfl rfl rfl rfl rfl rfl rfl rfl rfl rfl (by rw [hm.he _ hk]; rfl) rfl rfl)⟩)))⟩
        · have hr : hrf (M 0) (8 * j + i) p2 = none := (if_neg e1).trans (if_neg e2)
          exact ⟨0, 0, by decide, by decide, wl_heatUp hl LW_6 (ev_heatUp hl hi hj hN1 (by omega) hG hx hr) (ok_rt (jp_ok (ev_mHeatUp hl hi hj hx (fun w => e1 ((hm.gr _ hk).trans w)) (by rw [← hm.he _ hk]; exact fun w => e2 (ex.mpr w)) h6 hN2) rfl (by rw [hm.he _ hk]) (RelP.change hR (fun B2 hB2 h2 => mP_ad h2 (by omega) hk hx (fun w => e2 (ex.mpr w))) (kp_2 (m := adM (M 0) (8 * j + i) p2)) kp_at rfl rfl rfl rfl rfl rfl rfl rfl rfl rfl rfl rfl rfl rfl ))) ex_rt⟩
    · exact ⟨1, 6, by decide, by decide, wl_heatUp hl LW_6 (ev_heatUp_no2 hl hc0 hx) ok_tr (ex_tr (Or.inr (Or.inl ⟨rfl, jp_no (by decide) (ev_mHeatUp_no2 hl hc0 hx) rfl (RelP.same hR rfl rfl rfl rfl rfl rfl rfl rfl rfl rfl rfl rfl rfl rfl rfl rfl rfl (fun _ _ => rfl))⟩)))⟩
  · exact ⟨1, 6, by decide, by decide, wl_heatUp hl LW_6 (ev_heatUp_no1 hl hc) ok_tr (ex_tr (Or.inl ⟨rfl, jp_no (by decide) (ev_mHeatUp_no1 hl hc) rfl (RelP.same hR rfl rfl rfl rfl rfl rfl rfl rfl rfl rfl rfl rfl rfl rfl rfl rfl rfl (fun _ _ => rfl))⟩))⟩

set_option maxRecDepth 100000 in
theorem jt_setBorder {l : Launch} {G : GG} (hl : l.stackTraces = false) {A : AD} {n : Nat} {M : Nat → MS} {N : Nat × Nat} {c : Nat → Int32} {q : Nat → Nat} {H : HS} {L : LgS} {R : RS} {t l9 : SB} {O : OB} {a : Nat → Nat → Int32} {f : Nat → Int32} {fo : Nat → Int64} {fd : Nat → UInt64} (hR : RelX n (M, N, c, q, H, L, R, t, l9, O) (a, f)) {p0 p1 : Int32} : Jt l G A n 13 mL_setBorder [.ref (A 6 0), .int p0, .int p1, .ref (A 60 0)] 12 mX10_setBorder [.ref (A 30 0), .int p0, .int p1] (M, N, c, q, H, L, R, t, l9, O) (a, f) fo fd := by
  have hR : RelP n M N t l9 O a f := hR
  obtain ⟨B, hB, hm, ⟨ho, ht⟩, hG, hbb⟩ := RelP.m0 hR
  obtain ⟨hN1, hN2, h6⟩ := RelP.hist hR
  by_cases hs : sideP p0
  · have hs0 := hs
    obtain ⟨s, hs4, rfl⟩ := side_ex hs
    by_cases hx : tempP p1
    · exact ⟨0, 0, by decide, by decide, wl_setBorder hl LW_6 (ev_setBorder hl hs4 hN1 (by omega) hG hx) (ok_rt (jp_ok (ev_mSetBorder hl hs4 hx h6 hN2) rfl (hm.te _ hs4) (RelP.change hR (fun B2 hB2 h2 => mP_bo h2 hs4 hx) (kp_2 (m := boM (M 0) s p1)) kp_at rfl rfl rfl rfl rfl rfl rfl rfl rfl rfl rfl rfl rfl rfl ))) ex_rt⟩
    · exact ⟨1, 6, by decide, by decide, wl_setBorder hl LW_6 (ev_setBorder_no2 hl hs0 hx) ok_tr (ex_tr (Or.inr ⟨rfl, jp_no (by decide) (ev_mSetBorder_no2 hl (side_m.mp hs0) hx) rfl (RelP.same hR rfl rfl rfl rfl rfl rfl rfl rfl rfl rfl rfl rfl rfl rfl rfl rfl rfl (fun _ _ => rfl))⟩))⟩
  · exact ⟨1, 6, by decide, by decide, wl_setBorder hl LW_6 (ev_setBorder_no1 hl hs) ok_tr (ex_tr (Or.inl ⟨rfl, jp_no (by decide) (ev_mSetBorder_no1 hl (fun w => hs (side_m.mpr w))) rfl (RelP.same hR rfl rfl rfl rfl rfl rfl rfl rfl rfl rfl rfl rfl rfl rfl rfl rfl rfl (fun _ _ => rfl))⟩))⟩

set_option maxRecDepth 100000 in
theorem jt_pass {l : Launch} {G : GG} (hl : l.stackTraces = false) {A : AD} {n : Nat} {M : Nat → MS} {N : Nat × Nat} {c : Nat → Int32} {q : Nat → Nat} {H : HS} {L : LgS} {R : RS} {t l9 : SB} {O : OB} {a : Nat → Nat → Int32} {f : Nat → Int32} {fo : Nat → Int64} {fd : Nat → UInt64} (hR : RelX n (M, N, c, q, H, L, R, t, l9, O) (a, f)) {p0 : Int32} : Jt l G A n 15 mL_pass [.ref (A 6 0), .int p0, .ref (A 60 0)] 14 mX10_pass [.ref (A 30 0), .int p0] (M, N, c, q, H, L, R, t, l9, O) (a, f) fo fd := by
  have hR : RelP n M N t l9 O a f := hR
  obtain ⟨B, hB, hm, ⟨ho, ht⟩, hG, hbb⟩ := RelP.m0 hR
  obtain ⟨hN1, hN2, h6⟩ := RelP.hist hR
  by_cases hx : tickP p0
  · obtain ⟨k, hk1, hk2, rfl⟩ := tick_ex hx
    exact ⟨0, 0, by decide, by decide, wl_pass hl LW_6 (ev_pass hl hN1 (by omega) hG hk1 hk2) (ok_rtx (fun x9 => jp_okx (ev_mPass hl hk1 hk2 h6 hN2) (fun _ => rfl) ((ticks_R hm ho ht k).2.symm) (fun y9 => (RelP.change hR (fun B2 hB2 h2 => mP_tk h2 k) (kp_2 (m := tkM (M 0) k)) kp_at rfl rfl rfl rfl rfl rfl rfl rfl rfl rfl rfl rfl rfl rfl )))) ex_rtx⟩
  · exact ⟨1, 6, by decide, by decide, wl_pass hl LW_6 (ev_pass_no hl hx) ok_tr (ex_tr ⟨rfl, jp_no (by decide) (ev_mPass_no hl hx) rfl (RelP.same hR rfl rfl rfl rfl rfl rfl rfl rfl rfl rfl rfl rfl rfl rfl rfl rfl rfl (fun _ _ => rfl))⟩)⟩

set_option maxRecDepth 100000 in
theorem jt_ticksUntilBelow {l : Launch} {G : GG} (hl : l.stackTraces = false) {A : AD} {n : Nat} {M : Nat → MS} {N : Nat × Nat} {c : Nat → Int32} {q : Nat → Nat} {H : HS} {L : LgS} {R : RS} {t l9 : SB} {O : OB} {a : Nat → Nat → Int32} {f : Nat → Int32} {fo : Nat → Int64} {fd : Nat → UInt64} (hR : RelX n (M, N, c, q, H, L, R, t, l9, O) (a, f)) {p0 : Int32} : Jt l G A n 15 mL_ticksUntilBelow [.ref (A 6 0), .int p0, .ref (A 60 0)] 13 mX10_ticksUntilBelow [.ref (A 30 0), .int p0] (M, N, c, q, H, L, R, t, l9, O) (a, f) fo fd := by
  have hR : RelP n M N t l9 O a f := hR
  obtain ⟨B, hB, hm, ⟨ho, ht⟩, hG, hbb⟩ := RelP.m0 hR
  by_cases hv : levP p0
  · have tu := tub_R hm ⟨ho, ht⟩ (v := p0) 21 0
    by_cases h20 : tbM (a 0) p0 21 0 ≤ 20
    · rw [if_pos (by omega)] at tu
      exact ⟨0, 0, by decide, by decide, wl_ticksUntilBelow hl LW_6 (ev_ticksUntil hl hv hG tu) (ok_rtx (fun x9 => jp_okx (ev_mTub hl hv rfl h20) (fun _ => rfl) (rfl) (fun y9 => (RelP.same hR rfl rfl rfl rfl rfl rfl rfl rfl rfl rfl rfl rfl rfl rfl rfl rfl rfl (fun _ h9 => va_up_ne _ _ (by omega)))))) ex_rtx⟩
    · rw [if_neg (by omega)] at tu
      exact ⟨1, 6, by decide, by decide, wl_ticksUntilBelow hl LW_6 (ev_ticksUntil_no2 hl hv hG tu) ok_trx (ex_trx (fun x9 => (Or.inr ⟨rfl, jp_nox (by decide) (ev_mTub_no2 hl hv rfl h20) (fun _ => rfl) (fun y9 => (RelP.same hR rfl rfl rfl rfl rfl rfl rfl rfl rfl rfl rfl rfl rfl rfl rfl rfl rfl (fun _ h9 => va_up_ne _ _ (by omega))))⟩)))⟩
  · exact ⟨1, 6, by decide, by decide, wl_ticksUntilBelow hl LW_6 (ev_ticksUntil_no1 hl hv) ok_tr (ex_tr (Or.inl ⟨rfl, jp_no (by decide) (ev_mTub_no1 hl hv) rfl (RelP.same hR rfl rfl rfl rfl rfl rfl rfl rfl rfl rfl rfl rfl rfl rfl rfl rfl rfl (fun _ _ => rfl))⟩))⟩

set_option maxRecDepth 100000 in
theorem RelP.undone {n : Nat} {M : Nat → MS} {N : Nat × Nat} {t l : SB} {O : OB} {a a' : Nat → Nat → Int32} {f f' : Nat → Int32} (h : RelP n M N t l O a f) {k : Nat} (hk : N.2 = k + 1) (e0 : a' 0 = fun i => a 4 (202 * k + i)) (e3 : a' 3 = a 3) (e4 : a' 4 = a 4) (e5 : a' 5 = a 5) (e12 : a' 12 = a 12) (e13 : a' 13 = a 13) (e15 : a' 15 = a 15) (f4 : f' 4 = f 4) (f6 : f' 6 = nI k) (f7 : f' 7 = f 7) (f8 : f' 8 = f 8) (f9 : f' 9 = f 9) (f10 : f' 10 = f 10) (f13 : f' 13 = f 13) (f29 : f' 29 = f 29) : RelP (n + 1) (va_up M 0 (M (4 + (N.1 + 7) % 8))) ((N.1 + 7) % 8, k) t l O a' f' := by
  obtain ⟨B, T, T9, g0, g1, g2, ⟨k1, k2, k3, k4⟩, g4, g5, g6, g7, g8⟩ := h
  refine ⟨B, T, T9, by omega, ?_, fun q => ?_, ⟨by show (N.1 + 7) % 8 < 8; omega, by show k ≤ 8; omega, f6, fun j hj => ?_⟩, by rw [f4, f7, f8, f9, f10]; exact g4, by rw [f13, e5]; exact g5, by rw [f29, e15]; exact g6, by rw [e13]; exact g7, by rw [e12]; exact g8⟩
  · rw [e0, va_up_self]
    have z := k4 k (by omega)
    rw [show (N.1 + 8 - N.2 + k) % 8 = (N.1 + 7) % 8 by omega] at z
    exact z
  · rw [e3, va_up_ne _ _ (by omega)]
    exact g2 (by rw [← f4]; exact q)
  · have hj2 : j < k := hj
    rw [e4, va_up_ne _ _ (by omega)]
    have z := k4 j (by omega)
    rw [show 4 + (N.1 + 8 - N.2 + j) % 8 = 4 + ((N.1 + 7) % 8 + 8 - k + j) % 8 by omega] at z
    exact z
theorem RelP.restored {n : Nat} {M : Nat → MS} {N : Nat × Nat} {t l : SB} {O : OB} {a a' : Nat → Nat → Int32} {f f' : Nat → Int32} (h : RelP n M N t l O a f) (h4 : ¬ f 4 = 0) (e0 : a' 0 = a 3) (e3 : a' 3 = a 3) (e5 : a' 5 = a 5) (e12 : a' 12 = a 12) (e13 : a' 13 = a 13) (e15 : a' 15 = a 15) (f4 : f' 4 = f 4) (f6 : f' 6 = 0) (f7 : f' 7 = f 7) (f8 : f' 8 = f 8) (f9 : f' 9 = f 9) (f10 : f' 10 = f 10) (f13 : f' 13 = f 13) (f29 : f' 29 = f 29) : RelP (n + 1) (va_up M 0 (M 2)) (N.1, 0) t l O a' f' := by
  obtain ⟨B, T, T9, g0, g1, g2, ⟨k1, k2, k3, k4⟩, g4, g5, g6, g7, g8⟩ := h
  exact ⟨B, T, T9, by omega, by rw [e0, va_up_self]; exact g2 h4, fun q => by rw [e3, va_up_ne _ _ (by omega)]; exact g2 h4, ⟨k1, Nat.zero_le _, f6, fun j hj => absurd hj (Nat.not_lt_zero j)⟩, by rw [f4, f7, f8, f9, f10]; exact g4, by rw [f13, e5]; exact g5, by rw [f29, e15]; exact g6, by rw [e13]; exact g7, by rw [e12]; exact g8⟩
theorem RelP.saved {n : Nat} {M : Nat → MS} {N : Nat × Nat} {t l : SB} {O : OB} {a a' : Nat → Nat → Int32} {f f' : Nat → Int32} (h : RelP n M N t l O a f) (e0 : a' 0 = a 0) (e3 : a' 3 = a 0) (e4 : a' 4 = a 4) (e5 : a' 5 = a 5) (e12 : a' 12 = a 12) (e13 : a' 13 = a 13) (e15 : a' 15 = a 15) (f4 : f' 4 = 1) (f6 : f' 6 = f 6) (f7 : f' 7 = f 7) (f8 : f' 8 = f 8) (f9 : f' 9 = f 9) (f10 : f' 10 = f 10) (f13 : f' 13 = f 13) (f29 : f' 29 = f 29) : RelP (n + 1) (va_up M 2 (M 0)) N t l (1, O.2) a' f' := by
  obtain ⟨B, T, T9, g0, g1, g2, ⟨k1, k2, k3, k4⟩, g4, g5, g6, g7, g8⟩ := h
  exact ⟨B, T, T9, by omega, by rw [e0, va_up_ne _ _ (by omega)]; exact g1, fun q => by rw [e3, va_up_self]; exact g1, ⟨k1, k2, by rw [f6]; exact k3, fun j hj => by rw [e4, va_up_ne _ _ (by omega)]; exact k4 j hj⟩, ⟨f4.symm, by rw [f9]; exact g4.2.1, by rw [f10]; exact g4.2.2.1, by rw [f7]; exact g4.2.2.2.1, by rw [f8]; exact g4.2.2.2.2⟩, by rw [f13, e5]; exact g5, by rw [f29, e15]; exact g6, by rw [e13]; exact g7, by rw [e12]; exact g8⟩
theorem RelP.snap {n : Nat} {M : Nat → MS} {N : Nat × Nat} {t l : SB} {O : OB} {a : Nat → Nat → Int32} {f : Nat → Int32} (h : RelP n M N t l O a f) (h4 : ¬ f 4 = 0) : ∃ B, mP B (M 2) (a 3) := by
  obtain ⟨B, T, T9, g0, g1, g2, g3⟩ := h
  exact ⟨B, g2 h4⟩
theorem RelP.last {n : Nat} {M : Nat → MS} {N : Nat × Nat} {t l : SB} {O : OB} {a : Nat → Nat → Int32} {f : Nat → Int32} (h : RelP n M N t l O a f) {k : Nat} (hk : N.2 = k + 1) : gOk (M (4 + (N.1 + 7) % 8)) := by
  obtain ⟨B, T, T9, g0, g1, g2, ⟨k1, k2, k3, k4⟩, -⟩ := h
  have z := k4 k (by omega)
  rw [show (N.1 + 8 - N.2 + k) % 8 = (N.1 + 7) % 8 by omega] at z
  exact z.2.2.1
theorem RelP.typed {n : Nat} {M : Nat → MS} {N : Nat × Nat} {t l t' : SB} {O : OB} {a a' : Nat → Nat → Int32} {f f' : Nat → Int32} (h : RelP n M N t l O a f) {T : TX} {w : Nat} (hw : w < 127) (hT : isTx t T.1 T.2 ∧ tOk T ∧ T.2 ≤ 60 ∧ f 13 = nI T.2 ∧ ∀ i, i < T.2 → a 5 i = nI (T.1 i)) (h60 : T.2 < 60) (hl : isTx t' (sb_cat T.1 T.2 (fun _ => w)) (T.2 + 1)) (e5 : a' 5 = va_up (a 5) T.2 (nI w)) (f13 : f' 13 = nI (T.2 + 1)) (e0 : a' 0 = a 0) (e3 : a' 3 = a 3) (e4 : a' 4 = a 4) (e12 : a' 12 = a 12) (e13 : a' 13 = a 13) (e15 : a' 15 = a 15) (f4 : f' 4 = f 4) (f6 : f' 6 = f 6) (f7 : f' 7 = f 7) (f8 : f' 8 = f 8) (f9 : f' 9 = f 9) (f10 : f' 10 = f 10) (f29 : f' 29 = f 29) : RelP (n + 1) M N t' l O a' f' := by
  obtain ⟨B, T2, T9, g0, g1, g2, g3, g4, ⟨-, -, t60, t13, -⟩, g6, g7, g8⟩ := h
  have et : T2.2 = T.2 := (nI_inj (by omega) (by omega)).mp (t13.symm.trans hT.2.2.2.1)
  have cat1 : ∀ i, i < T.2 → sb_cat T.1 T.2 (fun _ => w) i = T.1 i := fun i hi => if_pos hi
  have cat2 : sb_cat T.1 T.2 (fun _ => w) T.2 = w := if_neg (Nat.lt_irrefl _)
  refine ⟨B, (sb_cat T.1 T.2 (fun _ => w), T.2 + 1), T9, by show B + (T.2 + 1) ≤ n + 1; omega, by rw [e0]; exact g1, by rw [f4, e3]; exact g2, ⟨g3.1, g3.2.1, by rw [f6]; exact g3.2.2.1, fun j hj => by rw [e4]; exact g3.2.2.2 j hj⟩, by rw [f4, f7, f8, f9, f10]; exact g4, ⟨hl, fun i hi => ?_, h60, f13, fun i hi => ?_⟩, by rw [f29, e15]; exact g6, by rw [e13]; exact g7, by rw [e12]; exact g8⟩
  · have hi2 : i < T.2 + 1 := hi
    show sb_cat T.1 T.2 (fun _ => w) i < 127
    by_cases e : i = T.2
    · rw [e, cat2]; exact hw
    · rw [cat1 i (by omega)]; exact hT.2.1 i (by omega)
  · have hi2 : i < T.2 + 1 := hi
    show a' 5 i = nI (sb_cat T.1 T.2 (fun _ => w) i)
    rw [e5]
    by_cases e : i = T.2
    · rw [e, cat2, va_up_self]
    · rw [cat1 i (by omega), va_up_ne _ _ e]; exact hT.2.2.2.2 i (by omega)
theorem RelP.letters {n : Nat} {M : Nat → MS} {N : Nat × Nat} {t l : SB} {O : OB} {a : Nat → Nat → Int32} {f : Nat → Int32} (h : RelP n M N t l O a f) : ∃ T : TX, isTx t T.1 T.2 ∧ tOk T ∧ T.2 ≤ 60 ∧ f 13 = nI T.2 ∧ ∀ i, i < T.2 → a 5 i = nI (T.1 i) := by
  obtain ⟨B, T, T9, g0, g1, g2, g3, g4, g5, g6⟩ := h
  exact ⟨T, g5⟩

set_option maxRecDepth 100000 in
theorem jt_undo {l : Launch} {G : GG} (hl : l.stackTraces = false) {A : AD} {n : Nat} {M : Nat → MS} {N : Nat × Nat} {c : Nat → Int32} {q : Nat → Nat} {H : HS} {L : LgS} {R : RS} {t l9 : SB} {O : OB} {a : Nat → Nat → Int32} {f : Nat → Int32} {fo : Nat → Int64} {fd : Nat → UInt64} (hR : RelX n (M, N, c, q, H, L, R, t, l9, O) (a, f)) : Jt l G A n 13 mL_undo [.ref (A 6 0), .ref (A 60 0)] 11 mX10_undo [.ref (A 30 0)] (M, N, c, q, H, L, R, t, l9, O) (a, f) fo fd := by
  have hR : RelP n M N t l9 O a f := hR
  obtain ⟨hN1, hN2, h6⟩ := RelP.hist hR
  obtain ⟨x, y⟩ := N
  rcases y with _ | k
  · exact ⟨1, 6, by decide, by decide, wl_undo hl LW_6 (ev_undo_no hl rfl) ok_tr (ex_tr ⟨rfl, jp_no (by decide) (ev_mUndo_no hl h6) rfl (RelP.same hR rfl rfl rfl rfl rfl rfl rfl rfl rfl rfl rfl rfl rfl rfl rfl rfl rfl (fun _ _ => rfl))⟩)⟩
  · exact ⟨0, 0, by decide, by decide, wl_undo hl LW_6 (ev_undo hl rfl hN1 (by have z : k + 1 ≤ 8 := hN2; omega) (RelP.last hR rfl)) (ok_rt (jp_ok (ev_mUndo hl h6 (by have z : k + 1 ≤ 8 := hN2; omega)) rfl (rfl) (RelP.undone hR rfl rfl rfl rfl rfl rfl rfl rfl rfl rfl rfl rfl rfl rfl rfl rfl ))) ex_rt⟩

set_option maxRecDepth 100000 in
theorem jt_restore {l : Launch} {G : GG} (hl : l.stackTraces = false) {A : AD} {n : Nat} {M : Nat → MS} {N : Nat × Nat} {c : Nat → Int32} {q : Nat → Nat} {H : HS} {L : LgS} {R : RS} {t l9 : SB} {O : OB} {a : Nat → Nat → Int32} {f : Nat → Int32} {fo : Nat → Int64} {fd : Nat → UInt64} (hR : RelX n (M, N, c, q, H, L, R, t, l9, O) (a, f)) : Jt l G A n 12 mL_restore [.ref (A 6 0), .ref (A 60 0)] 11 mX10_restore [.ref (A 30 0)] (M, N, c, q, H, L, R, t, l9, O) (a, f) fo fd := by
  have hR : RelP n M N t l9 O a f := hR
  obtain ⟨e4, -⟩ := RelP.nums hR
  by_cases h4 : f 4 = 0
  · exact ⟨1, 6, by decide, by decide, wl_restore hl LW_6 (ev_restore_no hl (e4.trans h4)) ok_tr (ex_tr ⟨rfl, jp_no (by decide) (ev_mRestore_no hl h4) rfl (RelP.same hR rfl rfl rfl rfl rfl rfl rfl rfl rfl rfl rfl rfl rfl rfl rfl rfl rfl (fun _ _ => rfl))⟩)⟩
  · obtain ⟨B, h2⟩ := RelP.snap hR h4
    exact ⟨0, 0, by decide, by decide, wl_restore hl LW_6 (ev_restore hl (fun w => h4 (e4.symm.trans w)) h2.2.2.1) (ok_rt (jp_ok (ev_mRestore hl h4) rfl (h2.1.ti) (RelP.restored hR h4 rfl rfl rfl rfl rfl rfl rfl rfl rfl rfl rfl rfl rfl rfl ))) ex_rt⟩

set_option maxRecDepth 100000 in
theorem jt_append {l : Launch} {G : GG} (hl : l.stackTraces = false) {A : AD} {n : Nat} {M : Nat → MS} {N : Nat × Nat} {c : Nat → Int32} {q : Nat → Nat} {H : HS} {L : LgS} {R : RS} {t l9 : SB} {O : OB} {a : Nat → Nat → Int32} {f : Nat → Int32} {fo : Nat → Int64} {fd : Nat → UInt64} (hR : RelX n (M, N, c, q, H, L, R, t, l9, O) (a, f)) {p0 : Int32} : Jt l G A n 20 mL_append [.ref (A 6 0), .int p0, .ref (A 60 0)] 11 mX10_append [.ref (A 30 0), .int p0] (M, N, c, q, H, L, R, t, l9, O) (a, f) fo fd := by
  have hR : RelP n M N t l9 O a f := hR
  obtain ⟨T, hB, hT, h60, h13, h5⟩ := RelP.letters hR
  by_cases hx : 32 ≤ p0 ∧ p0 ≤ 126
  · have x1 : (32 : Int) ≤ p0.toInt := Int32.le_iff_toInt_le.mp hx.1
    have x2 : p0.toInt ≤ (126 : Int) := Int32.le_iff_toInt_le.mp hx.2
    by_cases h9 : T.2 < 60
    · obtain ⟨w, hw1, hw2, hwe⟩ : ∃ w, 32 ≤ w ∧ w ≤ 126 ∧ p0 = nI w := ⟨p0.toNatClampNeg, by show 32 ≤ p0.toInt.toNat; omega, by show p0.toInt.toNat ≤ 126; omega, nI_clI (by omega)⟩
      subst hwe
      exact ⟨1, 142, by decide, by decide, wl_append hl LW_6 (ev_append hl hB hw1 hw2 h9) (ok_rtx (fun x9 => jp_ok (ev_mAppend hl h13 h9 hx) rfl rfl (RelP.typed hR (by omega) ⟨hB, hT, h60, h13, h5⟩ h9 x9.2 rfl rfl rfl rfl rfl rfl rfl rfl rfl rfl rfl rfl rfl rfl rfl ))) ex_rtx⟩
    · have e60 : T.2 = 60 := by omega
      exact ⟨1, 6, by decide, by decide, wl_append hl LW_6 (ev_append_no2 hl hB hx (by omega)) ok_tr (ex_tr (Or.inr ⟨rfl, jp_no (by decide) (ev_mAppend_no2 hl (by rw [h13, e60]; rfl) hx) rfl (RelP.same hR rfl rfl rfl rfl rfl rfl rfl rfl rfl rfl rfl rfl rfl rfl rfl rfl rfl (fun _ _ => rfl))⟩))⟩
  · exact ⟨1, 6, by decide, by decide, wl_append hl LW_6 (ev_append_no1 hl hx) ok_tr (ex_tr (Or.inl ⟨rfl, jp_no (by decide) (ev_mAppend_no1 hl hx) rfl (RelP.same hR rfl rfl rfl rfl rfl rfl rfl rfl rfl rfl rfl rfl rfl rfl rfl rfl rfl (fun _ _ => rfl))⟩))⟩
