/-! Calls in both: legends, lines, means (by wip/whole/gen/m60.py) -/
set_option maxRecDepth 100000 in
theorem jo_open {f g : Nat → Int32} : ∀ k, (∀ i, i < k → f i = g i) → openN f k = openN g k
  | 0, _ => rfl
  | k + 1, h => by rw [openN, openN, jo_open k (fun i hi => h i (by omega)), h k (by omega)]
theorem jo_ord {m : MS} {a : Nat → Nat → Int32} (h : mR m (a 0)) : openN m.1 64 = nI (ordM a) :=
  (jo_open (g := fun c => a 0 (128 + c)) 64 h.gr).trans (ord_op (H := a 0) (P0 := a 10) 64).symm
theorem jo_le {m : MS} {a : Nat → Nat → Int32} (h : mR m (a 0)) : ordM a ≤ 64 := (ord_64 (L := lS0) h.he h.gr).2.1
theorem jo_bn {m : MS} {a : Nat → Nat → Int32} (h : mR m (a 0)) (ho : aI m) : ∀ i, i < 64 → bn (a 0 i) := fun i hi => by rw [← h.he i hi]; exact (aI_bn ho).1 i hi
theorem jo_dv1 {x v k : Int32} (hv : ¬ clsP x) (e : v = k) : dvT x v = k := (if_neg hv).trans e
theorem jo_dv2 {x v k : Int32} (hv : clsP x) (e : v + 1 = k) : dvT x v = k := (if_pos hv).trans e
theorem jo_least {P : Nat → Int32} {x : Int32} : ∀ n, (∃ i, i < n ∧ P i = x) → ∃ k0, k0 < n ∧ P k0 = x ∧ ∀ i, i < k0 → ¬ P i = x
  | 0, h => by
    obtain ⟨i, hi, -⟩ := h
    omega
  | n + 1, h => by
    by_cases e : ∃ i, i < n ∧ P i = x
    · obtain ⟨k0, h1, h2, h3⟩ := jo_least n e
      exact ⟨k0, by omega, h2, h3⟩
    · obtain ⟨i, hi, h2⟩ := h
      have e2 : i = n := by
        by_cases q : i = n
        · exact q
        · exact absurd ⟨i, by omega, h2⟩ e
      subst e2
      exact ⟨i, by omega, h2, fun j hj q => e ⟨j, hj, q⟩⟩
theorem jo_begin {H P : Nat → Int32} {K : Int64} {n k w : Nat} {S : LgS} (hs : hsO H P S.2.1 n) (hl : lgR K n k S) (hw : w < k) : smH S w = orH H (P (S.2.2.1 w)) := by
  obtain ⟨x, x1, x2, x3, x4⟩ := mk_kth hl hw
  unfold smH
  rw [hl.1, if_pos hw, hs.2.1 _ (by omega)]
theorem jo_pos {x : Int32} (h : 0 ≤ x.toInt) : 0 < x ↔ ¬ x = 0 := by
  rw [Int32.lt_iff_toInt_lt, ← Int32.toInt_inj, Int32.toInt_zero]
  omega
theorem jo_sr {m : MS} {mm : Nat → Int32} (h : mR m mm) (ha : aI m) {c : Nat} (hc : c < 64) : srM mm c = signC m c := by
  unfold srM signC
  rw [← h.he c hc, ← h.em c hc, ← h.gr c hc]
  have b1 := ((aI_bd ha).1 c hc).1
  have b2 := ((aI_bd ha).2.1 c hc).1
  by_cases e : m.2.1 c = 0
  · rw [if_neg (fun q => (jo_pos b1).mp q e), if_pos e]
    by_cases e2 : m.2.2.1 c = 0
    · rw [if_neg (fun q => (jo_pos b2).mp q e2), if_pos e2]
    · rw [if_pos ((jo_pos b2).mpr e2), if_neg e2]
  · rw [if_pos ((jo_pos b1).mpr e), if_neg e]
    have h2 : (0 : Int32) ≤ m.2.1 c / 100 := by
      rw [Int32.le_iff_toInt_le, Int32.toInt_div_of_ne_right _ _ (by decide)]
      show (0 : Int) ≤ Int.tdiv _ 100
      exact Int.tdiv_nonneg b1 (by decide)
    obtain ⟨e1, e2⟩ := nI_ofS h2
    by_cases h9 : m.2.1 c / 100 < 9
    · rw [if_pos h9]
      have h9' : (m.2.1 c / 100).toNatClampNeg < 9 := by
        rw [e1] at h9
        exact (nI_lt' (b := 9) rfl e2 (by decide)).mp h9
      rw [e1, dig10 _ (by omega)]
      exact (Int32.ofNat_add 48 _).symm
    · rw [if_neg h9]
      exact (dig10 9 (by decide)).symm
theorem RelP.line {n : Nat} {M : Nat → MS} {N : Nat × Nat} {t l l' : SB} {O : OB} {a a' : Nat → Nat → Int32} {f f' : Nat → Int32} (h : RelP n M N t l O a f) {T9 : TX} (hl : isTx l' T9.1 T9.2) (h79 : T9.2 ≤ 79) (f29 : f' 29 = nI T9.2) (e15 : ∀ i, i < T9.2 → a' 15 i = nI (T9.1 i)) (e0 : a' 0 = a 0) (e3 : a' 3 = a 3) (e4 : a' 4 = a 4) (e5 : a' 5 = a 5) (e12 : a' 12 = a 12) (e13 : a' 13 = a 13) (f4 : f' 4 = f 4) (f6 : f' 6 = f 6) (f7 : f' 7 = f 7) (f8 : f' 8 = f 8) (f9 : f' 9 = f 9) (f10 : f' 10 = f 10) (f13 : f' 13 = f 13) : RelP (n + 1) M N t l' O a' f' := by
  obtain ⟨B, T, T8, g0, g1, g2, g3, g4, g5, g6, g7, g8⟩ := h
  refine ⟨B, T, T9, by omega, by rw [e0]; exact g1, by rw [f4, e3]; exact g2, ⟨g3.1, g3.2.1, by rw [f6]; exact g3.2.2.1, fun j hj => by rw [e4]; exact g3.2.2.2 j hj⟩, by rw [f4, f7, f8, f9, f10]; exact g4, by rw [f13, e5]; exact g5, ⟨hl, h79, f29, fun i hi => ⟨e15 i hi, (hl.2.2.2.1 i hi).1⟩⟩, by rw [e13]; exact g7, by rw [e12]; exact g8⟩
theorem RelP.text {n : Nat} {M : Nat → MS} {N : Nat × Nat} {t l : SB} {O : OB} {a : Nat → Nat → Int32} {f : Nat → Int32} (h : RelP n M N t l O a f) : ∃ T9 : TX, isTx l T9.1 T9.2 ∧ T9.2 ≤ 79 ∧ f 29 = nI T9.2 ∧ ∀ i, i < T9.2 → a 15 i = nI (T9.1 i) ∧ T9.1 i < 256 := by
  obtain ⟨B, T, T9, g0, g1, g2, g3, g4, g5, g6, g7⟩ := h
  exact ⟨T9, g6⟩

set_option maxRecDepth 100000 in
theorem jt_legendSpread {l : Launch} {G : GG} (hl : l.stackTraces = false) {A : AD} {n : Nat} {M : Nat → MS} {N : Nat × Nat} {c : Nat → Int32} {q : Nat → Nat} {H : HS} {L : LgS} {R : RS} {t l9 : SB} {O : OB} {a : Nat → Nat → Int32} {f : Nat → Int32} {fo : Nat → Int64} {fd : Nat → UInt64} (hR : RelX n (M, N, c, q, H, L, R, t, l9, O) (a, f)) {p0 : Int32} : Jt l G A n 14 mL_legendSpread [.ref (A 6 0), .int p0, .ref (A 60 0)] 13 mX10_legendSpread [.ref (A 30 0), .int p0] (M, N, c, q, H, L, R, t, l9, O) (a, f) fo fd := by
  have hR : RelP n M N t l9 O a f := hR
  obtain ⟨B, hB, hm, ⟨ho, ht⟩, hG, hbb⟩ := RelP.m0 hR
  have hC := jo_ord hm
  have h64 := jo_le hm
  have hb := jo_bn hm ho
  by_cases hv : clsP p0
  · obtain ⟨k, hk1, hk6, rfl⟩ := cls_ex hv
    by_cases hc : k ≤ ordM a
    · have hoo : nI k ≤ openN (M 0).1 64 := by rw [hC]; exact (le_nI rfl (by omega) (by omega)).mpr hc
      obtain ⟨hs, hmk, hlg, hCe⟩ := drw_R (L := L) hm.he hm.gr hb hk1 hk6 hc
      exact ⟨0, 0, by decide, by decide, wl_legendSpread hl LW_6 (ev_legendSpread hl hk1 hk6 hoo) (ok_rt (jp_ok (ev_mSpread hl hk1 hk6 hc) rfl (sp_eq hs (by omega) hmk hlg) (RelP.same hR rfl rfl rfl rfl rfl rfl rfl rfl rfl rfl rfl rfl rfl rfl rfl rfl rfl (fun _ _ => rfl)))) ex_rt⟩
    · have hno : ¬ nI k ≤ nI (ordM a) := fun w => hc ((le_nI rfl (by omega) (by omega)).mp w)
      have hoo : ¬ nI k ≤ openN (M 0).1 64 := by rw [hC]; exact hno
      exact ⟨1, 6, by decide, by decide, wl_legendSpread hl LW_6 (ev_legendSpread_no2 hl hv hoo) ok_tr (ex_tr (Or.inr ⟨rfl, jp_no (by decide) (ev_mSpread_no hl (fun w => hno w.2)) (jo_dv2 hv (by decide)) (RelP.same hR rfl rfl rfl rfl rfl rfl rfl rfl rfl rfl rfl rfl rfl rfl rfl rfl rfl (fun _ _ => rfl))⟩))⟩
  · exact ⟨1, 6, by decide, by decide, wl_legendSpread hl LW_6 (ev_legendSpread_no1 hl hv) ok_tr (ex_tr (Or.inl ⟨rfl, jp_no (by decide) (ev_mSpread_no hl (fun w => hv w.1)) (jo_dv1 hv rfl) (RelP.same hR rfl rfl rfl rfl rfl rfl rfl rfl rfl rfl rfl rfl rfl rfl rfl rfl rfl (fun _ _ => rfl))⟩))⟩

set_option maxRecDepth 100000 in
theorem jt_legendSpreadByTable {l : Launch} {G : GG} (hl : l.stackTraces = false) {A : AD} {n : Nat} {M : Nat → MS} {N : Nat × Nat} {c : Nat → Int32} {q : Nat → Nat} {H : HS} {L : LgS} {R : RS} {t l9 : SB} {O : OB} {a : Nat → Nat → Int32} {f : Nat → Int32} {fo : Nat → Int64} {fd : Nat → UInt64} (hR : RelX n (M, N, c, q, H, L, R, t, l9, O) (a, f)) {p0 : Int32} : Jt l G A n 14 mL_legendSpreadByTable [.ref (A 6 0), .int p0, .ref (A 60 0)] 14 mX10_legendSpreadByTable [.ref (A 30 0), .int p0] (M, N, c, q, H, L, R, t, l9, O) (a, f) fo fd := by
  have hR : RelP n M N t l9 O a f := hR
  obtain ⟨B, hB, hm, ⟨ho, ht⟩, hG, hbb⟩ := RelP.m0 hR
  have hC := jo_ord hm
  have h64 := jo_le hm
  have hb := jo_bn hm ho
  by_cases hv : clsP p0
  · obtain ⟨k, hk1, hk6, rfl⟩ := cls_ex hv
    by_cases hc : k ≤ ordM a
    · have hoo : nI k ≤ openN (M 0).1 64 := by rw [hC]; exact (le_nI rfl (by omega) (by omega)).mpr hc
      obtain ⟨hs, hmk, hlg, hCe⟩ := drw_R (L := L) hm.he hm.gr hb hk1 hk6 hc
      exact ⟨0, 0, by decide, by decide, wl_legendSpreadByTable hl LW_6 (ev_legendTable hl hk1 hk6 hoo) (ok_rt (jp_ok (ev_mSpreadT hl hk1 hk6 hc) rfl (tab_eq hm.he hm.gr hb hk1 hk6 hc) (RelP.same hR rfl rfl rfl rfl rfl rfl rfl rfl rfl rfl rfl rfl rfl rfl rfl rfl rfl (fun _ _ => rfl)))) ex_rt⟩
    · have hno : ¬ nI k ≤ nI (ordM a) := fun w => hc ((le_nI rfl (by omega) (by omega)).mp w)
      have hoo : ¬ nI k ≤ openN (M 0).1 64 := by rw [hC]; exact hno
      exact ⟨1, 6, by decide, by decide, wl_legendSpreadByTable hl LW_6 (ev_legendTable_no2 hl hv hoo) ok_tr (ex_tr (Or.inr ⟨rfl, jp_no (by decide) (ev_mSpreadT_no hl (fun w => hno w.2)) (jo_dv2 hv (by decide)) (RelP.same hR rfl rfl rfl rfl rfl rfl rfl rfl rfl rfl rfl rfl rfl rfl rfl rfl rfl (fun _ _ => rfl))⟩))⟩
  · exact ⟨1, 6, by decide, by decide, wl_legendSpreadByTable hl LW_6 (ev_legendTable_no1 hl hv) ok_tr (ex_tr (Or.inl ⟨rfl, jp_no (by decide) (ev_mSpreadT_no hl (fun w => hv w.1)) (jo_dv1 hv rfl) (RelP.same hR rfl rfl rfl rfl rfl rfl rfl rfl rfl rfl rfl rfl rfl rfl rfl rfl rfl (fun _ _ => rfl))⟩))⟩

set_option maxRecDepth 100000 in
theorem jt_classBegin {l : Launch} {G : GG} (hl : l.stackTraces = false) {A : AD} {n : Nat} {M : Nat → MS} {N : Nat × Nat} {c : Nat → Int32} {q : Nat → Nat} {H : HS} {L : LgS} {R : RS} {t l9 : SB} {O : OB} {a : Nat → Nat → Int32} {f : Nat → Int32} {fo : Nat → Int64} {fd : Nat → UInt64} (hR : RelX n (M, N, c, q, H, L, R, t, l9, O) (a, f)) {p0 p1 : Int32} : Jt l G A n 14 mL_classBegin [.ref (A 6 0), .int p0, .int p1, .ref (A 60 0)] 13 mX10_classBegin [.ref (A 30 0), .int p0, .int p1] (M, N, c, q, H, L, R, t, l9, O) (a, f) fo fd := by
  have hR : RelP n M N t l9 O a f := hR
  obtain ⟨B, hB, hm, ⟨ho, ht⟩, hG, hbb⟩ := RelP.m0 hR
  have hC := jo_ord hm
  have h64 := jo_le hm
  have hb := jo_bn hm ho
  by_cases hv : clsP p0
  · obtain ⟨k, hk1, hk6, rfl⟩ := cls_ex hv
    by_cases hc : k ≤ ordM a
    · have hoo : nI k ≤ openN (M 0).1 64 := by rw [hC]; exact (le_nI rfl (by omega) (by omega)).mpr hc
      obtain ⟨hs, hmk, hlg, hCe⟩ := drw_R (L := L) hm.he hm.gr hb hk1 hk6 hc
      by_cases hu : 0 ≤ p1 ∧ p1 < nI k
      · obtain ⟨w, hw, rfl⟩ := nI_ex rfl (by omega) hu.1 hu.2
        exact ⟨0, 0, by decide, by decide, wl_classBegin hl LW_6 (ev_classBegin hl hk1 hk6 hoo hw) (ok_rt (jp_ok (ev_mClassBegin hl hk1 hk6 hc (clb_some h64 hmk hlg hw)) rfl (jo_begin hs hlg hw) (RelP.same hR rfl rfl rfl rfl rfl rfl rfl rfl rfl rfl rfl rfl rfl rfl rfl rfl rfl (fun _ _ => rfl)))) ex_rt⟩
      · exact ⟨1, 6, by decide, by decide, wl_classBegin hl LW_6 (ev_classBegin_no3 hl hv hoo hu) ok_tr (ex_tr (Or.inr (Or.inr ⟨rfl, jp_no (by decide) (ev_mClassBegin_no3 hl hk1 hk6 hc (clb_none h64 hmk hlg (fun w hw e => hu (by rw [e]; exact ⟨(le_nI (a := 0) rfl (by omega) (by omega)).mpr (by omega), (lt_nI rfl (by omega) (by omega)).mpr hw⟩)))) rfl (RelP.same hR rfl rfl rfl rfl rfl rfl rfl rfl rfl rfl rfl rfl rfl rfl rfl rfl rfl (fun _ _ => rfl))⟩)))⟩
    · have hno : ¬ nI k ≤ nI (ordM a) := fun w => hc ((le_nI rfl (by omega) (by omega)).mp w)
      have hoo : ¬ nI k ≤ openN (M 0).1 64 := by rw [hC]; exact hno
      exact ⟨1, 6, by decide, by decide, wl_classBegin hl LW_6 (ev_classBegin_no2 hl hv hoo) ok_tr (ex_tr (Or.inr (Or.inl ⟨rfl, jp_no (by decide) (ev_mClassBegin_no hl (fun w => hno w.2)) (jo_dv2 hv (by decide)) (RelP.same hR rfl rfl rfl rfl rfl rfl rfl rfl rfl rfl rfl rfl rfl rfl rfl rfl rfl (fun _ _ => rfl))⟩)))⟩
  · exact ⟨1, 6, by decide, by decide, wl_classBegin hl LW_6 (ev_classBegin_no1 hl hv) ok_tr (ex_tr (Or.inl ⟨rfl, jp_no (by decide) (ev_mClassBegin_no hl (fun w => hv w.1)) (jo_dv1 hv rfl) (RelP.same hR rfl rfl rfl rfl rfl rfl rfl rfl rfl rfl rfl rfl rfl rfl rfl rfl rfl (fun _ _ => rfl))⟩))⟩

set_option maxRecDepth 100000 in
theorem jt_classOf {l : Launch} {G : GG} (hl : l.stackTraces = false) {A : AD} {n : Nat} {M : Nat → MS} {N : Nat × Nat} {c : Nat → Int32} {q : Nat → Nat} {H : HS} {L : LgS} {R : RS} {t l9 : SB} {O : OB} {a : Nat → Nat → Int32} {f : Nat → Int32} {fo : Nat → Int64} {fd : Nat → UInt64} (hR : RelX n (M, N, c, q, H, L, R, t, l9, O) (a, f)) {p0 p1 p2 : Int32} : Jt l G A n 14 mL_classOf [.ref (A 6 0), .int p0, .int p1, .int p2, .ref (A 60 0)] 13 mX10_classOf [.ref (A 30 0), .int p0, .int p1, .int p2] (M, N, c, q, H, L, R, t, l9, O) (a, f) fo fd := by
  have hR : RelP n M N t l9 O a f := hR
  obtain ⟨B, hB, hm, ⟨ho, ht⟩, hG, hbb⟩ := RelP.m0 hR
  have hC := jo_ord hm
  have h64 := jo_le hm
  have hb := jo_bn hm ho
  by_cases hc : cellB p0 p1
  · obtain ⟨i, j, hi, hj, rfl, rfl⟩ := cellB_ex hc
    have hk : 8 * j + i < 64 := by omega
    have hc0 := hc
    by_cases hv : clsP p2
    · obtain ⟨k, hk1, hk6, rfl⟩ := cls_ex hv
      by_cases hc : k ≤ ordM a
      · have hoo : nI k ≤ openN (M 0).1 64 := by rw [hC]; exact (le_nI rfl (by omega) (by omega)).mpr hc
        obtain ⟨hs, hmk, hlg, hCe⟩ := drw_R (L := L) hm.he hm.gr hb hk1 hk6 hc
        by_cases hr : (M 0).1 (8 * j + i) = 35
        · have hno : fsN (fun k => decide (ordP a k = nI (8 * j + i))) (ordM a) 0 = none := fs_none _ _ (fun x _ hx => decide_eq_false (fun e => by
            obtain ⟨y, y1, y2, y3⟩ := (ord_64 (L := L) hm.he hm.gr).2.2.2.2 x (by omega)
            have e2 : 8 * j + i = y := (nI_inj (by omega) (by omega)).mp (e.symm.trans y2)
            rw [← e2, ← hm.gr _ hk] at y3
            exact y3 hr))
          exact ⟨1, 6, by decide, by decide, wl_classOf hl LW_6 (ev_classOf_no4 hl hi hj hv hoo hr) ok_tr (ex_tr (Or.inr (Or.inr (Or.inr ⟨rfl, jp_no (by decide) (ev_mClassOf_no4 hl hi hj hk1 hk6 hc hno) rfl (RelP.same hR rfl rfl rfl rfl rfl rfl rfl rfl rfl rfl rfl rfl rfl rfl rfl rfl rfl (fun _ _ => rfl))⟩))))⟩
        · obtain ⟨k0, k1, k2, k3⟩ := jo_least (P := ordP a) (x := nI (8 * j + i)) (ordM a) (ord_ex (H := a 0) (R := fun c => a 0 (128 + c)) (P0 := a 10) 64 (8 * j + i) hk (fun w => hr ((hm.gr _ hk).trans w)))
          exact ⟨0, 0, by decide, by decide, wl_classOf hl LW_6 (ev_classOf hl hi hj hk1 hk6 hoo hr) (ok_rt (jp_ok (ev_mClassOf hl hi hj hk1 hk6 hc (fs_some _ _ (Nat.zero_le _) (by omega) (decide_eq_true k2) (fun x _ hx => decide_eq_false (k3 x hx)))) rfl (cl_eq hCe hmk hlg k1 k2 k3) (RelP.same hR rfl rfl rfl rfl rfl rfl rfl rfl rfl rfl rfl rfl rfl rfl rfl rfl rfl (fun _ _ => rfl)))) ex_rt⟩
      · have hno : ¬ nI k ≤ nI (ordM a) := fun w => hc ((le_nI rfl (by omega) (by omega)).mp w)
        have hoo : ¬ nI k ≤ openN (M 0).1 64 := by rw [hC]; exact hno
        exact ⟨1, 6, by decide, by decide, wl_classOf hl LW_6 (ev_classOf_no3 hl hc0 hv hoo) ok_tr (ex_tr (Or.inr (Or.inr (Or.inl ⟨rfl, jp_no (by decide) (ev_mClassOf_no hl hi hj (fun w => hno w.2)) (jo_dv2 hv (by decide)) (RelP.same hR rfl rfl rfl rfl rfl rfl rfl rfl rfl rfl rfl rfl rfl rfl rfl rfl rfl (fun _ _ => rfl))⟩))))⟩
    · exact ⟨1, 6, by decide, by decide, wl_classOf hl LW_6 (ev_classOf_no2 hl hc0 hv) ok_tr (ex_tr (Or.inr (Or.inl ⟨rfl, jp_no (by decide) (ev_mClassOf_no hl hi hj (fun w => hv w.1)) (jo_dv1 hv rfl) (RelP.same hR rfl rfl rfl rfl rfl rfl rfl rfl rfl rfl rfl rfl rfl rfl rfl rfl rfl (fun _ _ => rfl))⟩)))⟩
  · exact ⟨1, 6, by decide, by decide, wl_classOf hl LW_6 (ev_classOf_no1 hl hc) ok_tr (ex_tr (Or.inl ⟨rfl, jp_no (by decide) (ev_mClassOf_no1 hl hc) rfl (RelP.same hR rfl rfl rfl rfl rfl rfl rfl rfl rfl rfl rfl rfl rfl rfl rfl rfl rfl (fun _ _ => rfl))⟩))⟩

set_option maxRecDepth 100000 in
theorem jt_describeRow {l : Launch} {G : GG} (hl : l.stackTraces = false) {A : AD} {n : Nat} {M : Nat → MS} {N : Nat × Nat} {c : Nat → Int32} {q : Nat → Nat} {H : HS} {L : LgS} {R : RS} {t l9 : SB} {O : OB} {a : Nat → Nat → Int32} {f : Nat → Int32} {fo : Nat → Int64} {fd : Nat → UInt64} (hR : RelX n (M, N, c, q, H, L, R, t, l9, O) (a, f)) {p0 : Int32} : Jt l G A n 33 mL_describeRow [.ref (A 6 0), .int p0, .ref (A 60 0)] 11 mX10_describeRow [.ref (A 30 0), .int p0] (M, N, c, q, H, L, R, t, l9, O) (a, f) fo fd := by
  have hR : RelP n M N t l9 O a f := hR
  obtain ⟨B, hB, hm, ⟨ho, ht⟩, hG, hbb⟩ := RelP.m0 hR
  obtain ⟨T9, hB9, -⟩ := RelP.text hR
  have hH : hOk (M 0) := fun i hi => by
    have z := (aI_bd ho).1 i hi
    refine ⟨Int32.le_iff_toInt_le.mpr z.1, ?_⟩
    rw [Int32.lt_iff_toInt_lt]
    show ((M 0).2.1 i).toInt < 10000000
    omega
  by_cases hc : cellB 0 p0
  · obtain ⟨j, hj, rfl⟩ := nI_ex (b := 8) (n := 8) rfl (by decide) hc.2.2.1 hc.2.2.2
    exact ⟨9, 1278, by decide, by decide, wl_describeRow hl LW_6 (ev_describeRow hl hj hH hG hB9) (ok_rtx (fun x9 => jp_ok (ev_mRow hl hj) rfl (rfl) (RelP.line (T9 := (rowF (M 0) j, 8)) hR x9.2 (by show 8 ≤ 79; omega) rfl (fun y hy => by
        have hy8 : y < 8 := hy
        show (if y < 8 then srM (a 0) (8 * j + y) else a 15 y) = nI (sgN (M 0) (8 * j + y))
        rw [if_pos hy8, jo_sr hm ho (by omega)]
        exact (sgn_ok (hH _ (by omega)).1 (hG _ (by omega))).1) rfl rfl rfl rfl rfl rfl rfl rfl rfl rfl rfl rfl rfl ))) ex_rtx⟩
  · have hcx : ¬ (0 ≤ p0 ∧ p0 ≤ 7) := fun w => hc ⟨Int32.le_refl _, by decide, w.1, by
      have z := Int32.le_iff_toInt_le.mp w.2
      rw [Int32.lt_iff_toInt_lt]
      show p0.toInt < 8
      have z2 : p0.toInt ≤ 7 := z
      omega⟩
    exact ⟨1, 6, by decide, by decide, wl_describeRow hl LW_6 (ev_describeRow_no hl hc) ok_tr (ex_tr ⟨rfl, jp_no (by decide) (ev_mRow_no hl hcx) rfl (RelP.same hR rfl rfl rfl rfl rfl rfl rfl rfl rfl rfl rfl rfl rfl rfl rfl rfl rfl (fun _ _ => rfl))⟩)⟩

set_option maxRecDepth 100000 in
theorem jt_describeLegend {l : Launch} {G : GG} (hl : l.stackTraces = false) {A : AD} {n : Nat} {M : Nat → MS} {N : Nat × Nat} {c : Nat → Int32} {q : Nat → Nat} {H : HS} {L : LgS} {R : RS} {t l9 : SB} {O : OB} {a : Nat → Nat → Int32} {f : Nat → Int32} {fo : Nat → Int64} {fd : Nat → UInt64} (hR : RelX n (M, N, c, q, H, L, R, t, l9, O) (a, f)) (hn : n < 512) {p0 : Int32} : Jt l G A n 33 mL_describeLegend [.ref (A 6 0), .int p0, .ref (A 60 0)] 13 mX10_describeLegend [.ref (A 30 0), .int p0] (M, N, c, q, H, L, R, t, l9, O) (a, f) fo fd := by
  have hR : RelP n M N t l9 O a f := hR
  obtain ⟨B, hB, hm, ⟨ho, ht⟩, hG, hbb⟩ := RelP.m0 hR
  obtain ⟨T9, hB9, -⟩ := RelP.text hR
  have hq : (M 0).2.2.2.2.2.2.2.toInt ≤ 509490 ∨ ∀ i, i < 64 → ((M 0).2.1 i).toInt ≤ 9999 := by
    rcases hbb with w | w
    · exact Or.inl (by omega)
    · exact Or.inr w.2
  have hh : ∀ i, i < 64 → 0 ≤ a 0 i ∧ a 0 i < 10000000 := fun i hi => by
    rw [← hm.he i hi]
    have z := (aI_bd ho).1 i hi
    refine ⟨Int32.le_iff_toInt_le.mpr z.1, ?_⟩
    rw [Int32.lt_iff_toInt_lt]
    show ((M 0).2.1 i).toInt < 10000000
    omega
  have hC := jo_ord hm
  have h64 := jo_le hm
  have hb := jo_bn hm ho
  by_cases hv : clsP p0
  · obtain ⟨k, hk1, hk6, rfl⟩ := cls_ex hv
    by_cases hc : k ≤ ordM a
    · have hoo : nI k ≤ openN (M 0).1 64 := by rw [hC]; exact (le_nI rfl (by omega) (by omega)).mpr hc
      obtain ⟨hs, hmk, hlg, hCe⟩ := drw_R (L := L) hm.he hm.gr hb hk1 hk6 hc
      obtain ⟨w1, w2, w3, w4⟩ := line_R (L := L) hm.he hm.gr ho hk1 hk6 hc hq
      exact ⟨4 * k + 1, 142 * (4 * k + 1), by omega, by omega, wl_describeLegend hl LW_6 (ev_describeLegend hl hk1 hk6 hoo w3 w4 hB9) (ok_rtx (fun x9 => jp_okx (ev_mLegend hl hk1 hk6 hc hh (by omega)) (fun _ => rfl) (by rw [w1]) (fun y9 => RelP.line (T9 := dlT (a 0) (ordP a) (dvB a k) (ordM a) (ordM a)) hR (by rw [w1]; exact x9.2) w2 rfl y9.2 rfl rfl rfl rfl rfl rfl rfl rfl rfl rfl rfl rfl rfl )) ) ex_rtx⟩
    · have hno : ¬ nI k ≤ nI (ordM a) := fun w => hc ((le_nI rfl (by omega) (by omega)).mp w)
      have hoo : ¬ nI k ≤ openN (M 0).1 64 := by rw [hC]; exact hno
      exact ⟨1, 6, by decide, by decide, wl_describeLegend hl LW_6 (ev_describeLegend_no2 hl hv hoo) ok_tr (ex_tr (Or.inr ⟨rfl, jp_no (by decide) (ev_mLegend_no hl (fun w => hno w.2)) (jo_dv2 hv (by decide)) (RelP.same hR rfl rfl rfl rfl rfl rfl rfl rfl rfl rfl rfl rfl rfl rfl rfl rfl rfl (fun _ _ => rfl))⟩))⟩
  · exact ⟨1, 6, by decide, by decide, wl_describeLegend hl LW_6 (ev_describeLegend_no1 hl hv) ok_tr (ex_tr (Or.inl ⟨rfl, jp_no (by decide) (ev_mLegend_no hl (fun w => hv w.1)) (jo_dv1 hv rfl) (RelP.same hR rfl rfl rfl rfl rfl rfl rfl rfl rfl rfl rfl rfl rfl rfl rfl rfl rfl (fun _ _ => rfl))⟩))⟩

set_option maxRecDepth 100000 in
theorem jo_l1 {x : Int32} {n : Nat} (hn : n ≤ 1000) : (0 ≤ x ∧ x < nI n) ↔ (0 ≤ x ∧ x ≤ nI n - 1) := by
  have e : (nI n).toInt = n := nI_toInt (by omega)
  have e2 : (nI n - 1).toInt = (nI n).toInt - 1 := fb_subI (by show _ ≤ (nI n).toInt - 1; omega) (by show (nI n).toInt - 1 < _; omega)
  rw [Int32.lt_iff_toInt_lt, Int32.le_iff_toInt_le (y := nI n - 1), e2]
  exact and_congr Iff.rfl (by omega)
set_option maxRecDepth 100000 in
theorem jt_lineAt {l : Launch} {G : GG} (hl : l.stackTraces = false) {A : AD} {n : Nat} {M : Nat → MS} {N : Nat × Nat} {c : Nat → Int32} {q : Nat → Nat} {H : HS} {L : LgS} {R : RS} {t l9 : SB} {O : OB} {a : Nat → Nat → Int32} {f : Nat → Int32} {fo : Nat → Int64} {fd : Nat → UInt64} (hR : RelX n (M, N, c, q, H, L, R, t, l9, O) (a, f)) {p0 : Int32} : Jt l G A n 15 mL_lineAt [.ref (A 6 0), .int p0, .ref (A 60 0)] 11 mX10_lineAt [.ref (A 30 0), .int p0] (M, N, c, q, H, L, R, t, l9, O) (a, f) fo fd := by
  have hR : RelP n M N t l9 O a f := hR
  obtain ⟨B, hB, hm, ⟨ho, ht⟩, hG, hbb⟩ := RelP.m0 hR
  obtain ⟨T9, hB9, h79, h29, h15⟩ := RelP.text hR
  by_cases hx : 0 ≤ p0 ∧ p0 < nI T9.2
  · obtain ⟨i, hi, rfl⟩ := nI_ex rfl (by omega) hx.1 hx.2
    exact ⟨0, 0, by decide, by decide, wl_lineAt hl LW_6 (ev_lineAt hl (by omega) hB9 hi) (ok_rt (jp_ok (ev_mLineAt hl (by omega) (by rw [h29]; exact (jo_l1 (by omega)).mp hx) (h15 i hi).1 (h15 i hi).2) rfl (rfl) (RelP.same hR rfl rfl rfl rfl rfl rfl rfl rfl rfl rfl rfl rfl rfl rfl rfl rfl rfl (fun _ _ => rfl)))) ex_rt⟩
  · exact ⟨1, 6, by decide, by decide, wl_lineAt hl LW_6 (ev_lineAt_no hl hB9 hx) ok_tr (ex_tr ⟨rfl, jp_no (by decide) (ev_mLineAt_no hl (by rw [h29]; exact fun w => hx ((jo_l1 (by omega)).mpr w))) rfl (RelP.same hR rfl rfl rfl rfl rfl rfl rfl rfl rfl rfl rfl rfl rfl rfl rfl rfl rfl (fun _ _ => rfl))⟩)⟩

set_option maxRecDepth 100000 in
theorem f2d_64 : ∀ k, k < 65 → vf_n64 (FP.f2d (FP.fdiv (FP.i2f (nI k)) 1115684864)) := by
  unfold vf_n64
  decide +kernel

set_option maxRecDepth 100000 in
theorem jt_meanHeat {l : Launch} {G : GG} (hl : l.stackTraces = false) {A : AD} {n : Nat} {M : Nat → MS} {N : Nat × Nat} {c : Nat → Int32} {q : Nat → Nat} {H : HS} {L : LgS} {R : RS} {t l9 : SB} {O : OB} {a : Nat → Nat → Int32} {f : Nat → Int32} {fo : Nat → Int64} {fd : Nat → UInt64} (hR : RelX n (M, N, c, q, H, L, R, t, l9, O) (a, f)) : JtD l G A n 13 mL_meanHeat [.ref (A 6 0), .ref (A 61 0)] 11 mX10_meanHeat [.ref (A 30 0)] (M, N, c, q, H, L, R, t, l9, O) (a, f) fo fd := by
  have hR : RelP n M N t l9 O a f := hR
  obtain ⟨B, hB, hm, ⟨ho, ht⟩, hG, hbb⟩ := RelP.m0 hR
  have eo : openN (M 0).1 64 = opM (fun c => a 0 (128 + c)) 64 := (jo_open 64 hm.gr).trans (op_eq 64)
  have es : sumN (M 0).2.1 64 = sumN (a 0) 64 := sumN_cong 64 hm.he
  by_cases hz : openN (M 0).1 64 = 0
  · exact ⟨1, 6, by decide, by decide, wl_meanHeat hl LW_6 (ev_meanHeat_no hl hz) ok_tr (ex_tr ⟨rfl, jg_rt (ev_mMean_no hl (eo.symm.trans hz)) rfl (fun q => absurd q (by decide)) (RelP.same hR rfl rfl rfl rfl rfl rfl rfl rfl rfl rfl rfl rfl rfl rfl rfl rfl rfl (fun _ _ => rfl))⟩)⟩
  · exact ⟨0, 0, by decide, by decide, wl_meanHeat hl LW_6 (ev_meanHeat hl hz (mean_n hz)) (ok_rtD (jg_rt (ev_mMean hl (by rw [← eo]; exact hz) (by rw [← eo]; exact mean_n hz)) rfl (fun _ => by show va_up fd 0 _ 0 = _; rw [va_up_self, eo, es]) (RelP.same hR rfl rfl rfl rfl rfl rfl rfl rfl rfl rfl rfl rfl rfl rfl rfl rfl rfl (fun _ _ => rfl)))) ex_rt⟩

set_option maxRecDepth 100000 in
theorem jt_levelShare {l : Launch} {G : GG} (hl : l.stackTraces = false) {A : AD} {n : Nat} {M : Nat → MS} {N : Nat × Nat} {c : Nat → Int32} {q : Nat → Nat} {H : HS} {L : LgS} {R : RS} {t l9 : SB} {O : OB} {a : Nat → Nat → Int32} {f : Nat → Int32} {fo : Nat → Int64} {fd : Nat → UInt64} (hR : RelX n (M, N, c, q, H, L, R, t, l9, O) (a, f)) {p0 : Int32} : JtF l G A n 13 mL_levelShare [.ref (A 6 0), .int p0, .ref (A 61 0)] 11 mX10_levelShare [.ref (A 30 0), .int p0] (M, N, c, q, H, L, R, t, l9, O) (a, f) fo fd := by
  have hR : RelP n M N t l9 O a f := hR
  obtain ⟨B, hB, hm, ⟨ho, ht⟩, hG, hbb⟩ := RelP.m0 hR
  have hL : levN (M 0).2.1 p0 64 = levN (a 0) p0 64 := lev_cong2 hm.he
  have f2 : ∀ x : Int64, vf_n64 (FP.f2d (FP.fdiv (FP.i2f (pcJ x)) 1115684864)) := fun x => by
    rw [pcJ_cnt]
    exact f2d_64 _ (Nat.lt_succ_of_le (fb_ct_le _ 64))
  by_cases hv : levP p0
  · have ec : cntM (a 0) p0 64 = pcJ (levN (M 0).2.1 p0 64) := by rw [hL]; exact cnt_eq.symm
    exact ⟨0, 0, by decide, by decide, wl_levelShare hl LW_6 (ev_levelShare hl hv share_n) (ok_rtF (f2 _) (jg_rt (ev_mShare hl hv (by rw [ec]; exact share_n)) rfl (fun _ => ⟨by show va_up fd 0 _ 0 = _; rw [va_up_self, ec], by rw [ec]; exact f2 _⟩) (RelP.same hR rfl rfl rfl rfl rfl rfl rfl rfl rfl rfl rfl rfl rfl rfl rfl rfl rfl (fun _ _ => rfl)))) ex_rt⟩
  · exact ⟨1, 6, by decide, by decide, wl_levelShare hl LW_6 (ev_levelShare_no hl hv) ok_tr (ex_tr ⟨rfl, jg_rt (ev_mShare_no hl hv) rfl (fun q => absurd q (by decide)) (RelP.same hR rfl rfl rfl rfl rfl rfl rfl rfl rfl rfl rfl rfl rfl rfl rfl rfl rfl (fun _ _ => rfl))⟩)⟩

set_option maxRecDepth 100000 in
theorem jo_cb {m : Nat → Int32} {v : Int32} : ∀ k, levN m v k = cbN m v k
  | 0 => rfl
  | k + 1 => by
    rw [levN, cbN, jo_cb k]
    by_cases e : v ≤ m k
    · rw [if_pos e, if_pos e]
    · rw [if_neg e, if_neg e, Int64.or_zero]
set_option maxRecDepth 100000 in
theorem jt_cellBits {l : Launch} {G : GG} (hl : l.stackTraces = false) {A : AD} {n : Nat} {M : Nat → MS} {N : Nat × Nat} {c : Nat → Int32} {q : Nat → Nat} {H : HS} {L : LgS} {R : RS} {t l9 : SB} {O : OB} {a : Nat → Nat → Int32} {f : Nat → Int32} {fo : Nat → Int64} {fd : Nat → UInt64} (hR : RelX n (M, N, c, q, H, L, R, t, l9, O) (a, f)) {p0 : Int32} : JtL l G A n 13 mL_cellBits [.ref (A 6 0), .int p0, .ref (A 60 0)] 11 mX10_cellBits [.ref (A 30 0), .int p0] (M, N, c, q, H, L, R, t, l9, O) (a, f) fo fd := by
  have hR : RelP n M N t l9 O a f := hR
  obtain ⟨B, hB, hm, ⟨ho, ht⟩, hG, hbb⟩ := RelP.m0 hR
  have hL : levN (M 0).2.1 p0 64 = levN (a 0) p0 64 := lev_cong2 hm.he
  by_cases hv : levP p0
  · exact ⟨0, 0, by decide, by decide, wl_cellBits hl LW_6 (ev_cellBits hl hv) (ok_rtL (jg_rt (ev_mCellBits hl hv) rfl (fun _ => by show va_up fo 0 _ 0 = _; rw [va_up_self, hL]; exact jo_cb 64) (RelP.same hR rfl rfl rfl rfl rfl rfl rfl rfl rfl rfl rfl rfl rfl rfl rfl rfl rfl (fun _ _ => rfl)))) ex_rt⟩
  · exact ⟨1, 6, by decide, by decide, wl_cellBits hl LW_6 (ev_cellBits_no hl hv) ok_tr (ex_tr ⟨rfl, jg_rt (ev_mCellBits_no hl hv) rfl (fun q => absurd q (by decide)) (RelP.same hR rfl rfl rfl rfl rfl rfl rfl rfl rfl rfl rfl rfl rfl rfl rfl rfl rfl (fun _ _ => rfl))⟩)⟩
