/-! Calls in both: shapes and ways (by wip/whole/gen/m60.py) -/
set_option maxRecDepth 100000 in
theorem shp_lv (m : Nat → Int32) (v : Int32) : (regN 64 0 (levN m v 64) 0 = unAN (levN m v 64) 64 ∧ holN 64 0 (levN m v 64 ^^^ (-1)) 0 = unAN (levN m v 64) 64 - sqAll (levN m v 64) 9 (-1) 0 / 4 ∧ conN (levN m v 64) 64 = 4 * pcJ (levN m v 64) - 2 * (pcJ (levN m v 64 &&& srl (levN m v 64) 1 &&& 9187201950435737471) + pcJ (levN m v 64 &&& srl (levN m v 64) 8))) := shp_all (m, m, m, m, m, 0, 0, 0) v

set_option maxRecDepth 100000 in
theorem jt_regions {l : Launch} {G : GG} (hl : l.stackTraces = false) {A : AD} {n : Nat} {M : Nat → MS} {N : Nat × Nat} {c : Nat → Int32} {q : Nat → Nat} {H : HS} {L : LgS} {R : RS} {t l9 : SB} {O : OB} {a : Nat → Nat → Int32} {f : Nat → Int32} {fo : Nat → Int64} {fd : Nat → UInt64} (hR : RelX n (M, N, c, q, H, L, R, t, l9, O) (a, f)) {p0 : Int32} : Jt l G A n 14 mL_regions [.ref (A 6 0), .int p0, .ref (A 60 0)] 13 mX10_regions [.ref (A 30 0), .int p0] (M, N, c, q, H, L, R, t, l9, O) (a, f) fo fd := by
  have hR : RelP n M N t l9 O a f := hR
  obtain ⟨B, hB, hm, ⟨ho, ht⟩, hG, hbb⟩ := RelP.m0 hR
  have hL : levN (M 0).2.1 p0 64 = levN (a 0) p0 64 := lev_cong2 hm.he
  by_cases hv : levP p0
  · exact ⟨0, 0, by decide, by decide, wl_regions hl LW_6 (ev_regions hl hv) (ok_rt (jp_okx (ev_mRegions hl hv) (fun _ => rfl) (by rw [hL]; exact reg_eq) (fun y9 => (RelP.same hR rfl rfl rfl rfl rfl rfl rfl rfl rfl rfl rfl rfl rfl rfl rfl rfl rfl (fun _ _ => rfl))))) ex_rt⟩
  · exact ⟨1, 6, by decide, by decide, wl_regions hl LW_6 (ev_regions_no hl hv) ok_tr (ex_tr ⟨rfl, jp_no (by decide) (ev_mRegions_no hl hv) rfl (RelP.same hR rfl rfl rfl rfl rfl rfl rfl rfl rfl rfl rfl rfl rfl rfl rfl rfl rfl (fun _ _ => rfl))⟩)⟩

set_option maxRecDepth 100000 in
theorem jt_regionsByUnions {l : Launch} {G : GG} (hl : l.stackTraces = false) {A : AD} {n : Nat} {M : Nat → MS} {N : Nat × Nat} {c : Nat → Int32} {q : Nat → Nat} {H : HS} {L : LgS} {R : RS} {t l9 : SB} {O : OB} {a : Nat → Nat → Int32} {f : Nat → Int32} {fo : Nat → Int64} {fd : Nat → UInt64} (hR : RelX n (M, N, c, q, H, L, R, t, l9, O) (a, f)) {p0 : Int32} : Jt l G A n 14 mL_regionsByUnions [.ref (A 6 0), .int p0, .ref (A 60 0)] 14 mX10_regionsByUnions [.ref (A 30 0), .int p0] (M, N, c, q, H, L, R, t, l9, O) (a, f) fo fd := by
  have hR : RelP n M N t l9 O a f := hR
  obtain ⟨B, hB, hm, ⟨ho, ht⟩, hG, hbb⟩ := RelP.m0 hR
  have hL : levN (M 0).2.1 p0 64 = levN (a 0) p0 64 := lev_cong2 hm.he
  by_cases hv : levP p0
  · exact ⟨0, 0, by decide, by decide, wl_regionsByUnions hl LW_6 (ev_regionsU hl hv) (ok_rtx (fun x9 => jp_okx (ev_mRegionsU hl hv) (fun _ => rfl) (by rw [hL]; exact (shp_lv (a 0) p0).1.symm.trans reg_eq) (fun y9 => (RelP.same hR rfl rfl rfl rfl rfl rfl rfl rfl rfl rfl rfl rfl rfl rfl rfl rfl rfl (fun _ _ => rfl))))) ex_rtx⟩
  · exact ⟨1, 6, by decide, by decide, wl_regionsByUnions hl LW_6 (ev_regionsU_no hl hv) ok_tr (ex_tr ⟨rfl, jp_no (by decide) (ev_mRegionsU_no hl hv) rfl (RelP.same hR rfl rfl rfl rfl rfl rfl rfl rfl rfl rfl rfl rfl rfl rfl rfl rfl rfl (fun _ _ => rfl))⟩)⟩

set_option maxRecDepth 100000 in
theorem jt_holes {l : Launch} {G : GG} (hl : l.stackTraces = false) {A : AD} {n : Nat} {M : Nat → MS} {N : Nat × Nat} {c : Nat → Int32} {q : Nat → Nat} {H : HS} {L : LgS} {R : RS} {t l9 : SB} {O : OB} {a : Nat → Nat → Int32} {f : Nat → Int32} {fo : Nat → Int64} {fd : Nat → UInt64} (hR : RelX n (M, N, c, q, H, L, R, t, l9, O) (a, f)) {p0 : Int32} : Jt l G A n 14 mL_holes [.ref (A 6 0), .int p0, .ref (A 60 0)] 13 mX10_holes [.ref (A 30 0), .int p0] (M, N, c, q, H, L, R, t, l9, O) (a, f) fo fd := by
  have hR : RelP n M N t l9 O a f := hR
  obtain ⟨B, hB, hm, ⟨ho, ht⟩, hG, hbb⟩ := RelP.m0 hR
  have hL : levN (M 0).2.1 p0 64 = levN (a 0) p0 64 := lev_cong2 hm.he
  by_cases hv : levP p0
  · exact ⟨0, 0, by decide, by decide, wl_holes hl LW_6 (ev_holes hl hv) (ok_rt (jp_okx (ev_mHoles hl hv) (fun _ => rfl) (by rw [hL]; exact hol_eq) (fun y9 => (RelP.same hR rfl rfl rfl rfl rfl rfl rfl rfl rfl rfl rfl rfl rfl rfl rfl rfl rfl (fun _ _ => rfl))))) ex_rt⟩
  · exact ⟨1, 6, by decide, by decide, wl_holes hl LW_6 (ev_holes_no hl hv) ok_tr (ex_tr ⟨rfl, jp_no (by decide) (ev_mHoles_no hl hv) rfl (RelP.same hR rfl rfl rfl rfl rfl rfl rfl rfl rfl rfl rfl rfl rfl rfl rfl rfl rfl (fun _ _ => rfl))⟩)⟩

set_option maxRecDepth 100000 in
theorem jt_holesBySquares {l : Launch} {G : GG} (hl : l.stackTraces = false) {A : AD} {n : Nat} {M : Nat → MS} {N : Nat × Nat} {c : Nat → Int32} {q : Nat → Nat} {H : HS} {L : LgS} {R : RS} {t l9 : SB} {O : OB} {a : Nat → Nat → Int32} {f : Nat → Int32} {fo : Nat → Int64} {fd : Nat → UInt64} (hR : RelX n (M, N, c, q, H, L, R, t, l9, O) (a, f)) {p0 : Int32} : Jt l G A n 16 mL_holesBySquares [.ref (A 6 0), .int p0, .ref (A 60 0)] 14 mX10_holesBySquares [.ref (A 30 0), .int p0] (M, N, c, q, H, L, R, t, l9, O) (a, f) fo fd := by
  have hR : RelP n M N t l9 O a f := hR
  obtain ⟨B, hB, hm, ⟨ho, ht⟩, hG, hbb⟩ := RelP.m0 hR
  have hL : levN (M 0).2.1 p0 64 = levN (a 0) p0 64 := lev_cong2 hm.he
  by_cases hv : levP p0
  · exact ⟨0, 0, by decide, by decide, wl_holesBySquares hl LW_6 (ev_holesBySquares hl hv) (ok_rtx (fun x9 => jp_okx (ev_mHolesS hl hv) (fun _ => rfl) (by rw [hL]; exact (shp_lv (a 0) p0).2.1.symm.trans hol_eq) (fun y9 => (RelP.same hR rfl rfl rfl rfl rfl rfl rfl rfl rfl rfl rfl rfl rfl rfl rfl rfl rfl (fun _ _ => rfl))))) ex_rtx⟩
  · exact ⟨1, 6, by decide, by decide, wl_holesBySquares hl LW_6 (ev_holesBySquares_no hl hv) ok_tr (ex_tr ⟨rfl, jp_no (by decide) (ev_mHolesS_no hl hv) rfl (RelP.same hR rfl rfl rfl rfl rfl rfl rfl rfl rfl rfl rfl rfl rfl rfl rfl rfl rfl (fun _ _ => rfl))⟩)⟩

set_option maxRecDepth 100000 in
theorem jt_contourLength {l : Launch} {G : GG} (hl : l.stackTraces = false) {A : AD} {n : Nat} {M : Nat → MS} {N : Nat × Nat} {c : Nat → Int32} {q : Nat → Nat} {H : HS} {L : LgS} {R : RS} {t l9 : SB} {O : OB} {a : Nat → Nat → Int32} {f : Nat → Int32} {fo : Nat → Int64} {fd : Nat → UInt64} (hR : RelX n (M, N, c, q, H, L, R, t, l9, O) (a, f)) {p0 : Int32} : Jt l G A n 14 mL_contourLength [.ref (A 6 0), .int p0, .ref (A 60 0)] 11 mX10_contourLength [.ref (A 30 0), .int p0] (M, N, c, q, H, L, R, t, l9, O) (a, f) fo fd := by
  have hR : RelP n M N t l9 O a f := hR
  obtain ⟨B, hB, hm, ⟨ho, ht⟩, hG, hbb⟩ := RelP.m0 hR
  have hL : levN (M 0).2.1 p0 64 = levN (a 0) p0 64 := lev_cong2 hm.he
  by_cases hv : levP p0
  · exact ⟨0, 0, by decide, by decide, wl_contourLength hl LW_6 (ev_contour hl hv) (ok_rt (jp_ok (ev_mContour hl hv) rfl (by rw [hL]; exact (cc_con 64 (Nat.le_refl _)).symm) (RelP.same hR rfl rfl rfl rfl rfl rfl rfl rfl rfl rfl rfl rfl rfl rfl rfl rfl rfl (fun _ _ => rfl)))) ex_rt⟩
  · exact ⟨1, 6, by decide, by decide, wl_contourLength hl LW_6 (ev_contour_no hl hv) ok_tr (ex_tr ⟨rfl, jp_no (by decide) (ev_mContour_no hl hv) rfl (RelP.same hR rfl rfl rfl rfl rfl rfl rfl rfl rfl rfl rfl rfl rfl rfl rfl rfl rfl (fun _ _ => rfl))⟩)⟩

set_option maxRecDepth 100000 in
theorem jt_contourLengthByPairs {l : Launch} {G : GG} (hl : l.stackTraces = false) {A : AD} {n : Nat} {M : Nat → MS} {N : Nat × Nat} {c : Nat → Int32} {q : Nat → Nat} {H : HS} {L : LgS} {R : RS} {t l9 : SB} {O : OB} {a : Nat → Nat → Int32} {f : Nat → Int32} {fo : Nat → Int64} {fd : Nat → UInt64} (hR : RelX n (M, N, c, q, H, L, R, t, l9, O) (a, f)) {p0 : Int32} : Jt l G A n 13 mL_contourLengthByPairs [.ref (A 6 0), .int p0, .ref (A 60 0)] 12 mX10_contourLengthByPairs [.ref (A 30 0), .int p0] (M, N, c, q, H, L, R, t, l9, O) (a, f) fo fd := by
  have hR : RelP n M N t l9 O a f := hR
  obtain ⟨B, hB, hm, ⟨ho, ht⟩, hG, hbb⟩ := RelP.m0 hR
  have hL : levN (M 0).2.1 p0 64 = levN (a 0) p0 64 := lev_cong2 hm.he
  by_cases hv : levP p0
  · exact ⟨0, 0, by decide, by decide, wl_contourLengthByPairs hl LW_6 (ev_contourP hl hv) (ok_rt (jp_ok (ev_mContourP hl hv) rfl (by rw [hL]; exact (shp_lv (a 0) p0).2.2.symm.trans (cc_con 64 (Nat.le_refl _)).symm) (RelP.same hR rfl rfl rfl rfl rfl rfl rfl rfl rfl rfl rfl rfl rfl rfl rfl rfl rfl (fun _ _ => rfl)))) ex_rt⟩
  · exact ⟨1, 6, by decide, by decide, wl_contourLengthByPairs hl LW_6 (ev_contourP_no hl hv) ok_tr (ex_tr ⟨rfl, jp_no (by decide) (ev_mContourP_no hl hv) rfl (RelP.same hR rfl rfl rfl rfl rfl rfl rfl rfl rfl rfl rfl rfl rfl rfl rfl rfl rfl (fun _ _ => rfl))⟩)⟩

set_option maxRecDepth 100000 in
theorem jt_regionSize {l : Launch} {G : GG} (hl : l.stackTraces = false) {A : AD} {n : Nat} {M : Nat → MS} {N : Nat × Nat} {c : Nat → Int32} {q : Nat → Nat} {H : HS} {L : LgS} {R : RS} {t l9 : SB} {O : OB} {a : Nat → Nat → Int32} {f : Nat → Int32} {fo : Nat → Int64} {fd : Nat → UInt64} (hR : RelX n (M, N, c, q, H, L, R, t, l9, O) (a, f)) {p0 p1 p2 : Int32} : Jt l G A n 13 mL_regionSize [.ref (A 6 0), .int p0, .int p1, .int p2, .ref (A 60 0)] 13 mX10_regionSize [.ref (A 30 0), .int p0, .int p1, .int p2] (M, N, c, q, H, L, R, t, l9, O) (a, f) fo fd := by
  have hR : RelP n M N t l9 O a f := hR
  obtain ⟨B, hB, hm, ⟨ho, ht⟩, hG, hbb⟩ := RelP.m0 hR
  have hL : levN (M 0).2.1 p2 64 = levN (a 0) p2 64 := lev_cong2 hm.he
  by_cases hc : cellB p0 p1
  · obtain ⟨i, j, hi, hj, rfl, rfl⟩ := cellB_ex hc
    have hk : 8 * j + i < 64 := by omega
    by_cases hv : levP p2
    · exact ⟨0, 0, by decide, by decide, wl_regionSize hl LW_6 (ev_regionSize hl hi hj hv) (ok_rt (jp_okx (ev_mRegionSize hl hi hj hv) (fun _ => rfl) (by rw [hL]; exact sz_eq hk) (fun y9 => (RelP.same hR rfl rfl rfl rfl rfl rfl rfl rfl rfl rfl rfl rfl rfl rfl rfl rfl rfl (fun _ _ => rfl))))) ex_rt⟩
    · exact ⟨1, 6, by decide, by decide, wl_regionSize hl LW_6 (ev_regionSize_no2 hl hc hv) ok_tr (ex_tr (Or.inr ⟨rfl, jp_no (by decide) (ev_mRegionSize_no2 hl hc hv) rfl (RelP.same hR rfl rfl rfl rfl rfl rfl rfl rfl rfl rfl rfl rfl rfl rfl rfl rfl rfl (fun _ _ => rfl))⟩))⟩
  · exact ⟨1, 6, by decide, by decide, wl_regionSize hl LW_6 (ev_regionSize_no1 hl hc) ok_tr (ex_tr (Or.inl ⟨rfl, jp_no (by decide) (ev_mRegionSize_no1 hl hc) rfl (RelP.same hR rfl rfl rfl rfl rfl rfl rfl rfl rfl rfl rfl rfl rfl rfl rfl rfl rfl (fun _ _ => rfl))⟩))⟩

set_option maxRecDepth 100000 in
theorem jo_op {H H2 R R2 : Nat → Int32} (hH : ∀ i, i < 64 → H i = H2 i) (hR : ∀ i, i < 64 → R i = R2 i) {v : Int32} {c : Nat} (hc : c < 64) (q : opP H R v c) : opP H2 R2 v c := ⟨by rw [← hR c hc]; exact q.1, by rw [← hH c hc]; exact q.2⟩
theorem jo_wy {H H2 R R2 : Nat → Int32} (hH : ∀ i, i < 64 → H i = H2 i) (hR : ∀ i, i < 64 → R i = R2 i) {fm c : Nat} {v : Int32} (hf : fm < 64) (q : wyP H R fm v c) : wyP H2 R2 fm v c :=
  ⟨jo_op hH hR hf q.1, con_mono (fun _ _ z => ⟨z.1, z.2.1, jo_op hH hR z.1 z.2.2.1, jo_op hH hR z.2.1 z.2.2.2.1, z.2.2.2.2⟩) q.2⟩
theorem pk_cong {H H2 R R2 : Nat → Int32} (hH : ∀ i, i < 64 → H i = H2 i) (hR : ∀ i, i < 64 → R i = R2 i) {fm c : Nat} {v : Int32} (hf : fm < 64) (_hc : c < 64) (h : pkA H R fm c v) : (v = -1 ∧ ∀ w, ¬ wyP H2 R2 fm w c) ∨ (¬ v = -1 ∧ isPk H2 R2 fm c v) := by
  have hH2 : ∀ i, i < 64 → H2 i = H i := fun i hi => (hH i hi).symm
  have hR2 : ∀ i, i < 64 → R2 i = R i := fun i hi => (hR i hi).symm
  rcases h with ⟨h1, h2⟩ | ⟨h1, h2, h3⟩
  · exact Or.inl ⟨h1, fun w q => h2 w (jo_wy hH2 hR2 hf q)⟩
  · exact Or.inr ⟨h1, jo_wy hH hR hf h2, fun w q => h3 w (jo_wy hH2 hR2 hf q)⟩

set_option maxRecDepth 100000 in
theorem jt_coolestPeak {l : Launch} {G : GG} (hl : l.stackTraces = false) {A : AD} {n : Nat} {M : Nat → MS} {N : Nat × Nat} {c : Nat → Int32} {q : Nat → Nat} {H : HS} {L : LgS} {R : RS} {t l9 : SB} {O : OB} {a : Nat → Nat → Int32} {f : Nat → Int32} {fo : Nat → Int64} {fd : Nat → UInt64} (hR : RelX n (M, N, c, q, H, L, R, t, l9, O) (a, f)) {p0 p1 p2 p3 : Int32} : Jt l G A n 14 mL_coolestPeak [.ref (A 6 0), .int p0, .int p1, .int p2, .int p3, .ref (A 60 0)] 12 mX10_coolestPeak [.ref (A 30 0), .int p0, .int p1, .int p2, .int p3] (M, N, c, q, H, L, R, t, l9, O) (a, f) fo fd := by
  have hR : RelP n M N t l9 O a f := hR
  obtain ⟨B, hB, hm, ⟨ho, ht⟩, hG, hbb⟩ := RelP.m0 hR
  have h0 : ∀ i, i < 64 → 0 ≤ (M 0).2.1 i := fun i hi => Int32.le_iff_toInt_le.mpr (((aI_bd ho).1 i hi).1)
  have h0a : ∀ i, i < 64 → 0 ≤ a 0 i := fun i hi => by rw [← hm.he i hi]; exact h0 i hi
  by_cases hc : cellB p0 p1
  · by_cases hc2 : cellB p2 p3
    · obtain ⟨i, j, hi, hj, rfl, rfl⟩ := cellB_ex hc
      obtain ⟨i2, j2, hi2, hj2, rfl, rfl⟩ := cellB_ex hc2
      have hk : 8 * j + i < 64 := by omega
      have hk2 : 8 * j2 + i2 < 64 := by omega
      rcases pk_cong hm.he hm.gr hk hk2 (fp_pk hk hk2 h0 H.2) with ⟨hp, hw⟩ | ⟨hp, hw⟩
      · exact ⟨1, 6, by decide, by decide, wl_coolestPeak hl LW_6 (ev_coolestPeak_no2 hl hi hj hi2 hj2 hp) ok_trx (ex_trx (fun x9 => (Or.inr ⟨rfl, jp_nox (by decide) (ev_mPeak_no2 hl hi hj hi2 hj2 h0a hw) (fun _ => rfl) (fun y9 => (RelP.same hR rfl rfl rfl rfl rfl rfl rfl rfl rfl rfl rfl rfl rfl rfl rfl rfl rfl (fun _ _ => rfl)))⟩)))⟩
      · exact ⟨0, 0, by decide, by decide, wl_coolestPeak hl LW_6 (ev_coolestPeak hl hi hj hi2 hj2 hp) (ok_rtx (fun x9 => jp_okx (ev_mPeak hl hi hj hi2 hj2 h0a hw) (fun _ => rfl) (rfl) (fun y9 => (RelP.same hR rfl rfl rfl rfl rfl rfl rfl rfl rfl rfl rfl rfl rfl rfl rfl rfl rfl (fun _ _ => rfl))))) ex_rtx⟩
    · exact ⟨1, 6, by decide, by decide, wl_coolestPeak hl LW_6 (ev_coolestPeak_no1b hl hc hc2) ok_tr (ex_tr (Or.inl ⟨rfl, jp_no (by decide) (ev_mPeak_no1 hl (fun w => hc2 w.2)) rfl (RelP.same hR rfl rfl rfl rfl rfl rfl rfl rfl rfl rfl rfl rfl rfl rfl rfl rfl rfl (fun _ _ => rfl))⟩))⟩
  · exact ⟨1, 6, by decide, by decide, wl_coolestPeak hl LW_6 (ev_coolestPeak_no1 hl hc) ok_tr (ex_tr (Or.inl ⟨rfl, jp_no (by decide) (ev_mPeak_no1 hl (fun w => hc w.1)) rfl (RelP.same hR rfl rfl rfl rfl rfl rfl rfl rfl rfl rfl rfl rfl rfl rfl rfl rfl rfl (fun _ _ => rfl))⟩))⟩

set_option maxRecDepth 100000 in
theorem jt_coolestPeakByTrying {l : Launch} {G : GG} (hl : l.stackTraces = false) {A : AD} {n : Nat} {M : Nat → MS} {N : Nat × Nat} {c : Nat → Int32} {q : Nat → Nat} {H : HS} {L : LgS} {R : RS} {t l9 : SB} {O : OB} {a : Nat → Nat → Int32} {f : Nat → Int32} {fo : Nat → Int64} {fd : Nat → UInt64} (hR : RelX n (M, N, c, q, H, L, R, t, l9, O) (a, f)) {p0 p1 p2 p3 : Int32} : Jt l G A n 15 mL_coolestPeakByTrying [.ref (A 6 0), .int p0, .int p1, .int p2, .int p3, .ref (A 60 0)] 13 mX10_coolestPeakByTrying [.ref (A 30 0), .int p0, .int p1, .int p2, .int p3] (M, N, c, q, H, L, R, t, l9, O) (a, f) fo fd := by
  have hR : RelP n M N t l9 O a f := hR
  obtain ⟨B, hB, hm, ⟨ho, ht⟩, hG, hbb⟩ := RelP.m0 hR
  have h0 : ∀ i, i < 64 → 0 ≤ (M 0).2.1 i := fun i hi => Int32.le_iff_toInt_le.mpr (((aI_bd ho).1 i hi).1)
  have h0a : ∀ i, i < 64 → 0 ≤ a 0 i := fun i hi => by rw [← hm.he i hi]; exact h0 i hi
  by_cases hc : cellB p0 p1
  · by_cases hc2 : cellB p2 p3
    · obtain ⟨i, j, hi, hj, rfl, rfl⟩ := cellB_ex hc
      obtain ⟨i2, j2, hi2, hj2, rfl, rfl⟩ := cellB_ex hc2
      have hk : 8 * j + i < 64 := by omega
      have hk2 : 8 * j2 + i2 < 64 := by omega
      rcases pk_cong hm.he hm.gr hk hk2 (try_pk hk hk2 h0) with ⟨hp, hw⟩ | ⟨hp, hw⟩
      · exact ⟨1, 6, by decide, by decide, wl_coolestPeakByTrying hl LW_6 (ev_coolestPeakT_no2 hl hi hj hi2 hj2 hp) ok_tr (ex_tr (Or.inr ⟨rfl, jp_nox (by decide) (ev_mPeakT_no2 hl hi hj hi2 hj2 h0a hw) (fun _ => rfl) (fun y9 => (RelP.same hR rfl rfl rfl rfl rfl rfl rfl rfl rfl rfl rfl rfl rfl rfl rfl rfl rfl (fun _ _ => rfl)))⟩))⟩
      · exact ⟨0, 0, by decide, by decide, wl_coolestPeakByTrying hl LW_6 (ev_coolestPeakT hl hi hj hi2 hj2 hp) (ok_rt (jp_okx (ev_mPeakT hl hi hj hi2 hj2 h0a hw) (fun _ => rfl) (rfl) (fun y9 => (RelP.same hR rfl rfl rfl rfl rfl rfl rfl rfl rfl rfl rfl rfl rfl rfl rfl rfl rfl (fun _ _ => rfl))))) ex_rt⟩
    · exact ⟨1, 6, by decide, by decide, wl_coolestPeakByTrying hl LW_6 (ev_coolestPeakT_no1b hl hc hc2) ok_tr (ex_tr (Or.inl ⟨rfl, jp_no (by decide) (ev_mPeakT_no1 hl (fun w => hc2 w.2)) rfl (RelP.same hR rfl rfl rfl rfl rfl rfl rfl rfl rfl rfl rfl rfl rfl rfl rfl rfl rfl (fun _ _ => rfl))⟩))⟩
  · exact ⟨1, 6, by decide, by decide, wl_coolestPeakByTrying hl LW_6 (ev_coolestPeakT_no1 hl hc) ok_tr (ex_tr (Or.inl ⟨rfl, jp_no (by decide) (ev_mPeakT_no1 hl (fun w => hc w.1)) rfl (RelP.same hR rfl rfl rfl rfl rfl rfl rfl rfl rfl rfl rfl rfl rfl rfl rfl rfl rfl (fun _ _ => rfl))⟩))⟩
