/-! Calls in both: the map read (by wip/whole/gen/m60.py) -/
set_option maxRecDepth 100000 in
theorem jt_groundAt {l : Launch} {G : GG} (hl : l.stackTraces = false) {A : AD} {n : Nat} {M : Nat → MS} {N : Nat × Nat} {c : Nat → Int32} {q : Nat → Nat} {H : HS} {L : LgS} {R : RS} {t l9 : SB} {O : OB} {a : Nat → Nat → Int32} {f : Nat → Int32} {fo : Nat → Int64} {fd : Nat → UInt64} (hR : RelX n (M, N, c, q, H, L, R, t, l9, O) (a, f)) {p0 p1 : Int32} : Jt l G A n 13 mL_groundAt [.ref (A 6 0), .int p0, .int p1, .ref (A 60 0)] 13 mX10_groundAt [.ref (A 30 0), .int p0, .int p1] (M, N, c, q, H, L, R, t, l9, O) (a, f) fo fd := by
  have hR : RelP n M N t l9 O a f := hR
  obtain ⟨B, hB, hm, ⟨ho, ht⟩, hG, hbb⟩ := RelP.m0 hR
  by_cases hc : cellB p0 p1
  · obtain ⟨i, j, hi, hj, rfl, rfl⟩ := cellB_ex hc
    have hk : 8 * j + i < 64 := by omega
    exact ⟨0, 0, by decide, by decide, wl_groundAt hl LW_6 (ev_groundAt hl hi hj hG) (ok_rt (jp_ok (ev_mgroundAt hl hi hj (by rw [← hm.gr _ hk]; exact hG _ hk)) rfl (hm.gr _ hk) (RelP.same hR rfl rfl rfl rfl rfl rfl rfl rfl rfl rfl rfl rfl rfl rfl rfl rfl rfl (fun _ _ => rfl)))) ex_rt⟩
  · exact ⟨1, 6, by decide, by decide, wl_groundAt hl LW_6 (ev_groundAt_no hl hc) ok_tr (ex_tr ⟨rfl, jp_no (by decide) (ev_mgroundAt_no hl hc) rfl (RelP.same hR rfl rfl rfl rfl rfl rfl rfl rfl rfl rfl rfl rfl rfl rfl rfl rfl rfl (fun _ _ => rfl))⟩)⟩

set_option maxRecDepth 100000 in
theorem jt_heatAt {l : Launch} {G : GG} (hl : l.stackTraces = false) {A : AD} {n : Nat} {M : Nat → MS} {N : Nat × Nat} {c : Nat → Int32} {q : Nat → Nat} {H : HS} {L : LgS} {R : RS} {t l9 : SB} {O : OB} {a : Nat → Nat → Int32} {f : Nat → Int32} {fo : Nat → Int64} {fd : Nat → UInt64} (hR : RelX n (M, N, c, q, H, L, R, t, l9, O) (a, f)) {p0 p1 : Int32} : Jt l G A n 13 mL_heatAt [.ref (A 6 0), .int p0, .int p1, .ref (A 60 0)] 13 mX10_heatAt [.ref (A 30 0), .int p0, .int p1] (M, N, c, q, H, L, R, t, l9, O) (a, f) fo fd := by
  have hR : RelP n M N t l9 O a f := hR
  obtain ⟨B, hB, hm, ⟨ho, ht⟩, hG, hbb⟩ := RelP.m0 hR
  by_cases hc : cellB p0 p1
  · obtain ⟨i, j, hi, hj, rfl, rfl⟩ := cellB_ex hc
    have hk : 8 * j + i < 64 := by omega
    exact ⟨0, 0, by decide, by decide, wl_heatAt hl LW_6 (ev_heatAt hl hi hj) (ok_rt (jp_ok (ev_mheatAt hl hi hj) rfl ((hm.he _ hk).trans (by rw [Nat.zero_add])) (RelP.same hR rfl rfl rfl rfl rfl rfl rfl rfl rfl rfl rfl rfl rfl rfl rfl rfl rfl (fun _ _ => rfl)))) ex_rt⟩
  · exact ⟨1, 6, by decide, by decide, wl_heatAt hl LW_6 (ev_heatAt_no hl hc) ok_tr (ex_tr ⟨rfl, jp_no (by decide) (ev_mheatAt_no hl hc) rfl (RelP.same hR rfl rfl rfl rfl rfl rfl rfl rfl rfl rfl rfl rfl rfl rfl rfl rfl rfl (fun _ _ => rfl))⟩)⟩

set_option maxRecDepth 100000 in
theorem jt_embersAt {l : Launch} {G : GG} (hl : l.stackTraces = false) {A : AD} {n : Nat} {M : Nat → MS} {N : Nat × Nat} {c : Nat → Int32} {q : Nat → Nat} {H : HS} {L : LgS} {R : RS} {t l9 : SB} {O : OB} {a : Nat → Nat → Int32} {f : Nat → Int32} {fo : Nat → Int64} {fd : Nat → UInt64} (hR : RelX n (M, N, c, q, H, L, R, t, l9, O) (a, f)) {p0 p1 : Int32} : Jt l G A n 13 mL_embersAt [.ref (A 6 0), .int p0, .int p1, .ref (A 60 0)] 13 mX10_embersAt [.ref (A 30 0), .int p0, .int p1] (M, N, c, q, H, L, R, t, l9, O) (a, f) fo fd := by
  have hR : RelP n M N t l9 O a f := hR
  obtain ⟨B, hB, hm, ⟨ho, ht⟩, hG, hbb⟩ := RelP.m0 hR
  by_cases hc : cellB p0 p1
  · obtain ⟨i, j, hi, hj, rfl, rfl⟩ := cellB_ex hc
    have hk : 8 * j + i < 64 := by omega
    exact ⟨0, 0, by decide, by decide, wl_embersAt hl LW_6 (ev_embersAt hl hi hj) (ok_rt (jp_ok (ev_membersAt hl hi hj) rfl (hm.em _ hk) (RelP.same hR rfl rfl rfl rfl rfl rfl rfl rfl rfl rfl rfl rfl rfl rfl rfl rfl rfl (fun _ _ => rfl)))) ex_rt⟩
  · exact ⟨1, 6, by decide, by decide, wl_embersAt hl LW_6 (ev_embersAt_no hl hc) ok_tr (ex_tr ⟨rfl, jp_no (by decide) (ev_membersAt_no hl hc) rfl (RelP.same hR rfl rfl rfl rfl rfl rfl rfl rfl rfl rfl rfl rfl rfl rfl rfl rfl rfl (fun _ _ => rfl))⟩)⟩

set_option maxRecDepth 100000 in
theorem jr_b {f : Nat → Int32} {c : Nat} : ∀ k, ∃ j, rankN f c k = nI j ∧ j + (if c < k then 1 else 0) ≤ k
  | 0 => ⟨0, rfl, by rw [if_neg (by omega)]; omega⟩
  | k + 1 => by
    obtain ⟨j, h1, h2⟩ := jr_b (f := f) (c := c) k
    rw [rankN]
    by_cases e : f c < f k ∨ (f k = f c ∧ k < c)
    · rw [if_pos e, h1]
      refine ⟨j + 1, (nI_succ j).symm, ?_⟩
      have z : c ≠ k := by
        rintro rfl
        rcases e with e | e
        · exact Int32.lt_irrefl e
        · omega
      by_cases e2 : c < k
      · rw [if_pos e2] at h2
        rw [if_pos (by omega)]
        omega
      · rw [if_neg e2] at h2
        rw [if_neg (by omega)]
        omega
    · rw [if_neg e]
      refine ⟨j, h1, ?_⟩
      by_cases e2 : c < k
      · rw [if_pos e2] at h2
        rw [if_pos (by omega)]
        omega
      · rw [if_neg e2] at h2
        split <;> omega
theorem jr_in {m : MS} {r : Int32} {n : Nat} : ∀ j k, k + j ≤ 64 → rkN m r j k = some n → 0 ≤ r ∧ r ≤ 63
  | 0, _, _, h => by cases h
  | j + 1, k, hk, h => by
    rw [rkN] at h
    by_cases e : rankN m.2.1 k 64 = r
    · obtain ⟨i, h1, h2⟩ := jr_b (f := m.2.1) (c := k) 64
      rw [if_pos (by omega)] at h2
      rw [← e, h1]
      exact ⟨(le_nI (a := 0) rfl (by omega) (by omega)).mpr (by omega), (nI_le' (b := 63) rfl (by omega) (by omega)).mpr (by omega)⟩
    · rw [if_neg e] at h
      exact jr_in j (k + 1) (by omega) h

set_option maxRecDepth 100000 in
theorem jt_cellAtRank {l : Launch} {G : GG} (hl : l.stackTraces = false) {A : AD} {n : Nat} {M : Nat → MS} {N : Nat × Nat} {c : Nat → Int32} {q : Nat → Nat} {H : HS} {L : LgS} {R : RS} {t l9 : SB} {O : OB} {a : Nat → Nat → Int32} {f : Nat → Int32} {fo : Nat → Int64} {fd : Nat → UInt64} (hR : RelX n (M, N, c, q, H, L, R, t, l9, O) (a, f)) {p0 : Int32} : Jt l G A n 12 mL_cellAtRank [.ref (A 6 0), .int p0, .ref (A 60 0)] 11 mX10_cellAtRank [.ref (A 30 0), .int p0] (M, N, c, q, H, L, R, t, l9, O) (a, f) fo fd := by
  have hR : RelP n M N t l9 O a f := hR
  obtain ⟨B, hB, hm, ⟨ho, ht⟩, hG, hbb⟩ := RelP.m0 hR
  have hbd : bd (a 0) := fun i hi => by rw [← hm.he i hi]; exact (aI_bn ho).1 i hi
  have er := rk_eq (r := p0) hbd hm.he 64 0 rfl
  rcases hk : rkN (M 0) p0 64 0 with _ | k
  · by_cases hr : 0 ≤ p0 ∧ p0 ≤ 63
    · exact ⟨1, 6, by decide, by decide, wl_cellAtRank hl LW_6 (ev_cellAtRank_no hl hk) ok_tr (ex_tr ⟨rfl, jp_no (by decide) (ev_mRank_no hl hr (er.trans hk)) rfl (RelP.same hR rfl rfl rfl rfl rfl rfl rfl rfl rfl rfl rfl rfl rfl rfl rfl rfl rfl (fun _ _ => rfl))⟩)⟩
    · exact ⟨1, 6, by decide, by decide, wl_cellAtRank hl LW_6 (ev_cellAtRank_no hl hk) ok_tr (ex_tr ⟨rfl, jp_no (by decide) (ev_mRank_no2 hl hr) rfl (RelP.same hR rfl rfl rfl rfl rfl rfl rfl rfl rfl rfl rfl rfl rfl rfl rfl rfl rfl (fun _ _ => rfl))⟩)⟩
  · exact ⟨0, 0, by decide, by decide, wl_cellAtRank hl LW_6 (ev_cellAtRank hl hk) (ok_rt (jp_ok (ev_mRank hl (jr_in 64 0 (by omega) hk) (er.trans hk)) rfl (rfl) (RelP.same hR rfl rfl rfl rfl rfl rfl rfl rfl rfl rfl rfl rfl rfl rfl rfl rfl rfl (fun _ _ => rfl)))) ex_rt⟩

set_option maxRecDepth 100000 in
theorem RelP.nums {n : Nat} {M : Nat → MS} {N : Nat × Nat} {t l : SB} {O : OB} {a : Nat → Nat → Int32} {f : Nat → Int32} (h : RelP n M N t l O a f) : O.1 = f 4 ∧ f 9 = O.2.1 ∧ f 10 = O.2.2.1 ∧ f 7 = O.2.2.2.1 ∧ f 8 = O.2.2.2.2 := by
  obtain ⟨B, T, T9, g0, g1, g2, g3, g4, g5⟩ := h
  exact g4
theorem RelP.hist {n : Nat} {M : Nat → MS} {N : Nat × Nat} {t l : SB} {O : OB} {a : Nat → Nat → Int32} {f : Nat → Int32} (h : RelP n M N t l O a f) : N.1 < 8 ∧ N.2 ≤ 8 ∧ f 6 = nI N.2 := by
  obtain ⟨B, T, T9, g0, g1, g2, g3, g4, g5⟩ := h
  exact ⟨g3.1, g3.2.1, g3.2.2.1⟩

set_option maxRecDepth 100000 in
theorem jt_refusalReason {l : Launch} {G : GG} (hl : l.stackTraces = false) {A : AD} {n : Nat} {M : Nat → MS} {N : Nat × Nat} {c : Nat → Int32} {q : Nat → Nat} {H : HS} {L : LgS} {R : RS} {t l9 : SB} {O : OB} {a : Nat → Nat → Int32} {f : Nat → Int32} {fo : Nat → Int64} {fd : Nat → UInt64} (hR : RelX n (M, N, c, q, H, L, R, t, l9, O) (a, f)) : Jt l G A n 12 mL_refusalReason [.ref (A 6 0), .ref (A 60 0)] 11 mX10_refusalReason [.ref (A 30 0)] (M, N, c, q, H, L, R, t, l9, O) (a, f) fo fd := by
  have hR : RelP n M N t l9 O a f := hR
  obtain ⟨e4, e9, e10, e7, e8⟩ := RelP.nums hR
  by_cases hr : O.2.1 = 0
  · have hr2 : f 9 = 0 := e9.trans hr
    exact ⟨1, 6, by decide, by decide, wl_refusalReason hl LW_6 (ev_refusalReason_no hl hr) ok_tr (ex_tr ⟨rfl, jp_no (by decide) (ev_mrefusalReason_no hl hr2) rfl (RelP.same hR rfl rfl rfl rfl rfl rfl rfl rfl rfl rfl rfl rfl rfl rfl rfl rfl rfl (fun _ _ => rfl))⟩)⟩
  · have hr2 : ¬ f 9 = 0 := fun w => hr (e9.symm.trans w)
    exact ⟨0, 0, by decide, by decide, wl_refusalReason hl LW_6 (ev_refusalReason hl hr) (ok_rt (jp_ok (ev_mrefusalReason hl hr2) rfl (e9.symm) (RelP.same hR rfl rfl rfl rfl rfl rfl rfl rfl rfl rfl rfl rfl rfl rfl rfl rfl rfl (fun _ _ => rfl)))) ex_rt⟩

set_option maxRecDepth 100000 in
theorem jt_refusalDetail {l : Launch} {G : GG} (hl : l.stackTraces = false) {A : AD} {n : Nat} {M : Nat → MS} {N : Nat × Nat} {c : Nat → Int32} {q : Nat → Nat} {H : HS} {L : LgS} {R : RS} {t l9 : SB} {O : OB} {a : Nat → Nat → Int32} {f : Nat → Int32} {fo : Nat → Int64} {fd : Nat → UInt64} (hR : RelX n (M, N, c, q, H, L, R, t, l9, O) (a, f)) : Jt l G A n 12 mL_refusalDetail [.ref (A 6 0), .ref (A 60 0)] 11 mX10_refusalDetail [.ref (A 30 0)] (M, N, c, q, H, L, R, t, l9, O) (a, f) fo fd := by
  have hR : RelP n M N t l9 O a f := hR
  obtain ⟨e4, e9, e10, e7, e8⟩ := RelP.nums hR
  by_cases hr : O.2.1 = 0
  · have hr2 : f 9 = 0 := e9.trans hr
    exact ⟨1, 6, by decide, by decide, wl_refusalDetail hl LW_6 (ev_refusalDetail_no hl hr) ok_tr (ex_tr ⟨rfl, jp_no (by decide) (ev_mrefusalDetail_no hl hr2) rfl (RelP.same hR rfl rfl rfl rfl rfl rfl rfl rfl rfl rfl rfl rfl rfl rfl rfl rfl rfl (fun _ _ => rfl))⟩)⟩
  · have hr2 : ¬ f 9 = 0 := fun w => hr (e9.symm.trans w)
    exact ⟨0, 0, by decide, by decide, wl_refusalDetail hl LW_6 (ev_refusalDetail hl hr) (ok_rt (jp_ok (ev_mrefusalDetail hl hr2) rfl (e10.symm) (RelP.same hR rfl rfl rfl rfl rfl rfl rfl rfl rfl rfl rfl rfl rfl rfl rfl rfl rfl (fun _ _ => rfl)))) ex_rt⟩

set_option maxRecDepth 100000 in
theorem jt_errorPosition {l : Launch} {G : GG} (hl : l.stackTraces = false) {A : AD} {n : Nat} {M : Nat → MS} {N : Nat × Nat} {c : Nat → Int32} {q : Nat → Nat} {H : HS} {L : LgS} {R : RS} {t l9 : SB} {O : OB} {a : Nat → Nat → Int32} {f : Nat → Int32} {fo : Nat → Int64} {fd : Nat → UInt64} (hR : RelX n (M, N, c, q, H, L, R, t, l9, O) (a, f)) : Jt l G A n 11 mL_errorPosition [.ref (A 6 0), .ref (A 60 0)] 11 mX10_errorPosition [.ref (A 30 0)] (M, N, c, q, H, L, R, t, l9, O) (a, f) fo fd := by
  have hR : RelP n M N t l9 O a f := hR
  obtain ⟨e4, e9, e10, e7, e8⟩ := RelP.nums hR
  by_cases hr : O.2.2.2.1 = -1
  · have hr2 : f 7 = -1 := e7.trans hr
    exact ⟨1, 6, by decide, by decide, wl_errorPosition hl LW_6 (ev_errorPosition_no hl hr) ok_tr (ex_tr ⟨rfl, jp_no (by decide) (ev_merrorPosition_no hl hr2) rfl (RelP.same hR rfl rfl rfl rfl rfl rfl rfl rfl rfl rfl rfl rfl rfl rfl rfl rfl rfl (fun _ _ => rfl))⟩)⟩
  · have hr2 : ¬ f 7 = -1 := fun w => hr (e7.symm.trans w)
    exact ⟨0, 0, by decide, by decide, wl_errorPosition hl LW_6 (ev_errorPosition hl hr) (ok_rt (jp_ok (ev_merrorPosition hl hr2) rfl (e7.symm) (RelP.same hR rfl rfl rfl rfl rfl rfl rfl rfl rfl rfl rfl rfl rfl rfl rfl rfl rfl (fun _ _ => rfl)))) ex_rt⟩

set_option maxRecDepth 100000 in
theorem jt_failedCommand {l : Launch} {G : GG} (hl : l.stackTraces = false) {A : AD} {n : Nat} {M : Nat → MS} {N : Nat × Nat} {c : Nat → Int32} {q : Nat → Nat} {H : HS} {L : LgS} {R : RS} {t l9 : SB} {O : OB} {a : Nat → Nat → Int32} {f : Nat → Int32} {fo : Nat → Int64} {fd : Nat → UInt64} (hR : RelX n (M, N, c, q, H, L, R, t, l9, O) (a, f)) : Jt l G A n 11 mL_failedCommand [.ref (A 6 0), .ref (A 60 0)] 11 mX10_failedCommand [.ref (A 30 0)] (M, N, c, q, H, L, R, t, l9, O) (a, f) fo fd := by
  have hR : RelP n M N t l9 O a f := hR
  obtain ⟨e4, e9, e10, e7, e8⟩ := RelP.nums hR
  by_cases hr : O.2.2.2.2 = -1
  · have hr2 : f 8 = -1 := e8.trans hr
    exact ⟨1, 6, by decide, by decide, wl_failedCommand hl LW_6 (ev_failedCommand_no hl hr) ok_tr (ex_tr ⟨rfl, jp_no (by decide) (ev_mfailedCommand_no hl hr2) rfl (RelP.same hR rfl rfl rfl rfl rfl rfl rfl rfl rfl rfl rfl rfl rfl rfl rfl rfl rfl (fun _ _ => rfl))⟩)⟩
  · have hr2 : ¬ f 8 = -1 := fun w => hr (e8.symm.trans w)
    exact ⟨0, 0, by decide, by decide, wl_failedCommand hl LW_6 (ev_failedCommand hl hr) (ok_rt (jp_ok (ev_mfailedCommand hl hr2) rfl (e8.symm) (RelP.same hR rfl rfl rfl rfl rfl rfl rfl rfl rfl rfl rfl rfl rfl rfl rfl rfl rfl (fun _ _ => rfl)))) ex_rt⟩

set_option maxRecDepth 100000 in
theorem jt_border {l : Launch} {G : GG} (hl : l.stackTraces = false) {A : AD} {n : Nat} {M : Nat → MS} {N : Nat × Nat} {c : Nat → Int32} {q : Nat → Nat} {H : HS} {L : LgS} {R : RS} {t l9 : SB} {O : OB} {a : Nat → Nat → Int32} {f : Nat → Int32} {fo : Nat → Int64} {fd : Nat → UInt64} (hR : RelX n (M, N, c, q, H, L, R, t, l9, O) (a, f)) {p0 : Int32} : Jt l G A n 13 mL_border [.ref (A 6 0), .int p0, .ref (A 60 0)] 11 mX10_border [.ref (A 30 0), .int p0] (M, N, c, q, H, L, R, t, l9, O) (a, f) fo fd := by
  have hR : RelP n M N t l9 O a f := hR
  obtain ⟨B, hB, hm, ⟨ho, ht⟩, hG, hbb⟩ := RelP.m0 hR
  by_cases hs : sideP p0
  · obtain ⟨s, hs4, rfl⟩ := side_ex hs
    exact ⟨0, 0, by decide, by decide, wl_border hl LW_6 (ev_border hl hs4) (ok_rt (jp_ok (ev_mborder hl hs4) rfl (hm.te _ hs4) (RelP.same hR rfl rfl rfl rfl rfl rfl rfl rfl rfl rfl rfl rfl rfl rfl rfl rfl rfl (fun _ _ => rfl)))) ex_rt⟩
  · exact ⟨1, 6, by decide, by decide, wl_border hl LW_6 (ev_border_no hl hs) ok_tr (ex_tr ⟨rfl, jp_no (by decide) (ev_mborder_no hl (fun w => hs (side_m.mpr w))) rfl (RelP.same hR rfl rfl rfl rfl rfl rfl rfl rfl rfl rfl rfl rfl rfl rfl rfl rfl rfl (fun _ _ => rfl))⟩)⟩

set_option maxRecDepth 100000 in
theorem jt_lostBy {l : Launch} {G : GG} (hl : l.stackTraces = false) {A : AD} {n : Nat} {M : Nat → MS} {N : Nat × Nat} {c : Nat → Int32} {q : Nat → Nat} {H : HS} {L : LgS} {R : RS} {t l9 : SB} {O : OB} {a : Nat → Nat → Int32} {f : Nat → Int32} {fo : Nat → Int64} {fd : Nat → UInt64} (hR : RelX n (M, N, c, q, H, L, R, t, l9, O) (a, f)) {p0 : Int32} : Jt l G A n 13 mL_lostBy [.ref (A 6 0), .int p0, .ref (A 60 0)] 11 mX10_lostBy [.ref (A 30 0), .int p0] (M, N, c, q, H, L, R, t, l9, O) (a, f) fo fd := by
  have hR : RelP n M N t l9 O a f := hR
  obtain ⟨B, hB, hm, ⟨ho, ht⟩, hG, hbb⟩ := RelP.m0 hR
  by_cases hs : sideP p0
  · obtain ⟨s, hs4, rfl⟩ := side_ex hs
    exact ⟨0, 0, by decide, by decide, wl_lostBy hl LW_6 (ev_lostBy hl hs4) (ok_rt (jp_ok (ev_mlostBy hl hs4) rfl (hm.lo _ hs4) (RelP.same hR rfl rfl rfl rfl rfl rfl rfl rfl rfl rfl rfl rfl rfl rfl rfl rfl rfl (fun _ _ => rfl)))) ex_rt⟩
  · exact ⟨1, 6, by decide, by decide, wl_lostBy hl LW_6 (ev_lostBy_no hl hs) ok_tr (ex_tr ⟨rfl, jp_no (by decide) (ev_mlostBy_no hl (fun w => hs (side_m.mpr w))) rfl (RelP.same hR rfl rfl rfl rfl rfl rfl rfl rfl rfl rfl rfl rfl rfl rfl rfl rfl rfl (fun _ _ => rfl))⟩)⟩
