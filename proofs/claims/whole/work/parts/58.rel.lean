/-! The class and the model together (by wip/whole/gen/m48.py). -/

set_option maxRecDepth 100000 in
theorem ev_spreadsAgree2 {l : Launch} {G : GG} (hl : l.stackTraces = false) {A : AD} {h : AH} {M : Nat → MS} {N : Nat × Nat} {c : Nat → Int32} {q : Nat → Nat} {H : HS} {L : LgS} {R : RS} {t l9 : SB} {O : OB} (h4 : ¬ openN (M 0).1 64 < 4 → (∀ L, spN (drwS (M 0) 2 L) (drwS (M 0) 2 L).2.2.2.2.2 = tabT (rdS (M 0) (drwS (M 0) 2 L) 64) 2 2 (rdS (M 0) (drwS (M 0) 2 L) 64).2.2.2.2.1) ∧ (∀ L, spN (drwS (M 0) 4 L) (drwS (M 0) 4 L).2.2.2.2.2 = tabT (rdS (M 0) (drwS (M 0) 4 L) 64) 4 4 (rdS (M 0) (drwS (M 0) 4 L) 64).2.2.2.2.1)) :
    Ev l G 14 0 0 mX9_spreadsAgree [.ref (A 6 0)] (hC h A (M, N, c, q, H, L, R, t, l9, O)) (RtX (some (.int 1)) (fun L' => (hC h A (M, N, c, q, H, L', R, t, l9, O)))) := by
  refine Ev.of hl (by decide) (Nat.le_of_ble_eq_true rfl) ?_
  refine g_aload_n (i := 0) dX9_spreadsAgree_0 rfl rfl ?_
  refine g_getf dX9_spreadsAgree_1 K_X9 (k := 0) fl_X9_10 (Nat.le_of_ble_eq_true rfl) hC_6 rfl ?_
  refine g_callV (ev_countOpen hl (hC_map (g := 0) (by decide))) dX9_spreadsAgree_4 ml_X9_351 cvX3_countOpenCells K_X3 rfl (hC_map (g := 0) (by decide)).1 rfl rfl (Nat.le_of_ble_eq_true rfl) (Nat.le_of_ble_eq_true rfl) (Nat.zero_le _) (Nat.zero_le _) (kr_rt ?_) kx_rt
  refine g_iconst (v := 4) dX9_spreadsAgree_7 (by decide) ?_
  refine g_icmp_lt (tgt := 27) dX9_spreadsAgree_8 (by decide) (fun c8 => ?_) (fun c8 => ?_)
  · refine g_iconst (v := 1) dX9_spreadsAgree_27 (by decide) ?_
    refine g_goto (tgt := 32) dX9_spreadsAgree_28 (by decide) ?_
    refine g_iret dX9_spreadsAgree_32 rfl rfl ?_
    exact ⟨rfl, L, rfl⟩
  · refine g_aload_n (i := 0) dX9_spreadsAgree_11 rfl rfl ?_
    refine g_iconst (v := 2) dX9_spreadsAgree_12 (by decide) ?_
    refine g_callV (ev_spreadsFor hl (k := 2) (by decide) (by decide) (h4 c8).1) dX9_spreadsAgree_13 ml_X9_449 cvX9_spreadsAgreeFor K_X9 rfl hC_6 rfl rfl (Nat.le_of_ble_eq_true rfl) (Nat.le_of_ble_eq_true rfl) (Nat.zero_le _) (Nat.zero_le _) (kr_x (fun y1 => ?_)) kx_x
    refine g_if_eq (tgt := 31) dX9_spreadsAgree_16 (by decide) (fun c16 => ?_) (fun c16 => ?_)
    · exact absurd c16 (by decide)
    · refine g_aload_n (i := 0) dX9_spreadsAgree_19 rfl rfl ?_
      refine g_iconst (v := 4) dX9_spreadsAgree_20 (by decide) ?_
      refine g_callV (ev_spreadsFor hl (k := 4) (by decide) (by decide) (h4 c8).2) dX9_spreadsAgree_21 ml_X9_449 cvX9_spreadsAgreeFor K_X9 rfl hC_6 rfl rfl (Nat.le_of_ble_eq_true rfl) (Nat.le_of_ble_eq_true rfl) (Nat.zero_le _) (Nat.zero_le _) (kr_x (fun y2 => ?_)) kx_x
      refine g_if_eq (tgt := 31) dX9_spreadsAgree_24 (by decide) (fun c24 => ?_) (fun c24 => ?_)
      · exact absurd c24 (by decide)
      · refine g_iconst (v := 1) dX9_spreadsAgree_27 (by decide) ?_
        refine g_goto (tgt := 32) dX9_spreadsAgree_28 (by decide) ?_
        refine g_iret dX9_spreadsAgree_32 rfl rfl ?_
        exact ⟨rfl, y2, rfl⟩

set_option maxRecDepth 100000 in
theorem ev_isConsistent2 {l : Launch} {G : GG} (hl : l.stackTraces = false) {A : AD} {h : AH} {M : Nat → MS} {N : Nat × Nat} {c : Nat → Int32} {q : Nat → Nat} {H : HS} {L : LgS} {R : RS} {t l9 : SB} {O : OB} (ha : sumN (M 0).2.1 64 + sumN (M 0).2.2.1 64 = (M 0).2.2.2.2.2.2.2 - sumN (M 0).2.2.2.2.1 4) (hs : ∀ v, shpP (M 0) v) (hw : ∀ f w, w < 64 → fpJ (M 0) 0 w f = (tryN (M 0) 0 w 64).2) (h4 : ¬ openN (M 0).1 64 < 4 → (∀ L, spN (drwS (M 0) 2 L) (drwS (M 0) 2 L).2.2.2.2.2 = tabT (rdS (M 0) (drwS (M 0) 2 L) 64) 2 2 (rdS (M 0) (drwS (M 0) 2 L) 64).2.2.2.2.1) ∧ (∀ L, spN (drwS (M 0) 4 L) (drwS (M 0) 4 L).2.2.2.2.2 = tabT (rdS (M 0) (drwS (M 0) 4 L) 64) 4 4 (rdS (M 0) (drwS (M 0) 4 L) 64).2.2.2.2.1)) :
    Ev l G 16 0 0 mX9_isConsistent [.ref (A 6 0)] (hC h A (M, N, c, q, H, L, R, t, l9, O)) (RtX (some (.int 1)) (fun x : (Nat → Nat) × HS × LgS => (hC h A (M, N, c, x.1, x.2.1, x.2.2, R, t, l9, O)))) := by
  refine Ev.of hl (by decide) (Nat.le_of_ble_eq_true rfl) ?_
  refine g_aload_n (i := 0) dX9_isConsistent_0 rfl rfl ?_
  refine g_callV (ev_allHeat hl) dX9_isConsistent_1 ml_X9_360 cvX9_allHeat K_X9 rfl hC_6 rfl rfl (Nat.le_of_ble_eq_true rfl) (Nat.le_of_ble_eq_true rfl) (Nat.zero_le _) (Nat.zero_le _) (kr_rt ?_) kx_rt
  refine g_aload_n (i := 0) dX9_isConsistent_4 rfl rfl ?_
  refine g_callV (ev_byAccounts hl) dX9_isConsistent_5 ml_X9_363 cvX9_allHeatByAccounts K_X9 rfl hC_6 rfl rfl (Nat.le_of_ble_eq_true rfl) (Nat.le_of_ble_eq_true rfl) (Nat.zero_le _) (Nat.zero_le _) (kr_rt ?_) kx_rt
  refine g_icmp_ne (tgt := 76) dX9_isConsistent_8 (by decide) (fun c8 => ?_) (fun c8 => ?_)
  · exact absurd ha c8
  · refine g_aload_n (i := 0) dX9_isConsistent_11 rfl rfl ?_
    refine g_iconst (v := 1) dX9_isConsistent_12 (by decide) ?_
    refine g_callV (ev_shapesAgree hl (hs 1)) dX9_isConsistent_13 ml_X9_366 cvX9_shapesAgree K_X9 rfl hC_6 rfl rfl (Nat.le_of_ble_eq_true rfl) (Nat.le_of_ble_eq_true rfl) (Nat.zero_le _) (Nat.zero_le _) (kr_x (fun y0 => ?_)) kx_x
    refine g_if_eq (tgt := 76) dX9_isConsistent_16 (by decide) (fun c16 => ?_) (fun c16 => ?_)
    · exact absurd c16 (by decide)
    · refine g_aload_n (i := 0) dX9_isConsistent_19 rfl rfl ?_
      refine g_bipush (v := 100) dX9_isConsistent_20 (by decide) ?_
      refine g_callV (ev_shapesAgree hl (hs 100)) dX9_isConsistent_22 ml_X9_366 cvX9_shapesAgree K_X9 rfl hC_6 rfl rfl (Nat.le_of_ble_eq_true rfl) (Nat.le_of_ble_eq_true rfl) (Nat.zero_le _) (Nat.zero_le _) (kr_x (fun y1 => ?_)) kx_x
      refine g_if_eq (tgt := 76) dX9_isConsistent_25 (by decide) (fun c25 => ?_) (fun c25 => ?_)
      · exact absurd c25 (by decide)
      · refine g_aload_n (i := 0) dX9_isConsistent_28 rfl rfl ?_
        refine g_sipush (v := 300) dX9_isConsistent_29 (by decide) ?_
        refine g_callV (ev_shapesAgree hl (hs 300)) dX9_isConsistent_32 ml_X9_366 cvX9_shapesAgree K_X9 rfl hC_6 rfl rfl (Nat.le_of_ble_eq_true rfl) (Nat.le_of_ble_eq_true rfl) (Nat.zero_le _) (Nat.zero_le _) (kr_x (fun y2 => ?_)) kx_x
        refine g_if_eq (tgt := 76) dX9_isConsistent_35 (by decide) (fun c35 => ?_) (fun c35 => ?_)
        · exact absurd c35 (by decide)
        · refine g_aload_n (i := 0) dX9_isConsistent_38 rfl rfl ?_
          refine g_sipush (v := 500) dX9_isConsistent_39 (by decide) ?_
          refine g_callV (ev_shapesAgree hl (hs 500)) dX9_isConsistent_42 ml_X9_366 cvX9_shapesAgree K_X9 rfl hC_6 rfl rfl (Nat.le_of_ble_eq_true rfl) (Nat.le_of_ble_eq_true rfl) (Nat.zero_le _) (Nat.zero_le _) (kr_x (fun y3 => ?_)) kx_x
          refine g_if_eq (tgt := 76) dX9_isConsistent_45 (by decide) (fun c45 => ?_) (fun c45 => ?_)
          · exact absurd c45 (by decide)
          · refine g_aload_n (i := 0) dX9_isConsistent_48 rfl rfl ?_
            refine g_sipush (v := 700) dX9_isConsistent_49 (by decide) ?_
            refine g_callV (ev_shapesAgree hl (hs 700)) dX9_isConsistent_52 ml_X9_366 cvX9_shapesAgree K_X9 rfl hC_6 rfl rfl (Nat.le_of_ble_eq_true rfl) (Nat.le_of_ble_eq_true rfl) (Nat.zero_le _) (Nat.zero_le _) (kr_x (fun y4 => ?_)) kx_x
            refine g_if_eq (tgt := 76) dX9_isConsistent_55 (by decide) (fun c55 => ?_) (fun c55 => ?_)
            · exact absurd c55 (by decide)
            · refine g_aload_n (i := 0) dX9_isConsistent_58 rfl rfl ?_
              refine g_callV (ev_waysAgree hl hw) dX9_isConsistent_59 ml_X9_369 cvX9_waysAgree K_X9 rfl hC_6 rfl rfl (Nat.le_of_ble_eq_true rfl) (Nat.le_of_ble_eq_true rfl) (Nat.zero_le _) (Nat.zero_le _) (kr_x (fun y6 => ?_)) kx_x
              refine g_if_eq (tgt := 76) dX9_isConsistent_62 (by decide) (fun c62 => ?_) (fun c62 => ?_)
              · exact absurd c62 (by decide)
              · refine g_aload_n (i := 0) dX9_isConsistent_65 rfl rfl ?_
                refine g_callV (ev_spreadsAgree2 hl h4) dX9_isConsistent_66 ml_X9_372 cvX9_spreadsAgree K_X9 rfl hC_6 rfl rfl (Nat.le_of_ble_eq_true rfl) (Nat.le_of_ble_eq_true rfl) (Nat.zero_le _) (Nat.zero_le _) (kr_x (fun y7 => ?_)) kx_x
                refine g_if_eq (tgt := 76) dX9_isConsistent_69 (by decide) (fun c69 => ?_) (fun c69 => ?_)
                · exact absurd c69 (by decide)
                · refine g_iconst (v := 1) dX9_isConsistent_72 (by decide) ?_
                  refine g_goto (tgt := 77) dX9_isConsistent_73 (by decide) ?_
                  refine g_iret dX9_isConsistent_77 rfl rfl ?_
                  exact ⟨rfl, (y4, y6, y7), rfl⟩

/-! both heaps -/
abbrev YS : Type := (Nat → Nat → Int32) × (Nat → Int32)
def oH (A : AD) (fo : Nat → Int64) (fd : Nat → UInt64) : AH := fun s g => if s = 60 ∧ g = 0 then some (oArr (A 60 0) fo) else if s = 61 ∧ g = 0 then some (dArr (A 61 0) fd) else none
/-- the class's state X, the model's state Y, the law's two rows -/
def LW (A : AD) (X : CL) (Y : YS) (fo : Nat → Int64) (fd : Nat → UInt64) : AH := hC (mo (oH A fo fd) A Y) A X
theorem hC_lo {h h' : AH} {A : AD} {X : CL} {s g : Nat} (hs : s ≤ 26) : hC h A X s g = hC h' A X s g := by
  revert hs
  exact fun hs => role26 (P := fun s => hC h A X s g = hC h' A X s g) rfl rfl rfl rfl rfl rfl rfl rfl rfl rfl rfl rfl rfl rfl rfl rfl rfl rfl rfl rfl rfl rfl rfl rfl rfl rfl rfl s hs
theorem mo_in {h h' : AH} {A : AD} {Y : YS} {s g : Nat} (h1 : 30 ≤ s) (h2 : s ≤ 46) : mo h A Y s g = mo h' A Y s g := by
  have e : s = 30 ∨ s = 31 ∨ s = 32 ∨ s = 33 ∨ s = 34 ∨ s = 35 ∨ s = 36 ∨ s = 37 ∨ s = 38 ∨ s = 39 ∨ s = 40 ∨ s = 41 ∨ s = 42 ∨ s = 43 ∨ s = 44 ∨ s = 45 ∨ s = 46 := by omega
  rcases e with rfl | rfl | rfl | rfl | rfl | rfl | rfl | rfl | rfl | rfl | rfl | rfl | rfl | rfl | rfl | rfl | rfl <;> rfl
section LWS
variable {A A' : AD} {X : CL} {Y : YS} {fo f' : Nat → Int64} {fd d' : Nat → UInt64}
theorem LW_mo : LW A X Y fo fd = mo (hC (oH A fo fd) A X) A Y := by
  funext s g
  unfold LW
  rcases Nat.lt_or_ge 26 s with hs | hs
  · rw [hC_hi hs]
    by_cases h : 30 ≤ s ∧ s ≤ 46
    · exact mo_in h.1 h.2
    · rw [mo_lo (by omega), mo_lo (by omega), hC_hi hs]
  · rw [mo_lo (by omega)]
    exact hC_lo hs
theorem LW_60 : LW A X Y fo fd 60 0 = some (oArr (A 60 0) fo) := by
  unfold LW
  rw [hC_hi (by decide), mo_lo (by decide)]
  rfl
theorem LW_61 : LW A X Y fo fd 61 0 = some (dArr (A 61 0) fd) := by
  unfold LW
  rw [hC_hi (by decide), mo_lo (by decide)]
  rfl
theorem LW_up60 : up (LW A X Y fo fd) 60 0 (oArr (A 60 0) f') = LW A X Y f' fd := by
  funext s g
  by_cases e : s = 60 ∧ g = 0
  · obtain ⟨rfl, rfl⟩ := e
    rw [up_same, LW_60]
  · rw [up_ne _ _ e]
    unfold LW
    rcases Nat.lt_or_ge 26 s with hs | hs
    · rw [hC_hi hs, hC_hi hs]
      by_cases h : 30 ≤ s ∧ s ≤ 46
      · exact mo_in h.1 h.2
      · rw [mo_lo (by omega), mo_lo (by omega), oH, if_neg e, oH, if_neg e]
    · exact hC_lo hs
theorem LW_up61 : up (LW A X Y fo fd) 61 0 (dArr (A 61 0) d') = LW A X Y fo d' := by
  funext s g
  by_cases e : s = 61 ∧ g = 0
  · obtain ⟨rfl, rfl⟩ := e
    rw [up_same, LW_61]
  · rw [up_ne _ _ e]
    unfold LW
    rcases Nat.lt_or_ge 26 s with hs | hs
    · rw [hC_hi hs, hC_hi hs]
      by_cases h : 30 ≤ s ∧ s ≤ 46
      · exact mo_in h.1 h.2
      · rw [mo_lo (by omega), mo_lo (by omega), oH, oH, if_neg e, if_neg e]
    · exact hC_lo hs
theorem LW_6 : LW A X Y fo fd 6 0 = some (obO A X.2.2.2.2.2.2.2.2.2) := rfl
theorem LW_30 : LW A X Y fo fd 30 0 = some (moO A Y.2) := by rw [LW_mo]; rfl
end LWS

