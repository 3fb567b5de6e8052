/-! Constructors: history, reader, the class (by wip/whole/gen/m45.py). -/

set_option maxRecDepth 100000 in
theorem nh_loop {l : Launch} {G : GG} (hl : l.stackTraces = false) {h : AH} {b q : Nat} : ∀ (j : Nat) (k : Nat) (f : Nat → Option Nat) (H : AH), k + j = 8 → fram (fun s g2 => (7 ≤ s ∧ s ≤ 8 ∧ g2 = 0) ∨ (s < 6 ∧ 4 ≤ g2 ∧ g2 < 12)) h H → H 7 0 = some (b, .inr (4, [.ref q, .int 0, .int 0])) → H 8 0 = some (q, .inl (7, 8, .inr (.inr (.inr (.inr f))))) → (∀ i, i < k → ∃ x, f i = some x ∧ mapAt H (4 + i) x mS0) → Go l G mX4_init 11 (6 * j) (208 * j) (Cr (fun h2 => fram (fun s g2 => (7 ≤ s ∧ s ≤ 8 ∧ g2 = 0) ∨ (s < 6 ∧ 4 ≤ g2 ∧ g2 < 12)) h h2 ∧ ∃ q, ∃ z : Nat → Nat, h2 7 0 = some (b, .inr (4, [.ref q, .int 0, .int 0])) ∧ h2 8 0 = some (q, .inl (7, 8, .inr (.inr (.inr (.inr (fun i => some (z i))))))) ∧ (∀ i, i < 8 → mapAt h2 (4 + i) (z i) mS0) ∧ ∀ i, 8 ≤ i → z i = 0)) 25 [some (.ref b), some (.int (nI k))] [] H := by
  have loop : ∀ (j : Nat) (k : Nat) (f : Nat → Option Nat) (H : AH), k + j = 8 → fram (fun s g2 => (7 ≤ s ∧ s ≤ 8 ∧ g2 = 0) ∨ (s < 6 ∧ 4 ≤ g2 ∧ g2 < 12)) h H → H 7 0 = some (b, .inr (4, [.ref q, .int 0, .int 0])) → H 8 0 = some (q, .inl (7, 8, .inr (.inr (.inr (.inr f))))) → (∀ i, i < k → ∃ x, f i = some x ∧ mapAt H (4 + i) x mS0) → Go l G mX4_init 11 (6 * j) (208 * j) (Cr (fun h2 => fram (fun s g2 => (7 ≤ s ∧ s ≤ 8 ∧ g2 = 0) ∨ (s < 6 ∧ 4 ≤ g2 ∧ g2 < 12)) h h2 ∧ ∃ q, ∃ z : Nat → Nat, h2 7 0 = some (b, .inr (4, [.ref q, .int 0, .int 0])) ∧ h2 8 0 = some (q, .inl (7, 8, .inr (.inr (.inr (.inr (fun i => some (z i))))))) ∧ (∀ i, i < 8 → mapAt h2 (4 + i) (z i) mS0) ∧ ∀ i, 8 ≤ i → z i = 0)) 25 [some (.ref b), some (.int (nI k))] [] H := by
    intro j
    induction j with
    | zero =>
      intro k f H hk hf h7 h8 hm
      refine g_iload_n (i := 1) dX4_init_25 rfl rfl ?_
      refine g_bipush (v := 8) dX4_init_26 (by decide) ?_
      refine g_icmp_ge (tgt := 50) dX4_init_28 (by decide) (fun c28 => ?_) (fun c28 => ?_)
      · refine Go.heap (up_self9 h8).symm ?_
        refine Go.arrR (f' := fun i => some (if i < 8 then (f i).getD 0 else 0)) (fun i hi => by obtain ⟨x, e, -⟩ := hm i (by omega); rw [if_pos hi, e]; rfl) ?_
        refine g_vret dX4_init_50 rfl ?_
        refine ⟨rfl, fram_up hf (Or.inl ⟨by decide, by decide, rfl⟩), q, fun i => if i < 8 then (f i).getD 0 else 0, (up_role _ _ _ _ (by decide)).trans h7, up_same _ _ _ _, fun i hi => ?_, fun i hi => if_neg (by omega)⟩
        obtain ⟨x, e, m9⟩ := hm i (by omega)
        show mapAt _ (4 + i) (if i < 8 then (f i).getD 0 else 0) mS0
        rw [if_pos hi, e]
        exact mapAt_fr m9 (fun s hs => up_role _ _ _ _ (by omega))
      · exact absurd ((le_nI (a := 8) (b := k) rfl (by omega) (by omega)).mpr (by omega)) c28
    | succ j ih =>
      intro k f H hk hf h7 h8 hm
      refine g_iload_n (i := 1) dX4_init_25 rfl rfl ?_
      refine g_bipush (v := 8) dX4_init_26 (by decide) ?_
      refine g_icmp_ge (tgt := 50) dX4_init_28 (by decide) (fun c28 => ?_) (fun c28 => ?_)
      · exact absurd ((le_nI (a := 8) (b := k) rfl (by omega) (by omega)).mp c28) (by omega)
      · refine g_aload_n (i := 0) dX4_init_31 rfl rfl ?_
        refine g_getf dX4_init_32 K_X4 (k := 0) fl_X4_11 (Nat.le_of_ble_eq_true rfl) h7 rfl ?_
        refine g_iload_n (i := 1) dX4_init_35 rfl rfl ?_
        refine Go.wid (kc' := (6 * j + 5) + 1) (ks' := (208 * j + 200) + 8) (by omega) (by omega) ?_
        refine g_new (s0 := 0) (g0 := (4 + k)) (fs := [.null, .null, .null, .null, .null, .int 0, .int 0, .int 0]) dX4_init_36 K_X3 cl_X4_9 w_inst_MapSanatorium_HeatMap w_init_MapSanatorium_HeatMap (by decide) (fun b9 => ?_)
        refine g_dup dX4_init_39 rfl ?_
        refine g_callI (ev_newMap hl (g := 4 + k) (up_same _ _ _ _)) dX4_init_40 ml_X4_24 ciX3_init rfl rfl (Nat.le_of_ble_eq_true rfl) (Nat.le_of_ble_eq_true rfl) (by omega) (by omega) (kr_q (fun y1 q1 => ?_)) kx_q
        obtain ⟨qf, x1, x2, x3, x4, x5, e0, e1, e2, e3, e4, e5⟩ := q1
        refine Go.wid (kc' := 6 * j) (ks' := 208 * j) (by omega) (by omega) ?_
        refine g_aast dX4_init_43 K_X3 (t := 7) (by decide) rfl ((qf 8 0 (by omega)).trans ((up_role _ _ _ _ (by decide)).trans h8)) e0 (ix_nI (j := k) (by omega)) (by omega) ?_
        refine g_iinc (w := 1) dX4_init_44 (by decide) rfl (nI_succ k).symm (Nat.le_of_ble_eq_true rfl) ?_
        refine g_goto (tgt := 25) dX4_init_47 (by decide) ?_
        refine ih (k + 1) (va_up f k (some b9)) _ (by omega) (fram_up (fram_trans (fram_up hf (Or.inr ⟨by decide, by omega, by omega⟩)) (fram_mono qf (fun s g2 z => Or.inr ⟨z.1, by omega, by omega⟩))) (Or.inl ⟨by decide, by decide, rfl⟩)) ((up_role _ _ _ _ (by decide)).trans ((qf 7 0 (by omega)).trans ((up_role _ _ _ _ (by decide)).trans h7))) (up_same _ _ _ _) (fun i hi => ?_)
        by_cases e9 : i = k
        · subst e9
          exact ⟨b9, va_up_self _ _ _, mapAt_fr ⟨x1, x2, x3, x4, x5, e0, e1, e2, e3, e4, e5⟩ (fun s hs => up_role _ _ _ _ (by omega))⟩
        · obtain ⟨x, e8, m9⟩ := hm i (by omega)
          exact ⟨x, (va_up_ne _ _ e9).trans e8, mapAt_fr m9 (fun s hs => (up_role _ _ _ _ (by omega)).trans ((qf s (4 + i) (by omega)).trans (up_ne _ _ (by omega))))⟩
  exact loop

set_option maxRecDepth 100000 in
theorem ev_newHistory {l : Launch} {G : GG} (hl : l.stackTraces = false) {h : AH} {b : Nat} (h0 : h 7 0 = some (b, .inr (4, [.null, .int 0, .int 0]))) :
    Ev l G 11 49 1672 mX4_init [.ref b] h (Cr (fun h2 => fram (fun s g2 => (7 ≤ s ∧ s ≤ 8 ∧ g2 = 0) ∨ (s < 6 ∧ 4 ≤ g2 ∧ g2 < 12)) h h2 ∧ ∃ q, ∃ z : Nat → Nat, h2 7 0 = some (b, .inr (4, [.ref q, .int 0, .int 0])) ∧ h2 8 0 = some (q, .inl (7, 8, .inr (.inr (.inr (.inr (fun i => some (z i))))))) ∧ (∀ i, i < 8 → mapAt h2 (4 + i) (z i) mS0) ∧ ∀ i, 8 ≤ i → z i = 0)) := by
  refine Ev.of hl (by decide) (Nat.le_of_ble_eq_true rfl) ?_
  refine g_aload_n (i := 0) dX4_init_0 rfl rfl ?_
  refine g_objInit dX4_init_1 ml_X4_3 w_instanceMethod_Lib_objectInit w_code_objinit (Nat.le_of_ble_eq_true rfl) (Nat.le_of_ble_eq_true rfl) ?_
  refine g_aload_n (i := 0) dX4_init_4 rfl rfl ?_
  refine g_bipush (v := 8) dX4_init_5 (by decide) ?_
  refine g_anew (N := 8) (t := 7) (s0 := 8) (g0 := 0) dX4_init_7 cl_X4_9 (by decide) rfl (fun _ hc => hc.2.2.2.1.2.1) (ix_nI (j := 8) (by decide)) (by decide) (fun q => ?_)
  refine g_putF dX4_init_10 K_X4 (k := 0) fl_X4_11 (Nat.le_of_ble_eq_true rfl) rfl rfl rfl ((up_role _ _ _ _ (by decide)).trans h0) (Nat.le_of_ble_eq_true rfl) rfl rfl ?_
  refine g_aload_n (i := 0) dX4_init_13 rfl rfl ?_
  refine g_iconst (v := 0) dX4_init_14 (by decide) ?_
  refine g_putf dX4_init_15 K_X4 (k := 1) fl_X4_17 (Nat.le_of_ble_eq_true rfl) rfl (up_same _ _ _ _) (Nat.le_of_ble_eq_true rfl) rfl rfl ?_
  refine g_aload_n (i := 0) dX4_init_18 rfl rfl ?_
  refine g_iconst (v := 0) dX4_init_19 (by decide) ?_
  refine g_putf dX4_init_20 K_X4 (k := 2) fl_X4_21 (Nat.le_of_ble_eq_true rfl) rfl (up_same _ _ _ _) (Nat.le_of_ble_eq_true rfl) rfl rfl ?_
  refine g_iconst (v := 0) dX4_init_23 (by decide) ?_
  refine g_istore_n (i := 1) dX4_init_24 rfl (Nat.le_of_ble_eq_true rfl) ?_
  refine Go.wid (kc' := 6 * 8) (ks' := 208 * 8) (by decide) (by decide) ?_
  exact nh_loop hl 8 0 (fun _ => none) _ rfl (fram_up (fram_up (fram_up (fram_up fram_refl (Or.inl ⟨by decide, by decide, rfl⟩)) (Or.inl ⟨by decide, by decide, rfl⟩)) (Or.inl ⟨by decide, by decide, rfl⟩)) (Or.inl ⟨by decide, by decide, rfl⟩)) (up_same _ _ _ _) ((up_role _ _ _ _ (by decide)).trans ((up_role _ _ _ _ (by decide)).trans ((up_role _ _ _ _ (by decide)).trans (up_same _ _ _ _)))) (fun i hi => absurd hi (Nat.not_lt_zero i))

set_option maxRecDepth 100000 in
theorem nr_loop {l : Launch} {G : GG} (hl : l.stackTraces = false) {h : AH} {b x q xs : Nat} : ∀ (j : Nat) (k : Nat) (f : Nat → Option Nat) (H : AH), k + j = 10 → fram (fun s g2 => (21 ≤ s ∧ s ≤ 24 ∧ g2 = 0) ∨ (s = 25 ∧ g2 < 10)) h H → H 21 0 = some (b, .inr (2, [.ref x, .ref q, .int 0, .int 0])) → H 22 0 = some (x, .inr (11, [.ref xs, .int 0, .int 0, .int 0])) → H 23 0 = some (xs, .inl (3, 16, .inl (fun _ => 0))) → H 24 0 = some (q, .inl (6, 10, .inr (.inr (.inr (.inr f))))) → (∀ i, i < k → ∃ x, f i = some x ∧ H 25 i = some (x, .inr (1, [.int 0, .int 0, .int 0, .int 0]))) → Go l G mX2_init 14 j (4 * j) (Cr (fun h2 => fram (fun s g2 => (21 ≤ s ∧ s ≤ 24 ∧ g2 = 0) ∨ (s = 25 ∧ g2 < 10)) h h2 ∧ ∃ x q xs, ∃ z : Nat → Nat, h2 21 0 = some (b, .inr (2, [.ref x, .ref q, .int 0, .int 0])) ∧ h2 22 0 = some (x, .inr (11, [.ref xs, .int 0, .int 0, .int 0])) ∧ h2 23 0 = some (xs, .inl (3, 16, .inl (fun _ => 0))) ∧ h2 24 0 = some (q, .inl (6, 10, .inr (.inr (.inr (.inr (fun i => some (z i))))))) ∧ (∀ i, i < 10 → h2 25 i = some (z i, .inr (1, [.int 0, .int 0, .int 0, .int 0]))) ∧ ∀ i, 10 ≤ i → z i = 0)) 36 [some (.ref b), some (.int (nI k))] [] H := by
  have loop : ∀ (j : Nat) (k : Nat) (f : Nat → Option Nat) (H : AH), k + j = 10 → fram (fun s g2 => (21 ≤ s ∧ s ≤ 24 ∧ g2 = 0) ∨ (s = 25 ∧ g2 < 10)) h H → H 21 0 = some (b, .inr (2, [.ref x, .ref q, .int 0, .int 0])) → H 22 0 = some (x, .inr (11, [.ref xs, .int 0, .int 0, .int 0])) → H 23 0 = some (xs, .inl (3, 16, .inl (fun _ => 0))) → H 24 0 = some (q, .inl (6, 10, .inr (.inr (.inr (.inr f))))) → (∀ i, i < k → ∃ x, f i = some x ∧ H 25 i = some (x, .inr (1, [.int 0, .int 0, .int 0, .int 0]))) → Go l G mX2_init 14 j (4 * j) (Cr (fun h2 => fram (fun s g2 => (21 ≤ s ∧ s ≤ 24 ∧ g2 = 0) ∨ (s = 25 ∧ g2 < 10)) h h2 ∧ ∃ x q xs, ∃ z : Nat → Nat, h2 21 0 = some (b, .inr (2, [.ref x, .ref q, .int 0, .int 0])) ∧ h2 22 0 = some (x, .inr (11, [.ref xs, .int 0, .int 0, .int 0])) ∧ h2 23 0 = some (xs, .inl (3, 16, .inl (fun _ => 0))) ∧ h2 24 0 = some (q, .inl (6, 10, .inr (.inr (.inr (.inr (fun i => some (z i))))))) ∧ (∀ i, i < 10 → h2 25 i = some (z i, .inr (1, [.int 0, .int 0, .int 0, .int 0]))) ∧ ∀ i, 10 ≤ i → z i = 0)) 36 [some (.ref b), some (.int (nI k))] [] H := by
    intro j
    induction j with
    | zero =>
      intro k f H hk hf h21 h22 h23 h24 hm
      refine g_iload_n (i := 1) dX2_init_36 rfl rfl ?_
      refine g_aload_n (i := 0) dX2_init_37 rfl rfl ?_
      refine g_getf dX2_init_38 K_X2 (k := 1) fl_X2_20 (Nat.le_of_ble_eq_true rfl) h21 rfl ?_
      refine g_alen dX2_init_41 h24 (by decide) (show Int32.ofNat 10 = nI 10 from rfl) ?_
      refine g_icmp_ge (tgt := 64) dX2_init_42 (by decide) (fun c42 => ?_) (fun c42 => ?_)
      · refine Go.heap (up_self9 h24).symm ?_
        refine Go.arrR (f' := fun i => some (if i < 10 then (f i).getD 0 else 0)) (fun i hi => by obtain ⟨x, e, -⟩ := hm i (by omega); rw [if_pos hi, e]; rfl) ?_
        refine g_vret dX2_init_64 rfl ?_
        refine ⟨rfl, fram_up hf (Or.inl ⟨by decide, by decide, rfl⟩), x, q, xs, fun i => if i < 10 then (f i).getD 0 else 0, (up_role _ _ _ _ (by decide)).trans h21, (up_role _ _ _ _ (by decide)).trans h22, (up_role _ _ _ _ (by decide)).trans h23, up_same _ _ _ _, fun i hi => ?_, fun i hi => if_neg (by omega)⟩
        obtain ⟨x8, e, m9⟩ := hm i (by omega)
        rw [up_role _ _ _ _ (by decide), m9]
        show _ = some ((if i < 10 then (f i).getD 0 else 0), _)
        rw [if_pos hi, e]
        rfl
      · exact absurd ((le_nI (a := 10) (b := k) rfl (by omega) (by omega)).mpr (by omega)) c42
    | succ j ih =>
      intro k f H hk hf h21 h22 h23 h24 hm
      refine g_iload_n (i := 1) dX2_init_36 rfl rfl ?_
      refine g_aload_n (i := 0) dX2_init_37 rfl rfl ?_
      refine g_getf dX2_init_38 K_X2 (k := 1) fl_X2_20 (Nat.le_of_ble_eq_true rfl) h21 rfl ?_
      refine g_alen dX2_init_41 h24 (by decide) (show Int32.ofNat 10 = nI 10 from rfl) ?_
      refine g_icmp_ge (tgt := 64) dX2_init_42 (by decide) (fun c42 => ?_) (fun c42 => ?_)
      · exact absurd ((le_nI (a := 10) (b := k) rfl (by omega) (by omega)).mp c42) (by omega)
      · refine g_aload_n (i := 0) dX2_init_45 rfl rfl ?_
        refine g_getf dX2_init_46 K_X2 (k := 1) fl_X2_20 (Nat.le_of_ble_eq_true rfl) h21 rfl ?_
        refine g_iload_n (i := 1) dX2_init_49 rfl rfl ?_
        refine Go.wid (kc' := j + 1) (ks' := (4 * j) + 4) (by omega) (by omega) ?_
        refine g_new (s0 := 25) (g0 := k) (fs := [.int 0, .int 0, .int 0, .int 0]) dX2_init_50 K_X1 cl_X2_18 w_inst_MapSanatorium_Command w_init_MapSanatorium_Command (by decide) (fun b9 => ?_)
        refine g_dup dX2_init_53 rfl ?_
        refine g_callIN (ev_newCommand hl (i := k) (up_same _ _ _ _)) dX2_init_54 ml_X2_31 ciX1_init rfl rfl (Nat.le_of_ble_eq_true rfl) (Nat.le_of_ble_eq_true rfl) (by omega) (by omega) (kr_q (fun y1 q1 => ?_)) kx_q
        obtain ⟨qf, e0⟩ := q1
        refine Go.wid (kc' := j) (ks' := 4 * j) (by omega) (by omega) ?_
        refine g_aast dX2_init_57 K_X1 (t := 6) (by decide) rfl ((qf 24 0 (by omega)).trans ((up_role _ _ _ _ (by decide)).trans h24)) e0 (ix_nI (j := k) (by omega)) (by omega) ?_
        refine g_iinc (w := 1) dX2_init_58 (by decide) rfl (nI_succ k).symm (Nat.le_of_ble_eq_true rfl) ?_
        refine g_goto (tgt := 36) dX2_init_61 (by decide) ?_
        refine ih (k + 1) (va_up f k (some b9)) _ (by omega) (fram_up (fram_trans (fram_up hf (Or.inr ⟨rfl, by omega⟩)) (fram_mono qf (fun s g2 z => Or.inr ⟨z.1, by omega⟩))) (Or.inl ⟨by decide, by decide, rfl⟩)) ((up_role _ _ _ _ (by decide)).trans ((qf 21 0 (by omega)).trans ((up_role _ _ _ _ (by decide)).trans h21))) ((up_role _ _ _ _ (by decide)).trans ((qf 22 0 (by omega)).trans ((up_role _ _ _ _ (by decide)).trans h22))) ((up_role _ _ _ _ (by decide)).trans ((qf 23 0 (by omega)).trans ((up_role _ _ _ _ (by decide)).trans h23))) (up_same _ _ _ _) (fun i hi => ?_)
        by_cases e9 : i = k
        · subst e9
          exact ⟨b9, va_up_self _ _ _, (up_role _ _ _ _ (by decide)).trans e0⟩
        · obtain ⟨x8, e8, m9⟩ := hm i (by omega)
          exact ⟨x8, (va_up_ne _ _ e9).trans e8, (up_role _ _ _ _ (by decide)).trans ((qf 25 i (by omega)).trans ((up_ne _ _ (by omega)).trans m9))⟩
  exact loop

set_option maxRecDepth 100000 in
theorem ev_newReader {l : Launch} {G : GG} (hl : l.stackTraces = false) {h : AH} {b : Nat} (h0 : h 21 0 = some (b, .inr (2, [.null, .null, .int 0, .int 0]))) :
    Ev l G 14 13 70 mX2_init [.ref b] h (Cr (fun h2 => fram (fun s g2 => (21 ≤ s ∧ s ≤ 24 ∧ g2 = 0) ∨ (s = 25 ∧ g2 < 10)) h h2 ∧ ∃ x q xs, ∃ z : Nat → Nat, h2 21 0 = some (b, .inr (2, [.ref x, .ref q, .int 0, .int 0])) ∧ h2 22 0 = some (x, .inr (11, [.ref xs, .int 0, .int 0, .int 0])) ∧ h2 23 0 = some (xs, .inl (3, 16, .inl (fun _ => 0))) ∧ h2 24 0 = some (q, .inl (6, 10, .inr (.inr (.inr (.inr (fun i => some (z i))))))) ∧ (∀ i, i < 10 → h2 25 i = some (z i, .inr (1, [.int 0, .int 0, .int 0, .int 0]))) ∧ ∀ i, 10 ≤ i → z i = 0)) := by
  refine Ev.of hl (by decide) (Nat.le_of_ble_eq_true rfl) ?_
  refine g_aload_n (i := 0) dX2_init_0 rfl rfl ?_
  refine g_objInit dX2_init_1 ml_X2_3 w_instanceMethod_Lib_objectInit w_code_objinit (Nat.le_of_ble_eq_true rfl) (Nat.le_of_ble_eq_true rfl) ?_
  refine g_aload_n (i := 0) dX2_init_4 rfl rfl ?_
  refine g_new (s0 := 22) (g0 := 0) (fs := [.null, .int 0, .int 0, .int 0]) dX2_init_5 K_J4 cl_X2_9 w_inst_java_lang_StringBuilder w_init_java_lang_StringBuilder (by decide) (fun x => ?_)
  refine g_dup dX2_init_8 rfl ?_
  refine g_callI (ev_newSB hl (g := 0) (up_same _ _ _ _)) dX2_init_9 ml_X2_11 ciJ4_init_da8c8 rfl rfl (Nat.le_of_ble_eq_true rfl) (Nat.le_of_ble_eq_true rfl) (by decide) (by decide) (kr_q (fun y1 q1 => ?_)) kx_q
  refine g_putF dX2_init_12 K_X2 (k := 0) fl_X2_12 (Nat.le_of_ble_eq_true rfl) rfl rfl rfl ((q1.1 21 0 (by omega)).trans ((up_role _ _ _ _ (by decide)).trans h0)) (Nat.le_of_ble_eq_true rfl) rfl rfl ?_
  refine g_aload_n (i := 0) dX2_init_15 rfl rfl ?_
  refine g_bipush (v := 10) dX2_init_16 (by decide) ?_
  refine g_anew (N := 10) (t := 6) (s0 := 24) (g0 := 0) dX2_init_18 cl_X2_18 (by decide) rfl (fun _ hc => hc.2.2.2.1.1) (ix_nI (j := 10) (by decide)) (by decide) (fun q => ?_)
  refine g_putF dX2_init_21 K_X2 (k := 1) fl_X2_20 (Nat.le_of_ble_eq_true rfl) rfl rfl rfl ((up_role _ _ _ _ (by decide)).trans (up_same _ _ _ _)) (Nat.le_of_ble_eq_true rfl) rfl rfl ?_
  refine g_aload_n (i := 0) dX2_init_24 rfl rfl ?_
  refine g_iconst (v := 0) dX2_init_25 (by decide) ?_
  refine g_putf dX2_init_26 K_X2 (k := 2) fl_X2_24 (Nat.le_of_ble_eq_true rfl) rfl (up_same _ _ _ _) (Nat.le_of_ble_eq_true rfl) rfl rfl ?_
  refine g_aload_n (i := 0) dX2_init_29 rfl rfl ?_
  refine g_iconst (v := 0) dX2_init_30 (by decide) ?_
  refine g_putf dX2_init_31 K_X2 (k := 3) fl_X2_28 (Nat.le_of_ble_eq_true rfl) rfl (up_same _ _ _ _) (Nat.le_of_ble_eq_true rfl) rfl rfl ?_
  refine g_iconst (v := 0) dX2_init_34 (by decide) ?_
  refine g_istore_n (i := 1) dX2_init_35 rfl (Nat.le_of_ble_eq_true rfl) ?_
  obtain ⟨qf, xs, e22, e23⟩ := q1
  refine Go.wid (kc' := 10) (ks' := 4 * 10) (by decide) (by decide) ?_
  exact nr_loop hl (x := x) (q := q) (xs := xs) 10 0 (fun _ => none) _ rfl (fram_up (fram_up (fram_up (fram_up (fram_up (fram_trans (fram_up fram_refl (Or.inl ⟨by decide, by decide, rfl⟩)) (fram_mono qf (fun s g2 z => Or.inl ⟨by omega, by omega, by omega⟩))) (Or.inl ⟨by decide, by decide, rfl⟩)) (Or.inl ⟨by decide, by decide, rfl⟩)) (Or.inl ⟨by decide, by decide, rfl⟩)) (Or.inl ⟨by decide, by decide, rfl⟩)) (Or.inl ⟨by decide, by decide, rfl⟩)) (up_same _ _ _ _) ((up_role _ _ _ _ (by decide)).trans ((up_role _ _ _ _ (by decide)).trans ((up_role _ _ _ _ (by decide)).trans ((up_role _ _ _ _ (by decide)).trans ((up_role _ _ _ _ (by decide)).trans (e22)))))) ((up_role _ _ _ _ (by decide)).trans ((up_role _ _ _ _ (by decide)).trans ((up_role _ _ _ _ (by decide)).trans ((up_role _ _ _ _ (by decide)).trans ((up_role _ _ _ _ (by decide)).trans (e23)))))) ((up_role _ _ _ _ (by decide)).trans ((up_role _ _ _ _ (by decide)).trans ((up_role _ _ _ _ (by decide)).trans ((up_same _ _ _ _))))) (fun i hi => absurd hi (Nat.not_lt_zero i))

/-- the addresses of a heap -/
def adOf (h : AH) : AD := fun s g => match h s g with
  | some c => c.1
  | none => 0
theorem adOf_e {h : AH} {s g a : Nat} {c : AC} (e : h s g = some (a, c)) : adOf h s g = a := by rw [adOf, e]
theorem mapAt_is {h : AH} {g b : Nat} {m : MS} (hm : mapAt h g b m) : isMap h (adOf h) g m := by
  obtain ⟨x1, x2, x3, x4, x5, e0, e1, e2, e3, e4, e5⟩ := hm
  refine ⟨?_, ?_, ?_, ?_, ?_, ?_⟩
  · rw [mObj, adOf_e e0, adOf_e e1, adOf_e e2, adOf_e e3, adOf_e e4, adOf_e e5]; exact e0
  · rw [adOf_e e1]; exact e1
  · rw [adOf_e e2]; exact e2
  · rw [adOf_e e3]; exact e3
  · rw [adOf_e e4]; exact e4
  · rw [adOf_e e5]; exact e5
def lS0 : LgS := (fun _ => 0, fun _ => 0, fun _ => 0, fun _ _ => 0, 0, 0)
/-- the class's state at its beginning -/
def cX0 (x1 x2 : Nat) : CL := (fun _ => mS0, (0, 0), fun _ => 0, fun _ => 0, (0, fun _ => 0), lS0, (0, 0, fun _ => (0, 0, 0, 0)), (x1, 16, fun _ => 0, 0, 0), (x2, 16, fun _ => 0, 0, 0), (0, 0, 0, -1, -1))

theorem adOf_n {h : AH} {s g : Nat} (e : h s g = none) : adOf h s g = 0 := by rw [adOf, e]
theorem nw_end {h Z : AH} {b b0 b1 b2 b3 b4 b5 b6 b7 b8 b9 b10 a1 a2 a3 a4 l1 l2 l3 l4 r1 r2 r3 s1 : Nat} {z4 z8 z9 : Nat → Nat} (hno : ∀ s, s ≤ 26 → ∀ g, (s ≠ 6 ∨ ¬ g = 0) → h s g = none) (o6 : Z 6 0 = some (b, .inr (9, [.ref b0, .ref b1, .ref b2, .ref b3, .ref b4, .ref b5, .ref b6, .ref b7, .ref b8, .ref b9, .ref b10, .int 0, .int 0, .int 0, .int (-1), .int (-1)]))) (o6n : ∀ g, ¬ g = 0 → Z 6 g = none) (n0 : mapAt Z 0 b0 mS0) (n1 : mapAt Z 1 b1 mS0) (n2 : mapAt Z 2 b2 mS0) (n3 : mapAt Z 3 b3 mS0) (n4 : ∀ i, i < 8 → mapAt Z (4 + i) (z4 i) mS0) (z4z : ∀ i, 8 ≤ i → z4 i = 0)
    (tt : ∀ s g, s ≠ 6 → ¬ (fun s g2 => (s < 6 ∧ g2 < 12) ∨ (7 ≤ s ∧ s ≤ 19 ∧ g2 = 0) ∨ (s = 20 ∧ g2 < 7) ∨ (21 ≤ s ∧ s ≤ 24 ∧ g2 = 0) ∨ (s = 25 ∧ g2 < 10) ∨ (22 ≤ s ∧ s ≤ 23 ∧ g2 = 1)) s g → Z s g = h s g) (e7 : Z 7 0 = some (b4, .inr (4, [.ref a1, .int 0, .int 0]))) (e8 : Z 8 0 = some (a1, .inl (7, 8, .inr (.inr (.inr (.inr (fun i => some (z4 i)))))))) (e9 : Z 9 0 = some (b5, .inr (7, [.ref a2]))) (e10 : Z 10 0 = some (iArr a2 64 (fun _ => 0))) (e11 : Z 11 0 = some (b6, .inr (8, [.ref a3]))) (e12 : Z 12 0 = some (iArr a3 64 (fun _ => 0))) (e13 : Z 13 0 = some (b7, .inr (0, [.ref a4, .int 0]))) (e14 : Z 14 0 = some (lArr a4 64 (fun _ => 0))) (e15 : Z 15 0 = some (b8, .inr (5, [.ref l1, .ref l2, .ref l3, .ref l4, .int 0, .int 0]))) (e16 : Z 16 0 = some (iArr l1 64 (fun _ => 0))) (e17 : Z 17 0 = some (iArr l2 64 (fun _ => 0))) (e18 : Z 18 0 = some (iArr l3 7 (fun _ => 0))) (e19 : Z 19 0 = some (l4, .inl (8, 7, .inr (.inr (.inr (.inr (fun i => some (z8 i)))))))) (e21 : Z 21 0 = some (b9, .inr (2, [.ref r1, .ref r2, .int 0, .int 0]))) (e22 : Z 22 0 = some (r1, .inr (11, [.ref r3, .int 0, .int 0, .int 0]))) (e23 : Z 23 0 = some (r3, .inl (3, 16, .inl (fun _ => 0)))) (e24 : Z 24 0 = some (r2, .inl (6, 10, .inr (.inr (.inr (.inr (fun i => some (z9 i)))))))) (e221 : Z 22 1 = some (b10, .inr (11, [.ref s1, .int 0, .int 0, .int 0]))) (e231 : Z 23 1 = some (s1, .inl (3, 16, .inl (fun _ => 0)))) (e20 : ∀ i, i < 7 → Z 20 i = some (iArr (z8 i) 65 (fun _ => 0))) (z8z : ∀ i, 7 ≤ i → z8 i = 0) (e25 : ∀ i, i < 10 → Z 25 i = some (z9 i, .inr (1, [.int 0, .int 0, .int 0, .int 0]))) (z9z : ∀ i, 10 ≤ i → z9 i = 0) : ∃ x1 x2, adOf Z 6 0 = b ∧ Z = hC h (adOf Z) (cX0 x1 x2) := by
  have M0 : ∀ i, i < 12 → ∃ x, mapAt Z i x mS0 := fun i hi => by
    rcases (show i = 0 ∨ i = 1 ∨ i = 2 ∨ i = 3 ∨ 4 ≤ i by omega) with rfl | rfl | rfl | rfl | h4
    · exact ⟨_, n0⟩
    · exact ⟨_, n1⟩
    · exact ⟨_, n2⟩
    · exact ⟨_, n3⟩
    · obtain ⟨i9, rfl⟩ : ∃ i9, i = 4 + i9 := ⟨i - 4, by omega⟩
      exact ⟨_, n4 i9 (by omega)⟩
  have mb : ∀ g x, mapAt Z g x mS0 → adOf Z 0 g = x := fun g x hm => by
    obtain ⟨x1, x2, x3, x4, x5, e0, -⟩ := hm
    exact adOf_e e0
  have c0 := mb _ _ n0
  have c1 := mb _ _ n1
  have c2 := mb _ _ n2
  have c3 := mb _ _ n3
  have c4 : ∀ i, adOf Z 0 (4 + i) = z4 i := fun i => by
    by_cases hi : i < 8
    · exact mb _ _ (n4 i hi)
    · rw [z4z i (by omega)]
      exact adOf_n ((tt 0 (4 + i) (by decide) (by omega)).trans (hno 0 (by decide) _ (Or.inl (by decide))))
  have c8 : ∀ i, adOf Z 20 i = z8 i := fun i => by
    by_cases hi : i < 7
    · exact adOf_e (e20 i hi)
    · rw [z8z i (by omega)]
      exact adOf_n ((tt 20 i (by decide) (by omega)).trans (hno 20 (by decide) _ (Or.inl (by decide))))
  have c9 : ∀ i, adOf Z 25 i = z9 i := fun i => by
    by_cases hi : i < 10
    · exact adOf_e (e25 i hi)
    · rw [z9z i (by omega)]
      exact adOf_n ((tt 25 i (by decide) (by omega)).trans (hno 25 (by decide) _ (Or.inl (by decide))))
  refine ⟨r3, s1, adOf_e o6, hC_ext (fun s hs g => ?_) (fun s hs g => tt s g (by omega) (by omega))⟩
  revert s
  refine fun s hs => role26 (P := fun s => Z s g = hC h (adOf Z) (cX0 r3 s1) s g) ?_ ?_ ?_ ?_ ?_ ?_ ?_ ?_ ?_ ?_ ?_ ?_ ?_ ?_ ?_ ?_ ?_ ?_ ?_ ?_ ?_ ?_ ?_ ?_ ?_ ?_ ?_ s hs
  · by_cases hg : g < 12
    · rw [show hC h (adOf Z) (cX0 r3 s1) 0 g = some _ from if_pos hg]
      obtain ⟨x, hx⟩ := M0 g hg
      exact (mapAt_is hx).1
    · rw [show hC h (adOf Z) (cX0 r3 s1) 0 g = none from if_neg hg]
      exact (tt 0 g (by decide) (by omega)).trans (hno 0 (by decide) g (Or.inl (by decide)))
  · by_cases hg : g < 12
    · rw [show hC h (adOf Z) (cX0 r3 s1) 1 g = some _ from if_pos hg]
      obtain ⟨x, hx⟩ := M0 g hg
      exact (mapAt_is hx).2.1
    · rw [show hC h (adOf Z) (cX0 r3 s1) 1 g = none from if_neg hg]
      exact (tt 1 g (by decide) (by omega)).trans (hno 1 (by decide) g (Or.inl (by decide)))
  · by_cases hg : g < 12
    · rw [show hC h (adOf Z) (cX0 r3 s1) 2 g = some _ from if_pos hg]
      obtain ⟨x, hx⟩ := M0 g hg
      exact (mapAt_is hx).2.2.1
    · rw [show hC h (adOf Z) (cX0 r3 s1) 2 g = none from if_neg hg]
      exact (tt 2 g (by decide) (by omega)).trans (hno 2 (by decide) g (Or.inl (by decide)))
  · by_cases hg : g < 12
    · rw [show hC h (adOf Z) (cX0 r3 s1) 3 g = some _ from if_pos hg]
      obtain ⟨x, hx⟩ := M0 g hg
      exact (mapAt_is hx).2.2.2.1
    · rw [show hC h (adOf Z) (cX0 r3 s1) 3 g = none from if_neg hg]
      exact (tt 3 g (by decide) (by omega)).trans (hno 3 (by decide) g (Or.inl (by decide)))
  · by_cases hg : g < 12
    · rw [show hC h (adOf Z) (cX0 r3 s1) 4 g = some _ from if_pos hg]
      obtain ⟨x, hx⟩ := M0 g hg
      exact (mapAt_is hx).2.2.2.2.1
    · rw [show hC h (adOf Z) (cX0 r3 s1) 4 g = none from if_neg hg]
      exact (tt 4 g (by decide) (by omega)).trans (hno 4 (by decide) g (Or.inl (by decide)))
  · by_cases hg : g < 12
    · rw [show hC h (adOf Z) (cX0 r3 s1) 5 g = some _ from if_pos hg]
      obtain ⟨x, hx⟩ := M0 g hg
      exact (mapAt_is hx).2.2.2.2.2
    · rw [show hC h (adOf Z) (cX0 r3 s1) 5 g = none from if_neg hg]
      exact (tt 5 g (by decide) (by omega)).trans (hno 5 (by decide) g (Or.inl (by decide)))
  · by_cases hg : g = 0
    · subst hg
      show Z 6 0 = some (obO (adOf Z) _)
      rw [obO, adOf_e o6, c0, c1, c2, c3, adOf_e e7, adOf_e e9, adOf_e e11, adOf_e e13, adOf_e e15, adOf_e e21, adOf_e e221]
      exact o6
    · rw [show hC h (adOf Z) (cX0 r3 s1) 6 g = none from if_neg hg]
      exact o6n g hg
  · by_cases hg : g = 0
    · subst hg
      show Z 7 0 = some _
      rw [hObj, adOf_e e7, adOf_e e8]
      exact e7
    · rw [show hC h (adOf Z) (cX0 r3 s1) 7 g = none from if_neg hg]
      exact (tt 7 g (by decide) (by omega)).trans (hno 7 (by decide) g (Or.inl (by decide)))
  · by_cases hg : g = 0
    · subst hg
      show Z 8 0 = some _
      rw [hArr, adOf_e e8, e8, show (fun i => some (adOf Z 0 (4 + i))) = fun i => some (z4 i) from funext fun i => congrArg some (c4 i)]
    · rw [show hC h (adOf Z) (cX0 r3 s1) 8 g = none from if_neg hg]
      exact (tt 8 g (by decide) (by omega)).trans (hno 8 (by decide) g (Or.inl (by decide)))
  · by_cases hg : g = 0
    · subst hg
      show Z 9 0 = some _
      rw [adOf_e e9, adOf_e e10]
      exact e9
    · rw [show hC h (adOf Z) (cX0 r3 s1) 9 g = none from if_neg hg]
      exact (tt 9 g (by decide) (by omega)).trans (hno 9 (by decide) g (Or.inl (by decide)))
  · by_cases hg : g = 0
    · subst hg
      show Z 10 0 = some _
      rw [adOf_e e10]
      exact e10
    · rw [show hC h (adOf Z) (cX0 r3 s1) 10 g = none from if_neg hg]
      exact (tt 10 g (by decide) (by omega)).trans (hno 10 (by decide) g (Or.inl (by decide)))
  · by_cases hg : g = 0
    · subst hg
      show Z 11 0 = some _
      rw [adOf_e e11, adOf_e e12]
      exact e11
    · rw [show hC h (adOf Z) (cX0 r3 s1) 11 g = none from if_neg hg]
      exact (tt 11 g (by decide) (by omega)).trans (hno 11 (by decide) g (Or.inl (by decide)))
  · by_cases hg : g = 0
    · subst hg
      show Z 12 0 = some _
      rw [adOf_e e12]
      exact e12
    · rw [show hC h (adOf Z) (cX0 r3 s1) 12 g = none from if_neg hg]
      exact (tt 12 g (by decide) (by omega)).trans (hno 12 (by decide) g (Or.inl (by decide)))
  · by_cases hg : g = 0
    · subst hg
      show Z 13 0 = some _
      rw [hpO, adOf_e e13, adOf_e e14]
      exact e13
    · rw [show hC h (adOf Z) (cX0 r3 s1) 13 g = none from if_neg hg]
      exact (tt 13 g (by decide) (by omega)).trans (hno 13 (by decide) g (Or.inl (by decide)))
  · by_cases hg : g = 0
    · subst hg
      show Z 14 0 = some _
      rw [adOf_e e14]
      exact e14
    · rw [show hC h (adOf Z) (cX0 r3 s1) 14 g = none from if_neg hg]
      exact (tt 14 g (by decide) (by omega)).trans (hno 14 (by decide) g (Or.inl (by decide)))
  · by_cases hg : g = 0
    · subst hg
      show Z 15 0 = some _
      rw [lgO, adOf_e e15, adOf_e e16, adOf_e e17, adOf_e e18, adOf_e e19]
      exact e15
    · rw [show hC h (adOf Z) (cX0 r3 s1) 15 g = none from if_neg hg]
      exact (tt 15 g (by decide) (by omega)).trans (hno 15 (by decide) g (Or.inl (by decide)))
  · by_cases hg : g = 0
    · subst hg
      show Z 16 0 = some _
      rw [adOf_e e16]
      exact e16
    · rw [show hC h (adOf Z) (cX0 r3 s1) 16 g = none from if_neg hg]
      exact (tt 16 g (by decide) (by omega)).trans (hno 16 (by decide) g (Or.inl (by decide)))
  · by_cases hg : g = 0
    · subst hg
      show Z 17 0 = some _
      rw [adOf_e e17]
      exact e17
    · rw [show hC h (adOf Z) (cX0 r3 s1) 17 g = none from if_neg hg]
      exact (tt 17 g (by decide) (by omega)).trans (hno 17 (by decide) g (Or.inl (by decide)))
  · by_cases hg : g = 0
    · subst hg
      show Z 18 0 = some _
      rw [adOf_e e18]
      exact e18
    · rw [show hC h (adOf Z) (cX0 r3 s1) 18 g = none from if_neg hg]
      exact (tt 18 g (by decide) (by omega)).trans (hno 18 (by decide) g (Or.inl (by decide)))
  · by_cases hg : g = 0
    · subst hg
      show Z 19 0 = some _
      rw [lgT, adOf_e e19, e19, show (fun i => some (adOf Z 20 i)) = fun i => some (z8 i) from funext fun i => congrArg some (c8 i)]
    · rw [show hC h (adOf Z) (cX0 r3 s1) 19 g = none from if_neg hg]
      exact (tt 19 g (by decide) (by omega)).trans (hno 19 (by decide) g (Or.inl (by decide)))
  · by_cases hg : g < 7
    · rw [show hC h (adOf Z) (cX0 r3 s1) 20 g = some _ from if_pos hg, adOf_e (e20 g hg)]
      exact e20 g hg
    · rw [show hC h (adOf Z) (cX0 r3 s1) 20 g = none from if_neg hg]
      exact (tt 20 g (by decide) (by omega)).trans (hno 20 (by decide) g (Or.inl (by decide)))
  · by_cases hg : g = 0
    · subst hg
      show Z 21 0 = some _
      rw [rdO, adOf_e e21, adOf_e e22, adOf_e e24]
      exact e21
    · rw [show hC h (adOf Z) (cX0 r3 s1) 21 g = none from if_neg hg]
      exact (tt 21 g (by decide) (by omega)).trans (hno 21 (by decide) g (Or.inl (by decide)))
  · by_cases hg : g = 0
    · subst hg
      show Z 22 0 = some _
      rw [sbO, adOf_e e22]
      exact e22
    · by_cases hg1 : g = 1
      · subst hg1
        show Z 22 1 = some _
        rw [sbO, adOf_e e221]
        exact e221
      · rw [show hC h (adOf Z) (cX0 r3 s1) 22 g = none from (if_neg hg).trans (if_neg hg1)]
        exact (tt 22 g (by decide) (by omega)).trans (hno 22 (by decide) g (Or.inl (by decide)))
  · by_cases hg : g = 0
    · subst hg
      show Z 23 0 = some _
      exact e23
    · by_cases hg1 : g = 1
      · subst hg1
        show Z 23 1 = some _
        exact e231
      · rw [show hC h (adOf Z) (cX0 r3 s1) 23 g = none from (if_neg hg).trans (if_neg hg1)]
        exact (tt 23 g (by decide) (by omega)).trans (hno 23 (by decide) g (Or.inl (by decide)))
  · by_cases hg : g = 0
    · subst hg
      show Z 24 0 = some _
      rw [rdL0, adOf_e e24, e24, show (fun i => some (adOf Z 25 i)) = fun i => some (z9 i) from funext fun i => congrArg some (c9 i)]
    · rw [show hC h (adOf Z) (cX0 r3 s1) 24 g = none from if_neg hg]
      exact (tt 24 g (by decide) (by omega)).trans (hno 24 (by decide) g (Or.inl (by decide)))
  · by_cases hg : g < 10
    · rw [show hC h (adOf Z) (cX0 r3 s1) 25 g = some _ from if_pos hg, cmO, adOf_e (e25 g hg)]
      exact e25 g hg
    · rw [show hC h (adOf Z) (cX0 r3 s1) 25 g = none from if_neg hg]
      exact (tt 25 g (by decide) (by omega)).trans (hno 25 (by decide) g (Or.inl (by decide)))
  · show Z 26 g = none
    exact (tt 26 g (by decide) (by omega)).trans (hno 26 (by decide) g (Or.inl (by decide)))

set_option maxRecDepth 100000 in
theorem ev_newClass {l : Launch} {G : GG} (hl : l.stackTraces = false) {h : AH} {b : Nat} (hno : ∀ s, s ≤ 26 → ∀ g, (s ≠ 6 ∨ ¬ g = 0) → h s g = none) (h0 : h 6 0 = some (b, .inr (9, [.null, .null, .null, .null, .null, .null, .null, .null, .null, .null, .null, .int 0, .int 0, .int 0, .int 0, .int 0]))) :
    Ev l G 15 108 3400 mX9_init [.ref b] h (Cr (fun h2 => ∃ x1 x2, adOf h2 6 0 = b ∧ h2 = hC h (adOf h2) (cX0 x1 x2))) := by
  refine Ev.of hl (by decide) (Nat.le_of_ble_eq_true rfl) ?_
  refine g_aload_n (i := 0) dX9_init_0 rfl rfl ?_
  refine g_objInit dX9_init_1 ml_X9_1 w_instanceMethod_Lib_objectInit w_code_objinit (Nat.le_of_ble_eq_true rfl) (Nat.le_of_ble_eq_true rfl) ?_
  refine g_aload_n (i := 0) dX9_init_4 rfl rfl ?_
  refine g_new (s0 := 0) (g0 := 0) (fs := [.null, .null, .null, .null, .null, .int 0, .int 0, .int 0]) dX9_init_5 K_X3 cl_X9_7 w_inst_MapSanatorium_HeatMap w_init_MapSanatorium_HeatMap (by decide) (fun b0 => ?_)
  refine g_dup dX9_init_8 rfl ?_
  refine g_callI (ev_newMap hl (g := 0) (up_same _ _ _ _)) dX9_init_9 ml_X9_9 ciX3_init rfl rfl (Nat.le_of_ble_eq_true rfl) (Nat.le_of_ble_eq_true rfl) (by decide) (by decide) (kr_q (fun y0 q0 => ?_)) kx_q
  refine g_putF dX9_init_12 K_X9 (k := 0) fl_X9_10 (Nat.le_of_ble_eq_true rfl) rfl rfl rfl ((q0.1 6 0 (by omega)).trans ((up_role _ _ _ _ (by decide)).trans h0)) (Nat.le_of_ble_eq_true rfl) rfl rfl (Go.heap (show up y0 6 0 _ = up y0 6 0 (b, .inr (9, [.ref b0, .null, .null, .null, .null, .null, .null, .null, .null, .null, .null, .int 0, .int 0, .int 0, .int 0, .int 0])) from rfl) ?_)
  refine g_aload_n (i := 0) dX9_init_15 rfl rfl ?_
  refine g_new (s0 := 0) (g0 := 1) (fs := [.null, .null, .null, .null, .null, .int 0, .int 0, .int 0]) dX9_init_16 K_X3 cl_X9_7 w_inst_MapSanatorium_HeatMap w_init_MapSanatorium_HeatMap (by decide) (fun b1 => ?_)
  refine g_dup dX9_init_19 rfl ?_
  refine g_callI (ev_newMap hl (g := 1) (up_same _ _ _ _)) dX9_init_20 ml_X9_9 ciX3_init rfl rfl (Nat.le_of_ble_eq_true rfl) (Nat.le_of_ble_eq_true rfl) (by decide) (by decide) (kr_q (fun y1 q1 => ?_)) kx_q
  refine g_putF dX9_init_23 K_X9 (k := 1) fl_X9_16 (Nat.le_of_ble_eq_true rfl) rfl rfl rfl ((q1.1 6 0 (by omega)).trans ((up_role _ _ _ _ (by decide)).trans (up_same _ _ _ _))) (Nat.le_of_ble_eq_true rfl) rfl rfl (Go.heap (show up y1 6 0 _ = up y1 6 0 (b, .inr (9, [.ref b0, .ref b1, .null, .null, .null, .null, .null, .null, .null, .null, .null, .int 0, .int 0, .int 0, .int 0, .int 0])) from rfl) ?_)
  refine g_aload_n (i := 0) dX9_init_26 rfl rfl ?_
  refine g_new (s0 := 0) (g0 := 2) (fs := [.null, .null, .null, .null, .null, .int 0, .int 0, .int 0]) dX9_init_27 K_X3 cl_X9_7 w_inst_MapSanatorium_HeatMap w_init_MapSanatorium_HeatMap (by decide) (fun b2 => ?_)
  refine g_dup dX9_init_30 rfl ?_
  refine g_callI (ev_newMap hl (g := 2) (up_same _ _ _ _)) dX9_init_31 ml_X9_9 ciX3_init rfl rfl (Nat.le_of_ble_eq_true rfl) (Nat.le_of_ble_eq_true rfl) (by decide) (by decide) (kr_q (fun y2 q2 => ?_)) kx_q
  refine g_putF dX9_init_34 K_X9 (k := 2) fl_X9_19 (Nat.le_of_ble_eq_true rfl) rfl rfl rfl ((q2.1 6 0 (by omega)).trans ((up_role _ _ _ _ (by decide)).trans (up_same _ _ _ _))) (Nat.le_of_ble_eq_true rfl) rfl rfl (Go.heap (show up y2 6 0 _ = up y2 6 0 (b, .inr (9, [.ref b0, .ref b1, .ref b2, .null, .null, .null, .null, .null, .null, .null, .null, .int 0, .int 0, .int 0, .int 0, .int 0])) from rfl) ?_)
  refine g_aload_n (i := 0) dX9_init_37 rfl rfl ?_
  refine g_new (s0 := 0) (g0 := 3) (fs := [.null, .null, .null, .null, .null, .int 0, .int 0, .int 0]) dX9_init_38 K_X3 cl_X9_7 w_inst_MapSanatorium_HeatMap w_init_MapSanatorium_HeatMap (by decide) (fun b3 => ?_)
  refine g_dup dX9_init_41 rfl ?_
  refine g_callI (ev_newMap hl (g := 3) (up_same _ _ _ _)) dX9_init_42 ml_X9_9 ciX3_init rfl rfl (Nat.le_of_ble_eq_true rfl) (Nat.le_of_ble_eq_true rfl) (by decide) (by decide) (kr_q (fun y3 q3 => ?_)) kx_q
  refine g_putF dX9_init_45 K_X9 (k := 3) fl_X9_22 (Nat.le_of_ble_eq_true rfl) rfl rfl rfl ((q3.1 6 0 (by omega)).trans ((up_role _ _ _ _ (by decide)).trans (up_same _ _ _ _))) (Nat.le_of_ble_eq_true rfl) rfl rfl (Go.heap (show up y3 6 0 _ = up y3 6 0 (b, .inr (9, [.ref b0, .ref b1, .ref b2, .ref b3, .null, .null, .null, .null, .null, .null, .null, .int 0, .int 0, .int 0, .int 0, .int 0])) from rfl) ?_)
  refine g_aload_n (i := 0) dX9_init_48 rfl rfl ?_
  refine g_new (s0 := 7) (g0 := 0) (fs := [.null, .int 0, .int 0]) dX9_init_49 K_X4 cl_X9_25 w_inst_MapSanatorium_History w_init_MapSanatorium_History (by decide) (fun b4 => ?_)
  refine g_dup dX9_init_52 rfl ?_
  refine g_callI (ev_newHistory hl (up_same _ _ _ _)) dX9_init_53 ml_X9_27 ciX4_init rfl rfl (Nat.le_of_ble_eq_true rfl) (Nat.le_of_ble_eq_true rfl) (by decide) (by decide) (kr_q (fun y4 q4 => ?_)) kx_q
  refine g_putF dX9_init_56 K_X9 (k := 4) fl_X9_28 (Nat.le_of_ble_eq_true rfl) rfl rfl rfl ((q4.1 6 0 (by omega)).trans ((up_role _ _ _ _ (by decide)).trans (up_same _ _ _ _))) (Nat.le_of_ble_eq_true rfl) rfl rfl (Go.heap (show up y4 6 0 _ = up y4 6 0 (b, .inr (9, [.ref b0, .ref b1, .ref b2, .ref b3, .ref b4, .null, .null, .null, .null, .null, .null, .int 0, .int 0, .int 0, .int 0, .int 0])) from rfl) ?_)
  refine g_aload_n (i := 0) dX9_init_59 rfl rfl ?_
  refine g_new (s0 := 9) (g0 := 0) (fs := [.null]) dX9_init_60 K_X7 cl_X9_32 w_inst_MapSanatorium_Ticker w_init_MapSanatorium_Ticker (by decide) (fun b5 => ?_)
  refine g_dup dX9_init_63 rfl ?_
  refine g_callIN (ev_newTicker hl (up_same _ _ _ _)) dX9_init_64 ml_X9_34 ciX7_init rfl rfl (Nat.le_of_ble_eq_true rfl) (Nat.le_of_ble_eq_true rfl) (by decide) (by decide) (kr_q (fun y5 q5 => ?_)) kx_q
  refine g_putF dX9_init_67 K_X9 (k := 5) fl_X9_35 (Nat.le_of_ble_eq_true rfl) rfl rfl rfl ((q5.1 6 0 (by omega)).trans ((up_role _ _ _ _ (by decide)).trans (up_same _ _ _ _))) (Nat.le_of_ble_eq_true rfl) rfl rfl (Go.heap (show up y5 6 0 _ = up y5 6 0 (b, .inr (9, [.ref b0, .ref b1, .ref b2, .ref b3, .ref b4, .ref b5, .null, .null, .null, .null, .null, .int 0, .int 0, .int 0, .int 0, .int 0])) from rfl) ?_)
  refine g_aload_n (i := 0) dX9_init_70 rfl rfl ?_
  refine g_new (s0 := 11) (g0 := 0) (fs := [.null]) dX9_init_71 K_X8 cl_X9_39 w_inst_MapSanatorium_Unions w_init_MapSanatorium_Unions (by decide) (fun b6 => ?_)
  refine g_dup dX9_init_74 rfl ?_
  refine g_callIN (ev_newUnions hl (up_same _ _ _ _)) dX9_init_75 ml_X9_41 ciX8_init rfl rfl (Nat.le_of_ble_eq_true rfl) (Nat.le_of_ble_eq_true rfl) (by decide) (by decide) (kr_q (fun y6 q6 => ?_)) kx_q
  refine g_putF dX9_init_78 K_X9 (k := 6) fl_X9_42 (Nat.le_of_ble_eq_true rfl) rfl rfl rfl ((q6.1 6 0 (by omega)).trans ((up_role _ _ _ _ (by decide)).trans (up_same _ _ _ _))) (Nat.le_of_ble_eq_true rfl) rfl rfl (Go.heap (show up y6 6 0 _ = up y6 6 0 (b, .inr (9, [.ref b0, .ref b1, .ref b2, .ref b3, .ref b4, .ref b5, .ref b6, .null, .null, .null, .null, .int 0, .int 0, .int 0, .int 0, .int 0])) from rfl) ?_)
  refine g_aload_n (i := 0) dX9_init_81 rfl rfl ?_
  refine g_new (s0 := 13) (g0 := 0) (fs := [.null, .int 0]) dX9_init_82 K_X0 cl_X9_46 w_inst_MapSanatorium_CellHeap w_init_MapSanatorium_CellHeap (by decide) (fun b7 => ?_)
  refine g_dup dX9_init_85 rfl ?_
  refine g_callIN (ev_newHeap hl (up_same _ _ _ _)) dX9_init_86 ml_X9_48 ciX0_init rfl rfl (Nat.le_of_ble_eq_true rfl) (Nat.le_of_ble_eq_true rfl) (by decide) (by decide) (kr_q (fun y7 q7 => ?_)) kx_q
  refine g_putF dX9_init_89 K_X9 (k := 7) fl_X9_49 (Nat.le_of_ble_eq_true rfl) rfl rfl rfl ((q7.1 6 0 (by omega)).trans ((up_role _ _ _ _ (by decide)).trans (up_same _ _ _ _))) (Nat.le_of_ble_eq_true rfl) rfl rfl (Go.heap (show up y7 6 0 _ = up y7 6 0 (b, .inr (9, [.ref b0, .ref b1, .ref b2, .ref b3, .ref b4, .ref b5, .ref b6, .ref b7, .null, .null, .null, .int 0, .int 0, .int 0, .int 0, .int 0])) from rfl) ?_)
  refine g_aload_n (i := 0) dX9_init_92 rfl rfl ?_
  refine g_new (s0 := 15) (g0 := 0) (fs := [.null, .null, .null, .null, .int 0, .int 0]) dX9_init_93 K_X5 cl_X9_53 w_inst_MapSanatorium_Legend w_init_MapSanatorium_Legend (by decide) (fun b8 => ?_)
  refine g_dup dX9_init_96 rfl ?_
  refine g_callIN (ev_newLegend hl (up_same _ _ _ _)) dX9_init_97 ml_X9_55 ciX5_init rfl rfl (Nat.le_of_ble_eq_true rfl) (Nat.le_of_ble_eq_true rfl) (by decide) (by decide) (kr_q (fun y8 q8 => ?_)) kx_q
  refine g_putF dX9_init_100 K_X9 (k := 8) fl_X9_56 (Nat.le_of_ble_eq_true rfl) rfl rfl rfl ((q8.1 6 0 (by omega)).trans ((up_role _ _ _ _ (by decide)).trans (up_same _ _ _ _))) (Nat.le_of_ble_eq_true rfl) rfl rfl (Go.heap (show up y8 6 0 _ = up y8 6 0 (b, .inr (9, [.ref b0, .ref b1, .ref b2, .ref b3, .ref b4, .ref b5, .ref b6, .ref b7, .ref b8, .null, .null, .int 0, .int 0, .int 0, .int 0, .int 0])) from rfl) ?_)
  refine g_aload_n (i := 0) dX9_init_103 rfl rfl ?_
  refine g_new (s0 := 21) (g0 := 0) (fs := [.null, .null, .int 0, .int 0]) dX9_init_104 K_X2 cl_X9_60 w_inst_MapSanatorium_CommandReader w_init_MapSanatorium_CommandReader (by decide) (fun b9 => ?_)
  refine g_dup dX9_init_107 rfl ?_
  refine g_callI (ev_newReader hl (up_same _ _ _ _)) dX9_init_108 ml_X9_62 ciX2_init rfl rfl (Nat.le_of_ble_eq_true rfl) (Nat.le_of_ble_eq_true rfl) (by decide) (by decide) (kr_q (fun y9 q9 => ?_)) kx_q
  refine g_putF dX9_init_111 K_X9 (k := 9) fl_X9_63 (Nat.le_of_ble_eq_true rfl) rfl rfl rfl ((q9.1 6 0 (by omega)).trans ((up_role _ _ _ _ (by decide)).trans (up_same _ _ _ _))) (Nat.le_of_ble_eq_true rfl) rfl rfl (Go.heap (show up y9 6 0 _ = up y9 6 0 (b, .inr (9, [.ref b0, .ref b1, .ref b2, .ref b3, .ref b4, .ref b5, .ref b6, .ref b7, .ref b8, .ref b9, .null, .int 0, .int 0, .int 0, .int 0, .int 0])) from rfl) ?_)
  refine g_aload_n (i := 0) dX9_init_114 rfl rfl ?_
  refine g_new (s0 := 22) (g0 := 1) (fs := [.null, .int 0, .int 0, .int 0]) dX9_init_115 K_J4 cl_X9_67 w_inst_java_lang_StringBuilder w_init_java_lang_StringBuilder (by decide) (fun b10 => ?_)
  refine g_dup dX9_init_118 rfl ?_
  refine g_callI (ev_newSB hl (g := 1) (up_same _ _ _ _)) dX9_init_119 ml_X9_69 ciJ4_init_da8c8 rfl rfl (Nat.le_of_ble_eq_true rfl) (Nat.le_of_ble_eq_true rfl) (by decide) (by decide) (kr_q (fun y10 q10 => ?_)) kx_q
  refine g_putF dX9_init_122 K_X9 (k := 10) fl_X9_70 (Nat.le_of_ble_eq_true rfl) rfl rfl rfl ((q10.1 6 0 (by omega)).trans ((up_role _ _ _ _ (by decide)).trans (up_same _ _ _ _))) (Nat.le_of_ble_eq_true rfl) rfl rfl (Go.heap (show up y10 6 0 _ = up y10 6 0 (b, .inr (9, [.ref b0, .ref b1, .ref b2, .ref b3, .ref b4, .ref b5, .ref b6, .ref b7, .ref b8, .ref b9, .ref b10, .int 0, .int 0, .int 0, .int 0, .int 0])) from rfl) ?_)
  refine g_aload_n (i := 0) dX9_init_125 rfl rfl ?_
  refine g_iconst (v := 0) dX9_init_126 (by decide) ?_
  refine g_putf dX9_init_127 K_X9 (k := 11) fl_X9_74 (Nat.le_of_ble_eq_true rfl) rfl (up_same _ _ _ _) (Nat.le_of_ble_eq_true rfl) rfl rfl (Go.heap ((up_up _ _ _ _ _).trans (show up y10 6 0 _ = up y10 6 0 (b, .inr (9, [.ref b0, .ref b1, .ref b2, .ref b3, .ref b4, .ref b5, .ref b6, .ref b7, .ref b8, .ref b9, .ref b10, .int 0, .int 0, .int 0, .int 0, .int 0])) from rfl)) ?_)
  refine g_aload_n (i := 0) dX9_init_130 rfl rfl ?_
  refine g_iconst (v := 0) dX9_init_131 (by decide) ?_
  refine g_putf dX9_init_132 K_X9 (k := 12) fl_X9_78 (Nat.le_of_ble_eq_true rfl) rfl (up_same _ _ _ _) (Nat.le_of_ble_eq_true rfl) rfl rfl (Go.heap ((up_up _ _ _ _ _).trans (show up y10 6 0 _ = up y10 6 0 (b, .inr (9, [.ref b0, .ref b1, .ref b2, .ref b3, .ref b4, .ref b5, .ref b6, .ref b7, .ref b8, .ref b9, .ref b10, .int 0, .int 0, .int 0, .int 0, .int 0])) from rfl)) ?_)
  refine g_aload_n (i := 0) dX9_init_135 rfl rfl ?_
  refine g_iconst (v := 0) dX9_init_136 (by decide) ?_
  refine g_putf dX9_init_137 K_X9 (k := 13) fl_X9_82 (Nat.le_of_ble_eq_true rfl) rfl (up_same _ _ _ _) (Nat.le_of_ble_eq_true rfl) rfl rfl (Go.heap ((up_up _ _ _ _ _).trans (show up y10 6 0 _ = up y10 6 0 (b, .inr (9, [.ref b0, .ref b1, .ref b2, .ref b3, .ref b4, .ref b5, .ref b6, .ref b7, .ref b8, .ref b9, .ref b10, .int 0, .int 0, .int 0, .int 0, .int 0])) from rfl)) ?_)
  refine g_aload_n (i := 0) dX9_init_140 rfl rfl ?_
  refine g_iconst (v := (-1)) dX9_init_141 (by decide) ?_
  refine g_putf dX9_init_142 K_X9 (k := 14) fl_X9_85 (Nat.le_of_ble_eq_true rfl) rfl (up_same _ _ _ _) (Nat.le_of_ble_eq_true rfl) rfl rfl (Go.heap ((up_up _ _ _ _ _).trans (show up y10 6 0 _ = up y10 6 0 (b, .inr (9, [.ref b0, .ref b1, .ref b2, .ref b3, .ref b4, .ref b5, .ref b6, .ref b7, .ref b8, .ref b9, .ref b10, .int 0, .int 0, .int 0, .int (-1), .int 0])) from rfl)) ?_)
  refine g_aload_n (i := 0) dX9_init_145 rfl rfl ?_
  refine g_iconst (v := (-1)) dX9_init_146 (by decide) ?_
  refine g_putf dX9_init_147 K_X9 (k := 15) fl_X9_88 (Nat.le_of_ble_eq_true rfl) rfl (up_same _ _ _ _) (Nat.le_of_ble_eq_true rfl) rfl rfl (Go.heap ((up_up _ _ _ _ _).trans (show up y10 6 0 _ = up y10 6 0 (b, .inr (9, [.ref b0, .ref b1, .ref b2, .ref b3, .ref b4, .ref b5, .ref b6, .ref b7, .ref b8, .ref b9, .ref b10, .int 0, .int 0, .int 0, .int (-1), .int (-1)])) from rfl)) ?_)
  refine g_vret dX9_init_150 rfl ?_
  obtain ⟨f0, m0⟩ := q0
  obtain ⟨f1, m1⟩ := q1
  obtain ⟨f2, m2⟩ := q2
  obtain ⟨f3, m3⟩ := q3
  obtain ⟨f4, a1, z4, p1, p2, p3, p3z⟩ := q4
  obtain ⟨f5, a2, p4, p5⟩ := q5
  obtain ⟨f6, a3, p6, p7⟩ := q6
  obtain ⟨f7, a4, p8, p9⟩ := q7
  obtain ⟨f8, l1, l2, l3, l4, z8, p10, p11, p12, p13, p14, p15, p15z⟩ := q8
  obtain ⟨f9, r1, r2, r3, z9, p16, p17, p18, p19, p20, p20z⟩ := q9
  obtain ⟨f10, s1, p21, p22⟩ := q10
  refine ⟨rfl, ?_⟩
  have o6 : ∀ Q : AH, up Q 6 0 (b, .inr (9, [.ref b0, .ref b1, .ref b2, .ref b3, .ref b4, .ref b5, .ref b6, .ref b7, .ref b8, .ref b9, .ref b10, .int 0, .int 0, .int 0, .int (-1), .int (-1)])) 6 0 = some (b, .inr (9, [.ref b0, .ref b1, .ref b2, .ref b3, .ref b4, .ref b5, .ref b6, .ref b7, .ref b8, .ref b9, .ref b10, .int 0, .int 0, .int 0, .int (-1), .int (-1)])) := fun Q => up_same _ _ _ _
  generalize hZ : up y10 6 0 (b, .inr (9, [.ref b0, .ref b1, .ref b2, .ref b3, .ref b4, .ref b5, .ref b6, .ref b7, .ref b8, .ref b9, .ref b10, .int 0, .int 0, .int 0, .int (-1), .int (-1)])) = Z
  have t10 : ∀ s g, s ≠ 6 → Z s g = y10 s g := fun s g hs => by rw [← hZ]; exact up_role _ _ _ _ hs
  have t9 : ∀ s g, s ≠ 6 → ¬ ((fun s g2 => (s = 22 ∨ s = 23) ∧ g2 = 1) s g) → Z s g = y9 s g := fun s g hs hn => (t10 s g hs).trans ((f10 s g hn).trans ((up_ne _ _ (by omega)).trans (by simp only [up_role _ _ _ _ hs])))
  have t8 : ∀ s g, s ≠ 6 → ¬ ((fun s g2 => (21 ≤ s ∧ s ≤ 24 ∧ g2 = 0) ∨ (s = 25 ∧ g2 < 10)) s g ∨ (fun s g2 => (s = 22 ∨ s = 23) ∧ g2 = 1) s g) → Z s g = y8 s g := fun s g hs hn => (t9 s g hs (fun z => hn (Or.inr z))).trans ((f9 s g (fun z => hn (Or.inl z))).trans ((up_ne _ _ (by omega)).trans (by simp only [up_role _ _ _ _ hs])))
  have t7 : ∀ s g, s ≠ 6 → ¬ ((fun s g2 => (15 ≤ s ∧ s ≤ 19 ∧ g2 = 0) ∨ (s = 20 ∧ g2 < 7)) s g ∨ (fun s g2 => (21 ≤ s ∧ s ≤ 24 ∧ g2 = 0) ∨ (s = 25 ∧ g2 < 10)) s g ∨ (fun s g2 => (s = 22 ∨ s = 23) ∧ g2 = 1) s g) → Z s g = y7 s g := fun s g hs hn => (t8 s g hs (fun z => hn (Or.inr z))).trans ((f8 s g (fun z => hn (Or.inl z))).trans ((up_ne _ _ (by omega)).trans (by simp only [up_role _ _ _ _ hs])))
  have t6 : ∀ s g, s ≠ 6 → ¬ ((fun s g2 => (s = 13 ∨ s = 14) ∧ g2 = 0) s g ∨ (fun s g2 => (15 ≤ s ∧ s ≤ 19 ∧ g2 = 0) ∨ (s = 20 ∧ g2 < 7)) s g ∨ (fun s g2 => (21 ≤ s ∧ s ≤ 24 ∧ g2 = 0) ∨ (s = 25 ∧ g2 < 10)) s g ∨ (fun s g2 => (s = 22 ∨ s = 23) ∧ g2 = 1) s g) → Z s g = y6 s g := fun s g hs hn => (t7 s g hs (fun z => hn (Or.inr z))).trans ((f7 s g (fun z => hn (Or.inl z))).trans ((up_ne _ _ (by omega)).trans (by simp only [up_role _ _ _ _ hs])))
  have t5 : ∀ s g, s ≠ 6 → ¬ ((fun s g2 => (s = 11 ∨ s = 12) ∧ g2 = 0) s g ∨ (fun s g2 => (s = 13 ∨ s = 14) ∧ g2 = 0) s g ∨ (fun s g2 => (15 ≤ s ∧ s ≤ 19 ∧ g2 = 0) ∨ (s = 20 ∧ g2 < 7)) s g ∨ (fun s g2 => (21 ≤ s ∧ s ≤ 24 ∧ g2 = 0) ∨ (s = 25 ∧ g2 < 10)) s g ∨ (fun s g2 => (s = 22 ∨ s = 23) ∧ g2 = 1) s g) → Z s g = y5 s g := fun s g hs hn => (t6 s g hs (fun z => hn (Or.inr z))).trans ((f6 s g (fun z => hn (Or.inl z))).trans ((up_ne _ _ (by omega)).trans (by simp only [up_role _ _ _ _ hs])))
  have t4 : ∀ s g, s ≠ 6 → ¬ ((fun s g2 => (s = 9 ∨ s = 10) ∧ g2 = 0) s g ∨ (fun s g2 => (s = 11 ∨ s = 12) ∧ g2 = 0) s g ∨ (fun s g2 => (s = 13 ∨ s = 14) ∧ g2 = 0) s g ∨ (fun s g2 => (15 ≤ s ∧ s ≤ 19 ∧ g2 = 0) ∨ (s = 20 ∧ g2 < 7)) s g ∨ (fun s g2 => (21 ≤ s ∧ s ≤ 24 ∧ g2 = 0) ∨ (s = 25 ∧ g2 < 10)) s g ∨ (fun s g2 => (s = 22 ∨ s = 23) ∧ g2 = 1) s g) → Z s g = y4 s g := fun s g hs hn => (t5 s g hs (fun z => hn (Or.inr z))).trans ((f5 s g (fun z => hn (Or.inl z))).trans ((up_ne _ _ (by omega)).trans (by simp only [up_role _ _ _ _ hs])))
  have t3 : ∀ s g, s ≠ 6 → ¬ ((fun s g2 => (7 ≤ s ∧ s ≤ 8 ∧ g2 = 0) ∨ (s < 6 ∧ 4 ≤ g2 ∧ g2 < 12)) s g ∨ (fun s g2 => (s = 9 ∨ s = 10) ∧ g2 = 0) s g ∨ (fun s g2 => (s = 11 ∨ s = 12) ∧ g2 = 0) s g ∨ (fun s g2 => (s = 13 ∨ s = 14) ∧ g2 = 0) s g ∨ (fun s g2 => (15 ≤ s ∧ s ≤ 19 ∧ g2 = 0) ∨ (s = 20 ∧ g2 < 7)) s g ∨ (fun s g2 => (21 ≤ s ∧ s ≤ 24 ∧ g2 = 0) ∨ (s = 25 ∧ g2 < 10)) s g ∨ (fun s g2 => (s = 22 ∨ s = 23) ∧ g2 = 1) s g) → Z s g = y3 s g := fun s g hs hn => (t4 s g hs (fun z => hn (Or.inr z))).trans ((f4 s g (fun z => hn (Or.inl z))).trans ((up_ne _ _ (by omega)).trans (by simp only [up_role _ _ _ _ hs])))
  have t2 : ∀ s g, s ≠ 6 → ¬ ((fun s g2 => s < 6 ∧ g2 = 3) s g ∨ (fun s g2 => (7 ≤ s ∧ s ≤ 8 ∧ g2 = 0) ∨ (s < 6 ∧ 4 ≤ g2 ∧ g2 < 12)) s g ∨ (fun s g2 => (s = 9 ∨ s = 10) ∧ g2 = 0) s g ∨ (fun s g2 => (s = 11 ∨ s = 12) ∧ g2 = 0) s g ∨ (fun s g2 => (s = 13 ∨ s = 14) ∧ g2 = 0) s g ∨ (fun s g2 => (15 ≤ s ∧ s ≤ 19 ∧ g2 = 0) ∨ (s = 20 ∧ g2 < 7)) s g ∨ (fun s g2 => (21 ≤ s ∧ s ≤ 24 ∧ g2 = 0) ∨ (s = 25 ∧ g2 < 10)) s g ∨ (fun s g2 => (s = 22 ∨ s = 23) ∧ g2 = 1) s g) → Z s g = y2 s g := fun s g hs hn => (t3 s g hs (fun z => hn (Or.inr z))).trans ((f3 s g (fun z => hn (Or.inl z))).trans ((up_ne _ _ (by omega)).trans (by simp only [up_role _ _ _ _ hs])))
  have t1 : ∀ s g, s ≠ 6 → ¬ ((fun s g2 => s < 6 ∧ g2 = 2) s g ∨ (fun s g2 => s < 6 ∧ g2 = 3) s g ∨ (fun s g2 => (7 ≤ s ∧ s ≤ 8 ∧ g2 = 0) ∨ (s < 6 ∧ 4 ≤ g2 ∧ g2 < 12)) s g ∨ (fun s g2 => (s = 9 ∨ s = 10) ∧ g2 = 0) s g ∨ (fun s g2 => (s = 11 ∨ s = 12) ∧ g2 = 0) s g ∨ (fun s g2 => (s = 13 ∨ s = 14) ∧ g2 = 0) s g ∨ (fun s g2 => (15 ≤ s ∧ s ≤ 19 ∧ g2 = 0) ∨ (s = 20 ∧ g2 < 7)) s g ∨ (fun s g2 => (21 ≤ s ∧ s ≤ 24 ∧ g2 = 0) ∨ (s = 25 ∧ g2 < 10)) s g ∨ (fun s g2 => (s = 22 ∨ s = 23) ∧ g2 = 1) s g) → Z s g = y1 s g := fun s g hs hn => (t2 s g hs (fun z => hn (Or.inr z))).trans ((f2 s g (fun z => hn (Or.inl z))).trans ((up_ne _ _ (by omega)).trans (by simp only [up_role _ _ _ _ hs])))
  have t0 : ∀ s g, s ≠ 6 → ¬ ((fun s g2 => s < 6 ∧ g2 = 1) s g ∨ (fun s g2 => s < 6 ∧ g2 = 2) s g ∨ (fun s g2 => s < 6 ∧ g2 = 3) s g ∨ (fun s g2 => (7 ≤ s ∧ s ≤ 8 ∧ g2 = 0) ∨ (s < 6 ∧ 4 ≤ g2 ∧ g2 < 12)) s g ∨ (fun s g2 => (s = 9 ∨ s = 10) ∧ g2 = 0) s g ∨ (fun s g2 => (s = 11 ∨ s = 12) ∧ g2 = 0) s g ∨ (fun s g2 => (s = 13 ∨ s = 14) ∧ g2 = 0) s g ∨ (fun s g2 => (15 ≤ s ∧ s ≤ 19 ∧ g2 = 0) ∨ (s = 20 ∧ g2 < 7)) s g ∨ (fun s g2 => (21 ≤ s ∧ s ≤ 24 ∧ g2 = 0) ∨ (s = 25 ∧ g2 < 10)) s g ∨ (fun s g2 => (s = 22 ∨ s = 23) ∧ g2 = 1) s g) → Z s g = y0 s g := fun s g hs hn => (t1 s g hs (fun z => hn (Or.inr z))).trans ((f1 s g (fun z => hn (Or.inl z))).trans ((up_ne _ _ (by omega)).trans (by simp only [up_role _ _ _ _ hs])))
  have tt : ∀ s g, s ≠ 6 → ¬ (fun s g2 => (s < 6 ∧ g2 < 12) ∨ (7 ≤ s ∧ s ≤ 19 ∧ g2 = 0) ∨ (s = 20 ∧ g2 < 7) ∨ (21 ≤ s ∧ s ≤ 24 ∧ g2 = 0) ∨ (s = 25 ∧ g2 < 10) ∨ (22 ≤ s ∧ s ≤ 23 ∧ g2 = 1)) s g → Z s g = h s g := fun s g hs hn => (t0 s g hs (by omega)).trans ((f0 s g (by omega)).trans (up_ne _ _ (by omega)))
  have o6n : ∀ g, ¬ g = 0 → Z 6 g = none := fun g hg => by
    rw [← hZ, up_grp _ _ _ hg]
    rw [f10 6 g (by omega), up_role _ _ _ _ (by decide)]
    simp only [up_grp _ _ _ hg]
    rw [f9 6 g (by omega), up_role _ _ _ _ (by decide)]
    simp only [up_grp _ _ _ hg]
    rw [f8 6 g (by omega), up_role _ _ _ _ (by decide)]
    simp only [up_grp _ _ _ hg]
    rw [f7 6 g (by omega), up_role _ _ _ _ (by decide)]
    simp only [up_grp _ _ _ hg]
    rw [f6 6 g (by omega), up_role _ _ _ _ (by decide)]
    simp only [up_grp _ _ _ hg]
    rw [f5 6 g (by omega), up_role _ _ _ _ (by decide)]
    simp only [up_grp _ _ _ hg]
    rw [f4 6 g (by omega), up_role _ _ _ _ (by decide)]
    simp only [up_grp _ _ _ hg]
    rw [f3 6 g (by omega), up_role _ _ _ _ (by decide)]
    simp only [up_grp _ _ _ hg]
    rw [f2 6 g (by omega), up_role _ _ _ _ (by decide)]
    simp only [up_grp _ _ _ hg]
    rw [f1 6 g (by omega), up_role _ _ _ _ (by decide)]
    simp only [up_grp _ _ _ hg]
    rw [f0 6 g (by omega), up_role _ _ _ _ (by decide)]
    exact hno 6 (by decide) g (Or.inr hg)
  have n0 := mapAt_fr m0 (fun s hs => t0 s 0 (by omega) (by omega))
  have n1 := mapAt_fr m1 (fun s hs => t1 s 1 (by omega) (by omega))
  have n2 := mapAt_fr m2 (fun s hs => t2 s 2 (by omega) (by omega))
  have n3 := mapAt_fr m3 (fun s hs => t3 s 3 (by omega) (by omega))
  have n4 : ∀ i, i < 8 → mapAt Z (4 + i) (z4 i) mS0 := fun i hi => mapAt_fr (p3 i hi) (fun s hs => t4 s (4 + i) (by omega) (by omega))
  exact nw_end hno (by rw [← hZ]; exact o6 _) o6n n0 n1 n2 n3 n4 p3z tt ((t4 7 0 (by decide) (by omega)).trans p1) ((t4 8 0 (by decide) (by omega)).trans p2) ((t5 9 0 (by decide) (by omega)).trans p4) ((t5 10 0 (by decide) (by omega)).trans p5) ((t6 11 0 (by decide) (by omega)).trans p6) ((t6 12 0 (by decide) (by omega)).trans p7) ((t7 13 0 (by decide) (by omega)).trans p8) ((t7 14 0 (by decide) (by omega)).trans p9) ((t8 15 0 (by decide) (by omega)).trans p10) ((t8 16 0 (by decide) (by omega)).trans p11) ((t8 17 0 (by decide) (by omega)).trans p12) ((t8 18 0 (by decide) (by omega)).trans p13) ((t8 19 0 (by decide) (by omega)).trans p14) ((t9 21 0 (by decide) (by omega)).trans p16) ((t9 22 0 (by decide) (by omega)).trans p17) ((t9 23 0 (by decide) (by omega)).trans p18) ((t9 24 0 (by decide) (by omega)).trans p19) ((t10 22 1 (by decide)).trans p21) ((t10 23 1 (by decide)).trans p22) (fun i hi => (t8 20 i (by decide) (by omega)).trans (p15 i hi)) p15z (fun i hi => (t9 25 i (by decide) (by omega)).trans (p20 i hi)) p20z

