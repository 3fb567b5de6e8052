/-! The law's loop and its entry (by wip/whole/gen/m64.py). -/
theorem lw_sw {x : Int32} : ∃ i, i < 64 ∧ x &&& 63 = nI i := by
  refine ⟨(x &&& 63).toBitVec.toNat, ?_, Int32.toBitVec_inj.mp (by show _ = BitVec.ofNat 32 _; simp)⟩
  rw [Int32.toBitVec_and, BitVec.toNat_and]
  have z : x.toBitVec.toNat &&& (63 : Int32).toBitVec.toNat ≤ (63 : Int32).toBitVec.toNat := Nat.and_le_right
  have e : (63 : Int32).toBitVec.toNat = 63 := by decide
  omega
theorem lw_gt {k n : Nat} (hk : 5 * k ≤ 5000) (hn : n ≤ 2560) : nI n - 5 < nI (5 * k) ↔ n < 5 * k + 5 := by
  have e1 : (nI n).toInt = n := nI_toInt (by omega)
  have e2 : (nI (5 * k)).toInt = ((5 * k : Nat) : Int) := nI_toInt (by omega)
  have e5 : (5 : Int32).toInt = 5 := by decide
  have e3 : (nI n - 5).toInt = (nI n).toInt - (5 : Int32).toInt := fb_subI (by rw [e1, e5]; omega) (by rw [e1, e5]; omega)
  rw [Int32.lt_iff_toInt_lt, e3, e1, e2, e5]
  omega
section
variable {l : Launch} {G : GG} {A : AD}
set_option maxRecDepth 100000 in
theorem lw_loop (hl : l.stackTraces = false) {P : Post} (hP : ∀ h, P (.inl (some (.int 1))) h) (hL : (gX G).2.1 ≤ 2560) : ∀ (j k : Nat), k + j = (gX G).2.1 / 5 → ∀ (X : CL) (Y : YS) (fo : Nat → Int64) (fd : Nat → UInt64) (v6 v7 v8 : Option Value), RelX k X Y → Go l G mL_law 40 (25 * j) (3550 * j) P 28 (lwL G A k v6 v7 v8) [] (LW A X Y fo fd) := by
  intro j
  induction j with
  | zero =>
    intro k hk X Y fo fd v6 v7 v8 hR
    refine g_iload dL_law_28 rfl ?_
    refine g_aload_n (i := 0) dL_law_30 rfl rfl ?_
    refine g_slen dL_law_31 ?_
    refine g_iconst (v := 5) dL_law_32 (by decide) ?_
    refine g_isub dL_law_33 ?_
    refine g_icmp_gt (tgt := 2626) dL_law_34 (by decide) (fun _ => ?_) (fun c34 => absurd ((lw_gt (by omega) hL).mpr (by omega)) c34)
    refine g_iconst (v := 1) dL_law_2626 (by decide) ?_
    refine g_iret dL_law_2627 rfl rfl ?_
    exact hP _
  | succ j ih =>
    intro k hk X Y fo fd v6 v7 v8 hR
    have hk5 : k < 512 := by omega
    have hj : 5 * k + 4 < (gX G).2.1 := by omega
    rw [Nat.mul_succ, Nat.mul_succ]
    have nx : lwN l G A k (25 * j) (3550 * j) P := fun w6 w7 w8 X Y fo fd hR => by
      refine g_iinc (w := 5) (v := nI (5 * (k + 1))) dL_law_2620 (by decide) rfl (Int32.ofNat_add (5 * k) 5).symm (Nat.le_of_ble_eq_true rfl) ?_
      refine g_goto (tgt := 28) dL_law_2623 (by decide) ?_
      exact ih (k + 1) (by omega) X Y fo fd _ _ _ hR
    refine g_iload dL_law_28 rfl ?_
    refine g_aload_n (i := 0) dL_law_30 rfl rfl ?_
    refine g_slen dL_law_31 ?_
    refine g_iconst (v := 5) dL_law_32 (by decide) ?_
    refine g_isub dL_law_33 ?_
    refine g_icmp_gt (tgt := 2626) dL_law_34 (by decide) (fun c34 => absurd ((lw_gt (by omega) hL).mp c34) (by omega)) (fun _ => ?_)
    refine g_aload_n (i := 0) dL_law_37 rfl rfl ?_
    refine g_iload dL_law_38 rfl ?_
    refine g_sld dL_law_40 (ix_nI (j := 5 * k) (by omega)) (by omega) ?_
    refine g_bipush (v := 63) dL_law_41 (by decide) ?_
    refine g_iand dL_law_43 ?_
    obtain ⟨i, hi, e⟩ := lw_sw (x := (gX G).2.2 (5 * k))
    rw [e]
    clear e
    match i, hi with
    | 0, _ => exact g_tabIn (off := 192) (tgt := 236) dL_law_44 (by decide) (by decide) (by decide +kernel) (by decide) (lw_c0 hl hk5 hj hR nx)
    | 1, _ => exact g_tabIn (off := 274) (tgt := 318) dL_law_44 (by decide) (by decide) (by decide +kernel) (by decide) (lw_c1 hl hk5 hj hR nx)
    | 2, _ => exact g_tabIn (off := 342) (tgt := 386) dL_law_44 (by decide) (by decide) (by decide +kernel) (by decide) (lw_c2 hl hk5 hj hR nx)
    | 3, _ => exact g_tabIn (off := 422) (tgt := 466) dL_law_44 (by decide) (by decide) (by decide +kernel) (by decide) (lw_c3 hl hk5 hj hR nx)
    | 4, _ => exact g_tabIn (off := 490) (tgt := 534) dL_law_44 (by decide) (by decide) (by decide +kernel) (by decide) (lw_c4 hl hk5 hj hR nx)
    | 5, _ => exact g_tabIn (off := 558) (tgt := 602) dL_law_44 (by decide) (by decide) (by decide +kernel) (by decide) (lw_c5 hl hk5 hj hR nx)
    | 6, _ => exact g_tabIn (off := 571) (tgt := 615) dL_law_44 (by decide) (by decide) (by decide +kernel) (by decide) (lw_c6 hl hk5 hj hR nx)
    | 7, _ => exact g_tabIn (off := 584) (tgt := 628) dL_law_44 (by decide) (by decide) (by decide +kernel) (by decide) (lw_c7 hl hk5 hj hR nx)
    | 8, _ => exact g_tabIn (off := 640) (tgt := 684) dL_law_44 (by decide) (by decide) (by decide +kernel) (by decide) (lw_c8 hl hk5 hj hR nx)
    | 9, _ => exact g_tabIn (off := 684) (tgt := 728) dL_law_44 (by decide) (by decide) (by decide +kernel) (by decide) (lw_c9 hl hk5 hj hR nx)
    | 10, _ => exact g_tabIn (off := 728) (tgt := 772) dL_law_44 (by decide) (by decide) (by decide +kernel) (by decide) (lw_c10 hl hk5 hj hR nx)
    | 11, _ => exact g_tabIn (off := 796) (tgt := 840) dL_law_44 (by decide) (by decide) (by decide +kernel) (by decide) (lw_c11 hl hk5 hj hR nx)
    | 12, _ => exact g_tabIn (off := 852) (tgt := 896) dL_law_44 (by decide) (by decide) (by decide +kernel) (by decide) (lw_c12 hl hk5 hj hR nx)
    | 13, _ => exact g_tabIn (off := 908) (tgt := 952) dL_law_44 (by decide) (by decide) (by decide +kernel) (by decide) (lw_c13 hl hk5 hj hR nx)
    | 14, _ => exact g_tabIn (off := 964) (tgt := 1008) dL_law_44 (by decide) (by decide) (by decide +kernel) (by decide) (lw_c14 hl hk5 hj hR nx)
    | 15, _ => exact g_tabIn (off := 977) (tgt := 1021) dL_law_44 (by decide) (by decide) (by decide +kernel) (by decide) (lw_c15 hl hk5 hj hR nx)
    | 16, _ => exact g_tabIn (off := 990) (tgt := 1034) dL_law_44 (by decide) (by decide) (by decide +kernel) (by decide) (lw_c16 hl hk5 hj hR nx)
    | 17, _ => exact g_tabIn (off := 1046) (tgt := 1090) dL_law_44 (by decide) (by decide) (by decide +kernel) (by decide) (lw_c17 hl hk5 hj hR nx)
    | 18, _ => exact g_tabIn (off := 1101) (tgt := 1145) dL_law_44 (by decide) (by decide) (by decide +kernel) (by decide) (lw_c18 hl hk5 hj hR nx)
    | 19, _ => exact g_tabIn (off := 1157) (tgt := 1201) dL_law_44 (by decide) (by decide) (by decide +kernel) (by decide) (lw_c19 hl hk5 hj hR nx)
    | 20, _ => exact g_tabIn (off := 1213) (tgt := 1257) dL_law_44 (by decide) (by decide) (by decide +kernel) (by decide) (lw_c20 hl hk5 hj hR nx)
    | 21, _ => exact g_tabIn (off := 1269) (tgt := 1313) dL_law_44 (by decide) (by decide) (by decide +kernel) (by decide) (lw_c21 hl hk5 hj hR nx)
    | 22, _ => exact g_tabIn (off := 1325) (tgt := 1369) dL_law_44 (by decide) (by decide) (by decide +kernel) (by decide) (lw_c22 hl hk5 hj hR nx)
    | 23, _ => exact g_tabIn (off := 1381) (tgt := 1425) dL_law_44 (by decide) (by decide) (by decide +kernel) (by decide) (lw_c23 hl hk5 hj hR nx)
    | 24, _ => exact g_tabIn (off := 1437) (tgt := 1481) dL_law_44 (by decide) (by decide) (by decide +kernel) (by decide) (lw_c24 hl hk5 hj hR nx)
    | 25, _ => exact g_tabIn (off := 1517) (tgt := 1561) dL_law_44 (by decide) (by decide) (by decide +kernel) (by decide) (lw_c25 hl hk5 hj hR nx)
    | 26, _ => exact g_tabIn (off := 1609) (tgt := 1653) dL_law_44 (by decide) (by decide) (by decide +kernel) (by decide) (lw_c26 hl hk5 hj hR nx)
    | 27, _ => exact g_tabIn (off := 1701) (tgt := 1745) dL_law_44 (by decide) (by decide) (by decide +kernel) (by decide) (lw_c27 hl hk5 hj hR nx)
    | 28, _ => exact g_tabIn (off := 1757) (tgt := 1801) dL_law_44 (by decide) (by decide) (by decide +kernel) (by decide) (lw_c28 hl hk5 hj hR nx)
    | 29, _ => exact g_tabIn (off := 1813) (tgt := 1857) dL_law_44 (by decide) (by decide) (by decide +kernel) (by decide) (lw_c29 hl hk5 hj hR nx)
    | 30, _ => exact g_tabIn (off := 1881) (tgt := 1925) dL_law_44 (by decide) (by decide) (by decide +kernel) (by decide) (lw_c30 hl hk5 hj hR nx)
    | 31, _ => exact g_tabIn (off := 1961) (tgt := 2005) dL_law_44 (by decide) (by decide) (by decide +kernel) (by decide) (lw_c31 hl hk5 hj hR nx)
    | 32, _ => exact g_tabIn (off := 2019) (tgt := 2063) dL_law_44 (by decide) (by decide) (by decide +kernel) (by decide) (lw_c32 hl hk5 hj hR nx)
    | 33, _ => exact g_tabIn (off := 2063) (tgt := 2107) dL_law_44 (by decide) (by decide) (by decide +kernel) (by decide) (lw_c33 hl hk5 hj hR nx)
    | 34, _ => exact g_tabIn (off := 2107) (tgt := 2151) dL_law_44 (by decide) (by decide) (by decide +kernel) (by decide) (lw_c34 hl hk5 hj hR nx)
    | 35, _ => exact g_tabIn (off := 2151) (tgt := 2195) dL_law_44 (by decide) (by decide) (by decide +kernel) (by decide) (lw_c35 hl hk5 hj hR nx)
    | 36, _ => exact g_tabIn (off := 2207) (tgt := 2251) dL_law_44 (by decide) (by decide) (by decide +kernel) (by decide) (lw_c36 hl hk5 hj hR nx)
    | 37, _ => exact g_tabIn (off := 2263) (tgt := 2307) dL_law_44 (by decide) (by decide) (by decide +kernel) (by decide) (lw_c37 hl hk5 hj hR nx)
    | 38, _ => exact g_tabIn (off := 2319) (tgt := 2363) dL_law_44 (by decide) (by decide) (by decide +kernel) (by decide) (lw_c38 hl hk5 hj hR nx)
    | 39, _ => exact g_tabIn (off := 2384) (tgt := 2428) dL_law_44 (by decide) (by decide) (by decide +kernel) (by decide) (lw_c39 hl hk5 hj hR nx)
    | 40, _ => exact g_tabIn (off := 2462) (tgt := 2506) dL_law_44 (by decide) (by decide) (by decide +kernel) (by decide) (lw_c40 hl hk5 hj hR nx)
    | 41, _ => exact g_tabIn (off := 2475) (tgt := 2519) dL_law_44 (by decide) (by decide) (by decide +kernel) (by decide) (lw_c41 hl hk5 hj hR nx)
    | 42, _ => exact g_tabIn (off := 2519) (tgt := 2563) dL_law_44 (by decide) (by decide) (by decide +kernel) (by decide) (lw_c42 hl hk5 hj hR nx)
    | 43, _ => exact g_tabIn (off := 2532) (tgt := 2576) dL_law_44 (by decide) (by decide) (by decide +kernel) (by decide) (lw_c43 hl hk5 hj hR nx)
    | i + 44, hi =>
      refine g_tabOut (tgt := 2620) dL_law_44 (Or.inr (by rw [nI_toInt (by omega)]; omega)) (by decide) ?_
      exact Go.wid (by omega) (by omega) (nx _ _ _ X Y fo fd (RelP.same hR rfl rfl rfl rfl rfl rfl rfl rfl rfl rfl rfl rfl rfl rfl rfl rfl rfl (fun _ _ => rfl)))
end
/-! the start -/
theorem hC_cg {h h' : AH} {A A' : AD} {X : CL} (hA : ∀ s, s ≤ 26 → A s = A' s) {s g : Nat} (hs : s ≤ 26) : hC h A X s g = hC h' A' X s g := by
  have e : A = fun s => if s ≤ 26 then A' s else A s := funext fun s => by
    by_cases q : s ≤ 26
    · rw [if_pos q, hA s q]
    · rw [if_neg q]
  rw [e]
  exact role26 (P := fun s => hC h (fun s => if s ≤ 26 then A' s else A s) X s g = hC h' A' X s g) rfl rfl rfl rfl rfl rfl rfl rfl rfl rfl rfl rfl rfl rfl rfl rfl rfl rfl rfl rfl rfl rfl rfl rfl rfl rfl rfl s hs
theorem mo_cg {h h' : AH} {A A' : AD} {Y : YS} (hA : ∀ s, 30 ≤ s → s ≤ 46 → A s = A' s) {s g : Nat} (h1 : 30 ≤ s) (h2 : s ≤ 46) : mo h A Y s g = mo h' A' Y s g := by
  have e : A = fun s => if 30 ≤ s ∧ s ≤ 46 then A' s else A s := funext fun s => by
    by_cases q : 30 ≤ s ∧ s ≤ 46
    · rw [if_pos q, hA s q.1 q.2]
    · rw [if_neg q]
  rw [e]
  have e : s = 30 ∨ s = 31 ∨ s = 32 ∨ s = 33 ∨ s = 34 ∨ s = 35 ∨ s = 36 ∨ s = 37 ∨ s = 38 ∨ s = 39 ∨ s = 40 ∨ s = 41 ∨ s = 42 ∨ s = 43 ∨ s = 44 ∨ s = 45 ∨ s = 46 := by omega
  rcases e with rfl | rfl | rfl | rfl | rfl | rfl | rfl | rfl | rfl | rfl | rfl | rfl | rfl | rfl | rfl | rfl | rfl <;> rfl
theorem adOf_eq {h h' : AH} {s : Nat} (e : ∀ g, h s g = h' s g) : adOf h s = adOf h' s := funext fun g => by
  unfold adOf
  rw [e g]
theorem LW_0 {h0 h2 h3 h4 h6 : AH} {X : CL} {Y : YS} {b1 b2 q1 q2 : Nat} {c1 c2 : AC} (e0 : ∀ s g, h0 s g = none) (e2 : h2 = hC (up h0 6 0 (b1, c1)) (adOf h2) X) (e3 : h3 = up h2 30 0 (b2, c2)) (e4a : ∀ s, s < 30 ∨ 46 < s → ∀ g, h4 s g = h3 s g) (e4 : h4 = mo h3 (adOf h4) Y) (e6 : h6 = up (up h4 60 0 (oArr q1 (fun _ => 0))) 61 0 (dArr q2 (fun _ => 0))) : h6 = LW (adOf h6) X Y (fun _ => 0) (fun _ => 0) := by
  have low : ∀ s, s < 60 → ∀ g, h6 s g = h4 s g := fun s hs g => by rw [e6, up_role _ _ _ _ (by omega), up_role _ _ _ _ (by omega)]
  have c26 : ∀ s, s ≤ 26 → ∀ g, h6 s g = h2 s g := fun s hs g => by rw [low s (by omega), e4a s (by omega), e3, up_role _ _ _ _ (by omega)]
  have hi2 : ∀ s, 26 < s → ∀ g, h2 s g = none := fun s hs g => by rw [e2, hC_hi hs, up_role _ _ _ _ (by omega)]; exact e0 s g
  have a60 : adOf h6 60 0 = q1 := by
    have z : h6 60 0 = some (oArr q1 (fun _ => 0)) := by rw [e6, up_role _ _ _ _ (by decide), up_same]
    unfold adOf
    rw [z]
  have a61 : adOf h6 61 0 = q2 := by
    have z : h6 61 0 = some (dArr q2 (fun _ => 0)) := by rw [e6, up_same]
    unfold adOf
    rw [z]
  funext s g
  rcases Nat.lt_or_ge 26 s with hs | hs
  · unfold LW
    rw [hC_hi hs]
    by_cases hm : 30 ≤ s ∧ s ≤ 46
    · rw [low s (by omega), e4]
      exact mo_cg (fun s h1 h2 => (adOf_eq (fun g => by rw [low s (by omega)])).symm) hm.1 hm.2
    · rw [mo_lo (by omega), oH, e6]
      by_cases e60 : s = 60 ∧ g = 0
      · obtain ⟨rfl, rfl⟩ := e60
        rw [← e6, if_pos ⟨rfl, rfl⟩, a60, e6, up_role _ _ _ _ (by decide), up_same]
      · by_cases e61 : s = 61 ∧ g = 0
        · obtain ⟨rfl, rfl⟩ := e61
          rw [← e6, if_neg (by omega), if_pos ⟨rfl, rfl⟩, a61, e6, up_same]
        · rw [if_neg e60, if_neg e61, up_ne _ _ e61, up_ne _ _ e60, e4a s (by omega), e3, up_role _ _ _ _ (by omega)]
          exact hi2 s hs g
  · rw [c26 s hs]
    unfold LW
    rw [e2]
    exact hC_cg (fun s hs => (adOf_eq (fun g => by rw [c26 s hs])).symm) hs
theorem bg_ok : ∀ i, i < 5 → bgC i = nI (bgN i) := by decide +kernel
theorem lt_ok : ∀ i, i < 24 → ltC i = nI (ltN i) := by decide +kernel
theorem Rel_0 {x1 x2 : Nat} {f0 : Nat → Int32} (h0 : isG0 f0 64) : RelX 0 (cX0 x1 x2) (mI0 f0, mF0) := by
  have e0 : ∀ i, i < 202 → ¬ (128 ≤ i ∧ i < 192) → f0 i = 0 := fun i hi hn => by
    rw [h0 i hi, if_neg (by omega)]
  have e1 : ∀ i, 128 ≤ i → i < 192 → f0 i = 46 := fun i h1 h2 => by
    rw [h0 i (by omega), if_pos (by omega)]
  have tx : ∀ x : Nat, isTx (x, 16, fun _ => 0, 0, 0) (fun _ => 0) 0 := fun x => ⟨rfl, Nat.zero_le _, Or.inl rfl, fun j hj => absurd hj (Nat.not_lt_zero j), sb_fit0⟩
  have z1 : (0 : Int) ≤ (0 : Int32).toInt := by decide
  have z2 : (0 : Int32).toInt ≤ (1000000 : Int) := by decide
  have z3 : (0 : Int32).toInt ≤ (9999 : Int) := by decide
  have hm : mP 0 mS0 f0 := by
    refine ⟨⟨fun i hi => (e0 i (by omega) (by omega)).symm, fun i hi => (e0 (64 + i) (by omega) (by omega)).symm, fun i hi => (e1 (128 + i) (by omega) (by omega)).symm, fun s hs => (e0 (192 + s) (by omega) (by omega)).symm, fun s hs => (e0 (196 + s) (by omega) (by omega)).symm, (e0 200 (by omega) (by omega)).symm, (e0 201 (by omega) (by omega)).symm⟩, ⟨⟨fun _ _ => z1, fun _ _ => z1, fun _ _ => z1, by decide +kernel, by decide⟩, fun _ _ => ⟨z1, z2⟩⟩, fun _ _ => Or.inl rfl, Or.inr ⟨by decide, fun _ _ => z3⟩⟩
  exact ⟨0, (fun _ => 0, 0), (fun _ => 0, 0), Nat.le_refl _, hm, fun q => absurd rfl q, ⟨(show (0 : Nat) < 8 by decide), Nat.zero_le _, rfl, fun j hj => absurd hj (Nat.not_lt_zero j)⟩, ⟨rfl, rfl, rfl, rfl, rfl⟩, ⟨tx x1, fun i hi => absurd hi (Nat.not_lt_zero i), Nat.zero_le _, rfl, fun i hi => absurd hi (Nat.not_lt_zero i)⟩, ⟨tx x2, Nat.zero_le _, rfl, fun i hi => absurd hi (Nat.not_lt_zero i)⟩, bg_ok, lt_ok⟩
set_option maxRecDepth 100000 in
theorem lw_body {l : Launch} {G : GG} (hl : l.stackTraces = false) {P : Post} (hP : ∀ h, P (.inl (some (.int 1))) h) (hL : (gX G).2.1 ≤ 2560) : Go l G mL_law 40 12928 1824269 P 0 (eP 9 [.ref (gX G).1]) [] (fun _ _ => none) := by
  refine g_new (s0 := 6) (g0 := 0) (fs := [.null, .null, .null, .null, .null, .null, .null, .null, .null, .null, .null, .int 0, .int 0, .int 0, .int 0, .int 0]) dL_law_0 K_X9 cl_L_8 w_inst_MapSanatorium w_init_MapSanatorium (by decide) (fun b1 => ?_)
  refine g_dup dL_law_3 rfl ?_
  refine g_callI (ev_newClass hl (fun s hs g hg => up_ne _ _ (by omega)) (up_same _ _ _ _)) dL_law_4 ml_L_147 ciX9_init rfl rfl (Nat.le_of_ble_eq_true rfl) (Nat.le_of_ble_eq_true rfl) (by decide) (by decide) (kr_q (fun h2 q2 => ?_)) kx_q
  obtain ⟨x1, x2, e6, e2⟩ := q2
  refine g_astore_n (i := 1) dL_law_7 rfl (Nat.le_of_ble_eq_true rfl) ?_
  refine g_new (s0 := 30) (g0 := 0) (fs := [.null, .null, .null, .null, .int 0, .null, .int 0, .int 0, .int 0, .int 0, .int 0, .int 0, .null, .int 0, .null, .null, .null, .null, .null, .null, .int 0, .null, .null, .null, .int 0, .int 0, .int 0, .int 0, .null, .int 0]) dL_law_8 K_X10 cl_L_148 w_inst_MapSanatoriumModel w_init_MapSanatoriumModel (by decide) (fun b2 => ?_)
  refine g_dup dL_law_11 rfl ?_
  refine g_callI (ev_newModel hl (fun s h1 h46 g hg => (up_ne _ _ (by omega)).trans (by rw [e2, hC_hi (by omega), up_role _ _ _ _ (by omega)])) (up_same _ _ _ _)) dL_law_12 ml_L_150 ciX10_init rfl rfl (Nat.le_of_ble_eq_true rfl) (Nat.le_of_ble_eq_true rfl) (by decide) (by decide) (kr_q (fun h4 q4 => ?_)) kx_q
  obtain ⟨f0, hf0, e30, e4a, e4⟩ := q4
  refine g_astore_n (i := 2) dL_law_15 rfl (Nat.le_of_ble_eq_true rfl) ?_
  refine g_iconst (v := 1) dL_law_16 (by decide) ?_
  refine g_newa (atype := .long) (N := 1) (t := 1) (s0 := 60) (g0 := 0) (a0 := (1, .inr (.inl (fun _ => 0)))) dL_law_17 w_arr_long (by decide) rfl (fun _ => rfl) (ix_nI (j := 1) (by decide)) (by decide) (fun _ _ h9 => h9) (fun q1 => ?_)
  refine g_astore_n (i := 3) dL_law_19 rfl (Nat.le_of_ble_eq_true rfl) ?_
  refine g_iconst (v := 1) dL_law_20 (by decide) ?_
  refine g_newa (atype := .double) (N := 1) (t := 5) (s0 := 61) (g0 := 0) (a0 := (1, .inr (.inr (.inr (.inl (fun _ => 0)))))) dL_law_21 w_arr_double (by decide) rfl (fun _ => rfl) (ix_nI (j := 1) (by decide)) (by decide) (fun _ _ h9 => h9) (fun q2 => ?_)
  refine g_astore dL_law_23 (Nat.le_of_ble_eq_true rfl) ?_
  refine g_iconst (v := 0) dL_law_25 (by decide) ?_
  refine g_istore dL_law_26 (Nat.le_of_ble_eq_true rfl) ?_
  have eH := LW_0 (h0 := fun _ _ => none) (fun _ _ => rfl) e2 rfl e4a e4 (h6 := up (up h4 60 0 (oArr q1 (fun _ => 0))) 61 0 (dArr q2 (fun _ => 0))) rfl
  generalize hA : adOf (up (up h4 60 0 (oArr q1 (fun _ => 0))) 61 0 (dArr q2 (fun _ => 0))) = A at eH
  have low : ∀ s, s < 60 → ∀ g, up (up h4 60 0 (oArr q1 (fun _ => 0))) 61 0 (dArr q2 (fun _ => 0)) s g = h4 s g := fun s hs g => by rw [up_role _ _ _ _ (by omega), up_role _ _ _ _ (by omega)]
  have a6 : A 6 0 = b1 := by
    rw [← hA, adOf_eq (h' := h2) (fun g => by rw [low 6 (by decide), e4a 6 (by decide), up_role _ _ _ _ (by decide)])]
    exact e6
  have a30 : A 30 0 = b2 := by
    rw [← hA, adOf_eq (h' := h4) (fun g => low 30 (by decide) g)]
    exact e30
  have a60 : A 60 0 = q1 := by
    rw [← hA]
    unfold adOf
    rw [up_role _ _ _ _ (by decide), up_same]
  have a61 : A 61 0 = q2 := by
    rw [← hA]
    unfold adOf
    rw [up_same]
  refine Go.heap eH ?_
  rw [← a6, ← a30, ← a60, ← a61]
  exact Go.wid (by omega) (by omega) (lw_loop hl hP hL ((gX G).2.1 / 5) 0 (by omega) _ _ _ _ none none none (Rel_0 hf0))
