/-! The law's wrappers (by wip/whole/gen/m47.py). -/
theorem g_dast {l : Launch} {G : GG} {M : MD} {d kc ks pc : Nat} {P : Post} {L : List (Option Value)} {st : List Value} {h : AH} {s0 g0 a n j : Nat} {i : Int32} {f : Nat → UInt64} {x : UInt64} (hd : decode M.2.1 pc = .ok (.dastore, 1)) (hh : h s0 g0 = some (a, .inl (5, n, .inr (.inr (.inr (.inl f)))))) (hi : ix i j) (hj : j < n)
    (kk : Go l G M d kc ks P (pc + 1) L st (up h s0 g0 (a, .inl (5, n, .inr (.inr (.inr (.inl (va_up f j x)))))))) : Go l G M d kc ks P pc L (.double x :: .int i :: .ref a :: st) h := by
  intro p e R s m args below meth c H locs cells slots mc ms ls F h1 h2 h3 h4 hE hS hL
  have hc : H[a]? = some (vp_cell (gA G 5) (n, .inr (.inr (.inr (.inl f))))) := (hE.1 _ _ _ _ hh).1
  refine W.dast F.1 F.2.1 hc ((F.cx.arr (t := 5) (by decide)).1 n (fun j => .double (f j))) (fun q => by cases q) ?_ rfl rfl hd fun H1 e z oq => ?_
  · show ¬ (i < 0 ∨ (arrV _ _ _).slots.size ≤ _)
    rw [arrV_size]
    exact hi.in hj
  · refine kk _ _ _ _ _ _ _ _ _ _ _ _ _ _ _ _ F h1 h2 h3 h4 (hE.put hh ?_ oq) (hS.put z oq (hE.1 _ _ _ _ hh).2) hL
    show H1[a]? = some (vp_cell _ _)
    rw [e, hi.2]
    show some ((arrV (gA G 5) n (fun q => .double (f q))).setSlot j (.double x)) = some (arrV (gA G 5) n (fun q => .double (va_up f j x q)))
    rw [arrV_store]
    congr 2
    funext q
    by_cases hq : q = j
    · subst hq
      simp [updV, va_up]
    · simp [updV, va_up, hq]
/-- a long row, a double row of one place -/
abbrev oArr (a : Nat) (f : Nat → Int64) : Nat × AC := (a, .inl (1, 1, .inr (.inl f)))
abbrev dArr (a : Nat) (f : Nat → UInt64) : Nat × AC := (a, .inl (5, 1, .inr (.inr (.inr (.inl f)))))

set_option maxRecDepth 100000 in
theorem wl_setGround {l : Launch} {G : GG} (hl : l.stackTraces = false) {h : AH} {b o mc ms : Nat} {p0 : Int32} {p1 : Int32} {p2 : Int32} {fs : List Value} {P' P9 : Post} (hb : h 6 0 = some (b, .inr (9, fs))) (hEv : Ev l G 12 mc ms mX9_setGround [.ref b, .int p0, .int p1, .int p2] h P')
    (hok : ∀ v2 h2, P' (.inl v2) h2 → ∃ (z : Int32) (f : Nat → Int64), v2 = some (.int z) ∧ h2 60 0 = some (oArr o f) ∧ P9 (.inl (some (.int 0))) (up h2 60 0 (oArr o (va_up f 0 (z.toInt64))))) (hex : ∀ E h2, P' (.inr E) h2 → (E = "java/lang/IndexOutOfBoundsException" ∧ P9 (.inl (some (.int 1))) h2) ∨ (E = "java/lang/IllegalArgumentException" ∧ P9 (.inl (some (.int 2))) h2) ∨ (E = "java/lang/UnsupportedOperationException" ∧ P9 (.inl (some (.int 3))) h2)) : Ev l G 13 mc ms mL_setGround [.ref b, .int p0, .int p1, .int p2, .ref o] h P9 := by
  refine Ev.of hl (by decide) (Nat.le_of_ble_eq_true rfl) ?_
  refine g_aload dL_setGround_0 rfl ?_
  refine g_iconst (v := 0) dL_setGround_2 (by decide) ?_
  refine g_aload_n (i := 0) dL_setGround_3 rfl rfl ?_
  refine g_iload_n (i := 1) dL_setGround_4 rfl rfl ?_
  refine g_iload_n (i := 2) dL_setGround_5 rfl rfl ?_
  refine g_iload_n (i := 3) dL_setGround_6 rfl rfl ?_
  refine g_callV hEv dL_setGround_7 ml_L_7 cvX9_setGround K_X9 rfl hb rfl rfl (Nat.le_of_ble_eq_true rfl) (Nat.le_of_ble_eq_true rfl) (Nat.le_refl _) (Nat.le_refl _) (fun v2 h2 q2 => ?_) (fun E h2 q2 => ?_)
  · obtain ⟨z, f, rfl, e60, hP⟩ := hok _ _ q2
    refine g_i2l dL_setGround_10 ?_
    refine g_last dL_setGround_11 e60 (ix_nI (j := 0) (by decide)) (by decide) rfl ?_
    refine g_goto (tgt := 27) dL_setGround_12 (by decide) ?_
    refine g_iconst (v := 0) dL_setGround_27 (by decide) ?_
    refine g_iret dL_setGround_28 rfl rfl ?_
    exact hP
  · rcases hex _ _ q2 with ⟨rfl, hP⟩ | ⟨rfl, hP⟩ | ⟨rfl, hP⟩
    · refine gt_catch [] ⟨0, 12, 15, 13⟩ [⟨0, 12, 19, 15⟩, ⟨0, 12, 23, 17⟩] rfl (fun z hz => absurd hz List.not_mem_nil) (by decide) (by decide) cl_L_13 ca_IndexOutOfBoundsException__IndexOutOfBoundsException (fun q => ?_)
      refine g_astore dL_setGround_15 (Nat.le_of_ble_eq_true rfl) ?_
      refine g_iconst (v := 1) dL_setGround_17 (by decide) ?_
      refine g_iret dL_setGround_18 rfl rfl ?_
      exact hP
    · refine gt_catch [⟨0, 12, 15, 13⟩] ⟨0, 12, 19, 15⟩ [⟨0, 12, 23, 17⟩] rfl (fun z hz => by simp only [List.mem_cons, List.not_mem_nil, or_false] at hz; rcases hz with rfl; exact Or.inr ⟨by decide, _, cl_L_13, by decide⟩) (by decide) (by decide) cl_L_15 ca_IllegalArgumentException__IllegalArgumentException (fun q => ?_)
      refine g_astore dL_setGround_19 (Nat.le_of_ble_eq_true rfl) ?_
      refine g_iconst (v := 2) dL_setGround_21 (by decide) ?_
      refine g_iret dL_setGround_22 rfl rfl ?_
      exact hP
    · refine gt_catch [⟨0, 12, 15, 13⟩, ⟨0, 12, 19, 15⟩] ⟨0, 12, 23, 17⟩ [] rfl (fun z hz => by simp only [List.mem_cons, List.not_mem_nil, or_false] at hz; rcases hz with rfl | rfl <;> first | exact Or.inr ⟨by decide, _, cl_L_13, by decide⟩ | exact Or.inr ⟨by decide, _, cl_L_15, by decide⟩) (by decide) (by decide) cl_L_17 ca_UnsupportedOperationException__UnsupportedOperationException (fun q => ?_)
      refine g_astore dL_setGround_23 (Nat.le_of_ble_eq_true rfl) ?_
      refine g_iconst (v := 3) dL_setGround_25 (by decide) ?_
      refine g_iret dL_setGround_26 rfl rfl ?_
      exact hP

set_option maxRecDepth 100000 in
theorem wl_groundAt {l : Launch} {G : GG} (hl : l.stackTraces = false) {h : AH} {b o mc ms : Nat} {p0 : Int32} {p1 : Int32} {fs : List Value} {P' P9 : Post} (hb : h 6 0 = some (b, .inr (9, fs))) (hEv : Ev l G 12 mc ms mX9_groundAt [.ref b, .int p0, .int p1] h P')
    (hok : ∀ v2 h2, P' (.inl v2) h2 → ∃ (z : Int32) (f : Nat → Int64), v2 = some (.int z) ∧ h2 60 0 = some (oArr o f) ∧ P9 (.inl (some (.int 0))) (up h2 60 0 (oArr o (va_up f 0 (z.toInt64))))) (hex : ∀ E h2, P' (.inr E) h2 → (E = "java/lang/IndexOutOfBoundsException" ∧ P9 (.inl (some (.int 1))) h2)) : Ev l G 13 mc ms mL_groundAt [.ref b, .int p0, .int p1, .ref o] h P9 := by
  refine Ev.of hl (by decide) (Nat.le_of_ble_eq_true rfl) ?_
  refine g_aload_n (i := 3) dL_groundAt_0 rfl rfl ?_
  refine g_iconst (v := 0) dL_groundAt_1 (by decide) ?_
  refine g_aload_n (i := 0) dL_groundAt_2 rfl rfl ?_
  refine g_iload_n (i := 1) dL_groundAt_3 rfl rfl ?_
  refine g_iload_n (i := 2) dL_groundAt_4 rfl rfl ?_
  refine g_callV hEv dL_groundAt_5 ml_L_19 cvX9_groundAt K_X9 rfl hb rfl rfl (Nat.le_of_ble_eq_true rfl) (Nat.le_of_ble_eq_true rfl) (Nat.le_refl _) (Nat.le_refl _) (fun v2 h2 q2 => ?_) (fun E h2 q2 => ?_)
  · obtain ⟨z, f, rfl, e60, hP⟩ := hok _ _ q2
    refine g_i2l dL_groundAt_8 ?_
    refine g_last dL_groundAt_9 e60 (ix_nI (j := 0) (by decide)) (by decide) rfl ?_
    refine g_goto (tgt := 17) dL_groundAt_10 (by decide) ?_
    refine g_iconst (v := 0) dL_groundAt_17 (by decide) ?_
    refine g_iret dL_groundAt_18 rfl rfl ?_
    exact hP
  · rcases hex _ _ q2 with ⟨rfl, hP⟩
    refine gt_catch [] ⟨0, 10, 13, 13⟩ [] rfl (fun z hz => absurd hz List.not_mem_nil) (by decide) (by decide) cl_L_13 ca_IndexOutOfBoundsException__IndexOutOfBoundsException (fun q => ?_)
    refine g_astore dL_groundAt_13 (Nat.le_of_ble_eq_true rfl) ?_
    refine g_iconst (v := 1) dL_groundAt_15 (by decide) ?_
    refine g_iret dL_groundAt_16 rfl rfl ?_
    exact hP

set_option maxRecDepth 100000 in
theorem wl_heatUp {l : Launch} {G : GG} (hl : l.stackTraces = false) {h : AH} {b o mc ms : Nat} {p0 : Int32} {p1 : Int32} {p2 : Int32} {fs : List Value} {P' P9 : Post} (hb : h 6 0 = some (b, .inr (9, fs))) (hEv : Ev l G 12 mc ms mX9_heatUp [.ref b, .int p0, .int p1, .int p2] h P')
    (hok : ∀ v2 h2, P' (.inl v2) h2 → ∃ (z : Int32) (f : Nat → Int64), v2 = some (.int z) ∧ h2 60 0 = some (oArr o f) ∧ P9 (.inl (some (.int 0))) (up h2 60 0 (oArr o (va_up f 0 (z.toInt64))))) (hex : ∀ E h2, P' (.inr E) h2 → (E = "java/lang/IndexOutOfBoundsException" ∧ P9 (.inl (some (.int 1))) h2) ∨ (E = "java/lang/IllegalArgumentException" ∧ P9 (.inl (some (.int 2))) h2) ∨ (E = "java/lang/UnsupportedOperationException" ∧ P9 (.inl (some (.int 3))) h2)) : Ev l G 13 mc ms mL_heatUp [.ref b, .int p0, .int p1, .int p2, .ref o] h P9 := by
  refine Ev.of hl (by decide) (Nat.le_of_ble_eq_true rfl) ?_
  refine g_aload dL_heatUp_0 rfl ?_
  refine g_iconst (v := 0) dL_heatUp_2 (by decide) ?_
  refine g_aload_n (i := 0) dL_heatUp_3 rfl rfl ?_
  refine g_iload_n (i := 1) dL_heatUp_4 rfl rfl ?_
  refine g_iload_n (i := 2) dL_heatUp_5 rfl rfl ?_
  refine g_iload_n (i := 3) dL_heatUp_6 rfl rfl ?_
  refine g_callV hEv dL_heatUp_7 ml_L_23 cvX9_heatUp K_X9 rfl hb rfl rfl (Nat.le_of_ble_eq_true rfl) (Nat.le_of_ble_eq_true rfl) (Nat.le_refl _) (Nat.le_refl _) (fun v2 h2 q2 => ?_) (fun E h2 q2 => ?_)
  · obtain ⟨z, f, rfl, e60, hP⟩ := hok _ _ q2
    refine g_i2l dL_heatUp_10 ?_
    refine g_last dL_heatUp_11 e60 (ix_nI (j := 0) (by decide)) (by decide) rfl ?_
    refine g_goto (tgt := 27) dL_heatUp_12 (by decide) ?_
    refine g_iconst (v := 0) dL_heatUp_27 (by decide) ?_
    refine g_iret dL_heatUp_28 rfl rfl ?_
    exact hP
  · rcases hex _ _ q2 with ⟨rfl, hP⟩ | ⟨rfl, hP⟩ | ⟨rfl, hP⟩
    · refine gt_catch [] ⟨0, 12, 15, 13⟩ [⟨0, 12, 19, 15⟩, ⟨0, 12, 23, 17⟩] rfl (fun z hz => absurd hz List.not_mem_nil) (by decide) (by decide) cl_L_13 ca_IndexOutOfBoundsException__IndexOutOfBoundsException (fun q => ?_)
      refine g_astore dL_heatUp_15 (Nat.le_of_ble_eq_true rfl) ?_
      refine g_iconst (v := 1) dL_heatUp_17 (by decide) ?_
      refine g_iret dL_heatUp_18 rfl rfl ?_
      exact hP
    · refine gt_catch [⟨0, 12, 15, 13⟩] ⟨0, 12, 19, 15⟩ [⟨0, 12, 23, 17⟩] rfl (fun z hz => by simp only [List.mem_cons, List.not_mem_nil, or_false] at hz; rcases hz with rfl; exact Or.inr ⟨by decide, _, cl_L_13, by decide⟩) (by decide) (by decide) cl_L_15 ca_IllegalArgumentException__IllegalArgumentException (fun q => ?_)
      refine g_astore dL_heatUp_19 (Nat.le_of_ble_eq_true rfl) ?_
      refine g_iconst (v := 2) dL_heatUp_21 (by decide) ?_
      refine g_iret dL_heatUp_22 rfl rfl ?_
      exact hP
    · refine gt_catch [⟨0, 12, 15, 13⟩, ⟨0, 12, 19, 15⟩] ⟨0, 12, 23, 17⟩ [] rfl (fun z hz => by simp only [List.mem_cons, List.not_mem_nil, or_false] at hz; rcases hz with rfl | rfl <;> first | exact Or.inr ⟨by decide, _, cl_L_13, by decide⟩ | exact Or.inr ⟨by decide, _, cl_L_15, by decide⟩) (by decide) (by decide) cl_L_17 ca_UnsupportedOperationException__UnsupportedOperationException (fun q => ?_)
      refine g_astore dL_heatUp_23 (Nat.le_of_ble_eq_true rfl) ?_
      refine g_iconst (v := 3) dL_heatUp_25 (by decide) ?_
      refine g_iret dL_heatUp_26 rfl rfl ?_
      exact hP

set_option maxRecDepth 100000 in
theorem wl_heatAt {l : Launch} {G : GG} (hl : l.stackTraces = false) {h : AH} {b o mc ms : Nat} {p0 : Int32} {p1 : Int32} {fs : List Value} {P' P9 : Post} (hb : h 6 0 = some (b, .inr (9, fs))) (hEv : Ev l G 12 mc ms mX9_heatAt [.ref b, .int p0, .int p1] h P')
    (hok : ∀ v2 h2, P' (.inl v2) h2 → ∃ (z : Int32) (f : Nat → Int64), v2 = some (.int z) ∧ h2 60 0 = some (oArr o f) ∧ P9 (.inl (some (.int 0))) (up h2 60 0 (oArr o (va_up f 0 (z.toInt64))))) (hex : ∀ E h2, P' (.inr E) h2 → (E = "java/lang/IndexOutOfBoundsException" ∧ P9 (.inl (some (.int 1))) h2)) : Ev l G 13 mc ms mL_heatAt [.ref b, .int p0, .int p1, .ref o] h P9 := by
  refine Ev.of hl (by decide) (Nat.le_of_ble_eq_true rfl) ?_
  refine g_aload_n (i := 3) dL_heatAt_0 rfl rfl ?_
  refine g_iconst (v := 0) dL_heatAt_1 (by decide) ?_
  refine g_aload_n (i := 0) dL_heatAt_2 rfl rfl ?_
  refine g_iload_n (i := 1) dL_heatAt_3 rfl rfl ?_
  refine g_iload_n (i := 2) dL_heatAt_4 rfl rfl ?_
  refine g_callV hEv dL_heatAt_5 ml_L_27 cvX9_heatAt K_X9 rfl hb rfl rfl (Nat.le_of_ble_eq_true rfl) (Nat.le_of_ble_eq_true rfl) (Nat.le_refl _) (Nat.le_refl _) (fun v2 h2 q2 => ?_) (fun E h2 q2 => ?_)
  · obtain ⟨z, f, rfl, e60, hP⟩ := hok _ _ q2
    refine g_i2l dL_heatAt_8 ?_
    refine g_last dL_heatAt_9 e60 (ix_nI (j := 0) (by decide)) (by decide) rfl ?_
    refine g_goto (tgt := 17) dL_heatAt_10 (by decide) ?_
    refine g_iconst (v := 0) dL_heatAt_17 (by decide) ?_
    refine g_iret dL_heatAt_18 rfl rfl ?_
    exact hP
  · rcases hex _ _ q2 with ⟨rfl, hP⟩
    refine gt_catch [] ⟨0, 10, 13, 13⟩ [] rfl (fun z hz => absurd hz List.not_mem_nil) (by decide) (by decide) cl_L_13 ca_IndexOutOfBoundsException__IndexOutOfBoundsException (fun q => ?_)
    refine g_astore dL_heatAt_13 (Nat.le_of_ble_eq_true rfl) ?_
    refine g_iconst (v := 1) dL_heatAt_15 (by decide) ?_
    refine g_iret dL_heatAt_16 rfl rfl ?_
    exact hP

set_option maxRecDepth 100000 in
theorem wl_embersAt {l : Launch} {G : GG} (hl : l.stackTraces = false) {h : AH} {b o mc ms : Nat} {p0 : Int32} {p1 : Int32} {fs : List Value} {P' P9 : Post} (hb : h 6 0 = some (b, .inr (9, fs))) (hEv : Ev l G 12 mc ms mX9_embersAt [.ref b, .int p0, .int p1] h P')
    (hok : ∀ v2 h2, P' (.inl v2) h2 → ∃ (z : Int32) (f : Nat → Int64), v2 = some (.int z) ∧ h2 60 0 = some (oArr o f) ∧ P9 (.inl (some (.int 0))) (up h2 60 0 (oArr o (va_up f 0 (z.toInt64))))) (hex : ∀ E h2, P' (.inr E) h2 → (E = "java/lang/IndexOutOfBoundsException" ∧ P9 (.inl (some (.int 1))) h2)) : Ev l G 13 mc ms mL_embersAt [.ref b, .int p0, .int p1, .ref o] h P9 := by
  refine Ev.of hl (by decide) (Nat.le_of_ble_eq_true rfl) ?_
  refine g_aload_n (i := 3) dL_embersAt_0 rfl rfl ?_
  refine g_iconst (v := 0) dL_embersAt_1 (by decide) ?_
  refine g_aload_n (i := 0) dL_embersAt_2 rfl rfl ?_
  refine g_iload_n (i := 1) dL_embersAt_3 rfl rfl ?_
  refine g_iload_n (i := 2) dL_embersAt_4 rfl rfl ?_
  refine g_callV hEv dL_embersAt_5 ml_L_31 cvX9_embersAt K_X9 rfl hb rfl rfl (Nat.le_of_ble_eq_true rfl) (Nat.le_of_ble_eq_true rfl) (Nat.le_refl _) (Nat.le_refl _) (fun v2 h2 q2 => ?_) (fun E h2 q2 => ?_)
  · obtain ⟨z, f, rfl, e60, hP⟩ := hok _ _ q2
    refine g_i2l dL_embersAt_8 ?_
    refine g_last dL_embersAt_9 e60 (ix_nI (j := 0) (by decide)) (by decide) rfl ?_
    refine g_goto (tgt := 17) dL_embersAt_10 (by decide) ?_
    refine g_iconst (v := 0) dL_embersAt_17 (by decide) ?_
    refine g_iret dL_embersAt_18 rfl rfl ?_
    exact hP
  · rcases hex _ _ q2 with ⟨rfl, hP⟩
    refine gt_catch [] ⟨0, 10, 13, 13⟩ [] rfl (fun z hz => absurd hz List.not_mem_nil) (by decide) (by decide) cl_L_13 ca_IndexOutOfBoundsException__IndexOutOfBoundsException (fun q => ?_)
    refine g_astore dL_embersAt_13 (Nat.le_of_ble_eq_true rfl) ?_
    refine g_iconst (v := 1) dL_embersAt_15 (by decide) ?_
    refine g_iret dL_embersAt_16 rfl rfl ?_
    exact hP

set_option maxRecDepth 100000 in
theorem wl_cellAtRank {l : Launch} {G : GG} (hl : l.stackTraces = false) {h : AH} {b o mc ms : Nat} {p0 : Int32} {fs : List Value} {P' P9 : Post} (hb : h 6 0 = some (b, .inr (9, fs))) (hEv : Ev l G 11 mc ms mX9_cellAtRank [.ref b, .int p0] h P')
    (hok : ∀ v2 h2, P' (.inl v2) h2 → ∃ (z : Int32) (f : Nat → Int64), v2 = some (.int z) ∧ h2 60 0 = some (oArr o f) ∧ P9 (.inl (some (.int 0))) (up h2 60 0 (oArr o (va_up f 0 (z.toInt64))))) (hex : ∀ E h2, P' (.inr E) h2 → (E = "java/util/NoSuchElementException" ∧ P9 (.inl (some (.int 1))) h2)) : Ev l G 12 mc ms mL_cellAtRank [.ref b, .int p0, .ref o] h P9 := by
  refine Ev.of hl (by decide) (Nat.le_of_ble_eq_true rfl) ?_
  refine g_aload_n (i := 2) dL_cellAtRank_0 rfl rfl ?_
  refine g_iconst (v := 0) dL_cellAtRank_1 (by decide) ?_
  refine g_aload_n (i := 0) dL_cellAtRank_2 rfl rfl ?_
  refine g_iload_n (i := 1) dL_cellAtRank_3 rfl rfl ?_
  refine g_callV hEv dL_cellAtRank_4 ml_L_34 cvX9_cellAtRank K_X9 rfl hb rfl rfl (Nat.le_of_ble_eq_true rfl) (Nat.le_of_ble_eq_true rfl) (Nat.le_refl _) (Nat.le_refl _) (fun v2 h2 q2 => ?_) (fun E h2 q2 => ?_)
  · obtain ⟨z, f, rfl, e60, hP⟩ := hok _ _ q2
    refine g_i2l dL_cellAtRank_7 ?_
    refine g_last dL_cellAtRank_8 e60 (ix_nI (j := 0) (by decide)) (by decide) rfl ?_
    refine g_goto (tgt := 15) dL_cellAtRank_9 (by decide) ?_
    refine g_iconst (v := 0) dL_cellAtRank_15 (by decide) ?_
    refine g_iret dL_cellAtRank_16 rfl rfl ?_
    exact hP
  · rcases hex _ _ q2 with ⟨rfl, hP⟩
    refine gt_catch [] ⟨0, 9, 12, 38⟩ [] rfl (fun z hz => absurd hz List.not_mem_nil) (by decide) (by decide) cl_L_38 ca_NoSuchElementException__NoSuchElementException (fun q => ?_)
    refine g_astore_n (i := 3) dL_cellAtRank_12 rfl (Nat.le_of_ble_eq_true rfl) ?_
    refine g_iconst (v := 1) dL_cellAtRank_13 (by decide) ?_
    refine g_iret dL_cellAtRank_14 rfl rfl ?_
    exact hP

set_option maxRecDepth 100000 in
theorem wl_refusalReason {l : Launch} {G : GG} (hl : l.stackTraces = false) {h : AH} {b o mc ms : Nat}  {fs : List Value} {P' P9 : Post} (hb : h 6 0 = some (b, .inr (9, fs))) (hEv : Ev l G 11 mc ms mX9_refusalReason [.ref b] h P')
    (hok : ∀ v2 h2, P' (.inl v2) h2 → ∃ (z : Int32) (f : Nat → Int64), v2 = some (.int z) ∧ h2 60 0 = some (oArr o f) ∧ P9 (.inl (some (.int 0))) (up h2 60 0 (oArr o (va_up f 0 (z.toInt64))))) (hex : ∀ E h2, P' (.inr E) h2 → (E = "java/util/NoSuchElementException" ∧ P9 (.inl (some (.int 1))) h2)) : Ev l G 12 mc ms mL_refusalReason [.ref b, .ref o] h P9 := by
  refine Ev.of hl (by decide) (Nat.le_of_ble_eq_true rfl) ?_
  refine g_aload_n (i := 1) dL_refusalReason_0 rfl rfl ?_
  refine g_iconst (v := 0) dL_refusalReason_1 (by decide) ?_
  refine g_aload_n (i := 0) dL_refusalReason_2 rfl rfl ?_
  refine g_callV hEv dL_refusalReason_3 ml_L_40 cvX9_refusalReason K_X9 rfl hb rfl rfl (Nat.le_of_ble_eq_true rfl) (Nat.le_of_ble_eq_true rfl) (Nat.le_refl _) (Nat.le_refl _) (fun v2 h2 q2 => ?_) (fun E h2 q2 => ?_)
  · obtain ⟨z, f, rfl, e60, hP⟩ := hok _ _ q2
    refine g_i2l dL_refusalReason_6 ?_
    refine g_last dL_refusalReason_7 e60 (ix_nI (j := 0) (by decide)) (by decide) rfl ?_
    refine g_goto (tgt := 14) dL_refusalReason_8 (by decide) ?_
    refine g_iconst (v := 0) dL_refusalReason_14 (by decide) ?_
    refine g_iret dL_refusalReason_15 rfl rfl ?_
    exact hP
  · rcases hex _ _ q2 with ⟨rfl, hP⟩
    refine gt_catch [] ⟨0, 8, 11, 38⟩ [] rfl (fun z hz => absurd hz List.not_mem_nil) (by decide) (by decide) cl_L_38 ca_NoSuchElementException__NoSuchElementException (fun q => ?_)
    refine g_astore_n (i := 2) dL_refusalReason_11 rfl (Nat.le_of_ble_eq_true rfl) ?_
    refine g_iconst (v := 1) dL_refusalReason_12 (by decide) ?_
    refine g_iret dL_refusalReason_13 rfl rfl ?_
    exact hP

set_option maxRecDepth 100000 in
theorem wl_refusalDetail {l : Launch} {G : GG} (hl : l.stackTraces = false) {h : AH} {b o mc ms : Nat}  {fs : List Value} {P' P9 : Post} (hb : h 6 0 = some (b, .inr (9, fs))) (hEv : Ev l G 11 mc ms mX9_refusalDetail [.ref b] h P')
    (hok : ∀ v2 h2, P' (.inl v2) h2 → ∃ (z : Int32) (f : Nat → Int64), v2 = some (.int z) ∧ h2 60 0 = some (oArr o f) ∧ P9 (.inl (some (.int 0))) (up h2 60 0 (oArr o (va_up f 0 (z.toInt64))))) (hex : ∀ E h2, P' (.inr E) h2 → (E = "java/util/NoSuchElementException" ∧ P9 (.inl (some (.int 1))) h2)) : Ev l G 12 mc ms mL_refusalDetail [.ref b, .ref o] h P9 := by
  refine Ev.of hl (by decide) (Nat.le_of_ble_eq_true rfl) ?_
  refine g_aload_n (i := 1) dL_refusalDetail_0 rfl rfl ?_
  refine g_iconst (v := 0) dL_refusalDetail_1 (by decide) ?_
  refine g_aload_n (i := 0) dL_refusalDetail_2 rfl rfl ?_
  refine g_callV hEv dL_refusalDetail_3 ml_L_44 cvX9_refusalDetail K_X9 rfl hb rfl rfl (Nat.le_of_ble_eq_true rfl) (Nat.le_of_ble_eq_true rfl) (Nat.le_refl _) (Nat.le_refl _) (fun v2 h2 q2 => ?_) (fun E h2 q2 => ?_)
  · obtain ⟨z, f, rfl, e60, hP⟩ := hok _ _ q2
    refine g_i2l dL_refusalDetail_6 ?_
    refine g_last dL_refusalDetail_7 e60 (ix_nI (j := 0) (by decide)) (by decide) rfl ?_
    refine g_goto (tgt := 14) dL_refusalDetail_8 (by decide) ?_
    refine g_iconst (v := 0) dL_refusalDetail_14 (by decide) ?_
    refine g_iret dL_refusalDetail_15 rfl rfl ?_
    exact hP
  · rcases hex _ _ q2 with ⟨rfl, hP⟩
    refine gt_catch [] ⟨0, 8, 11, 38⟩ [] rfl (fun z hz => absurd hz List.not_mem_nil) (by decide) (by decide) cl_L_38 ca_NoSuchElementException__NoSuchElementException (fun q => ?_)
    refine g_astore_n (i := 2) dL_refusalDetail_11 rfl (Nat.le_of_ble_eq_true rfl) ?_
    refine g_iconst (v := 1) dL_refusalDetail_12 (by decide) ?_
    refine g_iret dL_refusalDetail_13 rfl rfl ?_
    exact hP

set_option maxRecDepth 100000 in
theorem wl_setBorder {l : Launch} {G : GG} (hl : l.stackTraces = false) {h : AH} {b o mc ms : Nat} {p0 : Int32} {p1 : Int32} {fs : List Value} {P' P9 : Post} (hb : h 6 0 = some (b, .inr (9, fs))) (hEv : Ev l G 12 mc ms mX9_setBorder [.ref b, .int p0, .int p1] h P')
    (hok : ∀ v2 h2, P' (.inl v2) h2 → ∃ (z : Int32) (f : Nat → Int64), v2 = some (.int z) ∧ h2 60 0 = some (oArr o f) ∧ P9 (.inl (some (.int 0))) (up h2 60 0 (oArr o (va_up f 0 (z.toInt64))))) (hex : ∀ E h2, P' (.inr E) h2 → (E = "java/lang/IndexOutOfBoundsException" ∧ P9 (.inl (some (.int 1))) h2) ∨ (E = "java/lang/IllegalArgumentException" ∧ P9 (.inl (some (.int 2))) h2)) : Ev l G 13 mc ms mL_setBorder [.ref b, .int p0, .int p1, .ref o] h P9 := by
  refine Ev.of hl (by decide) (Nat.le_of_ble_eq_true rfl) ?_
  refine g_aload_n (i := 3) dL_setBorder_0 rfl rfl ?_
  refine g_iconst (v := 0) dL_setBorder_1 (by decide) ?_
  refine g_aload_n (i := 0) dL_setBorder_2 rfl rfl ?_
  refine g_iload_n (i := 1) dL_setBorder_3 rfl rfl ?_
  refine g_iload_n (i := 2) dL_setBorder_4 rfl rfl ?_
  refine g_callV hEv dL_setBorder_5 ml_L_47 cvX9_setBorder K_X9 rfl hb rfl rfl (Nat.le_of_ble_eq_true rfl) (Nat.le_of_ble_eq_true rfl) (Nat.le_refl _) (Nat.le_refl _) (fun v2 h2 q2 => ?_) (fun E h2 q2 => ?_)
  · obtain ⟨z, f, rfl, e60, hP⟩ := hok _ _ q2
    refine g_i2l dL_setBorder_8 ?_
    refine g_last dL_setBorder_9 e60 (ix_nI (j := 0) (by decide)) (by decide) rfl ?_
    refine g_goto (tgt := 21) dL_setBorder_10 (by decide) ?_
    refine g_iconst (v := 0) dL_setBorder_21 (by decide) ?_
    refine g_iret dL_setBorder_22 rfl rfl ?_
    exact hP
  · rcases hex _ _ q2 with ⟨rfl, hP⟩ | ⟨rfl, hP⟩
    · refine gt_catch [] ⟨0, 10, 13, 13⟩ [⟨0, 10, 17, 15⟩] rfl (fun z hz => absurd hz List.not_mem_nil) (by decide) (by decide) cl_L_13 ca_IndexOutOfBoundsException__IndexOutOfBoundsException (fun q => ?_)
      refine g_astore dL_setBorder_13 (Nat.le_of_ble_eq_true rfl) ?_
      refine g_iconst (v := 1) dL_setBorder_15 (by decide) ?_
      refine g_iret dL_setBorder_16 rfl rfl ?_
      exact hP
    · refine gt_catch [⟨0, 10, 13, 13⟩] ⟨0, 10, 17, 15⟩ [] rfl (fun z hz => by simp only [List.mem_cons, List.not_mem_nil, or_false] at hz; rcases hz with rfl; exact Or.inr ⟨by decide, _, cl_L_13, by decide⟩) (by decide) (by decide) cl_L_15 ca_IllegalArgumentException__IllegalArgumentException (fun q => ?_)
      refine g_astore dL_setBorder_17 (Nat.le_of_ble_eq_true rfl) ?_
      refine g_iconst (v := 2) dL_setBorder_19 (by decide) ?_
      refine g_iret dL_setBorder_20 rfl rfl ?_
      exact hP

set_option maxRecDepth 100000 in
theorem wl_border {l : Launch} {G : GG} (hl : l.stackTraces = false) {h : AH} {b o mc ms : Nat} {p0 : Int32} {fs : List Value} {P' P9 : Post} (hb : h 6 0 = some (b, .inr (9, fs))) (hEv : Ev l G 12 mc ms mX9_border [.ref b, .int p0] h P')
    (hok : ∀ v2 h2, P' (.inl v2) h2 → ∃ (z : Int32) (f : Nat → Int64), v2 = some (.int z) ∧ h2 60 0 = some (oArr o f) ∧ P9 (.inl (some (.int 0))) (up h2 60 0 (oArr o (va_up f 0 (z.toInt64))))) (hex : ∀ E h2, P' (.inr E) h2 → (E = "java/lang/IndexOutOfBoundsException" ∧ P9 (.inl (some (.int 1))) h2)) : Ev l G 13 mc ms mL_border [.ref b, .int p0, .ref o] h P9 := by
  refine Ev.of hl (by decide) (Nat.le_of_ble_eq_true rfl) ?_
  refine g_aload_n (i := 2) dL_border_0 rfl rfl ?_
  refine g_iconst (v := 0) dL_border_1 (by decide) ?_
  refine g_aload_n (i := 0) dL_border_2 rfl rfl ?_
  refine g_iload_n (i := 1) dL_border_3 rfl rfl ?_
  refine g_callV hEv dL_border_4 ml_L_50 cvX9_border K_X9 rfl hb rfl rfl (Nat.le_of_ble_eq_true rfl) (Nat.le_of_ble_eq_true rfl) (Nat.le_refl _) (Nat.le_refl _) (fun v2 h2 q2 => ?_) (fun E h2 q2 => ?_)
  · obtain ⟨z, f, rfl, e60, hP⟩ := hok _ _ q2
    refine g_i2l dL_border_7 ?_
    refine g_last dL_border_8 e60 (ix_nI (j := 0) (by decide)) (by decide) rfl ?_
    refine g_goto (tgt := 15) dL_border_9 (by decide) ?_
    refine g_iconst (v := 0) dL_border_15 (by decide) ?_
    refine g_iret dL_border_16 rfl rfl ?_
    exact hP
  · rcases hex _ _ q2 with ⟨rfl, hP⟩
    refine gt_catch [] ⟨0, 9, 12, 13⟩ [] rfl (fun z hz => absurd hz List.not_mem_nil) (by decide) (by decide) cl_L_13 ca_IndexOutOfBoundsException__IndexOutOfBoundsException (fun q => ?_)
    refine g_astore_n (i := 3) dL_border_12 rfl (Nat.le_of_ble_eq_true rfl) ?_
    refine g_iconst (v := 1) dL_border_13 (by decide) ?_
    refine g_iret dL_border_14 rfl rfl ?_
    exact hP

set_option maxRecDepth 100000 in
theorem wl_lostBy {l : Launch} {G : GG} (hl : l.stackTraces = false) {h : AH} {b o mc ms : Nat} {p0 : Int32} {fs : List Value} {P' P9 : Post} (hb : h 6 0 = some (b, .inr (9, fs))) (hEv : Ev l G 12 mc ms mX9_lostBy [.ref b, .int p0] h P')
    (hok : ∀ v2 h2, P' (.inl v2) h2 → ∃ (z : Int32) (f : Nat → Int64), v2 = some (.int z) ∧ h2 60 0 = some (oArr o f) ∧ P9 (.inl (some (.int 0))) (up h2 60 0 (oArr o (va_up f 0 (z.toInt64))))) (hex : ∀ E h2, P' (.inr E) h2 → (E = "java/lang/IndexOutOfBoundsException" ∧ P9 (.inl (some (.int 1))) h2)) : Ev l G 13 mc ms mL_lostBy [.ref b, .int p0, .ref o] h P9 := by
  refine Ev.of hl (by decide) (Nat.le_of_ble_eq_true rfl) ?_
  refine g_aload_n (i := 2) dL_lostBy_0 rfl rfl ?_
  refine g_iconst (v := 0) dL_lostBy_1 (by decide) ?_
  refine g_aload_n (i := 0) dL_lostBy_2 rfl rfl ?_
  refine g_iload_n (i := 1) dL_lostBy_3 rfl rfl ?_
  refine g_callV hEv dL_lostBy_4 ml_L_53 cvX9_lostBy K_X9 rfl hb rfl rfl (Nat.le_of_ble_eq_true rfl) (Nat.le_of_ble_eq_true rfl) (Nat.le_refl _) (Nat.le_refl _) (fun v2 h2 q2 => ?_) (fun E h2 q2 => ?_)
  · obtain ⟨z, f, rfl, e60, hP⟩ := hok _ _ q2
    refine g_i2l dL_lostBy_7 ?_
    refine g_last dL_lostBy_8 e60 (ix_nI (j := 0) (by decide)) (by decide) rfl ?_
    refine g_goto (tgt := 15) dL_lostBy_9 (by decide) ?_
    refine g_iconst (v := 0) dL_lostBy_15 (by decide) ?_
    refine g_iret dL_lostBy_16 rfl rfl ?_
    exact hP
  · rcases hex _ _ q2 with ⟨rfl, hP⟩
    refine gt_catch [] ⟨0, 9, 12, 13⟩ [] rfl (fun z hz => absurd hz List.not_mem_nil) (by decide) (by decide) cl_L_13 ca_IndexOutOfBoundsException__IndexOutOfBoundsException (fun q => ?_)
    refine g_astore_n (i := 3) dL_lostBy_12 rfl (Nat.le_of_ble_eq_true rfl) ?_
    refine g_iconst (v := 1) dL_lostBy_13 (by decide) ?_
    refine g_iret dL_lostBy_14 rfl rfl ?_
    exact hP

set_option maxRecDepth 100000 in
theorem wl_pass {l : Launch} {G : GG} (hl : l.stackTraces = false) {h : AH} {b o mc ms : Nat} {p0 : Int32} {fs : List Value} {P' P9 : Post} (hb : h 6 0 = some (b, .inr (9, fs))) (hEv : Ev l G 14 mc ms mX9_pass [.ref b, .int p0] h P')
    (hok : ∀ v2 h2, P' (.inl v2) h2 → ∃ (z : Int32) (f : Nat → Int64), v2 = some (.int z) ∧ h2 60 0 = some (oArr o f) ∧ P9 (.inl (some (.int 0))) (up h2 60 0 (oArr o (va_up f 0 (z.toInt64))))) (hex : ∀ E h2, P' (.inr E) h2 → (E = "java/lang/IllegalArgumentException" ∧ P9 (.inl (some (.int 1))) h2)) : Ev l G 15 mc ms mL_pass [.ref b, .int p0, .ref o] h P9 := by
  refine Ev.of hl (by decide) (Nat.le_of_ble_eq_true rfl) ?_
  refine g_aload_n (i := 2) dL_pass_0 rfl rfl ?_
  refine g_iconst (v := 0) dL_pass_1 (by decide) ?_
  refine g_aload_n (i := 0) dL_pass_2 rfl rfl ?_
  refine g_iload_n (i := 1) dL_pass_3 rfl rfl ?_
  refine g_callV hEv dL_pass_4 ml_L_56 cvX9_pass K_X9 rfl hb rfl rfl (Nat.le_of_ble_eq_true rfl) (Nat.le_of_ble_eq_true rfl) (Nat.le_refl _) (Nat.le_refl _) (fun v2 h2 q2 => ?_) (fun E h2 q2 => ?_)
  · obtain ⟨z, f, rfl, e60, hP⟩ := hok _ _ q2
    refine g_i2l dL_pass_7 ?_
    refine g_last dL_pass_8 e60 (ix_nI (j := 0) (by decide)) (by decide) rfl ?_
    refine g_goto (tgt := 15) dL_pass_9 (by decide) ?_
    refine g_iconst (v := 0) dL_pass_15 (by decide) ?_
    refine g_iret dL_pass_16 rfl rfl ?_
    exact hP
  · rcases hex _ _ q2 with ⟨rfl, hP⟩
    refine gt_catch [] ⟨0, 9, 12, 15⟩ [] rfl (fun z hz => absurd hz List.not_mem_nil) (by decide) (by decide) cl_L_15 ca_IllegalArgumentException__IllegalArgumentException (fun q => ?_)
    refine g_astore_n (i := 3) dL_pass_12 rfl (Nat.le_of_ble_eq_true rfl) ?_
    refine g_iconst (v := 1) dL_pass_13 (by decide) ?_
    refine g_iret dL_pass_14 rfl rfl ?_
    exact hP

set_option maxRecDepth 100000 in
theorem wl_ticksUntilBelow {l : Launch} {G : GG} (hl : l.stackTraces = false) {h : AH} {b o mc ms : Nat} {p0 : Int32} {fs : List Value} {P' P9 : Post} (hb : h 6 0 = some (b, .inr (9, fs))) (hEv : Ev l G 14 mc ms mX9_ticksUntilBelow [.ref b, .int p0] h P')
    (hok : ∀ v2 h2, P' (.inl v2) h2 → ∃ (z : Int32) (f : Nat → Int64), v2 = some (.int z) ∧ h2 60 0 = some (oArr o f) ∧ P9 (.inl (some (.int 0))) (up h2 60 0 (oArr o (va_up f 0 (z.toInt64))))) (hex : ∀ E h2, P' (.inr E) h2 → (E = "java/lang/IllegalArgumentException" ∧ P9 (.inl (some (.int 1))) h2) ∨ (E = "java/util/NoSuchElementException" ∧ P9 (.inl (some (.int 2))) h2)) : Ev l G 15 mc ms mL_ticksUntilBelow [.ref b, .int p0, .ref o] h P9 := by
  refine Ev.of hl (by decide) (Nat.le_of_ble_eq_true rfl) ?_
  refine g_aload_n (i := 2) dL_ticksUntilBelow_0 rfl rfl ?_
  refine g_iconst (v := 0) dL_ticksUntilBelow_1 (by decide) ?_
  refine g_aload_n (i := 0) dL_ticksUntilBelow_2 rfl rfl ?_
  refine g_iload_n (i := 1) dL_ticksUntilBelow_3 rfl rfl ?_
  refine g_callV hEv dL_ticksUntilBelow_4 ml_L_59 cvX9_ticksUntilBelow K_X9 rfl hb rfl rfl (Nat.le_of_ble_eq_true rfl) (Nat.le_of_ble_eq_true rfl) (Nat.le_refl _) (Nat.le_refl _) (fun v2 h2 q2 => ?_) (fun E h2 q2 => ?_)
  · obtain ⟨z, f, rfl, e60, hP⟩ := hok _ _ q2
    refine g_i2l dL_ticksUntilBelow_7 ?_
    refine g_last dL_ticksUntilBelow_8 e60 (ix_nI (j := 0) (by decide)) (by decide) rfl ?_
    refine g_goto (tgt := 18) dL_ticksUntilBelow_9 (by decide) ?_
    refine g_iconst (v := 0) dL_ticksUntilBelow_18 (by decide) ?_
    refine g_iret dL_ticksUntilBelow_19 rfl rfl ?_
    exact hP
  · rcases hex _ _ q2 with ⟨rfl, hP⟩ | ⟨rfl, hP⟩
    · refine gt_catch [] ⟨0, 9, 12, 15⟩ [⟨0, 9, 15, 38⟩] rfl (fun z hz => absurd hz List.not_mem_nil) (by decide) (by decide) cl_L_15 ca_IllegalArgumentException__IllegalArgumentException (fun q => ?_)
      refine g_astore_n (i := 3) dL_ticksUntilBelow_12 rfl (Nat.le_of_ble_eq_true rfl) ?_
      refine g_iconst (v := 1) dL_ticksUntilBelow_13 (by decide) ?_
      refine g_iret dL_ticksUntilBelow_14 rfl rfl ?_
      exact hP
    · refine gt_catch [⟨0, 9, 12, 15⟩] ⟨0, 9, 15, 38⟩ [] rfl (fun z hz => by simp only [List.mem_cons, List.not_mem_nil, or_false] at hz; rcases hz with rfl; exact Or.inr ⟨by decide, _, cl_L_15, by decide⟩) (by decide) (by decide) cl_L_38 ca_NoSuchElementException__NoSuchElementException (fun q => ?_)
      refine g_astore_n (i := 3) dL_ticksUntilBelow_15 rfl (Nat.le_of_ble_eq_true rfl) ?_
      refine g_iconst (v := 2) dL_ticksUntilBelow_16 (by decide) ?_
      refine g_iret dL_ticksUntilBelow_17 rfl rfl ?_
      exact hP

set_option maxRecDepth 100000 in
theorem wl_cellBits {l : Launch} {G : GG} (hl : l.stackTraces = false) {h : AH} {b o mc ms : Nat} {p0 : Int32} {fs : List Value} {P' P9 : Post} (hb : h 6 0 = some (b, .inr (9, fs))) (hEv : Ev l G 12 mc ms mX9_cellBits [.ref b, .int p0] h P')
    (hok : ∀ v2 h2, P' (.inl v2) h2 → ∃ (z : Int64) (f : Nat → Int64), v2 = some (.long z) ∧ h2 60 0 = some (oArr o f) ∧ P9 (.inl (some (.int 0))) (up h2 60 0 (oArr o (va_up f 0 (z))))) (hex : ∀ E h2, P' (.inr E) h2 → (E = "java/lang/IllegalArgumentException" ∧ P9 (.inl (some (.int 1))) h2)) : Ev l G 13 mc ms mL_cellBits [.ref b, .int p0, .ref o] h P9 := by
  refine Ev.of hl (by decide) (Nat.le_of_ble_eq_true rfl) ?_
  refine g_aload_n (i := 2) dL_cellBits_0 rfl rfl ?_
  refine g_iconst (v := 0) dL_cellBits_1 (by decide) ?_
  refine g_aload_n (i := 0) dL_cellBits_2 rfl rfl ?_
  refine g_iload_n (i := 1) dL_cellBits_3 rfl rfl ?_
  refine g_callV hEv dL_cellBits_4 ml_L_62 cvX9_cellBits K_X9 rfl hb rfl rfl (Nat.le_of_ble_eq_true rfl) (Nat.le_of_ble_eq_true rfl) (Nat.le_refl _) (Nat.le_refl _) (fun v2 h2 q2 => ?_) (fun E h2 q2 => ?_)
  · obtain ⟨z, f, rfl, e60, hP⟩ := hok _ _ q2
    refine g_last dL_cellBits_7 e60 (ix_nI (j := 0) (by decide)) (by decide) rfl ?_
    refine g_goto (tgt := 14) dL_cellBits_8 (by decide) ?_
    refine g_iconst (v := 0) dL_cellBits_14 (by decide) ?_
    refine g_iret dL_cellBits_15 rfl rfl ?_
    exact hP
  · rcases hex _ _ q2 with ⟨rfl, hP⟩
    refine gt_catch [] ⟨0, 8, 11, 15⟩ [] rfl (fun z hz => absurd hz List.not_mem_nil) (by decide) (by decide) cl_L_15 ca_IllegalArgumentException__IllegalArgumentException (fun q => ?_)
    refine g_astore_n (i := 3) dL_cellBits_11 rfl (Nat.le_of_ble_eq_true rfl) ?_
    refine g_iconst (v := 1) dL_cellBits_12 (by decide) ?_
    refine g_iret dL_cellBits_13 rfl rfl ?_
    exact hP

set_option maxRecDepth 100000 in
theorem wl_regions {l : Launch} {G : GG} (hl : l.stackTraces = false) {h : AH} {b o mc ms : Nat} {p0 : Int32} {fs : List Value} {P' P9 : Post} (hb : h 6 0 = some (b, .inr (9, fs))) (hEv : Ev l G 13 mc ms mX9_regions [.ref b, .int p0] h P')
    (hok : ∀ v2 h2, P' (.inl v2) h2 → ∃ (z : Int32) (f : Nat → Int64), v2 = some (.int z) ∧ h2 60 0 = some (oArr o f) ∧ P9 (.inl (some (.int 0))) (up h2 60 0 (oArr o (va_up f 0 (z.toInt64))))) (hex : ∀ E h2, P' (.inr E) h2 → (E = "java/lang/IllegalArgumentException" ∧ P9 (.inl (some (.int 1))) h2)) : Ev l G 14 mc ms mL_regions [.ref b, .int p0, .ref o] h P9 := by
  refine Ev.of hl (by decide) (Nat.le_of_ble_eq_true rfl) ?_
  refine g_aload_n (i := 2) dL_regions_0 rfl rfl ?_
  refine g_iconst (v := 0) dL_regions_1 (by decide) ?_
  refine g_aload_n (i := 0) dL_regions_2 rfl rfl ?_
  refine g_iload_n (i := 1) dL_regions_3 rfl rfl ?_
  refine g_callV hEv dL_regions_4 ml_L_66 cvX9_regions K_X9 rfl hb rfl rfl (Nat.le_of_ble_eq_true rfl) (Nat.le_of_ble_eq_true rfl) (Nat.le_refl _) (Nat.le_refl _) (fun v2 h2 q2 => ?_) (fun E h2 q2 => ?_)
  · obtain ⟨z, f, rfl, e60, hP⟩ := hok _ _ q2
    refine g_i2l dL_regions_7 ?_
    refine g_last dL_regions_8 e60 (ix_nI (j := 0) (by decide)) (by decide) rfl ?_
    refine g_goto (tgt := 15) dL_regions_9 (by decide) ?_
    refine g_iconst (v := 0) dL_regions_15 (by decide) ?_
    refine g_iret dL_regions_16 rfl rfl ?_
    exact hP
  · rcases hex _ _ q2 with ⟨rfl, hP⟩
    refine gt_catch [] ⟨0, 9, 12, 15⟩ [] rfl (fun z hz => absurd hz List.not_mem_nil) (by decide) (by decide) cl_L_15 ca_IllegalArgumentException__IllegalArgumentException (fun q => ?_)
    refine g_astore_n (i := 3) dL_regions_12 rfl (Nat.le_of_ble_eq_true rfl) ?_
    refine g_iconst (v := 1) dL_regions_13 (by decide) ?_
    refine g_iret dL_regions_14 rfl rfl ?_
    exact hP

set_option maxRecDepth 100000 in
theorem wl_regionsByUnions {l : Launch} {G : GG} (hl : l.stackTraces = false) {h : AH} {b o mc ms : Nat} {p0 : Int32} {fs : List Value} {P' P9 : Post} (hb : h 6 0 = some (b, .inr (9, fs))) (hEv : Ev l G 13 mc ms mX9_regionsByUnions [.ref b, .int p0] h P')
    (hok : ∀ v2 h2, P' (.inl v2) h2 → ∃ (z : Int32) (f : Nat → Int64), v2 = some (.int z) ∧ h2 60 0 = some (oArr o f) ∧ P9 (.inl (some (.int 0))) (up h2 60 0 (oArr o (va_up f 0 (z.toInt64))))) (hex : ∀ E h2, P' (.inr E) h2 → (E = "java/lang/IllegalArgumentException" ∧ P9 (.inl (some (.int 1))) h2)) : Ev l G 14 mc ms mL_regionsByUnions [.ref b, .int p0, .ref o] h P9 := by
  refine Ev.of hl (by decide) (Nat.le_of_ble_eq_true rfl) ?_
  refine g_aload_n (i := 2) dL_regionsByUnions_0 rfl rfl ?_
  refine g_iconst (v := 0) dL_regionsByUnions_1 (by decide) ?_
  refine g_aload_n (i := 0) dL_regionsByUnions_2 rfl rfl ?_
  refine g_iload_n (i := 1) dL_regionsByUnions_3 rfl rfl ?_
  refine g_callV hEv dL_regionsByUnions_4 ml_L_69 cvX9_regionsByUnions K_X9 rfl hb rfl rfl (Nat.le_of_ble_eq_true rfl) (Nat.le_of_ble_eq_true rfl) (Nat.le_refl _) (Nat.le_refl _) (fun v2 h2 q2 => ?_) (fun E h2 q2 => ?_)
  · obtain ⟨z, f, rfl, e60, hP⟩ := hok _ _ q2
    refine g_i2l dL_regionsByUnions_7 ?_
    refine g_last dL_regionsByUnions_8 e60 (ix_nI (j := 0) (by decide)) (by decide) rfl ?_
    refine g_goto (tgt := 15) dL_regionsByUnions_9 (by decide) ?_
    refine g_iconst (v := 0) dL_regionsByUnions_15 (by decide) ?_
    refine g_iret dL_regionsByUnions_16 rfl rfl ?_
    exact hP
  · rcases hex _ _ q2 with ⟨rfl, hP⟩
    refine gt_catch [] ⟨0, 9, 12, 15⟩ [] rfl (fun z hz => absurd hz List.not_mem_nil) (by decide) (by decide) cl_L_15 ca_IllegalArgumentException__IllegalArgumentException (fun q => ?_)
    refine g_astore_n (i := 3) dL_regionsByUnions_12 rfl (Nat.le_of_ble_eq_true rfl) ?_
    refine g_iconst (v := 1) dL_regionsByUnions_13 (by decide) ?_
    refine g_iret dL_regionsByUnions_14 rfl rfl ?_
    exact hP

set_option maxRecDepth 100000 in
theorem wl_holes {l : Launch} {G : GG} (hl : l.stackTraces = false) {h : AH} {b o mc ms : Nat} {p0 : Int32} {fs : List Value} {P' P9 : Post} (hb : h 6 0 = some (b, .inr (9, fs))) (hEv : Ev l G 13 mc ms mX9_holes [.ref b, .int p0] h P')
    (hok : ∀ v2 h2, P' (.inl v2) h2 → ∃ (z : Int32) (f : Nat → Int64), v2 = some (.int z) ∧ h2 60 0 = some (oArr o f) ∧ P9 (.inl (some (.int 0))) (up h2 60 0 (oArr o (va_up f 0 (z.toInt64))))) (hex : ∀ E h2, P' (.inr E) h2 → (E = "java/lang/IllegalArgumentException" ∧ P9 (.inl (some (.int 1))) h2)) : Ev l G 14 mc ms mL_holes [.ref b, .int p0, .ref o] h P9 := by
  refine Ev.of hl (by decide) (Nat.le_of_ble_eq_true rfl) ?_
  refine g_aload_n (i := 2) dL_holes_0 rfl rfl ?_
  refine g_iconst (v := 0) dL_holes_1 (by decide) ?_
  refine g_aload_n (i := 0) dL_holes_2 rfl rfl ?_
  refine g_iload_n (i := 1) dL_holes_3 rfl rfl ?_
  refine g_callV hEv dL_holes_4 ml_L_72 cvX9_holes K_X9 rfl hb rfl rfl (Nat.le_of_ble_eq_true rfl) (Nat.le_of_ble_eq_true rfl) (Nat.le_refl _) (Nat.le_refl _) (fun v2 h2 q2 => ?_) (fun E h2 q2 => ?_)
  · obtain ⟨z, f, rfl, e60, hP⟩ := hok _ _ q2
    refine g_i2l dL_holes_7 ?_
    refine g_last dL_holes_8 e60 (ix_nI (j := 0) (by decide)) (by decide) rfl ?_
    refine g_goto (tgt := 15) dL_holes_9 (by decide) ?_
    refine g_iconst (v := 0) dL_holes_15 (by decide) ?_
    refine g_iret dL_holes_16 rfl rfl ?_
    exact hP
  · rcases hex _ _ q2 with ⟨rfl, hP⟩
    refine gt_catch [] ⟨0, 9, 12, 15⟩ [] rfl (fun z hz => absurd hz List.not_mem_nil) (by decide) (by decide) cl_L_15 ca_IllegalArgumentException__IllegalArgumentException (fun q => ?_)
    refine g_astore_n (i := 3) dL_holes_12 rfl (Nat.le_of_ble_eq_true rfl) ?_
    refine g_iconst (v := 1) dL_holes_13 (by decide) ?_
    refine g_iret dL_holes_14 rfl rfl ?_
    exact hP

set_option maxRecDepth 100000 in
theorem wl_holesBySquares {l : Launch} {G : GG} (hl : l.stackTraces = false) {h : AH} {b o mc ms : Nat} {p0 : Int32} {fs : List Value} {P' P9 : Post} (hb : h 6 0 = some (b, .inr (9, fs))) (hEv : Ev l G 15 mc ms mX9_holesBySquares [.ref b, .int p0] h P')
    (hok : ∀ v2 h2, P' (.inl v2) h2 → ∃ (z : Int32) (f : Nat → Int64), v2 = some (.int z) ∧ h2 60 0 = some (oArr o f) ∧ P9 (.inl (some (.int 0))) (up h2 60 0 (oArr o (va_up f 0 (z.toInt64))))) (hex : ∀ E h2, P' (.inr E) h2 → (E = "java/lang/IllegalArgumentException" ∧ P9 (.inl (some (.int 1))) h2)) : Ev l G 16 mc ms mL_holesBySquares [.ref b, .int p0, .ref o] h P9 := by
  refine Ev.of hl (by decide) (Nat.le_of_ble_eq_true rfl) ?_
  refine g_aload_n (i := 2) dL_holesBySquares_0 rfl rfl ?_
  refine g_iconst (v := 0) dL_holesBySquares_1 (by decide) ?_
  refine g_aload_n (i := 0) dL_holesBySquares_2 rfl rfl ?_
  refine g_iload_n (i := 1) dL_holesBySquares_3 rfl rfl ?_
  refine g_callV hEv dL_holesBySquares_4 ml_L_75 cvX9_holesBySquares K_X9 rfl hb rfl rfl (Nat.le_of_ble_eq_true rfl) (Nat.le_of_ble_eq_true rfl) (Nat.le_refl _) (Nat.le_refl _) (fun v2 h2 q2 => ?_) (fun E h2 q2 => ?_)
  · obtain ⟨z, f, rfl, e60, hP⟩ := hok _ _ q2
    refine g_i2l dL_holesBySquares_7 ?_
    refine g_last dL_holesBySquares_8 e60 (ix_nI (j := 0) (by decide)) (by decide) rfl ?_
    refine g_goto (tgt := 15) dL_holesBySquares_9 (by decide) ?_
    refine g_iconst (v := 0) dL_holesBySquares_15 (by decide) ?_
    refine g_iret dL_holesBySquares_16 rfl rfl ?_
    exact hP
  · rcases hex _ _ q2 with ⟨rfl, hP⟩
    refine gt_catch [] ⟨0, 9, 12, 15⟩ [] rfl (fun z hz => absurd hz List.not_mem_nil) (by decide) (by decide) cl_L_15 ca_IllegalArgumentException__IllegalArgumentException (fun q => ?_)
    refine g_astore_n (i := 3) dL_holesBySquares_12 rfl (Nat.le_of_ble_eq_true rfl) ?_
    refine g_iconst (v := 1) dL_holesBySquares_13 (by decide) ?_
    refine g_iret dL_holesBySquares_14 rfl rfl ?_
    exact hP

set_option maxRecDepth 100000 in
theorem wl_contourLength {l : Launch} {G : GG} (hl : l.stackTraces = false) {h : AH} {b o mc ms : Nat} {p0 : Int32} {fs : List Value} {P' P9 : Post} (hb : h 6 0 = some (b, .inr (9, fs))) (hEv : Ev l G 13 mc ms mX9_contourLength [.ref b, .int p0] h P')
    (hok : ∀ v2 h2, P' (.inl v2) h2 → ∃ (z : Int32) (f : Nat → Int64), v2 = some (.int z) ∧ h2 60 0 = some (oArr o f) ∧ P9 (.inl (some (.int 0))) (up h2 60 0 (oArr o (va_up f 0 (z.toInt64))))) (hex : ∀ E h2, P' (.inr E) h2 → (E = "java/lang/IllegalArgumentException" ∧ P9 (.inl (some (.int 1))) h2)) : Ev l G 14 mc ms mL_contourLength [.ref b, .int p0, .ref o] h P9 := by
  refine Ev.of hl (by decide) (Nat.le_of_ble_eq_true rfl) ?_
  refine g_aload_n (i := 2) dL_contourLength_0 rfl rfl ?_
  refine g_iconst (v := 0) dL_contourLength_1 (by decide) ?_
  refine g_aload_n (i := 0) dL_contourLength_2 rfl rfl ?_
  refine g_iload_n (i := 1) dL_contourLength_3 rfl rfl ?_
  refine g_callV hEv dL_contourLength_4 ml_L_78 cvX9_contourLength K_X9 rfl hb rfl rfl (Nat.le_of_ble_eq_true rfl) (Nat.le_of_ble_eq_true rfl) (Nat.le_refl _) (Nat.le_refl _) (fun v2 h2 q2 => ?_) (fun E h2 q2 => ?_)
  · obtain ⟨z, f, rfl, e60, hP⟩ := hok _ _ q2
    refine g_i2l dL_contourLength_7 ?_
    refine g_last dL_contourLength_8 e60 (ix_nI (j := 0) (by decide)) (by decide) rfl ?_
    refine g_goto (tgt := 15) dL_contourLength_9 (by decide) ?_
    refine g_iconst (v := 0) dL_contourLength_15 (by decide) ?_
    refine g_iret dL_contourLength_16 rfl rfl ?_
    exact hP
  · rcases hex _ _ q2 with ⟨rfl, hP⟩
    refine gt_catch [] ⟨0, 9, 12, 15⟩ [] rfl (fun z hz => absurd hz List.not_mem_nil) (by decide) (by decide) cl_L_15 ca_IllegalArgumentException__IllegalArgumentException (fun q => ?_)
    refine g_astore_n (i := 3) dL_contourLength_12 rfl (Nat.le_of_ble_eq_true rfl) ?_
    refine g_iconst (v := 1) dL_contourLength_13 (by decide) ?_
    refine g_iret dL_contourLength_14 rfl rfl ?_
    exact hP

set_option maxRecDepth 100000 in
theorem wl_contourLengthByPairs {l : Launch} {G : GG} (hl : l.stackTraces = false) {h : AH} {b o mc ms : Nat} {p0 : Int32} {fs : List Value} {P' P9 : Post} (hb : h 6 0 = some (b, .inr (9, fs))) (hEv : Ev l G 12 mc ms mX9_contourLengthByPairs [.ref b, .int p0] h P')
    (hok : ∀ v2 h2, P' (.inl v2) h2 → ∃ (z : Int32) (f : Nat → Int64), v2 = some (.int z) ∧ h2 60 0 = some (oArr o f) ∧ P9 (.inl (some (.int 0))) (up h2 60 0 (oArr o (va_up f 0 (z.toInt64))))) (hex : ∀ E h2, P' (.inr E) h2 → (E = "java/lang/IllegalArgumentException" ∧ P9 (.inl (some (.int 1))) h2)) : Ev l G 13 mc ms mL_contourLengthByPairs [.ref b, .int p0, .ref o] h P9 := by
  refine Ev.of hl (by decide) (Nat.le_of_ble_eq_true rfl) ?_
  refine g_aload_n (i := 2) dL_contourLengthByPairs_0 rfl rfl ?_
  refine g_iconst (v := 0) dL_contourLengthByPairs_1 (by decide) ?_
  refine g_aload_n (i := 0) dL_contourLengthByPairs_2 rfl rfl ?_
  refine g_iload_n (i := 1) dL_contourLengthByPairs_3 rfl rfl ?_
  refine g_callV hEv dL_contourLengthByPairs_4 ml_L_81 cvX9_contourLengthByPairs K_X9 rfl hb rfl rfl (Nat.le_of_ble_eq_true rfl) (Nat.le_of_ble_eq_true rfl) (Nat.le_refl _) (Nat.le_refl _) (fun v2 h2 q2 => ?_) (fun E h2 q2 => ?_)
  · obtain ⟨z, f, rfl, e60, hP⟩ := hok _ _ q2
    refine g_i2l dL_contourLengthByPairs_7 ?_
    refine g_last dL_contourLengthByPairs_8 e60 (ix_nI (j := 0) (by decide)) (by decide) rfl ?_
    refine g_goto (tgt := 15) dL_contourLengthByPairs_9 (by decide) ?_
    refine g_iconst (v := 0) dL_contourLengthByPairs_15 (by decide) ?_
    refine g_iret dL_contourLengthByPairs_16 rfl rfl ?_
    exact hP
  · rcases hex _ _ q2 with ⟨rfl, hP⟩
    refine gt_catch [] ⟨0, 9, 12, 15⟩ [] rfl (fun z hz => absurd hz List.not_mem_nil) (by decide) (by decide) cl_L_15 ca_IllegalArgumentException__IllegalArgumentException (fun q => ?_)
    refine g_astore_n (i := 3) dL_contourLengthByPairs_12 rfl (Nat.le_of_ble_eq_true rfl) ?_
    refine g_iconst (v := 1) dL_contourLengthByPairs_13 (by decide) ?_
    refine g_iret dL_contourLengthByPairs_14 rfl rfl ?_
    exact hP

set_option maxRecDepth 100000 in
theorem wl_regionSize {l : Launch} {G : GG} (hl : l.stackTraces = false) {h : AH} {b o mc ms : Nat} {p0 : Int32} {p1 : Int32} {p2 : Int32} {fs : List Value} {P' P9 : Post} (hb : h 6 0 = some (b, .inr (9, fs))) (hEv : Ev l G 12 mc ms mX9_regionSize [.ref b, .int p0, .int p1, .int p2] h P')
    (hok : ∀ v2 h2, P' (.inl v2) h2 → ∃ (z : Int32) (f : Nat → Int64), v2 = some (.int z) ∧ h2 60 0 = some (oArr o f) ∧ P9 (.inl (some (.int 0))) (up h2 60 0 (oArr o (va_up f 0 (z.toInt64))))) (hex : ∀ E h2, P' (.inr E) h2 → (E = "java/lang/IndexOutOfBoundsException" ∧ P9 (.inl (some (.int 1))) h2) ∨ (E = "java/lang/IllegalArgumentException" ∧ P9 (.inl (some (.int 2))) h2)) : Ev l G 13 mc ms mL_regionSize [.ref b, .int p0, .int p1, .int p2, .ref o] h P9 := by
  refine Ev.of hl (by decide) (Nat.le_of_ble_eq_true rfl) ?_
  refine g_aload dL_regionSize_0 rfl ?_
  refine g_iconst (v := 0) dL_regionSize_2 (by decide) ?_
  refine g_aload_n (i := 0) dL_regionSize_3 rfl rfl ?_
  refine g_iload_n (i := 1) dL_regionSize_4 rfl rfl ?_
  refine g_iload_n (i := 2) dL_regionSize_5 rfl rfl ?_
  refine g_iload_n (i := 3) dL_regionSize_6 rfl rfl ?_
  refine g_callV hEv dL_regionSize_7 ml_L_84 cvX9_regionSize K_X9 rfl hb rfl rfl (Nat.le_of_ble_eq_true rfl) (Nat.le_of_ble_eq_true rfl) (Nat.le_refl _) (Nat.le_refl _) (fun v2 h2 q2 => ?_) (fun E h2 q2 => ?_)
  · obtain ⟨z, f, rfl, e60, hP⟩ := hok _ _ q2
    refine g_i2l dL_regionSize_10 ?_
    refine g_last dL_regionSize_11 e60 (ix_nI (j := 0) (by decide)) (by decide) rfl ?_
    refine g_goto (tgt := 23) dL_regionSize_12 (by decide) ?_
    refine g_iconst (v := 0) dL_regionSize_23 (by decide) ?_
    refine g_iret dL_regionSize_24 rfl rfl ?_
    exact hP
  · rcases hex _ _ q2 with ⟨rfl, hP⟩ | ⟨rfl, hP⟩
    · refine gt_catch [] ⟨0, 12, 15, 13⟩ [⟨0, 12, 19, 15⟩] rfl (fun z hz => absurd hz List.not_mem_nil) (by decide) (by decide) cl_L_13 ca_IndexOutOfBoundsException__IndexOutOfBoundsException (fun q => ?_)
      refine g_astore dL_regionSize_15 (Nat.le_of_ble_eq_true rfl) ?_
      refine g_iconst (v := 1) dL_regionSize_17 (by decide) ?_
      refine g_iret dL_regionSize_18 rfl rfl ?_
      exact hP
    · refine gt_catch [⟨0, 12, 15, 13⟩] ⟨0, 12, 19, 15⟩ [] rfl (fun z hz => by simp only [List.mem_cons, List.not_mem_nil, or_false] at hz; rcases hz with rfl; exact Or.inr ⟨by decide, _, cl_L_13, by decide⟩) (by decide) (by decide) cl_L_15 ca_IllegalArgumentException__IllegalArgumentException (fun q => ?_)
      refine g_astore dL_regionSize_19 (Nat.le_of_ble_eq_true rfl) ?_
      refine g_iconst (v := 2) dL_regionSize_21 (by decide) ?_
      refine g_iret dL_regionSize_22 rfl rfl ?_
      exact hP

set_option maxRecDepth 100000 in
theorem wl_coolestPeak {l : Launch} {G : GG} (hl : l.stackTraces = false) {h : AH} {b o mc ms : Nat} {p0 : Int32} {p1 : Int32} {p2 : Int32} {p3 : Int32} {fs : List Value} {P' P9 : Post} (hb : h 6 0 = some (b, .inr (9, fs))) (hEv : Ev l G 13 mc ms mX9_coolestPeak [.ref b, .int p0, .int p1, .int p2, .int p3] h P')
    (hok : ∀ v2 h2, P' (.inl v2) h2 → ∃ (z : Int32) (f : Nat → Int64), v2 = some (.int z) ∧ h2 60 0 = some (oArr o f) ∧ P9 (.inl (some (.int 0))) (up h2 60 0 (oArr o (va_up f 0 (z.toInt64))))) (hex : ∀ E h2, P' (.inr E) h2 → (E = "java/lang/IndexOutOfBoundsException" ∧ P9 (.inl (some (.int 1))) h2) ∨ (E = "java/util/NoSuchElementException" ∧ P9 (.inl (some (.int 2))) h2)) : Ev l G 14 mc ms mL_coolestPeak [.ref b, .int p0, .int p1, .int p2, .int p3, .ref o] h P9 := by
  refine Ev.of hl (by decide) (Nat.le_of_ble_eq_true rfl) ?_
  refine g_aload dL_coolestPeak_0 rfl ?_
  refine g_iconst (v := 0) dL_coolestPeak_2 (by decide) ?_
  refine g_aload_n (i := 0) dL_coolestPeak_3 rfl rfl ?_
  refine g_iload_n (i := 1) dL_coolestPeak_4 rfl rfl ?_
  refine g_iload_n (i := 2) dL_coolestPeak_5 rfl rfl ?_
  refine g_iload_n (i := 3) dL_coolestPeak_6 rfl rfl ?_
  refine g_iload dL_coolestPeak_7 rfl ?_
  refine g_callV hEv dL_coolestPeak_9 ml_L_87 cvX9_coolestPeak K_X9 rfl hb rfl rfl (Nat.le_of_ble_eq_true rfl) (Nat.le_of_ble_eq_true rfl) (Nat.le_refl _) (Nat.le_refl _) (fun v2 h2 q2 => ?_) (fun E h2 q2 => ?_)
  · obtain ⟨z, f, rfl, e60, hP⟩ := hok _ _ q2
    refine g_i2l dL_coolestPeak_12 ?_
    refine g_last dL_coolestPeak_13 e60 (ix_nI (j := 0) (by decide)) (by decide) rfl ?_
    refine g_goto (tgt := 25) dL_coolestPeak_14 (by decide) ?_
    refine g_iconst (v := 0) dL_coolestPeak_25 (by decide) ?_
    refine g_iret dL_coolestPeak_26 rfl rfl ?_
    exact hP
  · rcases hex _ _ q2 with ⟨rfl, hP⟩ | ⟨rfl, hP⟩
    · refine gt_catch [] ⟨0, 14, 17, 13⟩ [⟨0, 14, 21, 38⟩] rfl (fun z hz => absurd hz List.not_mem_nil) (by decide) (by decide) cl_L_13 ca_IndexOutOfBoundsException__IndexOutOfBoundsException (fun q => ?_)
      refine g_astore dL_coolestPeak_17 (Nat.le_of_ble_eq_true rfl) ?_
      refine g_iconst (v := 1) dL_coolestPeak_19 (by decide) ?_
      refine g_iret dL_coolestPeak_20 rfl rfl ?_
      exact hP
    · refine gt_catch [⟨0, 14, 17, 13⟩] ⟨0, 14, 21, 38⟩ [] rfl (fun z hz => by simp only [List.mem_cons, List.not_mem_nil, or_false] at hz; rcases hz with rfl; exact Or.inr ⟨by decide, _, cl_L_13, by decide⟩) (by decide) (by decide) cl_L_38 ca_NoSuchElementException__NoSuchElementException (fun q => ?_)
      refine g_astore dL_coolestPeak_21 (Nat.le_of_ble_eq_true rfl) ?_
      refine g_iconst (v := 2) dL_coolestPeak_23 (by decide) ?_
      refine g_iret dL_coolestPeak_24 rfl rfl ?_
      exact hP

set_option maxRecDepth 100000 in
theorem wl_coolestPeakByTrying {l : Launch} {G : GG} (hl : l.stackTraces = false) {h : AH} {b o mc ms : Nat} {p0 : Int32} {p1 : Int32} {p2 : Int32} {p3 : Int32} {fs : List Value} {P' P9 : Post} (hb : h 6 0 = some (b, .inr (9, fs))) (hEv : Ev l G 14 mc ms mX9_coolestPeakByTrying [.ref b, .int p0, .int p1, .int p2, .int p3] h P')
    (hok : ∀ v2 h2, P' (.inl v2) h2 → ∃ (z : Int32) (f : Nat → Int64), v2 = some (.int z) ∧ h2 60 0 = some (oArr o f) ∧ P9 (.inl (some (.int 0))) (up h2 60 0 (oArr o (va_up f 0 (z.toInt64))))) (hex : ∀ E h2, P' (.inr E) h2 → (E = "java/lang/IndexOutOfBoundsException" ∧ P9 (.inl (some (.int 1))) h2) ∨ (E = "java/util/NoSuchElementException" ∧ P9 (.inl (some (.int 2))) h2)) : Ev l G 15 mc ms mL_coolestPeakByTrying [.ref b, .int p0, .int p1, .int p2, .int p3, .ref o] h P9 := by
  refine Ev.of hl (by decide) (Nat.le_of_ble_eq_true rfl) ?_
  refine g_aload dL_coolestPeakByTrying_0 rfl ?_
  refine g_iconst (v := 0) dL_coolestPeakByTrying_2 (by decide) ?_
  refine g_aload_n (i := 0) dL_coolestPeakByTrying_3 rfl rfl ?_
  refine g_iload_n (i := 1) dL_coolestPeakByTrying_4 rfl rfl ?_
  refine g_iload_n (i := 2) dL_coolestPeakByTrying_5 rfl rfl ?_
  refine g_iload_n (i := 3) dL_coolestPeakByTrying_6 rfl rfl ?_
  refine g_iload dL_coolestPeakByTrying_7 rfl ?_
  refine g_callV hEv dL_coolestPeakByTrying_9 ml_L_91 cvX9_coolestPeakByTrying K_X9 rfl hb rfl rfl (Nat.le_of_ble_eq_true rfl) (Nat.le_of_ble_eq_true rfl) (Nat.le_refl _) (Nat.le_refl _) (fun v2 h2 q2 => ?_) (fun E h2 q2 => ?_)
  · obtain ⟨z, f, rfl, e60, hP⟩ := hok _ _ q2
    refine g_i2l dL_coolestPeakByTrying_12 ?_
    refine g_last dL_coolestPeakByTrying_13 e60 (ix_nI (j := 0) (by decide)) (by decide) rfl ?_
    refine g_goto (tgt := 25) dL_coolestPeakByTrying_14 (by decide) ?_
    refine g_iconst (v := 0) dL_coolestPeakByTrying_25 (by decide) ?_
    refine g_iret dL_coolestPeakByTrying_26 rfl rfl ?_
    exact hP
  · rcases hex _ _ q2 with ⟨rfl, hP⟩ | ⟨rfl, hP⟩
    · refine gt_catch [] ⟨0, 14, 17, 13⟩ [⟨0, 14, 21, 38⟩] rfl (fun z hz => absurd hz List.not_mem_nil) (by decide) (by decide) cl_L_13 ca_IndexOutOfBoundsException__IndexOutOfBoundsException (fun q => ?_)
      refine g_astore dL_coolestPeakByTrying_17 (Nat.le_of_ble_eq_true rfl) ?_
      refine g_iconst (v := 1) dL_coolestPeakByTrying_19 (by decide) ?_
      refine g_iret dL_coolestPeakByTrying_20 rfl rfl ?_
      exact hP
    · refine gt_catch [⟨0, 14, 17, 13⟩] ⟨0, 14, 21, 38⟩ [] rfl (fun z hz => by simp only [List.mem_cons, List.not_mem_nil, or_false] at hz; rcases hz with rfl; exact Or.inr ⟨by decide, _, cl_L_13, by decide⟩) (by decide) (by decide) cl_L_38 ca_NoSuchElementException__NoSuchElementException (fun q => ?_)
      refine g_astore dL_coolestPeakByTrying_21 (Nat.le_of_ble_eq_true rfl) ?_
      refine g_iconst (v := 2) dL_coolestPeakByTrying_23 (by decide) ?_
      refine g_iret dL_coolestPeakByTrying_24 rfl rfl ?_
      exact hP

set_option maxRecDepth 100000 in
theorem wl_legendSpread {l : Launch} {G : GG} (hl : l.stackTraces = false) {h : AH} {b o mc ms : Nat} {p0 : Int32} {fs : List Value} {P' P9 : Post} (hb : h 6 0 = some (b, .inr (9, fs))) (hEv : Ev l G 13 mc ms mX9_legendSpread [.ref b, .int p0] h P')
    (hok : ∀ v2 h2, P' (.inl v2) h2 → ∃ (z : Int32) (f : Nat → Int64), v2 = some (.int z) ∧ h2 60 0 = some (oArr o f) ∧ P9 (.inl (some (.int 0))) (up h2 60 0 (oArr o (va_up f 0 (z.toInt64))))) (hex : ∀ E h2, P' (.inr E) h2 → (E = "java/lang/IllegalArgumentException" ∧ P9 (.inl (some (.int 1))) h2) ∨ (E = "java/lang/IllegalStateException" ∧ P9 (.inl (some (.int 2))) h2)) : Ev l G 14 mc ms mL_legendSpread [.ref b, .int p0, .ref o] h P9 := by
  refine Ev.of hl (by decide) (Nat.le_of_ble_eq_true rfl) ?_
  refine g_aload_n (i := 2) dL_legendSpread_0 rfl rfl ?_
  refine g_iconst (v := 0) dL_legendSpread_1 (by decide) ?_
  refine g_aload_n (i := 0) dL_legendSpread_2 rfl rfl ?_
  refine g_iload_n (i := 1) dL_legendSpread_3 rfl rfl ?_
  refine g_callV hEv dL_legendSpread_4 ml_L_94 cvX9_legendSpread K_X9 rfl hb rfl rfl (Nat.le_of_ble_eq_true rfl) (Nat.le_of_ble_eq_true rfl) (Nat.le_refl _) (Nat.le_refl _) (fun v2 h2 q2 => ?_) (fun E h2 q2 => ?_)
  · obtain ⟨z, f, rfl, e60, hP⟩ := hok _ _ q2
    refine g_i2l dL_legendSpread_7 ?_
    refine g_last dL_legendSpread_8 e60 (ix_nI (j := 0) (by decide)) (by decide) rfl ?_
    refine g_goto (tgt := 18) dL_legendSpread_9 (by decide) ?_
    refine g_iconst (v := 0) dL_legendSpread_18 (by decide) ?_
    refine g_iret dL_legendSpread_19 rfl rfl ?_
    exact hP
  · rcases hex _ _ q2 with ⟨rfl, hP⟩ | ⟨rfl, hP⟩
    · refine gt_catch [] ⟨0, 9, 12, 15⟩ [⟨0, 9, 15, 97⟩] rfl (fun z hz => absurd hz List.not_mem_nil) (by decide) (by decide) cl_L_15 ca_IllegalArgumentException__IllegalArgumentException (fun q => ?_)
      refine g_astore_n (i := 3) dL_legendSpread_12 rfl (Nat.le_of_ble_eq_true rfl) ?_
      refine g_iconst (v := 1) dL_legendSpread_13 (by decide) ?_
      refine g_iret dL_legendSpread_14 rfl rfl ?_
      exact hP
    · refine gt_catch [⟨0, 9, 12, 15⟩] ⟨0, 9, 15, 97⟩ [] rfl (fun z hz => by simp only [List.mem_cons, List.not_mem_nil, or_false] at hz; rcases hz with rfl; exact Or.inr ⟨by decide, _, cl_L_15, by decide⟩) (by decide) (by decide) cl_L_97 ca_IllegalStateException__IllegalStateException (fun q => ?_)
      refine g_astore_n (i := 3) dL_legendSpread_15 rfl (Nat.le_of_ble_eq_true rfl) ?_
      refine g_iconst (v := 2) dL_legendSpread_16 (by decide) ?_
      refine g_iret dL_legendSpread_17 rfl rfl ?_
      exact hP

set_option maxRecDepth 100000 in
theorem wl_legendSpreadByTable {l : Launch} {G : GG} (hl : l.stackTraces = false) {h : AH} {b o mc ms : Nat} {p0 : Int32} {fs : List Value} {P' P9 : Post} (hb : h 6 0 = some (b, .inr (9, fs))) (hEv : Ev l G 13 mc ms mX9_legendSpreadByTable [.ref b, .int p0] h P')
    (hok : ∀ v2 h2, P' (.inl v2) h2 → ∃ (z : Int32) (f : Nat → Int64), v2 = some (.int z) ∧ h2 60 0 = some (oArr o f) ∧ P9 (.inl (some (.int 0))) (up h2 60 0 (oArr o (va_up f 0 (z.toInt64))))) (hex : ∀ E h2, P' (.inr E) h2 → (E = "java/lang/IllegalArgumentException" ∧ P9 (.inl (some (.int 1))) h2) ∨ (E = "java/lang/IllegalStateException" ∧ P9 (.inl (some (.int 2))) h2)) : Ev l G 14 mc ms mL_legendSpreadByTable [.ref b, .int p0, .ref o] h P9 := by
  refine Ev.of hl (by decide) (Nat.le_of_ble_eq_true rfl) ?_
  refine g_aload_n (i := 2) dL_legendSpreadByTable_0 rfl rfl ?_
  refine g_iconst (v := 0) dL_legendSpreadByTable_1 (by decide) ?_
  refine g_aload_n (i := 0) dL_legendSpreadByTable_2 rfl rfl ?_
  refine g_iload_n (i := 1) dL_legendSpreadByTable_3 rfl rfl ?_
  refine g_callV hEv dL_legendSpreadByTable_4 ml_L_99 cvX9_legendSpreadByTable K_X9 rfl hb rfl rfl (Nat.le_of_ble_eq_true rfl) (Nat.le_of_ble_eq_true rfl) (Nat.le_refl _) (Nat.le_refl _) (fun v2 h2 q2 => ?_) (fun E h2 q2 => ?_)
  · obtain ⟨z, f, rfl, e60, hP⟩ := hok _ _ q2
    refine g_i2l dL_legendSpreadByTable_7 ?_
    refine g_last dL_legendSpreadByTable_8 e60 (ix_nI (j := 0) (by decide)) (by decide) rfl ?_
    refine g_goto (tgt := 18) dL_legendSpreadByTable_9 (by decide) ?_
    refine g_iconst (v := 0) dL_legendSpreadByTable_18 (by decide) ?_
    refine g_iret dL_legendSpreadByTable_19 rfl rfl ?_
    exact hP
  · rcases hex _ _ q2 with ⟨rfl, hP⟩ | ⟨rfl, hP⟩
    · refine gt_catch [] ⟨0, 9, 12, 15⟩ [⟨0, 9, 15, 97⟩] rfl (fun z hz => absurd hz List.not_mem_nil) (by decide) (by decide) cl_L_15 ca_IllegalArgumentException__IllegalArgumentException (fun q => ?_)
      refine g_astore_n (i := 3) dL_legendSpreadByTable_12 rfl (Nat.le_of_ble_eq_true rfl) ?_
      refine g_iconst (v := 1) dL_legendSpreadByTable_13 (by decide) ?_
      refine g_iret dL_legendSpreadByTable_14 rfl rfl ?_
      exact hP
    · refine gt_catch [⟨0, 9, 12, 15⟩] ⟨0, 9, 15, 97⟩ [] rfl (fun z hz => by simp only [List.mem_cons, List.not_mem_nil, or_false] at hz; rcases hz with rfl; exact Or.inr ⟨by decide, _, cl_L_15, by decide⟩) (by decide) (by decide) cl_L_97 ca_IllegalStateException__IllegalStateException (fun q => ?_)
      refine g_astore_n (i := 3) dL_legendSpreadByTable_15 rfl (Nat.le_of_ble_eq_true rfl) ?_
      refine g_iconst (v := 2) dL_legendSpreadByTable_16 (by decide) ?_
      refine g_iret dL_legendSpreadByTable_17 rfl rfl ?_
      exact hP

set_option maxRecDepth 100000 in
theorem wl_classBegin {l : Launch} {G : GG} (hl : l.stackTraces = false) {h : AH} {b o mc ms : Nat} {p0 : Int32} {p1 : Int32} {fs : List Value} {P' P9 : Post} (hb : h 6 0 = some (b, .inr (9, fs))) (hEv : Ev l G 13 mc ms mX9_classBegin [.ref b, .int p0, .int p1] h P')
    (hok : ∀ v2 h2, P' (.inl v2) h2 → ∃ (z : Int32) (f : Nat → Int64), v2 = some (.int z) ∧ h2 60 0 = some (oArr o f) ∧ P9 (.inl (some (.int 0))) (up h2 60 0 (oArr o (va_up f 0 (z.toInt64))))) (hex : ∀ E h2, P' (.inr E) h2 → (E = "java/lang/IllegalArgumentException" ∧ P9 (.inl (some (.int 1))) h2) ∨ (E = "java/lang/IllegalStateException" ∧ P9 (.inl (some (.int 2))) h2) ∨ (E = "java/util/NoSuchElementException" ∧ P9 (.inl (some (.int 3))) h2)) : Ev l G 14 mc ms mL_classBegin [.ref b, .int p0, .int p1, .ref o] h P9 := by
  refine Ev.of hl (by decide) (Nat.le_of_ble_eq_true rfl) ?_
  refine g_aload_n (i := 3) dL_classBegin_0 rfl rfl ?_
  refine g_iconst (v := 0) dL_classBegin_1 (by decide) ?_
  refine g_aload_n (i := 0) dL_classBegin_2 rfl rfl ?_
  refine g_iload_n (i := 1) dL_classBegin_3 rfl rfl ?_
  refine g_iload_n (i := 2) dL_classBegin_4 rfl rfl ?_
  refine g_callV hEv dL_classBegin_5 ml_L_102 cvX9_classBegin K_X9 rfl hb rfl rfl (Nat.le_of_ble_eq_true rfl) (Nat.le_of_ble_eq_true rfl) (Nat.le_refl _) (Nat.le_refl _) (fun v2 h2 q2 => ?_) (fun E h2 q2 => ?_)
  · obtain ⟨z, f, rfl, e60, hP⟩ := hok _ _ q2
    refine g_i2l dL_classBegin_8 ?_
    refine g_last dL_classBegin_9 e60 (ix_nI (j := 0) (by decide)) (by decide) rfl ?_
    refine g_goto (tgt := 25) dL_classBegin_10 (by decide) ?_
    refine g_iconst (v := 0) dL_classBegin_25 (by decide) ?_
    refine g_iret dL_classBegin_26 rfl rfl ?_
    exact hP
  · rcases hex _ _ q2 with ⟨rfl, hP⟩ | ⟨rfl, hP⟩ | ⟨rfl, hP⟩
    · refine gt_catch [] ⟨0, 10, 13, 15⟩ [⟨0, 10, 17, 97⟩, ⟨0, 10, 21, 38⟩] rfl (fun z hz => absurd hz List.not_mem_nil) (by decide) (by decide) cl_L_15 ca_IllegalArgumentException__IllegalArgumentException (fun q => ?_)
      refine g_astore dL_classBegin_13 (Nat.le_of_ble_eq_true rfl) ?_
      refine g_iconst (v := 1) dL_classBegin_15 (by decide) ?_
      refine g_iret dL_classBegin_16 rfl rfl ?_
      exact hP
    · refine gt_catch [⟨0, 10, 13, 15⟩] ⟨0, 10, 17, 97⟩ [⟨0, 10, 21, 38⟩] rfl (fun z hz => by simp only [List.mem_cons, List.not_mem_nil, or_false] at hz; rcases hz with rfl; exact Or.inr ⟨by decide, _, cl_L_15, by decide⟩) (by decide) (by decide) cl_L_97 ca_IllegalStateException__IllegalStateException (fun q => ?_)
      refine g_astore dL_classBegin_17 (Nat.le_of_ble_eq_true rfl) ?_
      refine g_iconst (v := 2) dL_classBegin_19 (by decide) ?_
      refine g_iret dL_classBegin_20 rfl rfl ?_
      exact hP
    · refine gt_catch [⟨0, 10, 13, 15⟩, ⟨0, 10, 17, 97⟩] ⟨0, 10, 21, 38⟩ [] rfl (fun z hz => by simp only [List.mem_cons, List.not_mem_nil, or_false] at hz; rcases hz with rfl | rfl <;> first | exact Or.inr ⟨by decide, _, cl_L_15, by decide⟩ | exact Or.inr ⟨by decide, _, cl_L_97, by decide⟩) (by decide) (by decide) cl_L_38 ca_NoSuchElementException__NoSuchElementException (fun q => ?_)
      refine g_astore dL_classBegin_21 (Nat.le_of_ble_eq_true rfl) ?_
      refine g_iconst (v := 3) dL_classBegin_23 (by decide) ?_
      refine g_iret dL_classBegin_24 rfl rfl ?_
      exact hP

set_option maxRecDepth 100000 in
theorem wl_classOf {l : Launch} {G : GG} (hl : l.stackTraces = false) {h : AH} {b o mc ms : Nat} {p0 : Int32} {p1 : Int32} {p2 : Int32} {fs : List Value} {P' P9 : Post} (hb : h 6 0 = some (b, .inr (9, fs))) (hEv : Ev l G 13 mc ms mX9_classOf [.ref b, .int p0, .int p1, .int p2] h P')
    (hok : ∀ v2 h2, P' (.inl v2) h2 → ∃ (z : Int32) (f : Nat → Int64), v2 = some (.int z) ∧ h2 60 0 = some (oArr o f) ∧ P9 (.inl (some (.int 0))) (up h2 60 0 (oArr o (va_up f 0 (z.toInt64))))) (hex : ∀ E h2, P' (.inr E) h2 → (E = "java/lang/IndexOutOfBoundsException" ∧ P9 (.inl (some (.int 1))) h2) ∨ (E = "java/lang/IllegalArgumentException" ∧ P9 (.inl (some (.int 2))) h2) ∨ (E = "java/lang/IllegalStateException" ∧ P9 (.inl (some (.int 3))) h2) ∨ (E = "java/lang/UnsupportedOperationException" ∧ P9 (.inl (some (.int 4))) h2)) : Ev l G 14 mc ms mL_classOf [.ref b, .int p0, .int p1, .int p2, .ref o] h P9 := by
  refine Ev.of hl (by decide) (Nat.le_of_ble_eq_true rfl) ?_
  refine g_aload dL_classOf_0 rfl ?_
  refine g_iconst (v := 0) dL_classOf_2 (by decide) ?_
  refine g_aload_n (i := 0) dL_classOf_3 rfl rfl ?_
  refine g_iload_n (i := 1) dL_classOf_4 rfl rfl ?_
  refine g_iload_n (i := 2) dL_classOf_5 rfl rfl ?_
  refine g_iload_n (i := 3) dL_classOf_6 rfl rfl ?_
  refine g_callV hEv dL_classOf_7 ml_L_105 cvX9_classOf K_X9 rfl hb rfl rfl (Nat.le_of_ble_eq_true rfl) (Nat.le_of_ble_eq_true rfl) (Nat.le_refl _) (Nat.le_refl _) (fun v2 h2 q2 => ?_) (fun E h2 q2 => ?_)
  · obtain ⟨z, f, rfl, e60, hP⟩ := hok _ _ q2
    refine g_i2l dL_classOf_10 ?_
    refine g_last dL_classOf_11 e60 (ix_nI (j := 0) (by decide)) (by decide) rfl ?_
    refine g_goto (tgt := 31) dL_classOf_12 (by decide) ?_
    refine g_iconst (v := 0) dL_classOf_31 (by decide) ?_
    refine g_iret dL_classOf_32 rfl rfl ?_
    exact hP
  · rcases hex _ _ q2 with ⟨rfl, hP⟩ | ⟨rfl, hP⟩ | ⟨rfl, hP⟩ | ⟨rfl, hP⟩
    · refine gt_catch [] ⟨0, 12, 15, 13⟩ [⟨0, 12, 19, 15⟩, ⟨0, 12, 23, 97⟩, ⟨0, 12, 27, 17⟩] rfl (fun z hz => absurd hz List.not_mem_nil) (by decide) (by decide) cl_L_13 ca_IndexOutOfBoundsException__IndexOutOfBoundsException (fun q => ?_)
      refine g_astore dL_classOf_15 (Nat.le_of_ble_eq_true rfl) ?_
      refine g_iconst (v := 1) dL_classOf_17 (by decide) ?_
      refine g_iret dL_classOf_18 rfl rfl ?_
      exact hP
    · refine gt_catch [⟨0, 12, 15, 13⟩] ⟨0, 12, 19, 15⟩ [⟨0, 12, 23, 97⟩, ⟨0, 12, 27, 17⟩] rfl (fun z hz => by simp only [List.mem_cons, List.not_mem_nil, or_false] at hz; rcases hz with rfl; exact Or.inr ⟨by decide, _, cl_L_13, by decide⟩) (by decide) (by decide) cl_L_15 ca_IllegalArgumentException__IllegalArgumentException (fun q => ?_)
      refine g_astore dL_classOf_19 (Nat.le_of_ble_eq_true rfl) ?_
      refine g_iconst (v := 2) dL_classOf_21 (by decide) ?_
      refine g_iret dL_classOf_22 rfl rfl ?_
      exact hP
    · refine gt_catch [⟨0, 12, 15, 13⟩, ⟨0, 12, 19, 15⟩] ⟨0, 12, 23, 97⟩ [⟨0, 12, 27, 17⟩] rfl (fun z hz => by simp only [List.mem_cons, List.not_mem_nil, or_false] at hz; rcases hz with rfl | rfl <;> first | exact Or.inr ⟨by decide, _, cl_L_13, by decide⟩ | exact Or.inr ⟨by decide, _, cl_L_15, by decide⟩) (by decide) (by decide) cl_L_97 ca_IllegalStateException__IllegalStateException (fun q => ?_)
      refine g_astore dL_classOf_23 (Nat.le_of_ble_eq_true rfl) ?_
      refine g_iconst (v := 3) dL_classOf_25 (by decide) ?_
      refine g_iret dL_classOf_26 rfl rfl ?_
      exact hP
    · refine gt_catch [⟨0, 12, 15, 13⟩, ⟨0, 12, 19, 15⟩, ⟨0, 12, 23, 97⟩] ⟨0, 12, 27, 17⟩ [] rfl (fun z hz => by simp only [List.mem_cons, List.not_mem_nil, or_false] at hz; rcases hz with rfl | rfl | rfl <;> first | exact Or.inr ⟨by decide, _, cl_L_13, by decide⟩ | exact Or.inr ⟨by decide, _, cl_L_15, by decide⟩ | exact Or.inr ⟨by decide, _, cl_L_97, by decide⟩) (by decide) (by decide) cl_L_17 ca_UnsupportedOperationException__UnsupportedOperationException (fun q => ?_)
      refine g_astore dL_classOf_27 (Nat.le_of_ble_eq_true rfl) ?_
      refine g_iconst (v := 4) dL_classOf_29 (by decide) ?_
      refine g_iret dL_classOf_30 rfl rfl ?_
      exact hP

set_option maxRecDepth 100000 in
theorem wl_append {l : Launch} {G : GG} (hl : l.stackTraces = false) {h : AH} {b o mc ms : Nat} {p0 : Int32} {fs : List Value} {P' P9 : Post} (hb : h 6 0 = some (b, .inr (9, fs))) (hEv : Ev l G 19 mc ms mX9_append [.ref b, .int p0] h P')
    (hok : ∀ v2 h2, P' (.inl v2) h2 → ∃ (z : Int32) (f : Nat → Int64), v2 = some (.int z) ∧ h2 60 0 = some (oArr o f) ∧ P9 (.inl (some (.int 0))) (up h2 60 0 (oArr o (va_up f 0 (z.toInt64))))) (hex : ∀ E h2, P' (.inr E) h2 → (E = "java/lang/IllegalArgumentException" ∧ P9 (.inl (some (.int 1))) h2) ∨ (E = "java/lang/IllegalStateException" ∧ P9 (.inl (some (.int 2))) h2)) : Ev l G 20 mc ms mL_append [.ref b, .int p0, .ref o] h P9 := by
  refine Ev.of hl (by decide) (Nat.le_of_ble_eq_true rfl) ?_
  refine g_aload_n (i := 2) dL_append_0 rfl rfl ?_
  refine g_iconst (v := 0) dL_append_1 (by decide) ?_
  refine g_aload_n (i := 0) dL_append_2 rfl rfl ?_
  refine g_iload_n (i := 1) dL_append_3 rfl rfl ?_
  refine g_callV hEv dL_append_4 ml_L_108 cvX9_append K_X9 rfl hb rfl rfl (Nat.le_of_ble_eq_true rfl) (Nat.le_of_ble_eq_true rfl) (Nat.le_refl _) (Nat.le_refl _) (fun v2 h2 q2 => ?_) (fun E h2 q2 => ?_)
  · obtain ⟨z, f, rfl, e60, hP⟩ := hok _ _ q2
    refine g_i2l dL_append_7 ?_
    refine g_last dL_append_8 e60 (ix_nI (j := 0) (by decide)) (by decide) rfl ?_
    refine g_goto (tgt := 18) dL_append_9 (by decide) ?_
    refine g_iconst (v := 0) dL_append_18 (by decide) ?_
    refine g_iret dL_append_19 rfl rfl ?_
    exact hP
  · rcases hex _ _ q2 with ⟨rfl, hP⟩ | ⟨rfl, hP⟩
    · refine gt_catch [] ⟨0, 9, 12, 15⟩ [⟨0, 9, 15, 97⟩] rfl (fun z hz => absurd hz List.not_mem_nil) (by decide) (by decide) cl_L_15 ca_IllegalArgumentException__IllegalArgumentException (fun q => ?_)
      refine g_astore_n (i := 3) dL_append_12 rfl (Nat.le_of_ble_eq_true rfl) ?_
      refine g_iconst (v := 1) dL_append_13 (by decide) ?_
      refine g_iret dL_append_14 rfl rfl ?_
      exact hP
    · refine gt_catch [⟨0, 9, 12, 15⟩] ⟨0, 9, 15, 97⟩ [] rfl (fun z hz => by simp only [List.mem_cons, List.not_mem_nil, or_false] at hz; rcases hz with rfl; exact Or.inr ⟨by decide, _, cl_L_15, by decide⟩) (by decide) (by decide) cl_L_97 ca_IllegalStateException__IllegalStateException (fun q => ?_)
      refine g_astore_n (i := 3) dL_append_15 rfl (Nat.le_of_ble_eq_true rfl) ?_
      refine g_iconst (v := 2) dL_append_16 (by decide) ?_
      refine g_iret dL_append_17 rfl rfl ?_
      exact hP

set_option maxRecDepth 100000 in
theorem wl_run {l : Launch} {G : GG} (hl : l.stackTraces = false) {h : AH} {b o mc ms : Nat}  {fs : List Value} {P' P9 : Post} (hb : h 6 0 = some (b, .inr (9, fs))) (hEv : Ev l G 33 mc ms mX9_run [.ref b] h P')
    (hok : ∀ v2 h2, P' (.inl v2) h2 → ∃ (z : Int32) (f : Nat → Int64), v2 = some (.int z) ∧ h2 60 0 = some (oArr o f) ∧ P9 (.inl (some (.int 0))) (up h2 60 0 (oArr o (va_up f 0 (z.toInt64))))) (hex : ∀ E h2, P' (.inr E) h2 → (E = "java/lang/IllegalArgumentException" ∧ P9 (.inl (some (.int 1))) h2) ∨ (E = "java/lang/IllegalStateException" ∧ P9 (.inl (some (.int 2))) h2)) : Ev l G 34 mc ms mL_run [.ref b, .ref o] h P9 := by
  refine Ev.of hl (by decide) (Nat.le_of_ble_eq_true rfl) ?_
  refine g_aload_n (i := 1) dL_run_0 rfl rfl ?_
  refine g_iconst (v := 0) dL_run_1 (by decide) ?_
  refine g_aload_n (i := 0) dL_run_2 rfl rfl ?_
  refine g_callV hEv dL_run_3 ml_L_112 cvX9_run K_X9 rfl hb rfl rfl (Nat.le_of_ble_eq_true rfl) (Nat.le_of_ble_eq_true rfl) (Nat.le_refl _) (Nat.le_refl _) (fun v2 h2 q2 => ?_) (fun E h2 q2 => ?_)
  · obtain ⟨z, f, rfl, e60, hP⟩ := hok _ _ q2
    refine g_i2l dL_run_6 ?_
    refine g_last dL_run_7 e60 (ix_nI (j := 0) (by decide)) (by decide) rfl ?_
    refine g_goto (tgt := 17) dL_run_8 (by decide) ?_
    refine g_iconst (v := 0) dL_run_17 (by decide) ?_
    refine g_iret dL_run_18 rfl rfl ?_
    exact hP
  · rcases hex _ _ q2 with ⟨rfl, hP⟩ | ⟨rfl, hP⟩
    · refine gt_catch [] ⟨0, 8, 11, 15⟩ [⟨0, 8, 14, 97⟩] rfl (fun z hz => absurd hz List.not_mem_nil) (by decide) (by decide) cl_L_15 ca_IllegalArgumentException__IllegalArgumentException (fun q => ?_)
      refine g_astore_n (i := 2) dL_run_11 rfl (Nat.le_of_ble_eq_true rfl) ?_
      refine g_iconst (v := 1) dL_run_12 (by decide) ?_
      refine g_iret dL_run_13 rfl rfl ?_
      exact hP
    · refine gt_catch [⟨0, 8, 11, 15⟩] ⟨0, 8, 14, 97⟩ [] rfl (fun z hz => by simp only [List.mem_cons, List.not_mem_nil, or_false] at hz; rcases hz with rfl; exact Or.inr ⟨by decide, _, cl_L_15, by decide⟩) (by decide) (by decide) cl_L_97 ca_IllegalStateException__IllegalStateException (fun q => ?_)
      refine g_astore_n (i := 2) dL_run_14 rfl (Nat.le_of_ble_eq_true rfl) ?_
      refine g_iconst (v := 2) dL_run_15 (by decide) ?_
      refine g_iret dL_run_16 rfl rfl ?_
      exact hP

set_option maxRecDepth 100000 in
theorem wl_errorPosition {l : Launch} {G : GG} (hl : l.stackTraces = false) {h : AH} {b o mc ms : Nat}  {fs : List Value} {P' P9 : Post} (hb : h 6 0 = some (b, .inr (9, fs))) (hEv : Ev l G 10 mc ms mX9_errorPosition [.ref b] h P')
    (hok : ∀ v2 h2, P' (.inl v2) h2 → ∃ (z : Int32) (f : Nat → Int64), v2 = some (.int z) ∧ h2 60 0 = some (oArr o f) ∧ P9 (.inl (some (.int 0))) (up h2 60 0 (oArr o (va_up f 0 (z.toInt64))))) (hex : ∀ E h2, P' (.inr E) h2 → (E = "java/util/NoSuchElementException" ∧ P9 (.inl (some (.int 1))) h2)) : Ev l G 11 mc ms mL_errorPosition [.ref b, .ref o] h P9 := by
  refine Ev.of hl (by decide) (Nat.le_of_ble_eq_true rfl) ?_
  refine g_aload_n (i := 1) dL_errorPosition_0 rfl rfl ?_
  refine g_iconst (v := 0) dL_errorPosition_1 (by decide) ?_
  refine g_aload_n (i := 0) dL_errorPosition_2 rfl rfl ?_
  refine g_callV hEv dL_errorPosition_3 ml_L_115 cvX9_errorPosition K_X9 rfl hb rfl rfl (Nat.le_of_ble_eq_true rfl) (Nat.le_of_ble_eq_true rfl) (Nat.le_refl _) (Nat.le_refl _) (fun v2 h2 q2 => ?_) (fun E h2 q2 => ?_)
  · obtain ⟨z, f, rfl, e60, hP⟩ := hok _ _ q2
    refine g_i2l dL_errorPosition_6 ?_
    refine g_last dL_errorPosition_7 e60 (ix_nI (j := 0) (by decide)) (by decide) rfl ?_
    refine g_goto (tgt := 14) dL_errorPosition_8 (by decide) ?_
    refine g_iconst (v := 0) dL_errorPosition_14 (by decide) ?_
    refine g_iret dL_errorPosition_15 rfl rfl ?_
    exact hP
  · rcases hex _ _ q2 with ⟨rfl, hP⟩
    refine gt_catch [] ⟨0, 8, 11, 38⟩ [] rfl (fun z hz => absurd hz List.not_mem_nil) (by decide) (by decide) cl_L_38 ca_NoSuchElementException__NoSuchElementException (fun q => ?_)
    refine g_astore_n (i := 2) dL_errorPosition_11 rfl (Nat.le_of_ble_eq_true rfl) ?_
    refine g_iconst (v := 1) dL_errorPosition_12 (by decide) ?_
    refine g_iret dL_errorPosition_13 rfl rfl ?_
    exact hP

set_option maxRecDepth 100000 in
theorem wl_failedCommand {l : Launch} {G : GG} (hl : l.stackTraces = false) {h : AH} {b o mc ms : Nat}  {fs : List Value} {P' P9 : Post} (hb : h 6 0 = some (b, .inr (9, fs))) (hEv : Ev l G 10 mc ms mX9_failedCommand [.ref b] h P')
    (hok : ∀ v2 h2, P' (.inl v2) h2 → ∃ (z : Int32) (f : Nat → Int64), v2 = some (.int z) ∧ h2 60 0 = some (oArr o f) ∧ P9 (.inl (some (.int 0))) (up h2 60 0 (oArr o (va_up f 0 (z.toInt64))))) (hex : ∀ E h2, P' (.inr E) h2 → (E = "java/util/NoSuchElementException" ∧ P9 (.inl (some (.int 1))) h2)) : Ev l G 11 mc ms mL_failedCommand [.ref b, .ref o] h P9 := by
  refine Ev.of hl (by decide) (Nat.le_of_ble_eq_true rfl) ?_
  refine g_aload_n (i := 1) dL_failedCommand_0 rfl rfl ?_
  refine g_iconst (v := 0) dL_failedCommand_1 (by decide) ?_
  refine g_aload_n (i := 0) dL_failedCommand_2 rfl rfl ?_
  refine g_callV hEv dL_failedCommand_3 ml_L_118 cvX9_failedCommand K_X9 rfl hb rfl rfl (Nat.le_of_ble_eq_true rfl) (Nat.le_of_ble_eq_true rfl) (Nat.le_refl _) (Nat.le_refl _) (fun v2 h2 q2 => ?_) (fun E h2 q2 => ?_)
  · obtain ⟨z, f, rfl, e60, hP⟩ := hok _ _ q2
    refine g_i2l dL_failedCommand_6 ?_
    refine g_last dL_failedCommand_7 e60 (ix_nI (j := 0) (by decide)) (by decide) rfl ?_
    refine g_goto (tgt := 14) dL_failedCommand_8 (by decide) ?_
    refine g_iconst (v := 0) dL_failedCommand_14 (by decide) ?_
    refine g_iret dL_failedCommand_15 rfl rfl ?_
    exact hP
  · rcases hex _ _ q2 with ⟨rfl, hP⟩
    refine gt_catch [] ⟨0, 8, 11, 38⟩ [] rfl (fun z hz => absurd hz List.not_mem_nil) (by decide) (by decide) cl_L_38 ca_NoSuchElementException__NoSuchElementException (fun q => ?_)
    refine g_astore_n (i := 2) dL_failedCommand_11 rfl (Nat.le_of_ble_eq_true rfl) ?_
    refine g_iconst (v := 1) dL_failedCommand_12 (by decide) ?_
    refine g_iret dL_failedCommand_13 rfl rfl ?_
    exact hP

set_option maxRecDepth 100000 in
theorem wl_describeRow {l : Launch} {G : GG} (hl : l.stackTraces = false) {h : AH} {b o mc ms : Nat} {p0 : Int32} {fs : List Value} {P' P9 : Post} (hb : h 6 0 = some (b, .inr (9, fs))) (hEv : Ev l G 32 mc ms mX9_describeRow [.ref b, .int p0] h P')
    (hok : ∀ v2 h2, P' (.inl v2) h2 → ∃ (z : Int32) (f : Nat → Int64), v2 = some (.int z) ∧ h2 60 0 = some (oArr o f) ∧ P9 (.inl (some (.int 0))) (up h2 60 0 (oArr o (va_up f 0 (z.toInt64))))) (hex : ∀ E h2, P' (.inr E) h2 → (E = "java/lang/IndexOutOfBoundsException" ∧ P9 (.inl (some (.int 1))) h2)) : Ev l G 33 mc ms mL_describeRow [.ref b, .int p0, .ref o] h P9 := by
  refine Ev.of hl (by decide) (Nat.le_of_ble_eq_true rfl) ?_
  refine g_aload_n (i := 2) dL_describeRow_0 rfl rfl ?_
  refine g_iconst (v := 0) dL_describeRow_1 (by decide) ?_
  refine g_aload_n (i := 0) dL_describeRow_2 rfl rfl ?_
  refine g_iload_n (i := 1) dL_describeRow_3 rfl rfl ?_
  refine g_callV hEv dL_describeRow_4 ml_L_121 cvX9_describeRow K_X9 rfl hb rfl rfl (Nat.le_of_ble_eq_true rfl) (Nat.le_of_ble_eq_true rfl) (Nat.le_refl _) (Nat.le_refl _) (fun v2 h2 q2 => ?_) (fun E h2 q2 => ?_)
  · obtain ⟨z, f, rfl, e60, hP⟩ := hok _ _ q2
    refine g_i2l dL_describeRow_7 ?_
    refine g_last dL_describeRow_8 e60 (ix_nI (j := 0) (by decide)) (by decide) rfl ?_
    refine g_goto (tgt := 15) dL_describeRow_9 (by decide) ?_
    refine g_iconst (v := 0) dL_describeRow_15 (by decide) ?_
    refine g_iret dL_describeRow_16 rfl rfl ?_
    exact hP
  · rcases hex _ _ q2 with ⟨rfl, hP⟩
    refine gt_catch [] ⟨0, 9, 12, 13⟩ [] rfl (fun z hz => absurd hz List.not_mem_nil) (by decide) (by decide) cl_L_13 ca_IndexOutOfBoundsException__IndexOutOfBoundsException (fun q => ?_)
    refine g_astore_n (i := 3) dL_describeRow_12 rfl (Nat.le_of_ble_eq_true rfl) ?_
    refine g_iconst (v := 1) dL_describeRow_13 (by decide) ?_
    refine g_iret dL_describeRow_14 rfl rfl ?_
    exact hP

set_option maxRecDepth 100000 in
theorem wl_describeLegend {l : Launch} {G : GG} (hl : l.stackTraces = false) {h : AH} {b o mc ms : Nat} {p0 : Int32} {fs : List Value} {P' P9 : Post} (hb : h 6 0 = some (b, .inr (9, fs))) (hEv : Ev l G 32 mc ms mX9_describeLegend [.ref b, .int p0] h P')
    (hok : ∀ v2 h2, P' (.inl v2) h2 → ∃ (z : Int32) (f : Nat → Int64), v2 = some (.int z) ∧ h2 60 0 = some (oArr o f) ∧ P9 (.inl (some (.int 0))) (up h2 60 0 (oArr o (va_up f 0 (z.toInt64))))) (hex : ∀ E h2, P' (.inr E) h2 → (E = "java/lang/IllegalArgumentException" ∧ P9 (.inl (some (.int 1))) h2) ∨ (E = "java/lang/IllegalStateException" ∧ P9 (.inl (some (.int 2))) h2)) : Ev l G 33 mc ms mL_describeLegend [.ref b, .int p0, .ref o] h P9 := by
  refine Ev.of hl (by decide) (Nat.le_of_ble_eq_true rfl) ?_
  refine g_aload_n (i := 2) dL_describeLegend_0 rfl rfl ?_
  refine g_iconst (v := 0) dL_describeLegend_1 (by decide) ?_
  refine g_aload_n (i := 0) dL_describeLegend_2 rfl rfl ?_
  refine g_iload_n (i := 1) dL_describeLegend_3 rfl rfl ?_
  refine g_callV hEv dL_describeLegend_4 ml_L_124 cvX9_describeLegend K_X9 rfl hb rfl rfl (Nat.le_of_ble_eq_true rfl) (Nat.le_of_ble_eq_true rfl) (Nat.le_refl _) (Nat.le_refl _) (fun v2 h2 q2 => ?_) (fun E h2 q2 => ?_)
  · obtain ⟨z, f, rfl, e60, hP⟩ := hok _ _ q2
    refine g_i2l dL_describeLegend_7 ?_
    refine g_last dL_describeLegend_8 e60 (ix_nI (j := 0) (by decide)) (by decide) rfl ?_
    refine g_goto (tgt := 18) dL_describeLegend_9 (by decide) ?_
    refine g_iconst (v := 0) dL_describeLegend_18 (by decide) ?_
    refine g_iret dL_describeLegend_19 rfl rfl ?_
    exact hP
  · rcases hex _ _ q2 with ⟨rfl, hP⟩ | ⟨rfl, hP⟩
    · refine gt_catch [] ⟨0, 9, 12, 15⟩ [⟨0, 9, 15, 97⟩] rfl (fun z hz => absurd hz List.not_mem_nil) (by decide) (by decide) cl_L_15 ca_IllegalArgumentException__IllegalArgumentException (fun q => ?_)
      refine g_astore_n (i := 3) dL_describeLegend_12 rfl (Nat.le_of_ble_eq_true rfl) ?_
      refine g_iconst (v := 1) dL_describeLegend_13 (by decide) ?_
      refine g_iret dL_describeLegend_14 rfl rfl ?_
      exact hP
    · refine gt_catch [⟨0, 9, 12, 15⟩] ⟨0, 9, 15, 97⟩ [] rfl (fun z hz => by simp only [List.mem_cons, List.not_mem_nil, or_false] at hz; rcases hz with rfl; exact Or.inr ⟨by decide, _, cl_L_15, by decide⟩) (by decide) (by decide) cl_L_97 ca_IllegalStateException__IllegalStateException (fun q => ?_)
      refine g_astore_n (i := 3) dL_describeLegend_15 rfl (Nat.le_of_ble_eq_true rfl) ?_
      refine g_iconst (v := 2) dL_describeLegend_16 (by decide) ?_
      refine g_iret dL_describeLegend_17 rfl rfl ?_
      exact hP

set_option maxRecDepth 100000 in
theorem wl_lineAt {l : Launch} {G : GG} (hl : l.stackTraces = false) {h : AH} {b o mc ms : Nat} {p0 : Int32} {fs : List Value} {P' P9 : Post} (hb : h 6 0 = some (b, .inr (9, fs))) (hEv : Ev l G 14 mc ms mX9_lineAt [.ref b, .int p0] h P')
    (hok : ∀ v2 h2, P' (.inl v2) h2 → ∃ (z : Int32) (f : Nat → Int64), v2 = some (.int z) ∧ h2 60 0 = some (oArr o f) ∧ P9 (.inl (some (.int 0))) (up h2 60 0 (oArr o (va_up f 0 (z.toInt64))))) (hex : ∀ E h2, P' (.inr E) h2 → (E = "java/lang/IndexOutOfBoundsException" ∧ P9 (.inl (some (.int 1))) h2)) : Ev l G 15 mc ms mL_lineAt [.ref b, .int p0, .ref o] h P9 := by
  refine Ev.of hl (by decide) (Nat.le_of_ble_eq_true rfl) ?_
  refine g_aload_n (i := 2) dL_lineAt_0 rfl rfl ?_
  refine g_iconst (v := 0) dL_lineAt_1 (by decide) ?_
  refine g_aload_n (i := 0) dL_lineAt_2 rfl rfl ?_
  refine g_iload_n (i := 1) dL_lineAt_3 rfl rfl ?_
  refine g_callV hEv dL_lineAt_4 ml_L_127 cvX9_lineAt K_X9 rfl hb rfl rfl (Nat.le_of_ble_eq_true rfl) (Nat.le_of_ble_eq_true rfl) (Nat.le_refl _) (Nat.le_refl _) (fun v2 h2 q2 => ?_) (fun E h2 q2 => ?_)
  · obtain ⟨z, f, rfl, e60, hP⟩ := hok _ _ q2
    refine g_i2l dL_lineAt_7 ?_
    refine g_last dL_lineAt_8 e60 (ix_nI (j := 0) (by decide)) (by decide) rfl ?_
    refine g_goto (tgt := 15) dL_lineAt_9 (by decide) ?_
    refine g_iconst (v := 0) dL_lineAt_15 (by decide) ?_
    refine g_iret dL_lineAt_16 rfl rfl ?_
    exact hP
  · rcases hex _ _ q2 with ⟨rfl, hP⟩
    refine gt_catch [] ⟨0, 9, 12, 13⟩ [] rfl (fun z hz => absurd hz List.not_mem_nil) (by decide) (by decide) cl_L_13 ca_IndexOutOfBoundsException__IndexOutOfBoundsException (fun q => ?_)
    refine g_astore_n (i := 3) dL_lineAt_12 rfl (Nat.le_of_ble_eq_true rfl) ?_
    refine g_iconst (v := 1) dL_lineAt_13 (by decide) ?_
    refine g_iret dL_lineAt_14 rfl rfl ?_
    exact hP

set_option maxRecDepth 100000 in
theorem wl_meanHeat {l : Launch} {G : GG} (hl : l.stackTraces = false) {h : AH} {b o mc ms : Nat}  {fs : List Value} {P' P9 : Post} (hb : h 6 0 = some (b, .inr (9, fs))) (hEv : Ev l G 12 mc ms mX9_meanHeat [.ref b] h P')
    (hok : ∀ v2 h2, P' (.inl v2) h2 → ∃ (z : UInt64) (f : Nat → UInt64), v2 = some (.double z) ∧ h2 61 0 = some (dArr o f) ∧ P9 (.inl (some (.int 0))) (up h2 61 0 (dArr o (va_up f 0 (z))))) (hex : ∀ E h2, P' (.inr E) h2 → (E = "java/lang/ArithmeticException" ∧ P9 (.inl (some (.int 1))) h2)) : Ev l G 13 mc ms mL_meanHeat [.ref b, .ref o] h P9 := by
  refine Ev.of hl (by decide) (Nat.le_of_ble_eq_true rfl) ?_
  refine g_aload_n (i := 1) dL_meanHeat_0 rfl rfl ?_
  refine g_iconst (v := 0) dL_meanHeat_1 (by decide) ?_
  refine g_aload_n (i := 0) dL_meanHeat_2 rfl rfl ?_
  refine g_callV hEv dL_meanHeat_3 ml_L_131 cvX9_meanHeat K_X9 rfl hb rfl rfl (Nat.le_of_ble_eq_true rfl) (Nat.le_of_ble_eq_true rfl) (Nat.le_refl _) (Nat.le_refl _) (fun v2 h2 q2 => ?_) (fun E h2 q2 => ?_)
  · obtain ⟨z, f, rfl, e60, hP⟩ := hok _ _ q2
    refine g_dast dL_meanHeat_6 e60 (ix_nI (j := 0) (by decide)) (by decide) ?_
    refine g_goto (tgt := 13) dL_meanHeat_7 (by decide) ?_
    refine g_iconst (v := 0) dL_meanHeat_13 (by decide) ?_
    refine g_iret dL_meanHeat_14 rfl rfl ?_
    exact hP
  · rcases hex _ _ q2 with ⟨rfl, hP⟩
    refine gt_catch [] ⟨0, 7, 10, 135⟩ [] rfl (fun z hz => absurd hz List.not_mem_nil) (by decide) (by decide) cl_L_135 ca_ArithmeticException__ArithmeticException (fun q => ?_)
    refine g_astore_n (i := 2) dL_meanHeat_10 rfl (Nat.le_of_ble_eq_true rfl) ?_
    refine g_iconst (v := 1) dL_meanHeat_11 (by decide) ?_
    refine g_iret dL_meanHeat_12 rfl rfl ?_
    exact hP

set_option maxRecDepth 100000 in
theorem wl_levelShare {l : Launch} {G : GG} (hl : l.stackTraces = false) {h : AH} {b o mc ms : Nat} {p0 : Int32} {fs : List Value} {P' P9 : Post} (hb : h 6 0 = some (b, .inr (9, fs))) (hEv : Ev l G 12 mc ms mX9_levelShare [.ref b, .int p0] h P')
    (hok : ∀ v2 h2, P' (.inl v2) h2 → ∃ (z : UInt32) (f : Nat → UInt64), v2 = some (.float z) ∧ vf_n64 (FP.f2d z) ∧ h2 61 0 = some (dArr o f) ∧ P9 (.inl (some (.int 0))) (up h2 61 0 (dArr o (va_up f 0 (FP.f2d z))))) (hex : ∀ E h2, P' (.inr E) h2 → (E = "java/lang/IllegalArgumentException" ∧ P9 (.inl (some (.int 1))) h2)) : Ev l G 13 mc ms mL_levelShare [.ref b, .int p0, .ref o] h P9 := by
  refine Ev.of hl (by decide) (Nat.le_of_ble_eq_true rfl) ?_
  refine g_aload_n (i := 2) dL_levelShare_0 rfl rfl ?_
  refine g_iconst (v := 0) dL_levelShare_1 (by decide) ?_
  refine g_aload_n (i := 0) dL_levelShare_2 rfl rfl ?_
  refine g_iload_n (i := 1) dL_levelShare_3 rfl rfl ?_
  refine g_callV hEv dL_levelShare_4 ml_L_137 cvX9_levelShare K_X9 rfl hb rfl rfl (Nat.le_of_ble_eq_true rfl) (Nat.le_of_ble_eq_true rfl) (Nat.le_refl _) (Nat.le_refl _) (fun v2 h2 q2 => ?_) (fun E h2 q2 => ?_)
  · obtain ⟨z, f, rfl, hn, e60, hP⟩ := hok _ _ q2
    refine g_f2d dL_levelShare_7 hn ?_
    refine g_dast dL_levelShare_8 e60 (ix_nI (j := 0) (by decide)) (by decide) ?_
    refine g_goto (tgt := 15) dL_levelShare_9 (by decide) ?_
    refine g_iconst (v := 0) dL_levelShare_15 (by decide) ?_
    refine g_iret dL_levelShare_16 rfl rfl ?_
    exact hP
  · rcases hex _ _ q2 with ⟨rfl, hP⟩
    refine gt_catch [] ⟨0, 9, 12, 15⟩ [] rfl (fun z hz => absurd hz List.not_mem_nil) (by decide) (by decide) cl_L_15 ca_IllegalArgumentException__IllegalArgumentException (fun q => ?_)
    refine g_astore_n (i := 3) dL_levelShare_12 rfl (Nat.le_of_ble_eq_true rfl) ?_
    refine g_iconst (v := 1) dL_levelShare_13 (by decide) ?_
    refine g_iret dL_levelShare_14 rfl rfl ?_
    exact hP

set_option maxRecDepth 100000 in
theorem wl_undo {l : Launch} {G : GG} (hl : l.stackTraces = false) {h : AH} {b o mc ms : Nat}  {fs : List Value} {P' P9 : Post} (hb : h 6 0 = some (b, .inr (9, fs))) (hEv : Ev l G 12 mc ms mX9_undo [.ref b] h P')
    (hok : ∀ v2 h2, P' (.inl v2) h2 → ∃ (z : Int32) (f : Nat → Int64), v2 = some (.int z) ∧ h2 60 0 = some (oArr o f) ∧ P9 (.inl (some (.int 0))) (up h2 60 0 (oArr o (va_up f 0 (z.toInt64))))) (hex : ∀ E h2, P' (.inr E) h2 → (E = "java/lang/IllegalStateException" ∧ P9 (.inl (some (.int 1))) h2)) : Ev l G 13 mc ms mL_undo [.ref b, .ref o] h P9 := by
  refine Ev.of hl (by decide) (Nat.le_of_ble_eq_true rfl) ?_
  refine g_aload_n (i := 1) dL_undo_0 rfl rfl ?_
  refine g_iconst (v := 0) dL_undo_1 (by decide) ?_
  refine g_aload_n (i := 0) dL_undo_2 rfl rfl ?_
  refine g_callV hEv dL_undo_3 ml_L_141 cvX9_undo K_X9 rfl hb rfl rfl (Nat.le_of_ble_eq_true rfl) (Nat.le_of_ble_eq_true rfl) (Nat.le_refl _) (Nat.le_refl _) (fun v2 h2 q2 => ?_) (fun E h2 q2 => ?_)
  · obtain ⟨z, f, rfl, e60, hP⟩ := hok _ _ q2
    refine g_i2l dL_undo_6 ?_
    refine g_last dL_undo_7 e60 (ix_nI (j := 0) (by decide)) (by decide) rfl ?_
    refine g_goto (tgt := 14) dL_undo_8 (by decide) ?_
    refine g_iconst (v := 0) dL_undo_14 (by decide) ?_
    refine g_iret dL_undo_15 rfl rfl ?_
    exact hP
  · rcases hex _ _ q2 with ⟨rfl, hP⟩
    refine gt_catch [] ⟨0, 8, 11, 97⟩ [] rfl (fun z hz => absurd hz List.not_mem_nil) (by decide) (by decide) cl_L_97 ca_IllegalStateException__IllegalStateException (fun q => ?_)
    refine g_astore_n (i := 2) dL_undo_11 rfl (Nat.le_of_ble_eq_true rfl) ?_
    refine g_iconst (v := 1) dL_undo_12 (by decide) ?_
    refine g_iret dL_undo_13 rfl rfl ?_
    exact hP

set_option maxRecDepth 100000 in
theorem wl_restore {l : Launch} {G : GG} (hl : l.stackTraces = false) {h : AH} {b o mc ms : Nat}  {fs : List Value} {P' P9 : Post} (hb : h 6 0 = some (b, .inr (9, fs))) (hEv : Ev l G 11 mc ms mX9_restore [.ref b] h P')
    (hok : ∀ v2 h2, P' (.inl v2) h2 → ∃ (z : Int32) (f : Nat → Int64), v2 = some (.int z) ∧ h2 60 0 = some (oArr o f) ∧ P9 (.inl (some (.int 0))) (up h2 60 0 (oArr o (va_up f 0 (z.toInt64))))) (hex : ∀ E h2, P' (.inr E) h2 → (E = "java/lang/IllegalStateException" ∧ P9 (.inl (some (.int 1))) h2)) : Ev l G 12 mc ms mL_restore [.ref b, .ref o] h P9 := by
  refine Ev.of hl (by decide) (Nat.le_of_ble_eq_true rfl) ?_
  refine g_aload_n (i := 1) dL_restore_0 rfl rfl ?_
  refine g_iconst (v := 0) dL_restore_1 (by decide) ?_
  refine g_aload_n (i := 0) dL_restore_2 rfl rfl ?_
  refine g_callV hEv dL_restore_3 ml_L_144 cvX9_restore K_X9 rfl hb rfl rfl (Nat.le_of_ble_eq_true rfl) (Nat.le_of_ble_eq_true rfl) (Nat.le_refl _) (Nat.le_refl _) (fun v2 h2 q2 => ?_) (fun E h2 q2 => ?_)
  · obtain ⟨z, f, rfl, e60, hP⟩ := hok _ _ q2
    refine g_i2l dL_restore_6 ?_
    refine g_last dL_restore_7 e60 (ix_nI (j := 0) (by decide)) (by decide) rfl ?_
    refine g_goto (tgt := 14) dL_restore_8 (by decide) ?_
    refine g_iconst (v := 0) dL_restore_14 (by decide) ?_
    refine g_iret dL_restore_15 rfl rfl ?_
    exact hP
  · rcases hex _ _ q2 with ⟨rfl, hP⟩
    refine gt_catch [] ⟨0, 8, 11, 97⟩ [] rfl (fun z hz => absurd hz List.not_mem_nil) (by decide) (by decide) cl_L_97 ca_IllegalStateException__IllegalStateException (fun q => ?_)
    refine g_astore_n (i := 2) dL_restore_11 rfl (Nat.le_of_ble_eq_true rfl) ?_
    refine g_iconst (v := 1) dL_restore_12 (by decide) ?_
    refine g_iret dL_restore_13 rfl rfl ?_
    exact hP
