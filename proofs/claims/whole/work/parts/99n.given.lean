/-! What the Statement gives of the start (by wip/whole/gen/m65.py). -/
abbrev fl9 : List Cond := flatC (Jvm.Cond.and given_1 narrow_1)
theorem fl_at {args : Array Value} {s : State} (hgv : (Jvm.Cond.and given_1 narrow_1).before args s = true) {n : Nat} {w : Cond} (h : fl9[n]? = some w) : w.before args s = true := flat_of_before _ hgv _ (List.mem_of_getElem? h)
theorem wz_COMPACT : Cond.laysStatic "java/lang/String" "COMPACT_STRINGS" "Z" ∈ lw_tbl := List.mem_of_getElem? (i := 266) (by decide +kernel)
theorem wz_ONES : Cond.laysStatic "java/lang/Integer" "DigitOnes" "[B" ∈ lw_tbl := List.mem_of_getElem? (i := 1369) (by decide +kernel)
theorem wz_TENS : Cond.laysStatic "java/lang/Integer" "DigitTens" "[B" ∈ lw_tbl := List.mem_of_getElem? (i := 1371) (by decide +kernel)
theorem wz_FMT : Cond.laysStatic "jdk/internal/util/Preconditions" "SIOOBE_FORMATTER" "Ljava/util/function/BiFunction;" ∈ lw_tbl := List.mem_of_getElem? (i := 1171) (by decide +kernel)
theorem wz_US : Cond.laysStatic Bundle.tN "UNASSIGNED_STACK" Bundle.steD ∈ lw_tbl := List.mem_of_getElem? (i := 642) (by decide +kernel)
theorem wz_SS : Cond.laysStatic Bundle.tN "SUPPRESSED_SENTINEL" Bundle.listD ∈ lw_tbl := List.mem_of_getElem? (i := 644) (by decide +kernel)
theorem wz_pre : Cond.initialized "jdk/internal/util/Preconditions" ∈ lw_tbl := List.mem_of_getElem? (i := 109) (by decide +kernel)
theorem wz_thr : Cond.initialized Bundle.tN ∈ lw_tbl := List.mem_of_getElem? (i := 92) (by decide +kernel)
theorem wz_cmd : Cond.arrayOver (.object "MapSanatorium$Command") ∈ lw_tbl := List.mem_of_getElem? (i := 290) (by decide +kernel)
theorem wz_map : Cond.arrayOver (.object "MapSanatorium$HeatMap") ∈ lw_tbl := List.mem_of_getElem? (i := 177) (by decide +kernel)
theorem wz_row : Cond.arrayOver (.array .int) ∈ lw_tbl := List.mem_of_getElem? (i := 230) (by decide +kernel)
theorem nc_at : ∀ k, k < 9 → fl9[[228, 229, 247, 305, 248, 230, 306, 249, 231].getD k 0]? = some (Cond.not (.castable (ncs.getD k ("", "")).1 (ncs.getD k ("", "")).2)) := by decide +kernel
theorem dg_ones : ∀ j, j < 100 → fl9[14 + j]? = some (Cond.eq (.elem (.static "java/lang/Integer" "DigitOnes" "[B") (.int (Int32.ofNat j))) (.int (Int32.ofNat (48 + j % 10)))) := by decide +kernel
theorem dg_tens : ∀ j, j < 100 → fl9[117 + j]? = some (Cond.eq (.elem (.static "java/lang/Integer" "DigitTens" "[B") (.int (Int32.ofNat j))) (.int (Int32.ofNat (48 + j / 10)))) := by decide +kernel
theorem dg_0 : fl9[4]? = some (Cond.eq (.static "java/lang/String" "COMPACT_STRINGS" "Z") (.int 1)) ∧ fl9[5]? = some (Cond.isRef (.static Bundle.tN "UNASSIGNED_STACK" Bundle.steD)) ∧ fl9[6]? = some (Cond.isRef (.static Bundle.tN "SUPPRESSED_SENTINEL" Bundle.listD)) ∧ fl9[7]? = some (Cond.isRef (.static "jdk/internal/util/Preconditions" "SIOOBE_FORMATTER" "Ljava/util/function/BiFunction;")) ∧
    fl9[12]? = some (Cond.arrayOf (.static "java/lang/Integer" "DigitOnes" "[B") .byte) ∧ fl9[13]? = some (Cond.eq (.length (.static "java/lang/Integer" "DigitOnes" "[B")) (.int 100)) ∧ fl9[115]? = some (Cond.arrayOf (.static "java/lang/Integer" "DigitTens" "[B") .byte) ∧ fl9[116]? = some (Cond.eq (.length (.static "java/lang/Integer" "DigitTens" "[B")) (.int 100)) := by decide +kernel
abbrev wdK (i : Nat) : Nat := [58, 70, 75, 83].getD i 0
abbrev wdB (i : Nat) : Nat := [866, 875, 886, 897].getD i 0
abbrev wdT (i : Nat) : Term := .string "MapSanatorium$CommandReader" (wdK i)
theorem wd_at : ∀ i, i < 4 → fl9[wdB i]? = some (Cond.exactly (wdT i) "java/lang/String") ∧ fl9[wdB i + 1]? = some (Cond.eq (.field (wdT i) "java/lang/String" "coder" "B") (.int 0)) ∧ fl9[wdB i + 2]? = some (Cond.arrayOf (.field (wdT i) "java/lang/String" "value" "[B") .byte) ∧ fl9[wdB i + 3]? = some (Cond.eq (.length (.field (wdT i) "java/lang/String" "value" "[B")) (.int (Int32.ofNat (rdLen.getD i 0)))) ∧
    ∀ j, j < rdLen.getD i 0 → fl9[wdB i + 4 + j]? = some (Cond.eq (.elem (.field (wdT i) "java/lang/String" "value" "[B") (.int (Int32.ofNat j))) (.int ((rdByt.getD i []).getD j 0))) := by decide +kernel
section ST9
variable {s : State} {b : Nat}
/-- one of the reader's words -/
theorem st_word (hgv : (Jvm.Cond.and given_1 narrow_1).before #[Value.ref b] s = true) {A : Nat → Prop} (hA : ∀ a : Nat, a < s.heap.size → ¬ A a) {i : Nat} (hi : i < 4) : ∃ q : Nat × Nat, (wdT i).eval #[Value.ref b] s none [] s = some (.ref q.1) ∧ va_O "java/lang/String" q.1 A s s.heap ∧ va_OF "java/lang/String" "coder" "B" (.int 0) q.1 A s s.heap ∧ va_OF "java/lang/String" "value" "[B" (.ref q.2) q.1 A s s.heap ∧ va_T .byte q.2 (rdLen.getD i 0) (fun j => .int ((rdByt.getD i []).getD j 0)) A s s.heap := by
  obtain ⟨w1, w2, w3, w4, w5⟩ := wd_at i hi
  have hl : rdLen.getD i 0 < 2 ^ 31 := by
    rcases (show i = 0 ∨ i = 1 ∨ i = 2 ∨ i = 3 by omega) with rfl | rfl | rfl | rfl <;> decide
  obtain ⟨k, v, hS, hE⟩ := vk_Sof (args := #[Value.ref b]) (s := s) (N := 1) (tm := fun _ => wdT i) (len := [rdLen.getD i 0]) (byt := [rdByt.getD i []]) (A := A) (fun j hj => by
      rw [show j = 0 by omega]; exact hl) (fun _ _ => fl_at hgv w1) (fun _ _ => fl_at hgv w2) (fun _ _ => fl_at hgv w3) (fun j hj => by
      rw [show j = 0 by omega]; exact fl_at hgv w4) (fun j hj x hx => by
      have e : j = 0 := by omega
      subst e
      exact fl_at hgv (w5 x hx)) (fun x y hx hy hn => absurd (show x = y by omega) hn) hA
  obtain ⟨h1, h2, h3, h4⟩ := hS.1 0 (by decide)
  exact ⟨(k 0, v 0), hE 0 (by decide), h1, h2, h3, h4⟩
theorem st_OF {o n d : String} {v w : Value} {t : Nat} {A : Nat → Prop} {H : Heap} (h1 : va_OF o n d v t A s H) (h2 : va_OF o n d w t A s H) : v = w := by
  obtain ⟨cf, k, i, f, cell, a1, a2, a3, a4, a5, a6⟩ := h1
  obtain ⟨cf', k', i', f', cell', b1, b2, b3, b4, b5, b6⟩ := h2
  cases Option.some.inj (a1.symm.trans b1)
  cases Option.some.inj (a3.symm.trans b3)
  exact Option.some.inj (a5.symm.trans b5)
theorem st_T {ty : FieldType} {t N N' : Nat} {f f' : Nat → Value} {A : Nat → Prop} {H : Heap} (h1 : va_T ty t N f A s H) (h2 : va_T ty t N' f' A s H) {j : Nat} (hj : j < N) (hj' : j < N') : f j = f' j := by
  obtain ⟨cell, a1, a2, a3, a4, a5, a6, a7⟩ := h1
  obtain ⟨cell', b1, b2, b3, b4, b5, b6, b7⟩ := h2
  cases Option.some.inj (a1.symm.trans b1)
  exact Option.some.inj ((a6 j hj).symm.trans (b6 j hj'))
theorem st_words (hgv : (Jvm.Cond.and given_1 narrow_1).before #[Value.ref b] s = true) {A : Nat → Prop} (hA : ∀ a : Nat, a < s.heap.size → ¬ A a) : ∃ gk gv : Nat → Nat, vk_S 4 rdLen rdByt gk gv A s s.heap ∧ ∀ i, i < 4 → (wdT i).eval #[Value.ref b] s none [] s = some (.ref (gk i)) := by
  have h0 : ∀ i : Nat, ∃ q : Nat × Nat, i < 4 → (wdT i).eval #[Value.ref b] s none [] s = some (.ref q.1) ∧ va_O "java/lang/String" q.1 A s s.heap ∧ va_OF "java/lang/String" "coder" "B" (.int 0) q.1 A s s.heap ∧ va_OF "java/lang/String" "value" "[B" (.ref q.2) q.1 A s s.heap ∧ va_T .byte q.2 (rdLen.getD i 0) (fun j => .int ((rdByt.getD i []).getD j 0)) A s s.heap := fun i => by
    by_cases hi : i < 4
    · obtain ⟨q, h⟩ := st_word hgv hA hi
      exact ⟨q, fun _ => h⟩
    · exact ⟨(0, 0), fun h => absurd h hi⟩
  obtain ⟨ad, had⟩ := Classical.axiomOfChoice h0
  refine ⟨fun i => (ad i).1, fun i => (ad i).2, ⟨fun i hi => (had i hi).2, fun i j hi hj e => ?_⟩, fun i hi => (had i hi).1⟩
  obtain ⟨-, -, -, v1, t1⟩ := had i hi
  obtain ⟨-, -, -, v2, t2⟩ := had j hj
  have e : (ad i).1 = (ad j).1 := e
  rw [← e] at v2
  have ev : (ad i).2 = (ad j).2 := by
    exact Value.ref.inj (st_OF v1 v2)
  rw [← ev] at t2
  have len : ∀ i, i < 4 → 0 < rdLen.getD i 0 := by decide
  have z := Value.int.inj (st_T t1 t2 (len i hi) (len j hj))
  have dif : ∀ i, i < 4 → ∀ j, j < 4 → (rdByt.getD i []).getD 0 0 = (rdByt.getD j []).getD 0 0 → i = j := by decide
  exact dif i hi j hj z
theorem st_arr {ty : FieldType} {args : Array Value} (h : (Cond.arrayClass ty).before args s = true) : ∃ cA, ArrOfT s cA ty ∧ s.vm.findClass ("[" ++ ty.toString) = some cA := by
  obtain ⟨c, k, comp, h1, h2, h3⟩ := Cond.arrayClass_spec h
  exact ⟨c, fun n z => ⟨(fun k h => by cases h), k, h2, comp, h3⟩, h1⟩
theorem st_obj {C : String} {args : Array Value} (h : (Cond.arrayOver (.object C)).before args s = true) : ∃ cA, ArrOfT s cA (.object C) ∧ va_RA s cA (.object C) := by
  obtain ⟨comp, c, k, h1, h2, h3, h4, h5⟩ := Cond.arrayOver_spec h
  exact ⟨c, fun n z => ⟨(fun k h => by cases h), k, h3, comp, h4⟩, k, comp, h3, h4, h1, h5⟩
theorem st_row {ty : FieldType} {args : Array Value} (h : (Cond.arrayOver (.array ty)).before args s = true) : ∃ cA, ArrOfT s cA (.array ty) ∧ va_RA s cA (.array ty) := by
  obtain ⟨comp, c, k, h1, h2, h3, h4, h5⟩ := arrayOverA_spec h
  exact ⟨c, fun n z => ⟨(fun k h => by cases h), k, h3, comp, h4⟩, h5⟩
theorem st_known {ci N : Nat} {C : String} {T : u_T} {ty : Nat → FieldType} (hts : ∀ w ∈ lw_tbl, w.before #[Value.ref b] s = true) (K : clsOk ci N C T ty) (hi : Cond.instantiable C N ∈ lw_tbl) : ∃ q : ClassId × (Nat → Nat), u_Kn s C T N q.1 q.2 := by
  obtain ⟨c, i, h⟩ := u_known hts (fun w hw => (K.2.1 w hw).1) (hts _ hi)
  exact ⟨(c, i), h⟩
/-- the run's constants, and what holds of the start -/
theorem st_cx (hts : ∀ w ∈ lw_tbl, w.before #[Value.ref b] s = true) (hgv : (Jvm.Cond.and given_1 narrow_1).before #[Value.ref b] s = true) {L : Nat} {xs : Nat → Int32} (hX : va_X b L xs s s.heap) (hbl : b < s.heap.size) : ∃ G : GG, gB G = s.heap.size ∧ gX G = (b, L, xs) ∧ Cx G s := by
  have hA : ∀ a : Nat, a < s.heap.size → ¬ (fun q : Nat => s.heap.size ≤ q) a := fun a h => Nat.not_le.mpr h
  obtain ⟨gk, gv, hS, hE⟩ := st_words hgv hA
  have ar : ∀ t, ∃ cA, t < 9 → ArrOfT s cA (aty t) ∧ va_RA s cA (aty t) := fun t => by
    by_cases ht : t < 9
    · match t, ht with
      | 0, _ => exact (st_arr (hts _ w_arr_int)).elim fun c h => ⟨c, fun _ => h⟩
      | 1, _ => exact (st_arr (hts _ w_arr_long)).elim fun c h => ⟨c, fun _ => h⟩
      | 2, _ => exact (st_arr (hts _ w_arr_char)).elim fun c h => ⟨c, fun _ => h⟩
      | 3, _ => exact (st_arr (hts _ w_arr_byte)).elim fun c h => ⟨c, fun _ => h⟩
      | 4, _ => exact (st_arr (hts _ w_arr_boolean)).elim fun c h => ⟨c, fun _ => h⟩
      | 5, _ => exact (st_arr (hts _ w_arr_double)).elim fun c h => ⟨c, fun _ => h⟩
      | 6, _ => exact (st_obj (hts _ wz_cmd)).elim fun c h => ⟨c, fun _ => h⟩
      | 7, _ => exact (st_obj (hts _ wz_map)).elim fun c h => ⟨c, fun _ => h⟩
      | 8, _ => exact (st_row (hts _ wz_row)).elim fun c h => ⟨c, fun _ => h⟩
      | t + 9, h => omega
    · exact ⟨0, fun h => absurd h ht⟩
  obtain ⟨gA9, hgA⟩ := Classical.axiomOfChoice ar
  have kn : ∀ c : Nat, ∃ q : ClassId × (Nat → Nat), ∀ r : vw_C, classes[c]? = some r → u_Kn s r.1 r.2.1 r.2.2 q.1 q.2 := fun c => by
    match c with
    | 0 => exact (st_known hts K_X0 w_inst_MapSanatorium_CellHeap).elim fun q h => ⟨q, fun r e => by cases e; exact h⟩
    | 1 => exact (st_known hts K_X1 w_inst_MapSanatorium_Command).elim fun q h => ⟨q, fun r e => by cases e; exact h⟩
    | 2 => exact (st_known hts K_X2 w_inst_MapSanatorium_CommandReader).elim fun q h => ⟨q, fun r e => by cases e; exact h⟩
    | 3 => exact (st_known hts K_X3 w_inst_MapSanatorium_HeatMap).elim fun q h => ⟨q, fun r e => by cases e; exact h⟩
    | 4 => exact (st_known hts K_X4 w_inst_MapSanatorium_History).elim fun q h => ⟨q, fun r e => by cases e; exact h⟩
    | 5 => exact (st_known hts K_X5 w_inst_MapSanatorium_Legend).elim fun q h => ⟨q, fun r e => by cases e; exact h⟩
    | 6 => exact (st_known hts K_X0 w_inst_MapSanatorium_CellHeap).elim fun q h => ⟨q, fun r e => by cases e; exact h⟩
    | 7 => exact (st_known hts K_X7 w_inst_MapSanatorium_Ticker).elim fun q h => ⟨q, fun r e => by cases e; exact h⟩
    | 8 => exact (st_known hts K_X8 w_inst_MapSanatorium_Unions).elim fun q h => ⟨q, fun r e => by cases e; exact h⟩
    | 9 => exact (st_known hts K_X9 w_inst_MapSanatorium).elim fun q h => ⟨q, fun r e => by cases e; exact h⟩
    | 10 => exact (st_known hts K_X10 w_inst_MapSanatoriumModel).elim fun q h => ⟨q, fun r e => by cases e; exact h⟩
    | 11 => exact (st_known hts K_J4 w_inst_java_lang_StringBuilder).elim fun q h => ⟨q, fun r e => by cases e; exact h⟩
    | c + 12 => exact ⟨(0, fun _ => 0), fun r e => by cases e⟩
  obtain ⟨kn9, hkn⟩ := Classical.axiomOfChoice kn
  obtain ⟨d4, d5, d6, d7, d12, d13, d115, d116⟩ := dg_0
  obtain ⟨t1, ht1, hT1⟩ := va_Tof (args := #[Value.ref b]) (s := s) (tm := .static "java/lang/Integer" "DigitTens" "[B") (ty := .byte) (N := 100) (f := fun j => .int (Int32.ofNat (48 + j / 10))) (A := fun q : Nat => s.heap.size ≤ q) (by decide) (fl_at hgv d115) (va_eqt (fl_at hgv d116)) (fun j hj => va_eqt (fl_at hgv (dg_tens j hj))) hA
  obtain ⟨t2, ht2, hT2⟩ := va_Tof (args := #[Value.ref b]) (s := s) (tm := .static "java/lang/Integer" "DigitOnes" "[B") (ty := .byte) (N := 100) (f := fun j => .int (Int32.ofNat (48 + j % 10))) (A := fun q : Nat => s.heap.size ≤ q) (by decide) (fl_at hgv d12) (va_eqt (fl_at hgv d13)) (fun j hj => va_eqt (fl_at hgv (dg_ones j hj))) hA
  have sr : ∀ (own : String) (k : Nat) (tx : String), Cond.stringRef own k tx ∈ lw_tbl → ∃ a, vk_R own k tx a s := fun own k tx hm => by
    have h1 := hts _ hm
    have hcur : ∃ cur, s.vm.findClass own = some cur := by
      have h2 := h1
      simp only [Cond.before, Cond.holds, Cond.value] at h2
      cases hc : s.vm.findClass own with
      | none => simp [hc] at h2
      | some cur => exact ⟨cur, rfl⟩
    obtain ⟨cur, hcur⟩ := hcur
    obtain ⟨k9, cf, i, a, -, -, -, -, -, hev⟩ := Cond.stringRef_spec hcur h1
    exact ⟨a, vk_R.of h1 hev⟩
  have wd : ∀ (i : Nat) (tx : String), i < 4 → Cond.stringRef "MapSanatorium$CommandReader" (wdK i) tx ∈ lw_tbl → vk_R "MapSanatorium$CommandReader" (wdK i) tx (gk i) s := fun i tx hi hm => vk_R.of (hts _ hm) (hE i hi)
  refine ⟨((fun c => (kn9 c).1, fun c => (kn9 c).2), gA9, s.heap.size, (b, L, xs), gk, gv), rfl, rfl, fun w hw hg => gw_at (State.WarmedH.refl s) hg (hts w hw), ⟨fun c q hq => hkn c q hq, fun k q hq => by simp at hq⟩, fun t ht => hgA t ht, ⟨hts _ wz_cmd, hts _ wz_map, hts _ wz_row⟩, fun q hq => ?_, ⟨fun q hq => ?_, wd 0 "heat " (by decide) (List.mem_of_getElem? (i := 1227) (by decide +kernel)), wd 1 "ground " (by decide) (List.mem_of_getElem? (i := 1277) (by decide +kernel)), wd 2 "border " (by decide) (List.mem_of_getElem? (i := 1283) (by decide +kernel)), wd 3 "pass " (by decide) (List.mem_of_getElem? (i := 1292) (by decide +kernel))⟩,
    vx_Zqof (hts _ wz_US) (hts _ wz_thr) (fl_at hgv d5) hA, vx_Zqof (hts _ wz_SS) (hts _ wz_thr) (fl_at hgv d6) hA, hX, hbl, Nat.not_le.mpr hbl, Nat.le_refl _, va_Zof (hts _ wz_COMPACT) (hts _ w_init_java_lang_String) (va_eqi (fl_at hgv d4)) hA, ⟨t1, va_Zof (hts _ wz_TENS) (hts _ w_init_java_lang_Integer) ht1 hA, hT1⟩, ⟨t2, va_Zof (hts _ wz_ONES) (hts _ w_init_java_lang_Integer) ht2 hA, hT2⟩, hS, va_Zqof (hts _ wz_FMT) (hts _ wz_pre) (fl_at hgv d7) hA⟩
  · obtain ⟨w, hw, e⟩ := List.mem_filterMap.mp hq
    cases w <;> first | (cases e; exact sr _ _ _ hw) | (cases e)
  · obtain ⟨k, e⟩ := List.getElem?_of_mem hq
    have hk9 : k < 9 := (List.getElem?_eq_some_iff.mp e).1
    have z := fl_at hgv (nc_at k hk9)
    rw [List.getD_eq_getElem?_getD, e] at z
    exact va_Nc.of z
end ST9
