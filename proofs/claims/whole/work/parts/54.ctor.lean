/-! Constructors of the class's parts (by wip/whole/gen/m44.py). -/
def Cr (Q : AH → Prop) : Post := fun o h2 => o = .inl none ∧ Q h2
section CRS
variable {l : Launch} {G : GG} {M : MD} {d kc ks pc mc ms : Nat} {P : Post} {L : List (Option Value)} {rest : List Value} {Q : AH → Prop}
theorem kr_q (k : ∀ h2, Q h2 → Go l G M d (kc - mc) (ks - ms) P pc L rest h2) : ∀ v2 h2, Cr Q (.inl v2) h2 → Go l G M d (kc - mc) (ks - ms) P pc L (v2.toList ++ rest) h2 := by
  rintro v2 h2 ⟨e1, q⟩
  cases e1
  exact k h2 q
theorem kx_q : ∀ E h2, Cr Q (.inr E) h2 → GoT l G M d (kc - mc) (ks - ms) P pc L E h2 := by
  rintro E h2 ⟨e1, -⟩
  cases e1
end CRS
/-- array cells of references: what counts is what stands within -/
theorem Go.arrR {l : Launch} {G : GG} {M : MD} {d kc ks : Nat} {P : Post} {pc : Nat} {L : List (Option Value)} {st : List Value} {h : AH} {s g a t n : Nat} {f f' : Nat → Option Nat} (hf : ∀ k, k < n → f k = f' k) (k : Go l G M d kc ks P pc L st (up h s g (a, .inl (t, n, .inr (.inr (.inr (.inr f'))))))) : Go l G M d kc ks P pc L st (up h s g (a, .inl (t, n, .inr (.inr (.inr (.inr f)))))) := by
  intro p e R s1 m args below meth c H locs cells slots mc ms ls F h1 h2 h3 h4 hE hS hL
  have he := vpq_congr (cA := gA G t) hf
  have key : ∀ s' g' a' c', up h s g (a, .inl (t, n, .inr (.inr (.inr (.inr f'))))) s' g' = some (a', c') → ∃ c'', up h s g (a, .inl (t, n, .inr (.inr (.inr (.inr f))))) s' g' = some (a', c'') ∧ (va_at (gD G) classes (a', gE G c'') H → va_at (gD G) classes (a', gE G c') H) := by
    intro s' g' a' c' hq
    by_cases e1 : s' = s ∧ g' = g
    · obtain ⟨rfl, rfl⟩ := e1
      rw [up_same] at hq
      cases hq
      exact ⟨.inl (t, n, .inr (.inr (.inr (.inr f)))), up_same _ _ _ _, fun z => by
        show H[a]? = some (vp_cell _ _)
        rw [← he]
        exact z⟩
    · rw [up_ne _ _ e1] at hq
      exact ⟨c', (up_ne _ _ e1).trans hq, id⟩
  refine k _ _ _ _ _ _ _ _ _ _ _ _ _ _ _ _ F h1 h2 h3 h4 ⟨fun s' g' a' c' hq => ?_, fun s2 g2 s3 g3 a' c' c'' q1 q2 => ?_⟩ hS hL
  · obtain ⟨c'', z1, z2⟩ := key _ _ _ _ hq
    exact ⟨z2 (hE.1 _ _ _ _ z1).1, (hE.1 _ _ _ _ z1).2⟩
  · obtain ⟨d1, z1, -⟩ := key _ _ _ _ q1
    obtain ⟨d2, z2, -⟩ := key _ _ _ _ q2
    exact hE.2 _ _ _ _ _ _ _ z1 z2
/-- a map at its beginning -/
def mS0 : MS := (fun _ => 46, fun _ => 0, fun _ => 0, fun _ => 0, fun _ => 0, 0, 0, 0)
def mapAt (h : AH) (g b : Nat) (m : MS) : Prop := ∃ x1 x2 x3 x4 x5, h 0 g = some (b, .inr (3, [.ref x1, .ref x2, .ref x3, .ref x4, .ref x5, .int m.2.2.2.2.2.1, .int m.2.2.2.2.2.2.1, .int m.2.2.2.2.2.2.2])) ∧ h 1 g = some (cArr x1 64 m.1) ∧ h 2 g = some (iArr x2 64 m.2.1) ∧ h 3 g = some (iArr x3 64 m.2.2.1) ∧ h 4 g = some (iArr x4 4 m.2.2.2.1) ∧ h 5 g = some (iArr x5 4 m.2.2.2.2.1)
/-- everything but what K names is as it was -/
def fram (K : Nat → Nat → Prop) (h h2 : AH) : Prop := ∀ s g, ¬ K s g → h2 s g = h s g
theorem fram_up {K : Nat → Nat → Prop} {h h2 : AH} {s g : Nat} {c : Nat × AC} (h1 : fram K h h2) (hk : K s g) : fram K h (up h2 s g c) := fun s' g' hn => by
  rw [up_ne _ _ (fun e => hn (by rw [e.1, e.2]; exact hk))]
  exact h1 s' g' hn
theorem mn_ne {h : AH} {q : Nat} {r : Nat → Nat} {s g : Nat} (h1 : s ≠ 19) (h2 : s ≠ 20) : mnH h q r s g = h s g := by
  unfold mnH
  rw [if_neg (fun z => h1 z.1), if_neg (fun z => h2 z.1)]
theorem fram_mn {K : Nat → Nat → Prop} {h h2 : AH} {q : Nat} {r : Nat → Nat} (h1 : fram K h h2) (k1 : K 19 0) (k2 : ∀ i, i < 7 → K 20 i) : fram K h (mnH h2 q r) := fun s g hn => by
  unfold mnH
  rw [if_neg (fun z => hn (by rw [z.1, z.2]; exact k1)), if_neg (fun z => hn (by rw [z.1]; exact k2 g z.2))]
  exact h1 s g hn
theorem fram_refl {K : Nat → Nat → Prop} {h : AH} : fram K h h := fun _ _ _ => rfl
theorem fram_trans {K : Nat → Nat → Prop} {h h2 h3 : AH} (h1 : fram K h h2) (h4 : fram K h2 h3) : fram K h h3 := fun s g hn => (h4 s g hn).trans (h1 s g hn)
theorem fram_mono {K K' : Nat → Nat → Prop} {h h2 : AH} (h1 : fram K h h2) (hk : ∀ s g, K s g → K' s g) : fram K' h h2 := fun s g hn => h1 s g (fun q => hn (hk s g q))
theorem mapAt_fr {h h2 : AH} {g b : Nat} {m : MS} (hm : mapAt h g b m) (hf : ∀ s, s < 6 → h2 s g = h s g) : mapAt h2 g b m := by
  obtain ⟨x1, x2, x3, x4, x5, q0, q1, q2, q3, q4, q5⟩ := hm
  exact ⟨x1, x2, x3, x4, x5, (hf 0 (by decide)).trans q0, (hf 1 (by decide)).trans q1, (hf 2 (by decide)).trans q2, (hf 3 (by decide)).trans q3, (hf 4 (by decide)).trans q4, (hf 5 (by decide)).trans q5⟩

set_option maxRecDepth 100000 in
theorem nm_loop {l : Launch} {G : GG} (hl : l.stackTraces = false) {H0 : AH} {g b x1 : Nat} {fs : List Value} (hO : H0 0 g = some (b, .inr (3, .ref x1 :: fs))) {P9 : Post} (hP : P9 (.inl none) (up H0 1 g (cArr x1 64 (fun _ => 46)))) : ∀ (j : Nat) (k : Nat) (f : Nat → Int32), k + j = 64 → (∀ i, i < k → f i = 46) → Go l G mX3_init 10 0 0 P9 59 [some (.ref b), some (.int (nI k))] [] (up H0 1 g (cArr x1 64 f)) := by
  have loop : ∀ (j : Nat) (k : Nat) (f : Nat → Int32), k + j = 64 → (∀ i, i < k → f i = 46) → Go l G mX3_init 10 0 0 P9 59 [some (.ref b), some (.int (nI k))] [] (up H0 1 g (cArr x1 64 f)) := by
    intro j
    induction j with
    | zero =>
      intro k f hk hf
      refine g_iload_n (i := 1) dX3_init_59 rfl rfl ?_
      refine g_bipush (v := 64) dX3_init_60 (by decide) ?_
      refine g_icmp_ge (tgt := 79) dX3_init_62 (by decide) (fun c62 => ?_) (fun c62 => ?_)
      · refine Go.arr (f' := fun _ => 46) (fun i hi => hf i (by omega)) ?_
        refine g_vret dX3_init_79 rfl ?_
        exact hP
      · exact absurd ((le_nI (a := 64) (b := k) rfl (by omega) (by omega)).mpr (by omega)) c62
    | succ j ih =>
      intro k f hk hf
      refine g_iload_n (i := 1) dX3_init_59 rfl rfl ?_
      refine g_bipush (v := 64) dX3_init_60 (by decide) ?_
      refine g_icmp_ge (tgt := 79) dX3_init_62 (by decide) (fun c62 => ?_) (fun c62 => ?_)
      · exact absurd ((le_nI (a := 64) (b := k) rfl (by omega) (by omega)).mp c62) (by omega)
      · refine g_aload_n (i := 0) dX3_init_65 rfl rfl ?_
        refine g_getf dX3_init_66 K_X3 (k := 0) fl_X3_9 (Nat.le_of_ble_eq_true rfl) ((up_role _ _ _ _ (by decide)).trans hO) rfl ?_
        refine g_iload_n (i := 1) dX3_init_69 rfl rfl ?_
        refine g_bipush (v := 46) dX3_init_70 (by decide) ?_
        refine g_cast dX3_init_72 (up_same _ _ _ _) (ix_nI (j := k) (by omega)) (by omega) rfl (Go.heap (up_up _ _ _ _ _) ?_)
        refine g_iinc (w := 1) dX3_init_73 (by decide) rfl (nI_succ k).symm (Nat.le_of_ble_eq_true rfl) ?_
        refine g_goto (tgt := 59) dX3_init_76 (by decide) ?_
        refine ih (k + 1) (va_up f k 46) (by omega) (fun i hi => ?_)
        by_cases e : i = k
        · subst e; exact va_up_self _ _ _
        · rw [va_up_ne _ _ e]; exact hf i (by omega)
  exact loop

theorem up_self9 {h : AH} {s g : Nat} {c : Nat × AC} (e : h s g = some c) : up h s g c = h := by
  funext s' g'
  by_cases q : s' = s ∧ g' = g
  · obtain ⟨rfl, rfl⟩ := q
    rw [up_same, e]
  · rw [up_ne _ _ q]

set_option maxRecDepth 100000 in
theorem ev_newMap {l : Launch} {G : GG} (hl : l.stackTraces = false) {h : AH} {g b : Nat} (h0 : h 0 g = some (b, .inr (3, [.null, .null, .null, .null, .null, .int 0, .int 0, .int 0]))) :
    Ev l G 10 5 200 mX3_init [.ref b] h (Cr (fun h2 => fram (fun s g2 => s < 6 ∧ g2 = g) h h2 ∧ mapAt h2 g b mS0)) := by
  refine Ev.of hl (by decide) (Nat.le_of_ble_eq_true rfl) ?_
  refine g_aload_n (i := 0) dX3_init_0 rfl rfl ?_
  refine g_objInit dX3_init_1 ml_X3_3 w_instanceMethod_Lib_objectInit w_code_objinit (Nat.le_of_ble_eq_true rfl) (Nat.le_of_ble_eq_true rfl) ?_
  refine g_aload_n (i := 0) dX3_init_4 rfl rfl ?_
  refine g_bipush (v := 64) dX3_init_5 (by decide) ?_
  refine g_newa (atype := .char) (N := 64) (t := 2) (s0 := 1) (g0 := g) (a0 := (64, .inl (fun _ => 0))) dX3_init_7 w_arr_char (by decide) rfl (fun _ => rfl) (ix_nI (j := 64) (by decide)) (by decide) (fun _ _ h9 => h9) (fun x1 => ?_)
  refine g_putF dX3_init_9 K_X3 (k := 0) fl_X3_9 (Nat.le_of_ble_eq_true rfl) rfl rfl rfl ((up_role _ _ _ _ (by decide)).trans h0) (Nat.le_of_ble_eq_true rfl) rfl rfl ?_
  refine g_aload_n (i := 0) dX3_init_12 rfl rfl ?_
  refine g_bipush (v := 64) dX3_init_13 (by decide) ?_
  refine g_newa (atype := .int) (N := 64) (t := 0) (s0 := 2) (g0 := g) (a0 := (64, .inl (fun _ => 0))) dX3_init_15 w_arr_int (by decide) rfl (fun _ => rfl) (ix_nI (j := 64) (by decide)) (by decide) (fun _ _ h9 => h9) (fun x2 => ?_)
  refine g_putF dX3_init_17 K_X3 (k := 1) fl_X3_15 (Nat.le_of_ble_eq_true rfl) rfl rfl rfl ((up_role _ _ _ _ (by decide)).trans (up_same _ _ _ _)) (Nat.le_of_ble_eq_true rfl) rfl rfl ?_
  refine g_aload_n (i := 0) dX3_init_20 rfl rfl ?_
  refine g_bipush (v := 64) dX3_init_21 (by decide) ?_
  refine g_newa (atype := .int) (N := 64) (t := 0) (s0 := 3) (g0 := g) (a0 := (64, .inl (fun _ => 0))) dX3_init_23 w_arr_int (by decide) rfl (fun _ => rfl) (ix_nI (j := 64) (by decide)) (by decide) (fun _ _ h9 => h9) (fun x3 => ?_)
  refine g_putF dX3_init_25 K_X3 (k := 2) fl_X3_19 (Nat.le_of_ble_eq_true rfl) rfl rfl rfl ((up_role _ _ _ _ (by decide)).trans (up_same _ _ _ _)) (Nat.le_of_ble_eq_true rfl) rfl rfl ?_
  refine g_aload_n (i := 0) dX3_init_28 rfl rfl ?_
  refine g_iconst (v := 4) dX3_init_29 (by decide) ?_
  refine g_newa (atype := .int) (N := 4) (t := 0) (s0 := 4) (g0 := g) (a0 := (4, .inl (fun _ => 0))) dX3_init_30 w_arr_int (by decide) rfl (fun _ => rfl) (ix_nI (j := 4) (by decide)) (by decide) (fun _ _ h9 => h9) (fun x4 => ?_)
  refine g_putF dX3_init_32 K_X3 (k := 3) fl_X3_22 (Nat.le_of_ble_eq_true rfl) rfl rfl rfl ((up_role _ _ _ _ (by decide)).trans (up_same _ _ _ _)) (Nat.le_of_ble_eq_true rfl) rfl rfl ?_
  refine g_aload_n (i := 0) dX3_init_35 rfl rfl ?_
  refine g_iconst (v := 4) dX3_init_36 (by decide) ?_
  refine g_newa (atype := .int) (N := 4) (t := 0) (s0 := 5) (g0 := g) (a0 := (4, .inl (fun _ => 0))) dX3_init_37 w_arr_int (by decide) rfl (fun _ => rfl) (ix_nI (j := 4) (by decide)) (by decide) (fun _ _ h9 => h9) (fun x5 => ?_)
  refine g_putF dX3_init_39 K_X3 (k := 4) fl_X3_25 (Nat.le_of_ble_eq_true rfl) rfl rfl rfl ((up_role _ _ _ _ (by decide)).trans (up_same _ _ _ _)) (Nat.le_of_ble_eq_true rfl) rfl rfl ?_
  refine g_aload_n (i := 0) dX3_init_42 rfl rfl ?_
  refine g_iconst (v := 0) dX3_init_43 (by decide) ?_
  refine g_putf dX3_init_44 K_X3 (k := 5) fl_X3_28 (Nat.le_of_ble_eq_true rfl) rfl (up_same _ _ _ _) (Nat.le_of_ble_eq_true rfl) rfl rfl ?_
  refine g_aload_n (i := 0) dX3_init_47 rfl rfl ?_
  refine g_iconst (v := 0) dX3_init_48 (by decide) ?_
  refine g_putf dX3_init_49 K_X3 (k := 6) fl_X3_32 (Nat.le_of_ble_eq_true rfl) rfl (up_same _ _ _ _) (Nat.le_of_ble_eq_true rfl) rfl rfl ?_
  refine g_aload_n (i := 0) dX3_init_52 rfl rfl ?_
  refine g_iconst (v := 0) dX3_init_53 (by decide) ?_
  refine g_putf dX3_init_54 K_X3 (k := 7) fl_X3_35 (Nat.le_of_ble_eq_true rfl) rfl (up_same _ _ _ _) (Nat.le_of_ble_eq_true rfl) rfl rfl ?_
  refine g_iconst (v := 0) dX3_init_57 (by decide) ?_
  refine g_istore_n (i := 1) dX3_init_58 rfl (Nat.le_of_ble_eq_true rfl) ?_
  refine Go.heap (up_self9 (s := 1) (g := g) (c := cArr x1 64 (fun _ => 0)) (by simp [up])).symm ?_
  refine nm_loop hl (fs := [.ref x2, .ref x3, .ref x4, .ref x5, .int 0, .int 0, .int 0]) (by simp [up]) ⟨rfl, ?_, x1, x2, x3, x4, x5, ?_, ?_, ?_, ?_, ?_, ?_⟩ 64 0 (fun _ => 0) rfl (fun i hi => absurd hi (Nat.not_lt_zero i))
  · repeat (first | exact fram_refl | refine fram_up ?_ ⟨by decide, rfl⟩)
  · simp [up, mS0]
  · simp [up, mS0]
  · simp [up, mS0]
  · simp [up, mS0]
  · simp [up, mS0]
  · simp [up, mS0]

set_option maxRecDepth 100000 in
theorem ev_newTicker {l : Launch} {G : GG} (hl : l.stackTraces = false) {h : AH} {b : Nat} (h0 : h 9 0 = some (b, .inr (7, [.null]))) :
    Ev l G 10 1 64 mX7_init [.ref b] h (Cr (fun h2 => fram (fun s g2 => (s = 9 ∨ s = 10) ∧ g2 = 0) h h2 ∧ ∃ x, h2 9 0 = some (b, .inr (7, [.ref x])) ∧ h2 10 0 = some (iArr x 64 (fun _ => 0)))) := by
  refine Ev.of hl (by decide) (Nat.le_of_ble_eq_true rfl) ?_
  refine g_aload_n (i := 0) dX7_init_0 rfl rfl ?_
  refine g_objInit dX7_init_1 ml_X7_3 w_instanceMethod_Lib_objectInit w_code_objinit (Nat.le_of_ble_eq_true rfl) (Nat.le_of_ble_eq_true rfl) ?_
  refine g_aload_n (i := 0) dX7_init_4 rfl rfl ?_
  refine g_bipush (v := 64) dX7_init_5 (by decide) ?_
  refine g_newa (atype := .int) (N := 64) (t := 0) (s0 := 10) (g0 := 0) (a0 := (64, .inl (fun _ => 0))) dX7_init_7 w_arr_int (by decide) rfl (fun _ => rfl) (ix_nI (j := 64) (by decide)) (by decide) (fun _ _ h9 => h9) (fun x => ?_)
  refine g_putF dX7_init_9 K_X7 (k := 0) fl_X7_9 (Nat.le_of_ble_eq_true rfl) rfl rfl rfl ((up_role _ _ _ _ (by decide)).trans h0) (Nat.le_of_ble_eq_true rfl) rfl rfl ?_
  refine g_vret dX7_init_12 rfl ?_
  exact ⟨rfl, fram_up (fram_up fram_refl ⟨Or.inr rfl, rfl⟩) ⟨Or.inl rfl, rfl⟩, x, up_same _ _ _ _, (up_role _ _ _ _ (by decide)).trans (up_same _ _ _ _)⟩

set_option maxRecDepth 100000 in
theorem ev_newUnions {l : Launch} {G : GG} (hl : l.stackTraces = false) {h : AH} {b : Nat} (h0 : h 11 0 = some (b, .inr (8, [.null]))) :
    Ev l G 10 1 64 mX8_init [.ref b] h (Cr (fun h2 => fram (fun s g2 => (s = 11 ∨ s = 12) ∧ g2 = 0) h h2 ∧ ∃ x, h2 11 0 = some (b, .inr (8, [.ref x])) ∧ h2 12 0 = some (iArr x 64 (fun _ => 0)))) := by
  refine Ev.of hl (by decide) (Nat.le_of_ble_eq_true rfl) ?_
  refine g_aload_n (i := 0) dX8_init_0 rfl rfl ?_
  refine g_objInit dX8_init_1 ml_X8_3 w_instanceMethod_Lib_objectInit w_code_objinit (Nat.le_of_ble_eq_true rfl) (Nat.le_of_ble_eq_true rfl) ?_
  refine g_aload_n (i := 0) dX8_init_4 rfl rfl ?_
  refine g_bipush (v := 64) dX8_init_5 (by decide) ?_
  refine g_newa (atype := .int) (N := 64) (t := 0) (s0 := 12) (g0 := 0) (a0 := (64, .inl (fun _ => 0))) dX8_init_7 w_arr_int (by decide) rfl (fun _ => rfl) (ix_nI (j := 64) (by decide)) (by decide) (fun _ _ h9 => h9) (fun x => ?_)
  refine g_putF dX8_init_9 K_X8 (k := 0) fl_X8_9 (Nat.le_of_ble_eq_true rfl) rfl rfl rfl ((up_role _ _ _ _ (by decide)).trans h0) (Nat.le_of_ble_eq_true rfl) rfl rfl ?_
  refine g_vret dX8_init_12 rfl ?_
  exact ⟨rfl, fram_up (fram_up fram_refl ⟨Or.inr rfl, rfl⟩) ⟨Or.inl rfl, rfl⟩, x, up_same _ _ _ _, (up_role _ _ _ _ (by decide)).trans (up_same _ _ _ _)⟩

set_option maxRecDepth 100000 in
theorem ev_newHeap {l : Launch} {G : GG} (hl : l.stackTraces = false) {h : AH} {b : Nat} (h0 : h 13 0 = some (b, .inr (0, [.null, .int 0]))) :
    Ev l G 10 1 64 mX0_init [.ref b] h (Cr (fun h2 => fram (fun s g2 => (s = 13 ∨ s = 14) ∧ g2 = 0) h h2 ∧ ∃ x, h2 13 0 = some (b, .inr (0, [.ref x, .int 0])) ∧ h2 14 0 = some (lArr x 64 (fun _ => 0)))) := by
  refine Ev.of hl (by decide) (Nat.le_of_ble_eq_true rfl) ?_
  refine g_aload_n (i := 0) dX0_init_0 rfl rfl ?_
  refine g_objInit dX0_init_1 ml_X0_3 w_instanceMethod_Lib_objectInit w_code_objinit (Nat.le_of_ble_eq_true rfl) (Nat.le_of_ble_eq_true rfl) ?_
  refine g_aload_n (i := 0) dX0_init_4 rfl rfl ?_
  refine g_bipush (v := 64) dX0_init_5 (by decide) ?_
  refine g_newa (atype := .long) (N := 64) (t := 1) (s0 := 14) (g0 := 0) (a0 := (64, .inr (.inl (fun _ => 0)))) dX0_init_7 w_arr_long (by decide) rfl (fun _ => rfl) (ix_nI (j := 64) (by decide)) (by decide) (fun _ _ h9 => h9) (fun x => ?_)
  refine g_putF dX0_init_9 K_X0 (k := 0) fl_X0_9 (Nat.le_of_ble_eq_true rfl) rfl rfl rfl ((up_role _ _ _ _ (by decide)).trans h0) (Nat.le_of_ble_eq_true rfl) rfl rfl ?_
  refine g_aload_n (i := 0) dX0_init_12 rfl rfl ?_
  refine g_iconst (v := 0) dX0_init_13 (by decide) ?_
  refine g_putf dX0_init_14 K_X0 (k := 1) fl_X0_15 (Nat.le_of_ble_eq_true rfl) rfl (up_same _ _ _ _) (Nat.le_of_ble_eq_true rfl) rfl rfl ?_
  refine g_vret dX0_init_17 rfl ?_
  exact ⟨rfl, fram_up (fram_up (fram_up fram_refl ⟨Or.inr rfl, rfl⟩) ⟨Or.inl rfl, rfl⟩) ⟨Or.inl rfl, rfl⟩, x, up_same _ _ _ _, (up_role _ _ _ _ (by decide)).trans ((up_role _ _ _ _ (by decide)).trans (up_same _ _ _ _))⟩

set_option maxRecDepth 100000 in
theorem ev_newLegend {l : Launch} {G : GG} (hl : l.stackTraces = false) {h : AH} {b : Nat} (h0 : h 15 0 = some (b, .inr (5, [.null, .null, .null, .null, .int 0, .int 0]))) :
    Ev l G 10 11 597 mX5_init [.ref b] h (Cr (fun h2 => fram (fun s g2 => (15 ≤ s ∧ s ≤ 19 ∧ g2 = 0) ∨ (s = 20 ∧ g2 < 7)) h h2 ∧ ∃ x1 x2 x3 x4, ∃ r : Nat → Nat, h2 15 0 = some (b, .inr (5, [.ref x1, .ref x2, .ref x3, .ref x4, .int 0, .int 0])) ∧ h2 16 0 = some (iArr x1 64 (fun _ => 0)) ∧ h2 17 0 = some (iArr x2 64 (fun _ => 0)) ∧ h2 18 0 = some (iArr x3 7 (fun _ => 0)) ∧ h2 19 0 = some (x4, .inl (8, 7, .inr (.inr (.inr (.inr (fun i => some (r i))))))) ∧ (∀ i, i < 7 → h2 20 i = some (iArr (r i) 65 (fun _ => 0))) ∧ ∀ i, 7 ≤ i → r i = 0)) := by
  refine Ev.of hl (by decide) (Nat.le_of_ble_eq_true rfl) ?_
  refine g_aload_n (i := 0) dX5_init_0 rfl rfl ?_
  refine g_objInit dX5_init_1 ml_X5_3 w_instanceMethod_Lib_objectInit w_code_objinit (Nat.le_of_ble_eq_true rfl) (Nat.le_of_ble_eq_true rfl) ?_
  refine g_aload_n (i := 0) dX5_init_4 rfl rfl ?_
  refine g_bipush (v := 64) dX5_init_5 (by decide) ?_
  refine g_newa (atype := .int) (N := 64) (t := 0) (s0 := 16) (g0 := 0) (a0 := (64, .inl (fun _ => 0))) dX5_init_7 w_arr_int (by decide) rfl (fun _ => rfl) (ix_nI (j := 64) (by decide)) (by decide) (fun _ _ h9 => h9) (fun x1 => ?_)
  refine g_putF dX5_init_9 K_X5 (k := 0) fl_X5_9 (Nat.le_of_ble_eq_true rfl) rfl rfl rfl ((up_role _ _ _ _ (by decide)).trans h0) (Nat.le_of_ble_eq_true rfl) rfl rfl ?_
  refine g_aload_n (i := 0) dX5_init_12 rfl rfl ?_
  refine g_bipush (v := 64) dX5_init_13 (by decide) ?_
  refine g_newa (atype := .int) (N := 64) (t := 0) (s0 := 17) (g0 := 0) (a0 := (64, .inl (fun _ => 0))) dX5_init_15 w_arr_int (by decide) rfl (fun _ => rfl) (ix_nI (j := 64) (by decide)) (by decide) (fun _ _ h9 => h9) (fun x2 => ?_)
  refine g_putF dX5_init_17 K_X5 (k := 1) fl_X5_15 (Nat.le_of_ble_eq_true rfl) rfl rfl rfl ((up_role _ _ _ _ (by decide)).trans (up_same _ _ _ _)) (Nat.le_of_ble_eq_true rfl) rfl rfl ?_
  refine g_aload_n (i := 0) dX5_init_20 rfl rfl ?_
  refine g_bipush (v := 7) dX5_init_21 (by decide) ?_
  refine g_newa (atype := .int) (N := 7) (t := 0) (s0 := 18) (g0 := 0) (a0 := (7, .inl (fun _ => 0))) dX5_init_23 w_arr_int (by decide) rfl (fun _ => rfl) (ix_nI (j := 7) (by decide)) (by decide) (fun _ _ h9 => h9) (fun x3 => ?_)
  refine g_putF dX5_init_25 K_X5 (k := 2) fl_X5_18 (Nat.le_of_ble_eq_true rfl) rfl rfl rfl ((up_role _ _ _ _ (by decide)).trans (up_same _ _ _ _)) (Nat.le_of_ble_eq_true rfl) rfl rfl ?_
  refine g_aload_n (i := 0) dX5_init_28 rfl rfl ?_
  refine g_bipush (v := 7) dX5_init_29 (by decide) ?_
  refine g_bipush (v := 65) dX5_init_31 (by decide) ?_
  refine g_mna dX5_init_33 cl_X5_21 w_arr_int (fun q9 r9 hr9 => ?_)
  refine g_putF dX5_init_37 K_X5 (k := 3) fl_X5_23 (Nat.le_of_ble_eq_true rfl) rfl rfl rfl ((mn_ne (by decide) (by decide)).trans (up_same _ _ _ _)) (Nat.le_of_ble_eq_true rfl) rfl rfl ?_
  refine g_aload_n (i := 0) dX5_init_40 rfl rfl ?_
  refine g_iconst (v := 0) dX5_init_41 (by decide) ?_
  refine g_putf dX5_init_42 K_X5 (k := 4) fl_X5_26 (Nat.le_of_ble_eq_true rfl) rfl (up_same _ _ _ _) (Nat.le_of_ble_eq_true rfl) rfl rfl ?_
  refine g_aload_n (i := 0) dX5_init_45 rfl rfl ?_
  refine g_iconst (v := 0) dX5_init_46 (by decide) ?_
  refine g_putf dX5_init_47 K_X5 (k := 5) fl_X5_30 (Nat.le_of_ble_eq_true rfl) rfl (up_same _ _ _ _) (Nat.le_of_ble_eq_true rfl) rfl rfl ?_
  refine g_vret dX5_init_50 rfl ?_
  refine ⟨rfl, ?_, x1, x2, x3, q9, r9, ?_, ?_, ?_, ?_, ?_, fun i hi => ?_, hr9⟩
  · repeat (first | exact fram_refl | refine fram_up ?_ (Or.inl ⟨by decide, by decide, rfl⟩) | refine fram_mn ?_ (Or.inl ⟨by decide, by decide, rfl⟩) (fun i hi => Or.inr ⟨rfl, hi⟩))
  · simp [up, mnH]
  · simp [up, mnH]
  · simp [up, mnH]
  · simp [up, mnH]
  · simp [up, mnH]
  · simp [up, mnH, hi]

set_option maxRecDepth 100000 in
theorem ev_newCommand {l : Launch} {G : GG} (hl : l.stackTraces = false) {h : AH} {b i : Nat} (h0 : h 25 i = some (b, .inr (1, [.int 0, .int 0, .int 0, .int 0]))) :
    Ev l G 10 0 0 mX1_init [.ref b] h (Cr (fun h2 => fram (fun s g2 => s = 25 ∧ g2 = i) h h2 ∧ h2 25 i = some (b, .inr (1, [.int 0, .int 0, .int 0, .int 0])))) := by
  refine Ev.of hl (by decide) (Nat.le_of_ble_eq_true rfl) ?_
  refine g_aload_n (i := 0) dX1_init_0 rfl rfl ?_
  refine g_objInit dX1_init_1 ml_X1_3 w_instanceMethod_Lib_objectInit w_code_objinit (Nat.le_of_ble_eq_true rfl) (Nat.le_of_ble_eq_true rfl) ?_
  refine g_aload_n (i := 0) dX1_init_4 rfl rfl ?_
  refine g_iconst (v := 0) dX1_init_5 (by decide) ?_
  refine g_putf dX1_init_6 K_X1 (k := 0) fl_X1_9 (Nat.le_of_ble_eq_true rfl) rfl h0 (Nat.le_of_ble_eq_true rfl) rfl rfl ?_
  refine g_aload_n (i := 0) dX1_init_9 rfl rfl ?_
  refine g_iconst (v := 0) dX1_init_10 (by decide) ?_
  refine g_putf dX1_init_11 K_X1 (k := 1) fl_X1_15 (Nat.le_of_ble_eq_true rfl) rfl (up_same _ _ _ _) (Nat.le_of_ble_eq_true rfl) rfl rfl ?_
  refine g_aload_n (i := 0) dX1_init_14 rfl rfl ?_
  refine g_iconst (v := 0) dX1_init_15 (by decide) ?_
  refine g_putf dX1_init_16 K_X1 (k := 2) fl_X1_18 (Nat.le_of_ble_eq_true rfl) rfl (up_same _ _ _ _) (Nat.le_of_ble_eq_true rfl) rfl rfl ?_
  refine g_aload_n (i := 0) dX1_init_19 rfl rfl ?_
  refine g_iconst (v := 0) dX1_init_20 (by decide) ?_
  refine g_putf dX1_init_21 K_X1 (k := 3) fl_X1_21 (Nat.le_of_ble_eq_true rfl) rfl (up_same _ _ _ _) (Nat.le_of_ble_eq_true rfl) rfl rfl ?_
  refine g_vret dX1_init_24 rfl ?_
  exact ⟨rfl, fram_up (fram_up (fram_up (fram_up fram_refl ⟨rfl, rfl⟩) ⟨rfl, rfl⟩) ⟨rfl, rfl⟩) ⟨rfl, rfl⟩, up_same _ _ _ _⟩

set_option maxRecDepth 100000 in
theorem ev_newASB {l : Launch} {G : GG} (hl : l.stackTraces = false) {h : AH} {b g : Nat} (h0 : h 22 g = some (b, .inr (11, [.null, .int 0, .int 0, .int 0]))) :
    Ev l G 12 1 16 mJ5_init_d00df [.ref b, .int 16] h (Cr (fun h2 => fram (fun s g2 => (s = 22 ∨ s = 23) ∧ g2 = g) h h2 ∧ ∃ x, h2 22 g = some (b, .inr (11, [.ref x, .int 0, .int 0, .int 0])) ∧ h2 23 g = some (x, .inl (3, 16, .inl (fun _ => 0))))) := by
  refine Ev.of hl (by decide) (Nat.le_of_ble_eq_true rfl) ?_
  refine g_aload_n (i := 0) dJ5_init_d00df_0 rfl rfl ?_
  refine g_objInit dJ5_init_d00df_1 ml_J5_3 w_instanceMethod_Lib_objectInit w_code_objinit (Nat.le_of_ble_eq_true rfl) (Nat.le_of_ble_eq_true rfl) ?_
  refine g_compact dJ5_init_d00df_4 fl_J5_18 ?_
  refine g_if_eq (tgt := 25) dJ5_init_d00df_7 (by decide) (fun c7 => ?_) (fun c7 => ?_)
  · exact absurd c7 (by decide)
  · refine g_aload_n (i := 0) dJ5_init_d00df_10 rfl rfl ?_
    refine g_iload_n (i := 1) dJ5_init_d00df_11 rfl rfl ?_
    refine g_newa (atype := .byte) (N := 16) (t := 3) (s0 := 23) (g0 := g) (a0 := (16, .inl (fun _ => 0))) dJ5_init_d00df_12 w_arr_byte (by decide) rfl (fun _ => rfl) (ix_nI (j := 16) (by decide)) (by decide) (fun _ _ h9 => h9) (fun x => ?_)
    refine g_putf dJ5_init_d00df_14 K_J4 (k := 0) fl_J5_15 (Nat.le_of_ble_eq_true rfl) rfl ((up_role _ _ _ _ (by decide)).trans h0) (Nat.le_of_ble_eq_true rfl) rfl rfl ?_
    refine g_aload_n (i := 0) dJ5_init_d00df_17 rfl rfl ?_
    refine g_iconst (v := 0) dJ5_init_d00df_18 (by decide) ?_
    refine g_putf dJ5_init_d00df_19 K_J4 (k := 1) fl_J5_22 (Nat.le_of_ble_eq_true rfl) rfl (up_same _ _ _ _) (Nat.le_of_ble_eq_true rfl) rfl rfl ?_
    refine g_goto (tgt := 38) dJ5_init_d00df_22 (by decide) ?_
    refine g_vret dJ5_init_d00df_38 rfl ?_
    exact ⟨rfl, fram_up (fram_up (fram_up fram_refl ⟨Or.inr rfl, rfl⟩) ⟨Or.inl rfl, rfl⟩) ⟨Or.inl rfl, rfl⟩, x, up_same _ _ _ _, (up_role _ _ _ _ (by decide)).trans ((up_role _ _ _ _ (by decide)).trans (up_same _ _ _ _))⟩

set_option maxRecDepth 100000 in
theorem ev_newSB {l : Launch} {G : GG} (hl : l.stackTraces = false) {h : AH} {b g : Nat} (h0 : h 22 g = some (b, .inr (11, [.null, .int 0, .int 0, .int 0]))) :
    Ev l G 13 1 16 mJ4_init_da8c8 [.ref b] h (Cr (fun h2 => fram (fun s g2 => (s = 22 ∨ s = 23) ∧ g2 = g) h h2 ∧ ∃ x, h2 22 g = some (b, .inr (11, [.ref x, .int 0, .int 0, .int 0])) ∧ h2 23 g = some (x, .inl (3, 16, .inl (fun _ => 0))))) := by
  refine Ev.of hl (by decide) (Nat.le_of_ble_eq_true rfl) ?_
  refine g_aload_n (i := 0) dJ4_init_da8c8_0 rfl rfl ?_
  refine g_bipush (v := 16) dJ4_init_da8c8_1 (by decide) ?_
  refine g_callI (ev_newASB hl h0) dJ4_init_da8c8_3 ml_J4_1 ciJ5_init_d00df rfl rfl (Nat.le_of_ble_eq_true rfl) (Nat.le_of_ble_eq_true rfl) (by decide) (by decide) (kr_q (fun y1 q1 => ?_)) kx_q
  refine g_vret dJ4_init_da8c8_6 rfl ?_
  exact ⟨rfl, q1⟩

