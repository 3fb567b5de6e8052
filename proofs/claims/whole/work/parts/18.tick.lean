/-! copyFrom, the ticker (by wip/whole/gen/m4.py). -/
/-- contracts that tell the end but for a part of the heap that is scratch -/
def RtX {α : Type} (v : Option Value) (F : α → AH) : Post := fun o h2 => o = .inl v ∧ ∃ c, h2 = F c
section RX
variable {α : Type} {l : Launch} {G : GG} {M : MD} {d kc ks pc : Nat} {P : Post} {L : List (Option Value)} {rest : List Value} {F : α → AH}
theorem kr_x {v : Value} (k : ∀ c, Go l G M d kc ks P pc L (v :: rest) (F c)) : ∀ v2 h2, RtX (some v) F (.inl v2) h2 → Go l G M d (kc - 0) (ks - 0) P pc L (v2.toList ++ rest) h2 := by
  rintro v2 h2 ⟨e1, c, rfl⟩
  cases e1
  exact k c
theorem kr_xv (k : ∀ c, Go l G M d kc ks P pc L rest (F c)) : ∀ v2 h2, RtX none F (.inl v2) h2 → Go l G M d (kc - 0) (ks - 0) P pc L (v2.toList ++ rest) h2 := by
  rintro v2 h2 ⟨e1, c, rfl⟩
  cases e1
  exact k c
theorem kx_x {v : Option Value} {mc ms : Nat} : ∀ E h2, RtX v F (.inr E) h2 → GoT l G M d (kc - mc) (ks - ms) P pc L E h2 := by
  rintro E h2 ⟨e1, -⟩
  cases e1
end RX
/-- an array's contents beyond its length don't count -/
theorem Go.arr {l : Launch} {G : GG} {M : MD} {d kc ks : Nat} {P : Post} {pc : Nat} {L : List (Option Value)} {st : List Value} {h : AH} {s g a t n : Nat} {f f' : Nat → Int32} (hf : ∀ k, k < n → f k = f' k) (k : Go l G M d kc ks P pc L st (up h s g (a, .inl (t, n, .inl f')))) : Go l G M d kc ks P pc L st (up h s g (a, .inl (t, n, .inl f))) := by
  intro p e R s1 m args below meth c H locs cells slots mc ms ls F h1 h2 h3 h4 hE hS hL
  have he : (vp_cell (gA G t) (n, .inl f)) = vp_cell (gA G t) (n, .inl f') := by
    rw [vp_cell_i, vp_cell_i]
    unfold arrV
    congr 1
    apply Array.ext
    · simp
    · intro i hi1 hi2
      simp only [Array.getElem_ofFn]
      rw [hf i (by simpa using hi1)]
  have key : ∀ s' g' a' c', up h s g (a, .inl (t, n, .inl f')) s' g' = some (a', c') → ∃ c'', up h s g (a, .inl (t, n, .inl f)) s' g' = some (a', c'') ∧ (va_at (gD G) classes (a', gE G c'') H → va_at (gD G) classes (a', gE G c') H) := by
    intro s' g' a' c' hq
    by_cases e1 : s' = s
    · by_cases e2 : g' = g
      · subst e1; subst e2
        rw [up_same] at hq
        cases hq
        exact ⟨.inl (t, n, .inl f), up_same _ _ _ _, fun z => by
          show H[a]? = some (vp_cell _ _)
          rw [← he]
          exact z⟩
      · subst e1
        rw [up_grp _ _ _ e2] at hq
        exact ⟨c', (up_grp _ _ _ e2).trans hq, id⟩
    · rw [up_role _ _ _ _ e1] at hq
      exact ⟨c', (up_role _ _ _ _ e1).trans hq, id⟩
  exact k _ _ _ _ _ _ _ _ _ _ _ _ _ _ _ _ F h1 h2 h3 h4 ⟨fun s' g' a' c' hq => by
    obtain ⟨c'', q1, q2⟩ := key _ _ _ _ hq
    exact ⟨q2 (hE.1 _ _ _ _ q1).1, (hE.1 _ _ _ _ q1).2⟩, fun s1 g1 s2 g2 a' c' c'' q1 q2 => by
    obtain ⟨_, r1, -⟩ := key _ _ _ _ q1
    obtain ⟨_, r2, -⟩ := key _ _ _ _ q2
    exact hE.2 _ _ _ _ _ _ _ r1 r2⟩ hS hL
theorem up_comm (h : AH) {s s' : Nat} (g g' : Nat) (c c' : Nat × AC) (n : s' ≠ s) : up (up h s g c) s' g' c' = up (up h s' g' c') s g c := by
  funext s1 g1
  simp only [up]
  by_cases e1 : s1 = s
  · subst e1; rw [if_neg (Ne.symm n)]; simp [Ne.symm n]
  · by_cases e2 : s1 = s'
    · subst e2; simp [e1]
    · simp [e1, e2]
theorem up_up (h : AH) (s g : Nat) (c c' : Nat × AC) : up (up h s g c) s g c' = up h s g c' := by
  funext s1 g1
  simp only [up]
  by_cases e1 : s1 = s
  · subst e1
    by_cases e2 : g1 = g
    · subst e2; simp
    · simp [e2]
  · simp [e1]
/-- a map and the ticker's scratch -/
def tk (h : AH) (A : AD) (g : Nat) (m : MS) (c : Nat → Int32) : AH := up (setMap h A g m) 10 0 (iArr (A 10 0) 64 c)
theorem tk_map (h : AH) (A : AD) (g : Nat) (m : MS) (c : Nat → Int32) : isMap (tk h A g m c) A g m := (isMap_set h A g m).role (by decide)
theorem tk_10 (h : AH) (A : AD) (g : Nat) (m : MS) (c : Nat → Int32) : tk h A g m c 10 0 = some (iArr (A 10 0) 64 c) := up_same _ _ _ _
theorem tk_9 {h : AH} {A : AD} {x : Option (Nat × AC)} (H : h 9 0 = x) (g : Nat) (m : MS) (c : Nat → Int32) : tk h A g m c 9 0 = x := (up_role _ _ _ _ (by decide)).trans ((setMap_role h A g m 0 (by decide)).trans H)
theorem tk_c (h : AH) (A : AD) (g : Nat) (m : MS) (c c' : Nat → Int32) : up (tk h A g m c) 10 0 (iArr (A 10 0) 64 c') = tk h A g m c' := up_up _ _ _ _ _
theorem tk_heat (h : AH) (A : AD) (g : Nat) (m : MS) (c f : Nat → Int32) : up (tk h A g m c) 2 g (iArr (A 2 g) 64 f) = tk h A g (m.1, f, m.2.2) c := by
  unfold tk; rw [up_comm _ _ _ _ _ (by decide), setMap_heat]
theorem tk_emb (h : AH) (A : AD) (g : Nat) (m : MS) (c f : Nat → Int32) : up (tk h A g m c) 3 g (iArr (A 3 g) 64 f) = tk h A g (m.1, m.2.1, f, m.2.2.2) c := by
  unfold tk; rw [up_comm _ _ _ _ _ (by decide), setMap_emb]
theorem tk_lost (h : AH) (A : AD) (g : Nat) (m : MS) (c f : Nat → Int32) : up (tk h A g m c) 5 g (iArr (A 5 g) 4 f) = tk h A g (m.1, m.2.1, m.2.2.1, m.2.2.2.1, f, m.2.2.2.2.2) c := by
  unfold tk; rw [up_comm _ _ _ _ _ (by decide), setMap_lost]
theorem tk_obj (h : AH) (A : AD) (g : Nat) (m : MS) (c : Nat → Int32) (t r a : Int32) : up (tk h A g m c) 0 g (A 0 g, .inr (3, [.ref (A 1 g), .ref (A 2 g), .ref (A 3 g), .ref (A 4 g), .ref (A 5 g), .int t, .int r, .int a])) = tk h A g (m.1, m.2.1, m.2.2.1, m.2.2.2.1, m.2.2.2.2.1, t, r, a) c := by
  unfold tk; rw [up_comm _ _ _ _ _ (by decide), setMap_obj]
theorem tk_self {h : AH} {A : AD} {g : Nat} {m : MS} {c : Nat → Int32} (H : isMap h A g m) (H2 : h 10 0 = some (iArr (A 10 0) 64 c)) : tk h A g m c = h := by
  unfold tk
  rw [setMap_self H]
  funext s g'
  simp only [up]
  by_cases e : s = 10
  · subst e
    by_cases e2 : g' = 0
    · subst e2; simp [H2]
    · simp [e2]
  · simp [e]
theorem slow_ne (m : MS) (i n : Nat) : ¬ slowC m i + slowC m n = 0 := by
  unfold slowC
  repeat' split
  all_goals decide
theorem slow_ne2 (m : MS) (i : Nat) : ¬ 2 * slowC m i = 0 := by
  unfold slowC
  repeat' split
  all_goals decide
theorem nI_m1 {n : Nat} (h : n < 64) : ¬ nI n = -1 := fun q => by
  have h1 := nI_toInt (n := n) (by omega)
  rw [q] at h1
  have h2 : (-1 : Int32).toInt = -1 := by decide
  omega
def flw (m : MS) (i n : Nat) : Int32 := (m.2.1 i - m.2.1 n) / (slowC m i + slowC m n)
def flowC (m : MS) (c : Nat → Int32) (i : Nat) : Option Nat → Nat → Int32
  | none => c
  | some n => if m.1 i = 35 ∨ m.1 n = 35 then c else va_up (va_up c i (c i - flw m i n)) n (va_up c i (c i - flw m i n) n + flw m i n)
def lvs (m : MS) (s i : Nat) : Int32 := (m.2.1 i - m.2.2.2.1 s) / (2 * slowC m i)
abbrev noLv (m : MS) (s i : Nat) : Prop := m.1 i = 35 ∨ m.2.1 i - m.2.2.2.1 s ≤ 0
def lvC (m : MS) (s i : Nat) (c : Nat → Int32) : Nat → Int32 := if noLv m s i then c else va_up c i (c i - lvs m s i)
def lvL (m : MS) (s i : Nat) (lo : Nat → Int32) : Nat → Int32 := if noLv m s i then lo else va_up lo s (lo s + lvs m s i)
def flowAll (m : MS) : Nat → Nat → Int32
  | 0 => fun _ => 0
  | k + 1 => flowC m (flowC m (flowAll m k) k (nb k 1)) k (nb k 2)
def lvC4 (m : MS) (k : Nat) (c : Nat → Int32) : Nat → Int32 := lvC m 3 (8 * k) (lvC m 2 (56 + k) (lvC m 1 (8 * k + 7) (lvC m 0 k c)))
def lvL4 (m : MS) (k : Nat) (c : Nat → Int32) : Nat → Int32 := lvL m 3 (8 * k) (lvL m 2 (56 + k) (lvL m 1 (8 * k + 7) (lvL m 0 k c)))
def lvCA (m : MS) : Nat → Nat → Int32
  | 0 => flowAll m 64
  | k + 1 => lvC4 m k (lvCA m k)
def lvLA (m : MS) : Nat → Nat → Int32
  | 0 => m.2.2.2.2.1
  | k + 1 => lvL4 m k (lvLA m k)
abbrev mLo (m : MS) (lo : Nat → Int32) : MS := (m.1, m.2.1, m.2.2.1, m.2.2.2.1, lo, m.2.2.2.2.2)
def flowM (m : MS) : MS := (m.1, fun q => m.2.1 q + lvCA m 8 q, m.2.2.1, m.2.2.2.1, lvLA m 8, m.2.2.2.2.2)
def embM (m : MS) : MS := (m.1, fun q => if 700 ≤ m.2.1 q then m.2.1 q - 100 else m.2.1 q, fun q => if 700 ≤ m.2.1 q then m.2.2.1 q + 100 else m.2.2.1 q, m.2.2.2)
def hotN (m : MS) (c : Nat) : Nat → Bool
  | 0 => false
  | k + 1 => hotN m c k || (match nb c k with | none => false | some n => decide (500 ≤ m.2.1 n))
def isRel (m : MS) (c : Nat) : Bool := decide (0 < m.2.2.1 c) && decide (m.2.1 c < 300) && hotN m c 4
def relC (m : MS) (q : Nat) : Int32 := if isRel m q = true then m.2.2.1 q else 0
def relN (m : MS) : Nat → Int32
  | 0 => 0
  | k + 1 => if 0 < relC m k then relN m k + 1 else relN m k
def relM (m : MS) : MS := (m.1, fun q => if 0 < relC m q then m.2.1 q + relC m q else m.2.1 q, fun q => if 0 < relC m q then 0 else m.2.2.1 q, m.2.2.2)
def tickM (m : MS) : MS := relM (embM (flowM m))
def tickR (m : MS) : Int32 := relN (embM (flowM m)) 64
def ticksM : Nat → MS → MS
  | 0, m => m
  | k + 1, m => tickM (ticksM k m)
def ticksR : Nat → MS → Int32
  | 0, _ => 0
  | k + 1, m => ticksR k m + tickR (ticksM k m)
def endM (m : MS) (t r : Int32) : MS := (m.1, m.2.1, m.2.2.1, m.2.2.2.1, m.2.2.2.2.1, m.2.2.2.2.2.1 + t, m.2.2.2.2.2.2.1 + r, m.2.2.2.2.2.2.2)

set_option maxRecDepth 100000 in
theorem ev_copyFrom {l : Launch} {G : GG} (hl : l.stackTraces = false) {A : AD} {g g2 : Nat} {m m2 : MS} {h : AH} (hg : g2 ≠ g) (H : isMap h A g m) (H2 : isMap h A g2 m2) (hn : ∀ i, i < 64 → fits .char (.int (m2.1 i)) = true) :
    Ev l G 10 0 0 mX3_copyFrom [.ref (A 0 g), .ref (A 0 g2)] h (Rt none (setMap h A g m2)) := by
  refine Ev.of hl (by decide) (Nat.le_of_ble_eq_true rfl) ?_
  refine Go.heap (setMap_self H).symm ?_
  refine g_aload_n (i := 1) dX3_copyFrom_0 rfl rfl ?_
  refine g_getf dX3_copyFrom_1 K_X3 (k := 0) fl_X3_9 (Nat.le_of_ble_eq_true rfl) ((setMap_grp _ _ _ 0 hg).trans H2.1) rfl ?_
  refine g_iconst (v := 0) dX3_copyFrom_4 (by decide) ?_
  refine g_aload_n (i := 0) dX3_copyFrom_5 rfl rfl ?_
  refine g_getf dX3_copyFrom_6 K_X3 (k := 0) fl_X3_9 (Nat.le_of_ble_eq_true rfl) (isMap_set _ _ _ _).1 rfl ?_
  refine g_iconst (v := 0) dX3_copyFrom_9 (by decide) ?_
  refine g_bipush (v := 64) dX3_copyFrom_10 (by decide) ?_
  refine g_copyi (t1 := 0) dX3_copyFrom_12 ml_X3_38 w_native_arraycopyName w_static_arraycopyName w_init_java_lang_System (Nat.le_of_ble_eq_true rfl) (by decide) (by decide) rfl ((setMap_grp _ _ _ 1 hg).trans H2.2.1) (isMap_set _ _ _ _).2.1 (ix_nI (j := 0) (by decide)) (ix_nI (j := 0) (by decide)) (ix_nI (j := 64) (by decide)) (by decide) (by decide) (fun i hi => by rw [Nat.zero_add]; exact hn i hi) ?_
  refine Go.arr (f' := m2.1) (fun k hk => sb_cpy0 hk) ?_
  refine Go.heap (setMap_gr _ _ _ _ _) ?_
  refine g_aload_n (i := 1) dX3_copyFrom_15 rfl rfl ?_
  refine g_getf dX3_copyFrom_16 K_X3 (k := 1) fl_X3_15 (Nat.le_of_ble_eq_true rfl) ((setMap_grp _ _ _ 0 hg).trans H2.1) rfl ?_
  refine g_iconst (v := 0) dX3_copyFrom_19 (by decide) ?_
  refine g_aload_n (i := 0) dX3_copyFrom_20 rfl rfl ?_
  refine g_getf dX3_copyFrom_21 K_X3 (k := 1) fl_X3_15 (Nat.le_of_ble_eq_true rfl) (isMap_set _ _ _ _).1 rfl ?_
  refine g_iconst (v := 0) dX3_copyFrom_24 (by decide) ?_
  refine g_bipush (v := 64) dX3_copyFrom_25 (by decide) ?_
  refine g_copyi (t1 := 0) dX3_copyFrom_27 ml_X3_38 w_native_arraycopyName w_static_arraycopyName w_init_java_lang_System (Nat.le_of_ble_eq_true rfl) (by decide) (by decide) rfl ((setMap_grp _ _ _ 2 hg).trans H2.2.2.1) (isMap_set _ _ _ _).2.2.1 (ix_nI (j := 0) (by decide)) (ix_nI (j := 0) (by decide)) (ix_nI (j := 64) (by decide)) (by decide) (by decide) (fun i _ => rfl) ?_
  refine Go.arr (f' := m2.2.1) (fun k hk => sb_cpy0 hk) ?_
  refine Go.heap (setMap_heat _ _ _ _ _) ?_
  refine g_aload_n (i := 1) dX3_copyFrom_30 rfl rfl ?_
  refine g_getf dX3_copyFrom_31 K_X3 (k := 2) fl_X3_19 (Nat.le_of_ble_eq_true rfl) ((setMap_grp _ _ _ 0 hg).trans H2.1) rfl ?_
  refine g_iconst (v := 0) dX3_copyFrom_34 (by decide) ?_
  refine g_aload_n (i := 0) dX3_copyFrom_35 rfl rfl ?_
  refine g_getf dX3_copyFrom_36 K_X3 (k := 2) fl_X3_19 (Nat.le_of_ble_eq_true rfl) (isMap_set _ _ _ _).1 rfl ?_
  refine g_iconst (v := 0) dX3_copyFrom_39 (by decide) ?_
  refine g_bipush (v := 64) dX3_copyFrom_40 (by decide) ?_
  refine g_copyi (t1 := 0) dX3_copyFrom_42 ml_X3_38 w_native_arraycopyName w_static_arraycopyName w_init_java_lang_System (Nat.le_of_ble_eq_true rfl) (by decide) (by decide) rfl ((setMap_grp _ _ _ 3 hg).trans H2.2.2.2.1) (isMap_set _ _ _ _).2.2.2.1 (ix_nI (j := 0) (by decide)) (ix_nI (j := 0) (by decide)) (ix_nI (j := 64) (by decide)) (by decide) (by decide) (fun i _ => rfl) ?_
  refine Go.arr (f' := m2.2.2.1) (fun k hk => sb_cpy0 hk) ?_
  refine Go.heap (setMap_emb _ _ _ _ _) ?_
  refine g_aload_n (i := 1) dX3_copyFrom_45 rfl rfl ?_
  refine g_getf dX3_copyFrom_46 K_X3 (k := 3) fl_X3_22 (Nat.le_of_ble_eq_true rfl) ((setMap_grp _ _ _ 0 hg).trans H2.1) rfl ?_
  refine g_iconst (v := 0) dX3_copyFrom_49 (by decide) ?_
  refine g_aload_n (i := 0) dX3_copyFrom_50 rfl rfl ?_
  refine g_getf dX3_copyFrom_51 K_X3 (k := 3) fl_X3_22 (Nat.le_of_ble_eq_true rfl) (isMap_set _ _ _ _).1 rfl ?_
  refine g_iconst (v := 0) dX3_copyFrom_54 (by decide) ?_
  refine g_iconst (v := 4) dX3_copyFrom_55 (by decide) ?_
  refine g_copyi (t1 := 0) dX3_copyFrom_56 ml_X3_38 w_native_arraycopyName w_static_arraycopyName w_init_java_lang_System (Nat.le_of_ble_eq_true rfl) (by decide) (by decide) rfl ((setMap_grp _ _ _ 4 hg).trans H2.2.2.2.2.1) (isMap_set _ _ _ _).2.2.2.2.1 (ix_nI (j := 0) (by decide)) (ix_nI (j := 0) (by decide)) (ix_nI (j := 4) (by decide)) (by decide) (by decide) (fun i _ => rfl) ?_
  refine Go.arr (f' := m2.2.2.2.1) (fun k hk => sb_cpy0 hk) ?_
  refine Go.heap (setMap_temp _ _ _ _ _) ?_
  refine g_aload_n (i := 1) dX3_copyFrom_59 rfl rfl ?_
  refine g_getf dX3_copyFrom_60 K_X3 (k := 4) fl_X3_25 (Nat.le_of_ble_eq_true rfl) ((setMap_grp _ _ _ 0 hg).trans H2.1) rfl ?_
  refine g_iconst (v := 0) dX3_copyFrom_63 (by decide) ?_
  refine g_aload_n (i := 0) dX3_copyFrom_64 rfl rfl ?_
  refine g_getf dX3_copyFrom_65 K_X3 (k := 4) fl_X3_25 (Nat.le_of_ble_eq_true rfl) (isMap_set _ _ _ _).1 rfl ?_
  refine g_iconst (v := 0) dX3_copyFrom_68 (by decide) ?_
  refine g_iconst (v := 4) dX3_copyFrom_69 (by decide) ?_
  refine g_copyi (t1 := 0) dX3_copyFrom_70 ml_X3_38 w_native_arraycopyName w_static_arraycopyName w_init_java_lang_System (Nat.le_of_ble_eq_true rfl) (by decide) (by decide) rfl ((setMap_grp _ _ _ 5 hg).trans H2.2.2.2.2.2) (isMap_set _ _ _ _).2.2.2.2.2 (ix_nI (j := 0) (by decide)) (ix_nI (j := 0) (by decide)) (ix_nI (j := 4) (by decide)) (by decide) (by decide) (fun i _ => rfl) ?_
  refine Go.arr (f' := m2.2.2.2.2.1) (fun k hk => sb_cpy0 hk) ?_
  refine Go.heap (setMap_lost _ _ _ _ _) ?_
  refine g_aload_n (i := 0) dX3_copyFrom_73 rfl rfl ?_
  refine g_aload_n (i := 1) dX3_copyFrom_74 rfl rfl ?_
  refine g_getf dX3_copyFrom_75 K_X3 (k := 5) fl_X3_28 (Nat.le_of_ble_eq_true rfl) ((setMap_grp _ _ _ 0 hg).trans H2.1) rfl ?_
  refine g_putf dX3_copyFrom_78 K_X3 (k := 5) fl_X3_28 (Nat.le_of_ble_eq_true rfl) rfl (isMap_set _ _ _ _).1 (Nat.le_of_ble_eq_true rfl) rfl rfl (Go.heap (setMap_obj _ _ _ _ _ _ _) ?_)
  refine g_aload_n (i := 0) dX3_copyFrom_81 rfl rfl ?_
  refine g_aload_n (i := 1) dX3_copyFrom_82 rfl rfl ?_
  refine g_getf dX3_copyFrom_83 K_X3 (k := 6) fl_X3_32 (Nat.le_of_ble_eq_true rfl) ((setMap_grp _ _ _ 0 hg).trans H2.1) rfl ?_
  refine g_putf dX3_copyFrom_86 K_X3 (k := 6) fl_X3_32 (Nat.le_of_ble_eq_true rfl) rfl (isMap_set _ _ _ _).1 (Nat.le_of_ble_eq_true rfl) rfl rfl (Go.heap (setMap_obj _ _ _ _ _ _ _) ?_)
  refine g_aload_n (i := 0) dX3_copyFrom_89 rfl rfl ?_
  refine g_aload_n (i := 1) dX3_copyFrom_90 rfl rfl ?_
  refine g_getf dX3_copyFrom_91 K_X3 (k := 7) fl_X3_35 (Nat.le_of_ble_eq_true rfl) ((setMap_grp _ _ _ 0 hg).trans H2.1) rfl ?_
  refine g_putf dX3_copyFrom_94 K_X3 (k := 7) fl_X3_35 (Nat.le_of_ble_eq_true rfl) rfl (isMap_set _ _ _ _).1 (Nat.le_of_ble_eq_true rfl) rfl rfl (Go.heap (setMap_obj _ _ _ _ _ _ _) ?_)
  refine g_vret dX3_copyFrom_97 rfl ?_
  exact ⟨rfl, rfl⟩

set_option maxRecDepth 100000 in
theorem ev_flowTo_n {l : Launch} {G : GG} (hl : l.stackTraces = false) {A : AD} {g : Nat} {m : MS} {c : Nat → Int32} {h : AH} (hT : h 9 0 = some (A 9 0, .inr (7, [.ref (A 10 0)]))) {i : Nat} (hi : i < 64) :
    Ev l G 11 0 0 mX7_flowTo [.ref (A 9 0), .ref (A 0 g), .int (nI i), .int (-1)] (tk h A g m c) (Rt none (tk h A g m (flowC m c i none))) := by
  refine Ev.of hl (by decide) (Nat.le_of_ble_eq_true rfl) ?_
  refine g_iload_n (i := 3) dX7_flowTo_0 rfl rfl ?_
  refine g_iconst (v := (-1)) dX7_flowTo_1 (by decide) ?_
  refine g_icmp_eq (tgt := 21) dX7_flowTo_2 (by decide) (fun c2 => ?_) (fun c2 => ?_)
  · refine g_vret dX7_flowTo_21 rfl ?_
    exact ⟨rfl, rfl⟩
  · exact absurd rfl c2

set_option maxRecDepth 100000 in
theorem ev_flowTo_s {l : Launch} {G : GG} (hl : l.stackTraces = false) {A : AD} {g : Nat} {m : MS} {c : Nat → Int32} {h : AH} (hT : h 9 0 = some (A 9 0, .inr (7, [.ref (A 10 0)]))) {i n : Nat} (hi : i < 64) (hn : n < 64) :
    Ev l G 11 0 0 mX7_flowTo [.ref (A 9 0), .ref (A 0 g), .int (nI i), .int (nI n)] (tk h A g m c) (Rt none (tk h A g m (flowC m c i (some n)))) := by
  refine Ev.of hl (by decide) (Nat.le_of_ble_eq_true rfl) ?_
  refine g_iload_n (i := 3) dX7_flowTo_0 rfl rfl ?_
  refine g_iconst (v := (-1)) dX7_flowTo_1 (by decide) ?_
  refine g_icmp_eq (tgt := 21) dX7_flowTo_2 (by decide) (fun c2 => ?_) (fun c2 => ?_)
  · exact absurd c2 (nI_m1 hn)
  · refine g_aload_n (i := 1) dX7_flowTo_5 rfl rfl ?_
    refine g_iload_n (i := 2) dX7_flowTo_6 rfl rfl ?_
    refine g_callV (ev_isRock hl (tk_map _ _ _ _ _) (ix_nI (by omega)) hi) dX7_flowTo_7 ml_X7_49 cvX3_isRock K_X3 rfl (tk_map _ _ _ _ _).1 rfl rfl (Nat.le_of_ble_eq_true rfl) (Nat.le_of_ble_eq_true rfl) (Nat.zero_le _) (Nat.zero_le _) (kr_rt ?_) kx_rt
    refine g_if_ne (tgt := 21) dX7_flowTo_10 (by decide) (fun c10 => ?_) (fun c10 => ?_)
    · refine g_vret dX7_flowTo_21 rfl ?_
      exact ⟨rfl, by rw [flowC, if_pos (Or.inl (ite_1 c10))]⟩
    · refine g_aload_n (i := 1) dX7_flowTo_13 rfl rfl ?_
      refine g_iload_n (i := 3) dX7_flowTo_14 rfl rfl ?_
      refine g_callV (ev_isRock hl (tk_map _ _ _ _ _) (ix_nI (by omega)) hn) dX7_flowTo_15 ml_X7_49 cvX3_isRock K_X3 rfl (tk_map _ _ _ _ _).1 rfl rfl (Nat.le_of_ble_eq_true rfl) (Nat.le_of_ble_eq_true rfl) (Nat.zero_le _) (Nat.zero_le _) (kr_rt ?_) kx_rt
      refine g_if_eq (tgt := 22) dX7_flowTo_18 (by decide) (fun c18 => ?_) (fun c18 => ?_)
      · refine g_aload_n (i := 1) dX7_flowTo_22 rfl rfl ?_
        refine g_iload_n (i := 2) dX7_flowTo_23 rfl rfl ?_
        refine g_callV (ev_slownessOf hl (tk_map _ _ _ _ _) hi) dX7_flowTo_24 ml_X7_53 cvX3_slownessOf K_X3 rfl (tk_map _ _ _ _ _).1 rfl rfl (Nat.le_of_ble_eq_true rfl) (Nat.le_of_ble_eq_true rfl) (Nat.zero_le _) (Nat.zero_le _) (kr_rt ?_) kx_rt
        refine g_aload_n (i := 1) dX7_flowTo_27 rfl rfl ?_
        refine g_iload_n (i := 3) dX7_flowTo_28 rfl rfl ?_
        refine g_callV (ev_slownessOf hl (tk_map _ _ _ _ _) hn) dX7_flowTo_29 ml_X7_53 cvX3_slownessOf K_X3 rfl (tk_map _ _ _ _ _).1 rfl rfl (Nat.le_of_ble_eq_true rfl) (Nat.le_of_ble_eq_true rfl) (Nat.zero_le _) (Nat.zero_le _) (kr_rt ?_) kx_rt
        refine g_iadd dX7_flowTo_32 ?_
        refine g_istore dX7_flowTo_33 (Nat.le_of_ble_eq_true rfl) ?_
        refine g_aload_n (i := 1) dX7_flowTo_35 rfl rfl ?_
        refine g_getN dX7_flowTo_36 K_X3 (k := 1) fl_X7_46 (Nat.le_of_ble_eq_true rfl) (tk_map _ _ _ _ _).1 rfl ?_
        refine g_iload_n (i := 2) dX7_flowTo_39 rfl rfl ?_
        refine g_iald dX7_flowTo_40 (tk_map _ _ _ _ _).2.2.1 (ix_nI (by omega)) hi ?_
        refine g_aload_n (i := 1) dX7_flowTo_41 rfl rfl ?_
        refine g_getN dX7_flowTo_42 K_X3 (k := 1) fl_X7_46 (Nat.le_of_ble_eq_true rfl) (tk_map _ _ _ _ _).1 rfl ?_
        refine g_iload_n (i := 3) dX7_flowTo_45 rfl rfl ?_
        refine g_iald dX7_flowTo_46 (tk_map _ _ _ _ _).2.2.1 (ix_nI (by omega)) hn ?_
        refine g_isub dX7_flowTo_47 ?_
        refine g_iload dX7_flowTo_48 rfl ?_
        refine g_idiv dX7_flowTo_50 (slow_ne m i n) ?_
        refine g_istore dX7_flowTo_51 (Nat.le_of_ble_eq_true rfl) ?_
        refine g_aload_n (i := 0) dX7_flowTo_53 rfl rfl ?_
        refine g_getf dX7_flowTo_54 K_X7 (k := 0) fl_X7_9 (Nat.le_of_ble_eq_true rfl) (tk_9 hT _ _ _) rfl ?_
        refine g_iload_n (i := 2) dX7_flowTo_57 rfl rfl ?_
        refine g_dup2 dX7_flowTo_58 rfl rfl ?_
        refine g_iald dX7_flowTo_59 (tk_10 _ _ _ _ _) (ix_nI (by omega)) hi ?_
        refine g_iload dX7_flowTo_60 rfl ?_
        refine g_isub dX7_flowTo_62 ?_
        refine g_iast dX7_flowTo_63 (tk_10 _ _ _ _ _) (ix_nI (by omega)) hi rfl (Go.heap (tk_c _ _ _ _ _ _) ?_)
        refine g_aload_n (i := 0) dX7_flowTo_64 rfl rfl ?_
        refine g_getf dX7_flowTo_65 K_X7 (k := 0) fl_X7_9 (Nat.le_of_ble_eq_true rfl) (tk_9 hT _ _ _) rfl ?_
        refine g_iload_n (i := 3) dX7_flowTo_68 rfl rfl ?_
        refine g_dup2 dX7_flowTo_69 rfl rfl ?_
        refine g_iald dX7_flowTo_70 (tk_10 _ _ _ _ _) (ix_nI (by omega)) hn ?_
        refine g_iload dX7_flowTo_71 rfl ?_
        refine g_iadd dX7_flowTo_73 ?_
        refine g_iast dX7_flowTo_74 (tk_10 _ _ _ _ _) (ix_nI (by omega)) hn rfl (Go.heap (tk_c _ _ _ _ _ _) ?_)
        refine g_vret dX7_flowTo_75 rfl ?_
        exact ⟨rfl, by rw [flowC, if_neg (fun q => q.elim (ite_0 c10) (ite_0 c18))]; rfl⟩
      · refine g_vret dX7_flowTo_21 rfl ?_
        exact ⟨rfl, by rw [flowC, if_pos (Or.inr (ite_1 c18))]⟩

theorem ev_flowTo {l : Launch} {G : GG} (hl : l.stackTraces = false) {A : AD} {g : Nat} {m : MS} {c : Nat → Int32} {h : AH} (hT : h 9 0 = some (A 9 0, .inr (7, [.ref (A 10 0)]))) {i : Nat} (hi : i < 64) {o : Option Nat} (ho : ∀ n, o = some n → n < 64) : Ev l G 11 0 0 mX7_flowTo [.ref (A 9 0), .ref (A 0 g), .int (nI i), .int (oI o)] (tk h A g m c) (Rt none (tk h A g m (flowC m c i o))) := by
  cases o with
  | none => exact ev_flowTo_n hl hT hi
  | some n => exact ev_flowTo_s hl hT hi (ho n rfl)
theorem nb_lt {c s n : Nat} (hc : c < 64) (h : nb c s = some n) : n < 64 := by
  unfold nb at h
  split at h <;> first | (split at h <;> first | (cases h; omega) | cases h) | cases h

set_option maxRecDepth 100000 in
theorem ev_leaveBy {l : Launch} {G : GG} (hl : l.stackTraces = false) {A : AD} {g : Nat} {m : MS} {c : Nat → Int32} {h : AH} (hT : h 9 0 = some (A 9 0, .inr (7, [.ref (A 10 0)]))) {s i : Nat} (hs : s < 4) (hi : i < 64) :
    Ev l G 11 0 0 mX7_leaveBy [.ref (A 9 0), .ref (A 0 g), .int (nI s), .int (nI i)] (tk h A g m c) (Rt none (tk h A g (mLo m (lvL m s i m.2.2.2.2.1)) (lvC m s i c))) := by
  refine Ev.of hl (by decide) (Nat.le_of_ble_eq_true rfl) ?_
  refine g_aload_n (i := 1) dX7_leaveBy_0 rfl rfl ?_
  refine g_getN dX7_leaveBy_1 K_X3 (k := 1) fl_X7_46 (Nat.le_of_ble_eq_true rfl) (tk_map _ _ _ _ _).1 rfl ?_
  refine g_iload_n (i := 3) dX7_leaveBy_4 rfl rfl ?_
  refine g_iald dX7_leaveBy_5 (tk_map _ _ _ _ _).2.2.1 (ix_nI (by omega)) hi ?_
  refine g_aload_n (i := 1) dX7_leaveBy_6 rfl rfl ?_
  refine g_getN dX7_leaveBy_7 K_X3 (k := 3) fl_X7_57 (Nat.le_of_ble_eq_true rfl) (tk_map _ _ _ _ _).1 rfl ?_
  refine g_iload_n (i := 2) dX7_leaveBy_10 rfl rfl ?_
  refine g_iald dX7_leaveBy_11 (tk_map _ _ _ _ _).2.2.2.2.1 (ix_nI (by omega)) hs ?_
  refine g_isub dX7_leaveBy_12 ?_
  refine g_istore dX7_leaveBy_13 (Nat.le_of_ble_eq_true rfl) ?_
  refine g_aload_n (i := 1) dX7_leaveBy_15 rfl rfl ?_
  refine g_iload_n (i := 3) dX7_leaveBy_16 rfl rfl ?_
  refine g_callV (ev_isRock hl (tk_map _ _ _ _ _) (ix_nI (by omega)) hi) dX7_leaveBy_17 ml_X7_49 cvX3_isRock K_X3 rfl (tk_map _ _ _ _ _).1 rfl rfl (Nat.le_of_ble_eq_true rfl) (Nat.le_of_ble_eq_true rfl) (Nat.zero_le _) (Nat.zero_le _) (kr_rt ?_) kx_rt
  refine g_if_ne (tgt := 28) dX7_leaveBy_20 (by decide) (fun c20 => ?_) (fun c20 => ?_)
  · refine g_vret dX7_leaveBy_28 rfl ?_
    exact ⟨rfl, by rw [lvL, lvC, if_pos (Or.inl (ite_1 c20)), if_pos (Or.inl (ite_1 c20))]⟩
  · refine g_iload dX7_leaveBy_23 rfl ?_
    refine g_if_gt (tgt := 29) dX7_leaveBy_25 (by decide) (fun c25 => ?_) (fun c25 => ?_)
    · refine g_iload dX7_leaveBy_29 rfl ?_
      refine g_iconst (v := 2) dX7_leaveBy_31 (by decide) ?_
      refine g_aload_n (i := 1) dX7_leaveBy_32 rfl rfl ?_
      refine g_iload_n (i := 3) dX7_leaveBy_33 rfl rfl ?_
      refine g_callV (ev_slownessOf hl (tk_map _ _ _ _ _) hi) dX7_leaveBy_34 ml_X7_53 cvX3_slownessOf K_X3 rfl (tk_map _ _ _ _ _).1 rfl rfl (Nat.le_of_ble_eq_true rfl) (Nat.le_of_ble_eq_true rfl) (Nat.zero_le _) (Nat.zero_le _) (kr_rt ?_) kx_rt
      refine g_imul dX7_leaveBy_37 ?_
      refine g_idiv dX7_leaveBy_38 (slow_ne2 m i) ?_
      refine g_istore dX7_leaveBy_39 (Nat.le_of_ble_eq_true rfl) ?_
      refine g_aload_n (i := 0) dX7_leaveBy_41 rfl rfl ?_
      refine g_getf dX7_leaveBy_42 K_X7 (k := 0) fl_X7_9 (Nat.le_of_ble_eq_true rfl) (tk_9 hT _ _ _) rfl ?_
      refine g_iload_n (i := 3) dX7_leaveBy_45 rfl rfl ?_
      refine g_dup2 dX7_leaveBy_46 rfl rfl ?_
      refine g_iald dX7_leaveBy_47 (tk_10 _ _ _ _ _) (ix_nI (by omega)) hi ?_
      refine g_iload dX7_leaveBy_48 rfl ?_
      refine g_isub dX7_leaveBy_50 ?_
      refine g_iast dX7_leaveBy_51 (tk_10 _ _ _ _ _) (ix_nI (by omega)) hi rfl (Go.heap (tk_c _ _ _ _ _ _) ?_)
      refine g_aload_n (i := 1) dX7_leaveBy_52 rfl rfl ?_
      refine g_getN dX7_leaveBy_53 K_X3 (k := 4) fl_X7_60 (Nat.le_of_ble_eq_true rfl) (tk_map _ _ _ _ _).1 rfl ?_
      refine g_iload_n (i := 2) dX7_leaveBy_56 rfl rfl ?_
      refine g_dup2 dX7_leaveBy_57 rfl rfl ?_
      refine g_iald dX7_leaveBy_58 (tk_map _ _ _ _ _).2.2.2.2.2 (ix_nI (by omega)) hs ?_
      refine g_iload dX7_leaveBy_59 rfl ?_
      refine g_iadd dX7_leaveBy_61 ?_
      refine g_iast dX7_leaveBy_62 (tk_map _ _ _ _ _).2.2.2.2.2 (ix_nI (by omega)) hs rfl (Go.heap (tk_lost _ _ _ _ _ _) ?_)
      refine g_vret dX7_leaveBy_63 rfl ?_
      exact ⟨rfl, by rw [lvL, lvC, if_neg (fun q => q.elim (ite_0 c20) (Int32.not_le.mpr c25)), if_neg (fun q => q.elim (ite_0 c20) (Int32.not_le.mpr c25))]; rfl⟩
    · refine g_vret dX7_leaveBy_28 rfl ?_
      exact ⟨rfl, by rw [lvL, lvC, if_pos (Or.inr (Int32.not_lt.mp c25)), if_pos (Or.inr (Int32.not_lt.mp c25))]⟩

