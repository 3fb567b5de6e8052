/-! Legend (by wip/whole/gen/m8.py). -/
theorem up_ne (h : AH) {s g s' g' : Nat} (c : Nat × AC) (n : ¬ (s' = s ∧ g' = g)) : up h s g c s' g' = h s' g' := by
  simp only [up]
  split
  · split
    · exact absurd ⟨by assumption, by assumption⟩ n
    · rfl
  · rfl
theorem nI_dec (k : Nat) : nI (k + 1) + (-1) = nI k := by rw [nI_succ, Int32.add_assoc]; exact Int32.add_zero _
theorem nI_m (k : Nat) : nI (k + 1) - 1 = nI k := by rw [Int32.sub_eq_add_neg]; exact nI_dec k
theorem nI_p {k : Nat} (h : 1 ≤ k) : nI k - 1 = nI (k - 1) := by
  obtain ⟨q, rfl⟩ : ∃ q, k = q + 1 := ⟨k - 1, by omega⟩
  exact nI_m q
theorem va_nI (f : Nat → Nat) (i v : Nat) : va_up (fun k => nI (f k)) i (nI v) = fun k => nI (va_up f i v k) := by
  funext k
  by_cases e : k = i
  · subst e; simp [va_up]
  · simp [va_up, e]
/-- cells, heats, begins, table, count, drawn -/
abbrev LgS : Type := (Nat → Int32) × (Nat → Int32) × (Nat → Nat) × (Nat → Nat → Int32) × Nat × Nat
def lgO (A : AD) (n d : Nat) : Nat × AC := (A 15 0, .inr (5, [.ref (A 16 0), .ref (A 17 0), .ref (A 18 0), .ref (A 19 0), .int (nI n), .int (nI d)]))
def lgT (A : AD) : Nat × AC := (A 19 0, .inl (8, 7, .inr (.inr (.inr (.inr (fun i => some (A 20 i)))))))
def lgd (h : AH) (A : AD) (S : LgS) : AH := fun s g =>
  if s = 15 ∧ g = 0 then some (lgO A S.2.2.2.2.1 S.2.2.2.2.2) else if s = 16 ∧ g = 0 then some (iArr (A 16 0) 64 S.1) else if s = 17 ∧ g = 0 then some (iArr (A 17 0) 64 S.2.1) else
  if s = 18 ∧ g = 0 then some (iArr (A 18 0) 7 (fun k => nI (S.2.2.1 k))) else if s = 19 ∧ g = 0 then some (lgT A) else if s = 20 ∧ g < 7 then some (iArr (A 20 g) 65 (S.2.2.2.1 g)) else h s g
def tUp (T : Nat → Nat → Int32) (r i : Nat) (v : Int32) : Nat → Nat → Int32 := fun g => if g = r then va_up (T r) i v else T g
section LG
variable {h : AH} {A : AD} {S : LgS}
theorem lgd_15 : lgd h A S 15 0 = some (lgO A S.2.2.2.2.1 S.2.2.2.2.2) := rfl
theorem lgd_16 : lgd h A S 16 0 = some (iArr (A 16 0) 64 S.1) := rfl
theorem lgd_17 : lgd h A S 17 0 = some (iArr (A 17 0) 64 S.2.1) := rfl
theorem lgd_18 : lgd h A S 18 0 = some (iArr (A 18 0) 7 (fun k => nI (S.2.2.1 k))) := rfl
theorem lgd_19 : lgd h A S 19 0 = some (lgT A) := rfl
theorem lgd_20 {r : Nat} (hr : r < 7) : lgd h A S 20 r = some (iArr (A 20 r) 65 (S.2.2.2.1 r)) := by simp [lgd, hr]
theorem lgd_lo {s g : Nat} (hs : s < 15) : lgd h A S s g = h s g := by
  simp only [lgd]
  rw [if_neg (by omega), if_neg (by omega), if_neg (by omega), if_neg (by omega), if_neg (by omega), if_neg (by omega)]
theorem lgd_hi {s g : Nat} (hs : 20 < s) : lgd h A S s g = h s g := by
  simp only [lgd]
  rw [if_neg (by omega), if_neg (by omega), if_neg (by omega), if_neg (by omega), if_neg (by omega), if_neg (by omega)]
theorem lgd_map {g : Nat} {m : MS} (H : isMap h A g m) : isMap (lgd h A S) A g m := by
  obtain ⟨h0, h1, h2, h3, h4, h5⟩ := H
  exact ⟨(lgd_lo (by decide)).trans h0, (lgd_lo (by decide)).trans h1, (lgd_lo (by decide)).trans h2, (lgd_lo (by decide)).trans h3, (lgd_lo (by decide)).trans h4, (lgd_lo (by decide)).trans h5⟩
theorem lgd_o {n d : Nat} : up (lgd h A S) 15 0 (lgO A n d) = lgd h A (S.1, S.2.1, S.2.2.1, S.2.2.2.1, n, d) := by
  funext s g
  by_cases e : s = 15 ∧ g = 0
  · obtain ⟨rfl, rfl⟩ := e
    rw [up_same]
    rfl
  · rw [up_ne _ _ e]
    simp only [lgd, if_neg e]
theorem lgd_c {f : Nat → Int32} : up (lgd h A S) 16 0 (iArr (A 16 0) 64 f) = lgd h A (f, S.2) := by
  funext s g
  by_cases e : s = 16 ∧ g = 0
  · obtain ⟨rfl, rfl⟩ := e
    rw [up_same]
    rfl
  · rw [up_ne _ _ e]
    simp only [lgd, if_neg e]
theorem lgd_h {f : Nat → Int32} : up (lgd h A S) 17 0 (iArr (A 17 0) 64 f) = lgd h A (S.1, f, S.2.2) := by
  funext s g
  by_cases e : s = 17 ∧ g = 0
  · obtain ⟨rfl, rfl⟩ := e
    rw [up_same]
    rfl
  · rw [up_ne _ _ e]
    simp only [lgd, if_neg e]
theorem lgd_b {i v : Nat} : up (lgd h A S) 18 0 (iArr (A 18 0) 7 (va_up (fun k => nI (S.2.2.1 k)) i (nI v))) = lgd h A (S.1, S.2.1, va_up S.2.2.1 i v, S.2.2.2) := by
  funext s g
  by_cases e : s = 18 ∧ g = 0
  · obtain ⟨rfl, rfl⟩ := e
    rw [up_same]
    rw [va_nI]; rfl
  · rw [up_ne _ _ e]
    simp only [lgd, if_neg e]
theorem lgd_t {r i : Nat} {v : Int32} (hr : r < 7) : up (lgd h A S) 20 r (iArr (A 20 r) 65 (va_up (S.2.2.2.1 r) i v)) = lgd h A (S.1, S.2.1, S.2.2.1, tUp S.2.2.2.1 r i v, S.2.2.2.2) := by
  funext s g
  by_cases e : s = 20 ∧ g = r
  · obtain ⟨rfl, rfl⟩ := e
    rw [up_same, lgd_20 hr]
    simp [tUp]
  · rw [up_ne _ _ e]
    simp only [lgd]
    by_cases e2 : s = 20 ∧ g < 7
    · have : g ≠ r := fun q => e ⟨e2.1, q⟩
      simp [tUp, this, e2]
    · simp only [if_neg e2]
end LG
/-- the place found, from p down -/
def shS (v c : Int32) : Nat → (Nat → Int32) × (Nat → Int32) → (Nat → Int32) × (Nat → Int32)
  | 0, S => (va_up S.1 0 c, va_up S.2 0 v)
  | p + 1, S => if v < S.2 p then shS v c p (va_up S.1 (p + 1) (S.1 p), va_up S.2 (p + 1) (S.2 p)) else (va_up S.1 (p + 1) c, va_up S.2 (p + 1) v)
def insS (c : Nat) (v : Int32) (S : LgS) : LgS :=
  if S.2.2.2.2.1 < 64 then ((shS v (nI c) S.2.2.2.2.1 (S.1, S.2.1)).1, (shS v (nI c) S.2.2.2.2.1 (S.1, S.2.1)).2, S.2.2.1, S.2.2.2.1, S.2.2.2.2.1 + 1, S.2.2.2.2.2) else S
theorem insS_le {c : Nat} {v : Int32} {S : LgS} {k : Nat} (h : S.2.2.2.2.1 ≤ k) : (insS c v S).2.2.2.2.1 ≤ k + 1 := by
  unfold insS
  split
  · show S.2.2.2.2.1 + 1 ≤ _; omega
  · omega
theorem insS_le64 {c : Nat} {v : Int32} {S : LgS} (h : S.2.2.2.2.1 ≤ 64) : (insS c v S).2.2.2.2.1 ≤ 64 := by
  unfold insS
  split
  · show S.2.2.2.2.1 + 1 ≤ _; omega
  · omega
def rdS (m : MS) (S : LgS) : Nat → LgS
  | 0 => (S.1, S.2.1, S.2.2.1, S.2.2.2.1, 0, S.2.2.2.2.2)
  | k + 1 => if m.1 k = 35 then rdS m S k else insS k (m.2.1 k) (rdS m S k)
theorem rdS_le {m : MS} {S : LgS} : ∀ k, (rdS m S k).2.2.2.2.1 ≤ k
  | 0 => Nat.le_refl _
  | k + 1 => by
    rw [rdS]
    split
    · exact Nat.le_succ_of_le (rdS_le k)
    · exact insS_le (rdS_le k)
theorem insS_rest {c : Nat} {v : Int32} {S : LgS} : (insS c v S).2.2.1 = S.2.2.1 ∧ (insS c v S).2.2.2.1 = S.2.2.2.1 ∧ (insS c v S).2.2.2.2.2 = S.2.2.2.2.2 := by
  unfold insS
  split <;> exact ⟨rfl, rfl, rfl⟩
theorem rdS_rest {m : MS} {S : LgS} : ∀ k, (rdS m S k).2.2.1 = S.2.2.1 ∧ (rdS m S k).2.2.2.1 = S.2.2.2.1 ∧ (rdS m S k).2.2.2.2.2 = S.2.2.2.2.2
  | 0 => ⟨rfl, rfl, rfl⟩
  | k + 1 => by
    rw [rdS]
    split
    · exact rdS_rest k
    · exact ⟨insS_rest.1.trans (rdS_rest k).1, insS_rest.2.1.trans (rdS_rest k).2.1, insS_rest.2.2.trans (rdS_rest k).2.2⟩
/-- the greatest gap of the places 1 to k that aren't marked -/
def gpN (H : Nat → Int32) (K : Int64) : Nat → Nat × Int32
  | 0 => (0, -1)
  | k + 1 => if (gpN H K k).2 < H (k + 1) - H k ∧ ¬ inJ K (nI (k + 1)) then (k + 1, H (k + 1) - H k) else gpN H K k
theorem gpN_le {H : Nat → Int32} {K : Int64} : ∀ k, (gpN H K k).1 ≤ k
  | 0 => Nat.le_refl _
  | k + 1 => by
    rw [gpN]
    split
    · exact Nat.le_refl _
    · exact Nat.le_succ_of_le (gpN_le k)
def mkN (H : Nat → Int32) (n : Nat) : Nat → Int64
  | 0 => bitJ 0
  | q + 1 => mkN H n q ||| bitJ (nI (gpN H (mkN H n q) (n - 1)).1)
/-- the begins, j places from p on; how many -/
def drN (K : Int64) : Nat → Nat → (Nat → Nat) → Nat → (Nat → Nat) × Nat
  | 0, _, b, d => (b, d)
  | j + 1, p, b, d => if d < 6 then (if inJ K (nI p) then drN K j (p + 1) (va_up b d p) (d + 1) else drN K j (p + 1) b d) else (b, d)
theorem drN_le {K : Int64} : ∀ j p b d, d ≤ 6 → (drN K j p b d).2 ≤ 6
  | 0, _, _, _, h => h
  | j + 1, p, b, d, h => by
    rw [drN]
    split
    · split
      · exact drN_le j _ _ _ (by omega)
      · exact drN_le j _ _ _ h
    · exact h
def drS (c : Nat) (S : LgS) : LgS :=
  (S.1, S.2.1, va_up (drN (mkN S.2.1 S.2.2.2.2.1 (c - 1)) S.2.2.2.2.1 0 S.2.2.1 0).1 (drN (mkN S.2.1 S.2.2.2.2.1 (c - 1)) S.2.2.2.2.1 0 S.2.2.1 0).2 S.2.2.2.2.1, S.2.2.2.1, S.2.2.2.2.1, (drN (mkN S.2.1 S.2.2.2.2.1 (c - 1)) S.2.2.2.2.1 0 S.2.2.1 0).2)
def drwS (m : MS) (c : Nat) (S : LgS) : LgS := drS c (rdS m S 64)
def lgOk (S : LgS) : Prop := S.2.2.2.2.2 ≤ 6 ∧ S.2.2.2.2.1 ≤ 64 ∧ ∀ q, q < S.2.2.2.2.2 → S.2.2.1 q < 64 ∧ 1 ≤ S.2.2.1 (q + 1) ∧ S.2.2.1 (q + 1) ≤ 64
def smH (S : LgS) (q : Nat) : Int32 := if q < S.2.2.2.2.2 then S.2.1 (S.2.2.1 q) else 0
def grH (S : LgS) (q : Nat) : Int32 := if q < S.2.2.2.2.2 then S.2.1 (S.2.2.1 (q + 1) - 1) else 0
def spN (S : LgS) : Nat → Int32
  | 0 => 0
  | k + 1 => spN S k + (grH S k - smH S k)
/-- a cell's class among the places i to i + j of class q -/
def inCl (C : Nat → Int32) (c : Int32) : Nat → Nat → Bool
  | 0, _ => false
  | j + 1, i => if C i = c then true else inCl C c j (i + 1)
def clN (S : LgS) (c : Int32) : Nat → Nat → Nat
  | 0, _ => 0
  | j + 1, q => if inCl S.1 c (S.2.2.1 (q + 1) - S.2.2.1 q) (S.2.2.1 q) = true then q else clN S c j (q + 1)
/-- the table -/
def t1N (H : Nat → Int32) (T : Nat → Nat → Int32) : Nat → Nat → Nat → Int32
  | 0 => T
  | k + 1 => tUp (t1N H T k) 1 (k + 1) (H k - H 0)
def ssN (H R : Nat → Int32) (s : Nat) : Nat → Nat → Int32 → Int32
  | 0, _, x => x
  | j + 1, q, x => ssN H R s j (q + 1) (if R q + H s - H q < x then R q + H s - H q else x)
/-- the smallest spread of r + 1 classes of the s + 1 coolest, from the row R of r -/
def ssJ (H R : Nat → Int32) (r s : Nat) : Int32 := ssN H R s (s - r) r (R s)
def trN (H : Nat → Int32) (r : Nat) : Nat → Nat → (Nat → Nat → Int32) → (Nat → Nat → Int32)
  | 0, _, T => T
  | j + 1, s, T => trN H r j (s + 1) (tUp T (r + 1) (s + 1) (ssJ H (T r) r s))
def taN (H : Nat → Int32) (n : Nat) : Nat → Nat → (Nat → Nat → Int32) → (Nat → Nat → Int32)
  | 0, _, T => T
  | j + 1, r, T => taN H n j (r + 1) (trN H r (n - r) r T)
def tabT (S : LgS) (c : Nat) : Nat → Nat → Int32 := taN S.2.1 S.2.2.2.2.1 (c - 1) 1 (t1N S.2.1 S.2.2.2.1 S.2.2.2.2.1)
def tabS (m : MS) (c : Nat) (S : LgS) : LgS := ((rdS m S 64).1, (rdS m S 64).2.1, (rdS m S 64).2.2.1, tabT (rdS m S 64) c, (rdS m S 64).2.2.2.2)

set_option maxRecDepth 100000 in
theorem ev_insert {l : Launch} {G : GG} (hl : l.stackTraces = false) {A : AD} {h : AH} {S : LgS} (hS : S.2.2.2.2.1 ≤ 64) {c : Nat} {v : Int32} :
    Ev l G 10 0 0 mX5_insert [.ref (A 15 0), .int (nI c), .int v] (lgd h A S) (Rt none (lgd h A (insS c v S))) := by
  refine Ev.of hl (by decide) (Nat.le_of_ble_eq_true rfl) ?_
  obtain ⟨C, H, b, T, n, d⟩ := S
  have hS : n ≤ 64 := hS
  have loop : ∀ (p : Nat) (C H : Nat → Int32), p < 64 → Go l G mX5_insert 10 0 0 (Rt none (lgd h A ((shS v (nI c) p (C, H)).1, (shS v (nI c) p (C, H)).2, b, T, n + 1, d))) 15 [some (.ref (A 15 0)), some (.int (nI c)), some (.int v), some (.int (nI p))] [] (lgd h A (C, H, b, T, n, d)) := by
    intro p
    induction p with
    | zero =>
      intro C H hp
      refine g_iload_n (i := 3) dX5_insert_15 rfl rfl ?_
      refine g_if_le (tgt := 65) dX5_insert_16 (by decide) (fun c16 => ?_) (fun c16 => ?_)
      · refine g_aload_n (i := 0) dX5_insert_65 rfl rfl ?_
        refine g_getf dX5_insert_66 K_X5 (k := 1) fl_X5_15 (Nat.le_of_ble_eq_true rfl) lgd_15 rfl ?_
        refine g_iload_n (i := 3) dX5_insert_69 rfl rfl ?_
        refine g_iload_n (i := 2) dX5_insert_70 rfl rfl ?_
        refine g_iast dX5_insert_71 lgd_17 (ix_nI (by omega)) (by omega) rfl (Go.heap lgd_h ?_)
        refine g_aload_n (i := 0) dX5_insert_72 rfl rfl ?_
        refine g_getf dX5_insert_73 K_X5 (k := 0) fl_X5_9 (Nat.le_of_ble_eq_true rfl) lgd_15 rfl ?_
        refine g_iload_n (i := 3) dX5_insert_76 rfl rfl ?_
        refine g_iload_n (i := 1) dX5_insert_77 rfl rfl ?_
        refine g_iast dX5_insert_78 lgd_16 (ix_nI (by omega)) (by omega) rfl (Go.heap lgd_c ?_)
        refine g_aload_n (i := 0) dX5_insert_79 rfl rfl ?_
        refine g_dup dX5_insert_80 rfl ?_
        refine g_getf dX5_insert_81 K_X5 (k := 4) fl_X5_26 (Nat.le_of_ble_eq_true rfl) lgd_15 rfl ?_
        refine g_iconst (v := 1) dX5_insert_84 (by decide) ?_
        refine g_iadd dX5_insert_85 ?_
        rw [← nI_succ]
        refine g_putf dX5_insert_86 K_X5 (k := 4) fl_X5_26 (Nat.le_of_ble_eq_true rfl) rfl lgd_15 (Nat.le_of_ble_eq_true rfl) rfl rfl (Go.heap lgd_o ?_)
        refine g_vret dX5_insert_89 rfl ?_
        exact ⟨rfl, rfl⟩
      · exact absurd ((nI_le' (a := 0) (b := 0) rfl (by omega) (by omega)).mpr (by omega)) c16
    | succ p ih =>
      intro C H hp
      refine g_iload_n (i := 3) dX5_insert_15 rfl rfl ?_
      refine g_if_le (tgt := 65) dX5_insert_16 (by decide) (fun c16 => ?_) (fun c16 => ?_)
      · exact absurd ((nI_le' (a := p + 1) (b := 0) rfl (by omega) (by omega)).mp c16) (by omega)
      · refine g_aload_n (i := 0) dX5_insert_19 rfl rfl ?_
        refine g_getf dX5_insert_20 K_X5 (k := 1) fl_X5_15 (Nat.le_of_ble_eq_true rfl) lgd_15 rfl ?_
        refine g_iload_n (i := 3) dX5_insert_23 rfl rfl ?_
        refine g_iconst (v := 1) dX5_insert_24 (by decide) ?_
        refine g_isub dX5_insert_25 ?_
        rw [nI_m]
        refine g_iald dX5_insert_26 lgd_17 (ix_nI (by omega)) (by omega) ?_
        refine g_iload_n (i := 2) dX5_insert_27 rfl rfl ?_
        refine g_icmp_le (tgt := 65) dX5_insert_28 (by decide) (fun c28 => ?_) (fun c28 => ?_)
        · refine g_aload_n (i := 0) dX5_insert_65 rfl rfl ?_
          refine g_getf dX5_insert_66 K_X5 (k := 1) fl_X5_15 (Nat.le_of_ble_eq_true rfl) lgd_15 rfl ?_
          refine g_iload_n (i := 3) dX5_insert_69 rfl rfl ?_
          refine g_iload_n (i := 2) dX5_insert_70 rfl rfl ?_
          refine g_iast dX5_insert_71 lgd_17 (ix_nI (by omega)) (by omega) rfl (Go.heap lgd_h ?_)
          refine g_aload_n (i := 0) dX5_insert_72 rfl rfl ?_
          refine g_getf dX5_insert_73 K_X5 (k := 0) fl_X5_9 (Nat.le_of_ble_eq_true rfl) lgd_15 rfl ?_
          refine g_iload_n (i := 3) dX5_insert_76 rfl rfl ?_
          refine g_iload_n (i := 1) dX5_insert_77 rfl rfl ?_
          refine g_iast dX5_insert_78 lgd_16 (ix_nI (by omega)) (by omega) rfl (Go.heap lgd_c ?_)
          refine g_aload_n (i := 0) dX5_insert_79 rfl rfl ?_
          refine g_dup dX5_insert_80 rfl ?_
          refine g_getf dX5_insert_81 K_X5 (k := 4) fl_X5_26 (Nat.le_of_ble_eq_true rfl) lgd_15 rfl ?_
          refine g_iconst (v := 1) dX5_insert_84 (by decide) ?_
          refine g_iadd dX5_insert_85 ?_
          rw [← nI_succ]
          refine g_putf dX5_insert_86 K_X5 (k := 4) fl_X5_26 (Nat.le_of_ble_eq_true rfl) rfl lgd_15 (Nat.le_of_ble_eq_true rfl) rfl rfl (Go.heap lgd_o ?_)
          refine g_vret dX5_insert_89 rfl ?_
          exact ⟨rfl, by rw [shS, if_neg (Int32.not_lt.mpr c28)]⟩
        · refine g_aload_n (i := 0) dX5_insert_31 rfl rfl ?_
          refine g_getf dX5_insert_32 K_X5 (k := 1) fl_X5_15 (Nat.le_of_ble_eq_true rfl) lgd_15 rfl ?_
          refine g_iload_n (i := 3) dX5_insert_35 rfl rfl ?_
          refine g_aload_n (i := 0) dX5_insert_36 rfl rfl ?_
          refine g_getf dX5_insert_37 K_X5 (k := 1) fl_X5_15 (Nat.le_of_ble_eq_true rfl) lgd_15 rfl ?_
          refine g_iload_n (i := 3) dX5_insert_40 rfl rfl ?_
          refine g_iconst (v := 1) dX5_insert_41 (by decide) ?_
          refine g_isub dX5_insert_42 ?_
          rw [nI_m]
          refine g_iald dX5_insert_43 lgd_17 (ix_nI (by omega)) (by omega) ?_
          refine g_iast dX5_insert_44 lgd_17 (ix_nI (by omega)) (by omega) rfl (Go.heap lgd_h ?_)
          refine g_aload_n (i := 0) dX5_insert_45 rfl rfl ?_
          refine g_getf dX5_insert_46 K_X5 (k := 0) fl_X5_9 (Nat.le_of_ble_eq_true rfl) lgd_15 rfl ?_
          refine g_iload_n (i := 3) dX5_insert_49 rfl rfl ?_
          refine g_aload_n (i := 0) dX5_insert_50 rfl rfl ?_
          refine g_getf dX5_insert_51 K_X5 (k := 0) fl_X5_9 (Nat.le_of_ble_eq_true rfl) lgd_15 rfl ?_
          refine g_iload_n (i := 3) dX5_insert_54 rfl rfl ?_
          refine g_iconst (v := 1) dX5_insert_55 (by decide) ?_
          refine g_isub dX5_insert_56 ?_
          rw [nI_m]
          refine g_iald dX5_insert_57 lgd_16 (ix_nI (by omega)) (by omega) ?_
          refine g_iast dX5_insert_58 lgd_16 (ix_nI (by omega)) (by omega) rfl (Go.heap lgd_c ?_)
          refine g_iinc (w := (-1)) dX5_insert_59 (by decide) rfl (nI_dec _) (Nat.le_of_ble_eq_true rfl) ?_
          refine g_goto (tgt := 15) dX5_insert_62 (by decide) ?_
          rw [show shS v (nI c) (p + 1) (C, H) = shS v (nI c) p (va_up C (p + 1) (C p), va_up H (p + 1) (H p)) from if_pos (Int32.not_le.mp c28)]
          exact ih _ _ (by omega)
  refine g_aload_n (i := 0) dX5_insert_0 rfl rfl ?_
  refine g_getf dX5_insert_1 K_X5 (k := 4) fl_X5_26 (Nat.le_of_ble_eq_true rfl) lgd_15 rfl ?_
  refine g_bipush (v := 64) dX5_insert_4 (by decide) ?_
  refine g_icmp_lt (tgt := 10) dX5_insert_6 (by decide) (fun c6 => ?_) (fun c6 => ?_)
  · have hn : n < 64 := (nI_lt' (a := n) (b := 64) rfl (by omega) (by omega)).mp c6
    rw [show insS c v (C, H, b, T, n, d) = ((shS v (nI c) n (C, H)).1, (shS v (nI c) n (C, H)).2, b, T, n + 1, d) from if_pos hn]
    refine g_aload_n (i := 0) dX5_insert_10 rfl rfl ?_
    refine g_getf dX5_insert_11 K_X5 (k := 4) fl_X5_26 (Nat.le_of_ble_eq_true rfl) lgd_15 rfl ?_
    refine g_istore_n (i := 3) dX5_insert_14 rfl (Nat.le_of_ble_eq_true rfl) ?_
    exact loop _ _ _ hn
  · refine g_vret dX5_insert_9 rfl ?_
    exact ⟨rfl, by rw [insS, if_neg (by have := mt (nI_lt' (a := n) (b := 64) rfl (by omega) (by omega)).mpr c6; exact this)]⟩

set_option maxRecDepth 100000 in
theorem ev_readHeats {l : Launch} {G : GG} (hl : l.stackTraces = false) {A : AD} {g : Nat} {m : MS} {h : AH} (H : isMap h A g m) {S : LgS} :
    Ev l G 11 0 0 mX5_readHeats [.ref (A 15 0), .ref (A 0 g)] (lgd h A S) (Rt none (lgd h A (rdS m S 64))) := by
  refine Ev.of hl (by decide) (Nat.le_of_ble_eq_true rfl) ?_
  have loop : ∀ (n9 : Nat) (k : Nat), 64 - k < n9 → k ≤ 64 → Go l G mX5_readHeats 11 0 0 (Rt none (lgd h A (rdS m S 64))) 7 [some (.ref (A 15 0)), some (.ref (A 0 g)), some (.int (nI k))] [] (lgd h A (rdS m S k)) := by
    intro n9
    induction n9 with
    | zero => intros; omega
    | succ n9 ih =>
      intro k hf hk
      refine g_iload_n (i := 2) dX5_readHeats_7 rfl rfl ?_
      refine g_bipush (v := 64) dX5_readHeats_8 (by decide) ?_
      refine g_icmp_ge (tgt := 38) dX5_readHeats_10 (by decide) (fun c10 => ?_) (fun c10 => ?_)
      · refine g_vret dX5_readHeats_38 rfl ?_
        exact ⟨rfl, by rw [show k = 64 by have := (le_nI (a := 64) rfl (by omega) (by omega)).mp c10; omega]⟩
      · have hk2 : k < 64 := by have := mt (le_nI (a := 64) (b := k) rfl (by omega) (by omega)).mpr c10; omega
        refine g_aload_n (i := 1) dX5_readHeats_13 rfl rfl ?_
        refine g_iload_n (i := 2) dX5_readHeats_14 rfl rfl ?_
        refine g_callV (ev_isRock hl (lgd_map H) (ix_nI (by omega)) hk2) dX5_readHeats_15 ml_X5_51 cvX3_isRock K_X3 rfl (lgd_map H).1 rfl rfl (Nat.le_of_ble_eq_true rfl) (Nat.le_of_ble_eq_true rfl) (Nat.zero_le _) (Nat.zero_le _) (kr_rt ?_) kx_rt
        refine g_if_ne (tgt := 32) dX5_readHeats_18 (by decide) (fun c18 => ?_) (fun c18 => ?_)
        · refine g_iinc (w := 1) dX5_readHeats_32 (by decide) rfl (nI_succ k).symm (Nat.le_of_ble_eq_true rfl) ?_
          refine g_goto (tgt := 7) dX5_readHeats_35 (by decide) ?_
          have z := ih (k + 1) (by omega) (by omega)
          rw [show rdS m S (k + 1) = rdS m S k from if_pos (ite_1 c18)] at z
          exact z
        · refine g_aload_n (i := 0) dX5_readHeats_21 rfl rfl ?_
          refine g_iload_n (i := 2) dX5_readHeats_22 rfl rfl ?_
          refine g_aload_n (i := 1) dX5_readHeats_23 rfl rfl ?_
          refine g_getN dX5_readHeats_24 K_X3 (k := 1) fl_X5_57 (Nat.le_of_ble_eq_true rfl) (lgd_map H).1 rfl ?_
          refine g_iload_n (i := 2) dX5_readHeats_27 rfl rfl ?_
          refine g_iald dX5_readHeats_28 (lgd_map H).2.2.1 (ix_nI (by omega)) (by omega) ?_
          refine g_callV (ev_insert hl (Nat.le_trans (rdS_le k) (by omega))) dX5_readHeats_29 ml_X5_60 cvX5_insert K_X5 rfl lgd_15 rfl rfl (Nat.le_of_ble_eq_true rfl) (Nat.le_of_ble_eq_true rfl) (Nat.zero_le _) (Nat.zero_le _) (kr_vd ?_) kx_rt
          refine g_iinc (w := 1) dX5_readHeats_32 (by decide) rfl (nI_succ k).symm (Nat.le_of_ble_eq_true rfl) ?_
          refine g_goto (tgt := 7) dX5_readHeats_35 (by decide) ?_
          have z := ih (k + 1) (by omega) (by omega)
          rw [show rdS m S (k + 1) = insS k (m.2.1 k) (rdS m S k) from if_neg (ite_0 c18)] at z
          exact z
  refine g_aload_n (i := 0) dX5_readHeats_0 rfl rfl ?_
  refine g_iconst (v := 0) dX5_readHeats_1 (by decide) ?_
  refine g_putf dX5_readHeats_2 K_X5 (k := 4) fl_X5_26 (Nat.le_of_ble_eq_true rfl) rfl lgd_15 (Nat.le_of_ble_eq_true rfl) rfl rfl (Go.heap (lgd_o (n := 0) (d := S.2.2.2.2.2)) ?_)
  refine g_iconst (v := 0) dX5_readHeats_5 (by decide) ?_
  refine g_istore_n (i := 2) dX5_readHeats_6 rfl (Nat.le_of_ble_eq_true rfl) ?_
  exact loop 65 0 (by omega) (by omega)

set_option maxRecDepth 100000 in
theorem ev_placeOfGreatestGap {l : Launch} {G : GG} (hl : l.stackTraces = false) {A : AD} {h : AH} {S : LgS} (hS : S.2.2.2.2.1 ≤ 64) {K : Int64} :
    Ev l G 11 0 0 mX5_placeOfGreatestGap [.ref (A 15 0), .long K] (lgd h A S) (Rt (some (.int (nI (gpN S.2.1 K (S.2.2.2.2.1 - 1)).1))) (lgd h A S)) := by
  refine Ev.of hl (by decide) (Nat.le_of_ble_eq_true rfl) ?_
  have loop : ∀ (n9 : Nat) (k : Nat) (X : Option Value), 64 - k < n9 → (k + 1 ≤ S.2.2.2.2.1 ∨ k = 0) → Go l G mX5_placeOfGreatestGap 11 0 0 (Rt (some (.int (nI (gpN S.2.1 K (S.2.2.2.2.1 - 1)).1))) (lgd h A S)) 8 [some (.ref (A 15 0)), some (.long K), none, some (.int (nI (gpN S.2.1 K k).1)), some (.int (gpN S.2.1 K k).2), some (.int (nI (k + 1))), X] [] (lgd h A S) := by
    intro n9
    induction n9 with
    | zero => intros; omega
    | succ n9 ih =>
      intro k X hf hk
      refine g_iload dX5_placeOfGreatestGap_8 rfl ?_
      refine g_aload_n (i := 0) dX5_placeOfGreatestGap_10 rfl rfl ?_
      refine g_getf dX5_placeOfGreatestGap_11 K_X5 (k := 4) fl_X5_26 (Nat.le_of_ble_eq_true rfl) lgd_15 rfl ?_
      refine g_icmp_ge (tgt := 65) dX5_placeOfGreatestGap_14 (by decide) (fun c14 => ?_) (fun c14 => ?_)
      · refine g_iload_n (i := 3) dX5_placeOfGreatestGap_65 rfl rfl ?_
        refine g_iret dX5_placeOfGreatestGap_66 rfl rfl ?_
        exact ⟨by rw [show S.2.2.2.2.1 - 1 = k by have := (le_nI (a := S.2.2.2.2.1) (b := k + 1) rfl (by omega) (by omega)).mp c14; omega], rfl⟩
      · have hk2 : k + 1 < S.2.2.2.2.1 := by have := mt (le_nI (a := S.2.2.2.2.1) (b := k + 1) rfl (by omega) (by omega)).mpr c14; omega
        refine g_aload_n (i := 0) dX5_placeOfGreatestGap_17 rfl rfl ?_
        refine g_getf dX5_placeOfGreatestGap_18 K_X5 (k := 1) fl_X5_15 (Nat.le_of_ble_eq_true rfl) lgd_15 rfl ?_
        refine g_iload dX5_placeOfGreatestGap_21 rfl ?_
        refine g_iald dX5_placeOfGreatestGap_23 lgd_17 (ix_nI (by omega)) (by omega) ?_
        refine g_aload_n (i := 0) dX5_placeOfGreatestGap_24 rfl rfl ?_
        refine g_getf dX5_placeOfGreatestGap_25 K_X5 (k := 1) fl_X5_15 (Nat.le_of_ble_eq_true rfl) lgd_15 rfl ?_
        refine g_iload dX5_placeOfGreatestGap_28 rfl ?_
        refine g_iconst (v := 1) dX5_placeOfGreatestGap_30 (by decide) ?_
        refine g_isub dX5_placeOfGreatestGap_31 ?_
        rw [nI_m]
        refine g_iald dX5_placeOfGreatestGap_32 lgd_17 (ix_nI (by omega)) (by omega) ?_
        refine g_isub dX5_placeOfGreatestGap_33 ?_
        refine g_istore dX5_placeOfGreatestGap_34 (Nat.le_of_ble_eq_true rfl) ?_
        refine g_iload dX5_placeOfGreatestGap_36 rfl ?_
        refine g_iload dX5_placeOfGreatestGap_38 rfl ?_
        refine g_icmp_le (tgt := 59) dX5_placeOfGreatestGap_40 (by decide) (fun c40 => ?_) (fun c40 => ?_)
        · refine g_iinc (w := 1) dX5_placeOfGreatestGap_59 (by decide) rfl (nI_succ (k + 1)).symm (Nat.le_of_ble_eq_true rfl) ?_
          refine g_goto (tgt := 8) dX5_placeOfGreatestGap_62 (by decide) ?_
          have z := ih (k + 1) (some (.int (S.2.1 (k + 1) - S.2.1 k))) (by omega) (by omega)
          rw [show gpN S.2.1 K (k + 1) = _ from if_neg (fun q => Int32.not_lt.mpr c40 q.1)] at z
          exact z
        · refine g_lload_n (i := 1) dX5_placeOfGreatestGap_43 rfl rfl ?_
          refine g_iload dX5_placeOfGreatestGap_44 rfl ?_
          refine g_callS (ev_isIn hl) dX5_placeOfGreatestGap_46 ml_X5_47 csX6_isIn rfl rfl (Nat.le_of_ble_eq_true rfl) (Nat.le_of_ble_eq_true rfl) (Nat.zero_le _) (Nat.zero_le _) (kr_rt ?_) kx_rt
          refine g_if_ne (tgt := 59) dX5_placeOfGreatestGap_49 (by decide) (fun c49 => ?_) (fun c49 => ?_)
          · refine g_iinc (w := 1) dX5_placeOfGreatestGap_59 (by decide) rfl (nI_succ (k + 1)).symm (Nat.le_of_ble_eq_true rfl) ?_
            refine g_goto (tgt := 8) dX5_placeOfGreatestGap_62 (by decide) ?_
            have z := ih (k + 1) (some (.int (S.2.1 (k + 1) - S.2.1 k))) (by omega) (by omega)
            rw [show gpN S.2.1 K (k + 1) = _ from if_neg (fun q => q.2 (ite_1 c49))] at z
            exact z
          · refine g_iload dX5_placeOfGreatestGap_52 rfl ?_
            refine g_istore_n (i := 3) dX5_placeOfGreatestGap_54 rfl (Nat.le_of_ble_eq_true rfl) ?_
            refine g_iload dX5_placeOfGreatestGap_55 rfl ?_
            refine g_istore dX5_placeOfGreatestGap_57 (Nat.le_of_ble_eq_true rfl) ?_
            refine g_iinc (w := 1) dX5_placeOfGreatestGap_59 (by decide) rfl (nI_succ (k + 1)).symm (Nat.le_of_ble_eq_true rfl) ?_
            refine g_goto (tgt := 8) dX5_placeOfGreatestGap_62 (by decide) ?_
            have z := ih (k + 1) (some (.int (S.2.1 (k + 1) - S.2.1 k))) (by omega) (by omega)
            rw [show gpN S.2.1 K (k + 1) = _ from if_pos ⟨Int32.not_le.mp c40, ite_0 c49⟩] at z
            exact z
  refine g_iconst (v := 0) dX5_placeOfGreatestGap_0 (by decide) ?_
  refine g_istore_n (i := 3) dX5_placeOfGreatestGap_1 rfl (Nat.le_of_ble_eq_true rfl) ?_
  refine g_iconst (v := (-1)) dX5_placeOfGreatestGap_2 (by decide) ?_
  refine g_istore dX5_placeOfGreatestGap_3 (Nat.le_of_ble_eq_true rfl) ?_
  refine g_iconst (v := 1) dX5_placeOfGreatestGap_5 (by decide) ?_
  refine g_istore dX5_placeOfGreatestGap_6 (Nat.le_of_ble_eq_true rfl) ?_
  exact loop 65 0 _ (by omega) (Or.inr rfl)

set_option maxRecDepth 100000 in
theorem ev_draw {l : Launch} {G : GG} (hl : l.stackTraces = false) {A : AD} {g : Nat} {m : MS} {h : AH} (HM : isMap h A g m) {S : LgS} {c : Nat} (hc1 : 1 ≤ c) (hc : c ≤ 64) :
    Ev l G 12 0 0 mX5_draw [.ref (A 15 0), .ref (A 0 g), .int (nI c)] (lgd h A S) (Rt none (lgd h A (drwS m c S))) := by
  refine Ev.of hl (by decide) (Nat.le_of_ble_eq_true rfl) ?_
  have loopB : ∀ (C H : Nat → Int32) (T : Nat → Nat → Int32) (n : Nat) (K : Int64), n ≤ 64 → ∀ (j : Nat) (p : Nat) (b : Nat → Nat) (d : Nat), p + j = n → d ≤ 6 → Go l G mX5_draw 12 0 0 (Rt none (lgd h A (C, H, va_up (drN K j p b d).1 (drN K j p b d).2 n, T, n, (drN K j p b d).2))) 44 [some (.ref (A 15 0)), some (.ref (A 0 g)), some (.int (nI c)), some (.long K), none, some (.int (nI p))] [] (lgd h A (C, H, b, T, n, d)) := by
    intro C H T n K hn
    have loop : ∀ (j : Nat) (p : Nat) (b : Nat → Nat) (d : Nat), p + j = n → d ≤ 6 → Go l G mX5_draw 12 0 0 (Rt none (lgd h A (C, H, va_up (drN K j p b d).1 (drN K j p b d).2 n, T, n, (drN K j p b d).2))) 44 [some (.ref (A 15 0)), some (.ref (A 0 g)), some (.int (nI c)), some (.long K), none, some (.int (nI p))] [] (lgd h A (C, H, b, T, n, d)) := by
      intro j
      induction j with
      | zero =>
        intro p b d hp hd
        refine g_iload dX5_draw_44 rfl ?_
        refine g_aload_n (i := 0) dX5_draw_46 rfl rfl ?_
        refine g_getf dX5_draw_47 K_X5 (k := 4) fl_X5_26 (Nat.le_of_ble_eq_true rfl) lgd_15 rfl ?_
        refine g_icmp_ge (tgt := 98) dX5_draw_50 (by decide) (fun c50 => ?_) (fun c50 => ?_)
        · refine g_aload_n (i := 0) dX5_draw_98 rfl rfl ?_
          refine g_getf dX5_draw_99 K_X5 (k := 2) fl_X5_18 (Nat.le_of_ble_eq_true rfl) lgd_15 rfl ?_
          refine g_aload_n (i := 0) dX5_draw_102 rfl rfl ?_
          refine g_getf dX5_draw_103 K_X5 (k := 5) fl_X5_30 (Nat.le_of_ble_eq_true rfl) lgd_15 rfl ?_
          refine g_aload_n (i := 0) dX5_draw_106 rfl rfl ?_
          refine g_getf dX5_draw_107 K_X5 (k := 4) fl_X5_26 (Nat.le_of_ble_eq_true rfl) lgd_15 rfl ?_
          refine g_iast dX5_draw_110 lgd_18 (ix_nI (j := d) (by omega)) (show d < 7 by omega) rfl (Go.heap lgd_b ?_)
          refine g_vret dX5_draw_111 rfl ?_
          exact ⟨rfl, rfl⟩
        · exact absurd ((le_nI (a := n) (b := p) rfl (by omega) (by omega)).mpr (by omega)) c50
      | succ j ih =>
        intro p b d hp hd
        refine g_iload dX5_draw_44 rfl ?_
        refine g_aload_n (i := 0) dX5_draw_46 rfl rfl ?_
        refine g_getf dX5_draw_47 K_X5 (k := 4) fl_X5_26 (Nat.le_of_ble_eq_true rfl) lgd_15 rfl ?_
        refine g_icmp_ge (tgt := 98) dX5_draw_50 (by decide) (fun c50 => ?_) (fun c50 => ?_)
        · exact absurd ((le_nI (a := n) (b := p) rfl (by omega) (by omega)).mp c50) (by omega)
        · refine g_aload_n (i := 0) dX5_draw_53 rfl rfl ?_
          refine g_getf dX5_draw_54 K_X5 (k := 5) fl_X5_30 (Nat.le_of_ble_eq_true rfl) lgd_15 rfl ?_
          refine g_bipush (v := 6) dX5_draw_57 (by decide) ?_
          refine g_icmp_ge (tgt := 98) dX5_draw_59 (by decide) (fun c59 => ?_) (fun c59 => ?_)
          · refine g_aload_n (i := 0) dX5_draw_98 rfl rfl ?_
            refine g_getf dX5_draw_99 K_X5 (k := 2) fl_X5_18 (Nat.le_of_ble_eq_true rfl) lgd_15 rfl ?_
            refine g_aload_n (i := 0) dX5_draw_102 rfl rfl ?_
            refine g_getf dX5_draw_103 K_X5 (k := 5) fl_X5_30 (Nat.le_of_ble_eq_true rfl) lgd_15 rfl ?_
            refine g_aload_n (i := 0) dX5_draw_106 rfl rfl ?_
            refine g_getf dX5_draw_107 K_X5 (k := 4) fl_X5_26 (Nat.le_of_ble_eq_true rfl) lgd_15 rfl ?_
            refine g_iast dX5_draw_110 lgd_18 (ix_nI (j := d) (by omega)) (show d < 7 by omega) rfl (Go.heap lgd_b ?_)
            refine g_vret dX5_draw_111 rfl ?_
            exact ⟨rfl, by rw [show drN K (j + 1) p b d = (b, d) from if_neg (by have := (le_nI (a := 6) (b := d) rfl (by omega) (by omega)).mp c59; omega)]⟩
          · have hd6 : d < 6 := by have := mt (le_nI (a := 6) (b := d) rfl (by omega) (by omega)).mpr c59; omega
            refine g_lload_n (i := 3) dX5_draw_62 rfl rfl ?_
            refine g_iload dX5_draw_63 rfl ?_
            refine g_callS (ev_isIn hl) dX5_draw_65 ml_X5_47 csX6_isIn rfl rfl (Nat.le_of_ble_eq_true rfl) (Nat.le_of_ble_eq_true rfl) (Nat.zero_le _) (Nat.zero_le _) (kr_rt ?_) kx_rt
            refine g_if_eq (tgt := 92) dX5_draw_68 (by decide) (fun c68 => ?_) (fun c68 => ?_)
            · refine g_iinc (w := 1) dX5_draw_92 (by decide) rfl (nI_succ p).symm (Nat.le_of_ble_eq_true rfl) ?_
              refine g_goto (tgt := 44) dX5_draw_95 (by decide) ?_
              rw [show drN K (j + 1) p b d = drN K j (p + 1) b d from (if_pos hd6).trans (if_neg (ite_0 c68))]
              exact ih (p + 1) _ _ (by omega) (by omega)
            · refine g_aload_n (i := 0) dX5_draw_71 rfl rfl ?_
              refine g_getf dX5_draw_72 K_X5 (k := 2) fl_X5_18 (Nat.le_of_ble_eq_true rfl) lgd_15 rfl ?_
              refine g_aload_n (i := 0) dX5_draw_75 rfl rfl ?_
              refine g_getf dX5_draw_76 K_X5 (k := 5) fl_X5_30 (Nat.le_of_ble_eq_true rfl) lgd_15 rfl ?_
              refine g_iload dX5_draw_79 rfl ?_
              refine g_iast dX5_draw_81 lgd_18 (ix_nI (j := d) (by omega)) (show d < 7 by omega) rfl (Go.heap lgd_b ?_)
              refine g_aload_n (i := 0) dX5_draw_82 rfl rfl ?_
              refine g_dup dX5_draw_83 rfl ?_
              refine g_getf dX5_draw_84 K_X5 (k := 5) fl_X5_30 (Nat.le_of_ble_eq_true rfl) lgd_15 rfl ?_
              refine g_iconst (v := 1) dX5_draw_87 (by decide) ?_
              refine g_iadd dX5_draw_88 ?_
              rw [← nI_succ]
              refine g_putf dX5_draw_89 K_X5 (k := 5) fl_X5_30 (Nat.le_of_ble_eq_true rfl) rfl lgd_15 (Nat.le_of_ble_eq_true rfl) rfl rfl (Go.heap lgd_o ?_)
              refine g_iinc (w := 1) dX5_draw_92 (by decide) rfl (nI_succ p).symm (Nat.le_of_ble_eq_true rfl) ?_
              refine g_goto (tgt := 44) dX5_draw_95 (by decide) ?_
              rw [show drN K (j + 1) p b d = drN K j (p + 1) (va_up b d p) (d + 1) from (if_pos hd6).trans (if_pos (ite_1 c68))]
              exact ih (p + 1) _ _ (by omega) (by omega)
    exact loop
  have loopC : ∀ (C H : Nat → Int32) (b : Nat → Nat) (T : Nat → Nat → Int32) (n d : Nat), n ≤ 64 → ∀ (n9 : Nat) (k : Nat), c - k < n9 → k + 1 ≤ c → Go l G mX5_draw 12 0 0 (Rt none (lgd h A (drS c (C, H, b, T, n, d)))) 13 [some (.ref (A 15 0)), some (.ref (A 0 g)), some (.int (nI c)), some (.long (mkN H n k)), none, some (.int (nI (k + 1)))] [] (lgd h A (C, H, b, T, n, d)) := by
    intro C H b T n d hn
    have loopA : ∀ (n9 : Nat) (k : Nat), c - k < n9 → k + 1 ≤ c → Go l G mX5_draw 12 0 0 (Rt none (lgd h A (drS c (C, H, b, T, n, d)))) 13 [some (.ref (A 15 0)), some (.ref (A 0 g)), some (.int (nI c)), some (.long (mkN H n k)), none, some (.int (nI (k + 1)))] [] (lgd h A (C, H, b, T, n, d)) := by
      intro n9
      induction n9 with
      | zero => intros; omega
      | succ n9 ih =>
        intro k hf hk
        refine g_iload dX5_draw_13 rfl ?_
        refine g_iload_n (i := 2) dX5_draw_15 rfl rfl ?_
        refine g_icmp_ge (tgt := 36) dX5_draw_16 (by decide) (fun c16 => ?_) (fun c16 => ?_)
        · have hke : k = c - 1 := by have := (le_nI (a := c) (b := k + 1) rfl (by omega) (by omega)).mp c16; omega
          subst hke
          refine g_aload_n (i := 0) dX5_draw_36 rfl rfl ?_
          refine g_iconst (v := 0) dX5_draw_37 (by decide) ?_
          refine g_putf dX5_draw_38 K_X5 (k := 5) fl_X5_30 (Nat.le_of_ble_eq_true rfl) rfl lgd_15 (Nat.le_of_ble_eq_true rfl) rfl rfl (Go.heap (lgd_o (d := 0)) ?_)
          refine g_iconst (v := 0) dX5_draw_41 (by decide) ?_
          refine g_istore dX5_draw_42 (Nat.le_of_ble_eq_true rfl) ?_
          exact loopB _ _ _ _ _ hn n 0 b 0 (by omega) (by omega)
        · have hk2 : k + 1 < c := by have := mt (le_nI (a := c) (b := k + 1) rfl (by omega) (by omega)).mpr c16; omega
          refine g_lload_n (i := 3) dX5_draw_19 rfl rfl ?_
          refine g_aload_n (i := 0) dX5_draw_20 rfl rfl ?_
          refine g_lload_n (i := 3) dX5_draw_21 rfl rfl ?_
          refine g_callV (ev_placeOfGreatestGap hl hn) dX5_draw_22 ml_X5_43 cvX5_placeOfGreatestGap K_X5 rfl lgd_15 rfl rfl (Nat.le_of_ble_eq_true rfl) (Nat.le_of_ble_eq_true rfl) (Nat.zero_le _) (Nat.zero_le _) (kr_rt ?_) kx_rt
          refine g_callS (ev_bitOf hl) dX5_draw_25 ml_X5_37 csX6_bitOf rfl rfl (Nat.le_of_ble_eq_true rfl) (Nat.le_of_ble_eq_true rfl) (Nat.zero_le _) (Nat.zero_le _) (kr_rt ?_) kx_rt
          refine g_lor dX5_draw_28 ?_
          refine g_lstore_n (i := 3) dX5_draw_29 rfl (Nat.le_of_ble_eq_true rfl) ?_
          refine g_iinc (w := 1) dX5_draw_30 (by decide) rfl (nI_succ (k + 1)).symm (Nat.le_of_ble_eq_true rfl) ?_
          refine g_goto (tgt := 13) dX5_draw_33 (by decide) ?_
          exact ih (k + 1) (by omega) (by omega)
    exact loopA
  refine g_aload_n (i := 0) dX5_draw_0 rfl rfl ?_
  refine g_aload_n (i := 1) dX5_draw_1 rfl rfl ?_
  refine g_callV (ev_readHeats hl HM) dX5_draw_2 ml_X5_33 cvX5_readHeats K_X5 rfl lgd_15 rfl rfl (Nat.le_of_ble_eq_true rfl) (Nat.le_of_ble_eq_true rfl) (Nat.zero_le _) (Nat.zero_le _) (kr_vd ?_) kx_rt
  refine g_iconst (v := 0) dX5_draw_5 (by decide) ?_
  refine g_callS (ev_bitOf hl) dX5_draw_6 ml_X5_37 csX6_bitOf rfl rfl (Nat.le_of_ble_eq_true rfl) (Nat.le_of_ble_eq_true rfl) (Nat.zero_le _) (Nat.zero_le _) (kr_rt ?_) kx_rt
  refine g_lstore_n (i := 3) dX5_draw_9 rfl (Nat.le_of_ble_eq_true rfl) ?_
  refine g_iconst (v := 1) dX5_draw_10 (by decide) ?_
  refine g_istore dX5_draw_11 (Nat.le_of_ble_eq_true rfl) ?_
  exact loopC _ _ _ _ _ _ (rdS_le 64) (c + 1) 0 (by omega) (by omega)

set_option maxRecDepth 100000 in
theorem ev_isDrawn {l : Launch} {G : GG} (hl : l.stackTraces = false) {A : AD} {h : AH} {S : LgS} (hS : S.2.2.2.2.2 ≤ 6) {q : Nat} (hq : q < 64) :
    Ev l G 10 0 0 mX5_isDrawn [.ref (A 15 0), .int (nI q)] (lgd h A S) (Rt (some (.int (if q < S.2.2.2.2.2 then 1 else 0))) (lgd h A S)) := by
  refine Ev.of hl (by decide) (Nat.le_of_ble_eq_true rfl) ?_
  refine g_iload_n (i := 1) dX5_isDrawn_0 rfl rfl ?_
  refine g_if_lt (tgt := 16) dX5_isDrawn_1 (by decide) (fun c1 => ?_) (fun c1 => ?_)
  · exact absurd ((lt_nI (a := q) (b := 0) rfl (by omega) (by omega)).mp c1) (by omega)
  · refine g_iload_n (i := 1) dX5_isDrawn_4 rfl rfl ?_
    refine g_aload_n (i := 0) dX5_isDrawn_5 rfl rfl ?_
    refine g_getf dX5_isDrawn_6 K_X5 (k := 5) fl_X5_30 (Nat.le_of_ble_eq_true rfl) lgd_15 rfl ?_
    refine g_icmp_ge (tgt := 16) dX5_isDrawn_9 (by decide) (fun c9 => ?_) (fun c9 => ?_)
    · refine g_iconst (v := 0) dX5_isDrawn_16 (by decide) ?_
      refine g_iret dX5_isDrawn_17 rfl rfl ?_
      exact ⟨by rw [if_neg (by have := (le_nI (a := S.2.2.2.2.2) (b := q) rfl (by omega) (by omega)).mp c9; omega)], rfl⟩
    · refine g_iconst (v := 1) dX5_isDrawn_12 (by decide) ?_
      refine g_goto (tgt := 17) dX5_isDrawn_13 (by decide) ?_
      refine g_iret dX5_isDrawn_17 rfl rfl ?_
      exact ⟨by rw [if_pos (by have := mt (le_nI (a := S.2.2.2.2.2) (b := q) rfl (by omega) (by omega)).mpr c9; omega)], rfl⟩

set_option maxRecDepth 100000 in
theorem ev_smallestHeat {l : Launch} {G : GG} (hl : l.stackTraces = false) {A : AD} {h : AH} {S : LgS} (hS : lgOk S) {q : Nat} (hq : q < 64) :
    Ev l G 11 0 0 mX5_smallestHeat [.ref (A 15 0), .int (nI q)] (lgd h A S) (Rt (some (.int (smH S q))) (lgd h A S)) := by
  refine Ev.of hl (by decide) (Nat.le_of_ble_eq_true rfl) ?_
  refine g_aload_n (i := 0) dX5_smallestHeat_0 rfl rfl ?_
  refine g_iload_n (i := 1) dX5_smallestHeat_1 rfl rfl ?_
  refine g_callV (ev_isDrawn hl hS.1 hq) dX5_smallestHeat_2 ml_X5_64 cvX5_isDrawn K_X5 rfl lgd_15 rfl rfl (Nat.le_of_ble_eq_true rfl) (Nat.le_of_ble_eq_true rfl) (Nat.zero_le _) (Nat.zero_le _) (kr_rt ?_) kx_rt
  refine g_if_eq (tgt := 22) dX5_smallestHeat_5 (by decide) (fun c5 => ?_) (fun c5 => ?_)
  · refine g_iconst (v := 0) dX5_smallestHeat_22 (by decide) ?_
    refine g_iret dX5_smallestHeat_23 rfl rfl ?_
    exact ⟨by rw [smH, if_neg (ite_0 c5)], rfl⟩
  · refine g_aload_n (i := 0) dX5_smallestHeat_8 rfl rfl ?_
    refine g_getf dX5_smallestHeat_9 K_X5 (k := 1) fl_X5_15 (Nat.le_of_ble_eq_true rfl) lgd_15 rfl ?_
    refine g_aload_n (i := 0) dX5_smallestHeat_12 rfl rfl ?_
    refine g_getf dX5_smallestHeat_13 K_X5 (k := 2) fl_X5_18 (Nat.le_of_ble_eq_true rfl) lgd_15 rfl ?_
    refine g_iload_n (i := 1) dX5_smallestHeat_16 rfl rfl ?_
    refine g_iald dX5_smallestHeat_17 lgd_18 (ix_nI (by omega)) (Nat.lt_of_lt_of_le (ite_1 c5) (Nat.le_trans hS.1 (by decide))) ?_
    refine g_iald dX5_smallestHeat_18 lgd_17 (ix_nI (by have := (hS.2.2 q (ite_1 c5)).1; omega)) (hS.2.2 q (ite_1 c5)).1 ?_
    refine g_goto (tgt := 23) dX5_smallestHeat_19 (by decide) ?_
    refine g_iret dX5_smallestHeat_23 rfl rfl ?_
    exact ⟨by rw [smH, if_pos (ite_1 c5)], rfl⟩

set_option maxRecDepth 100000 in
theorem ev_greatestHeat {l : Launch} {G : GG} (hl : l.stackTraces = false) {A : AD} {h : AH} {S : LgS} (hS : lgOk S) {q : Nat} (hq : q < 64) :
    Ev l G 11 0 0 mX5_greatestHeat [.ref (A 15 0), .int (nI q)] (lgd h A S) (Rt (some (.int (grH S q))) (lgd h A S)) := by
  refine Ev.of hl (by decide) (Nat.le_of_ble_eq_true rfl) ?_
  refine g_aload_n (i := 0) dX5_greatestHeat_0 rfl rfl ?_
  refine g_iload_n (i := 1) dX5_greatestHeat_1 rfl rfl ?_
  refine g_callV (ev_isDrawn hl hS.1 hq) dX5_greatestHeat_2 ml_X5_64 cvX5_isDrawn K_X5 rfl lgd_15 rfl rfl (Nat.le_of_ble_eq_true rfl) (Nat.le_of_ble_eq_true rfl) (Nat.zero_le _) (Nat.zero_le _) (kr_rt ?_) kx_rt
  refine g_if_eq (tgt := 26) dX5_greatestHeat_5 (by decide) (fun c5 => ?_) (fun c5 => ?_)
  · refine g_iconst (v := 0) dX5_greatestHeat_26 (by decide) ?_
    refine g_iret dX5_greatestHeat_27 rfl rfl ?_
    exact ⟨by rw [grH, if_neg (ite_0 c5)], rfl⟩
  · refine g_aload_n (i := 0) dX5_greatestHeat_8 rfl rfl ?_
    obtain ⟨-, h1, h2⟩ := hS.2.2 q (ite_1 c5)
    have hq2 : q < 6 := Nat.lt_of_lt_of_le (ite_1 c5) hS.1
    refine g_getf dX5_greatestHeat_9 K_X5 (k := 1) fl_X5_15 (Nat.le_of_ble_eq_true rfl) lgd_15 rfl ?_
    refine g_aload_n (i := 0) dX5_greatestHeat_12 rfl rfl ?_
    refine g_getf dX5_greatestHeat_13 K_X5 (k := 2) fl_X5_18 (Nat.le_of_ble_eq_true rfl) lgd_15 rfl ?_
    refine g_iload_n (i := 1) dX5_greatestHeat_16 rfl rfl ?_
    refine g_iconst (v := 1) dX5_greatestHeat_17 (by decide) ?_
    refine g_iadd dX5_greatestHeat_18 ?_
    rw [← nI_succ]
    refine g_iald dX5_greatestHeat_19 lgd_18 (ix_nI (by omega)) (by omega) ?_
    refine g_iconst (v := 1) dX5_greatestHeat_20 (by decide) ?_
    refine g_isub dX5_greatestHeat_21 ?_
    rw [nI_p h1]
    refine g_iald dX5_greatestHeat_22 lgd_17 (ix_nI (by omega)) (by omega) ?_
    refine g_goto (tgt := 27) dX5_greatestHeat_23 (by decide) ?_
    refine g_iret dX5_greatestHeat_27 rfl rfl ?_
    exact ⟨by rw [grH, if_pos (ite_1 c5)], rfl⟩

set_option maxRecDepth 100000 in
theorem ev_spread {l : Launch} {G : GG} (hl : l.stackTraces = false) {A : AD} {h : AH} {S : LgS} (hS : lgOk S) :
    Ev l G 12 0 0 mX5_spread [.ref (A 15 0)] (lgd h A S) (Rt (some (.int (spN S S.2.2.2.2.2))) (lgd h A S)) := by
  refine Ev.of hl (by decide) (Nat.le_of_ble_eq_true rfl) ?_
  have hd := hS.1
  have loop : ∀ (n9 : Nat) (k : Nat), S.2.2.2.2.2 - k < n9 → k ≤ S.2.2.2.2.2 → Go l G mX5_spread 12 0 0 (Rt (some (.int (spN S S.2.2.2.2.2))) (lgd h A S)) 4 [some (.ref (A 15 0)), some (.int (spN S k)), some (.int (nI k))] [] (lgd h A S) := by
    intro n9
    induction n9 with
    | zero => intros; omega
    | succ n9 ih =>
      intro k hf hk
      refine g_iload_n (i := 2) dX5_spread_4 rfl rfl ?_
      refine g_aload_n (i := 0) dX5_spread_5 rfl rfl ?_
      refine g_getf dX5_spread_6 K_X5 (k := 5) fl_X5_30 (Nat.le_of_ble_eq_true rfl) lgd_15 rfl ?_
      refine g_icmp_ge (tgt := 32) dX5_spread_9 (by decide) (fun c9 => ?_) (fun c9 => ?_)
      · refine g_iload_n (i := 1) dX5_spread_32 rfl rfl ?_
        refine g_iret dX5_spread_33 rfl rfl ?_
        exact ⟨by rw [show k = S.2.2.2.2.2 by have := (le_nI (a := S.2.2.2.2.2) (b := k) rfl (by omega) (by omega)).mp c9; omega], rfl⟩
      · have hk2 : k < S.2.2.2.2.2 := by have := mt (le_nI (a := S.2.2.2.2.2) (b := k) rfl (by omega) (by omega)).mpr c9; omega
        refine g_iload_n (i := 1) dX5_spread_12 rfl rfl ?_
        refine g_aload_n (i := 0) dX5_spread_13 rfl rfl ?_
        refine g_iload_n (i := 2) dX5_spread_14 rfl rfl ?_
        refine g_callV (ev_greatestHeat hl hS (by omega)) dX5_spread_15 ml_X5_67 cvX5_greatestHeat K_X5 rfl lgd_15 rfl rfl (Nat.le_of_ble_eq_true rfl) (Nat.le_of_ble_eq_true rfl) (Nat.zero_le _) (Nat.zero_le _) (kr_rt ?_) kx_rt
        refine g_aload_n (i := 0) dX5_spread_18 rfl rfl ?_
        refine g_iload_n (i := 2) dX5_spread_19 rfl rfl ?_
        refine g_callV (ev_smallestHeat hl hS (by omega)) dX5_spread_20 ml_X5_71 cvX5_smallestHeat K_X5 rfl lgd_15 rfl rfl (Nat.le_of_ble_eq_true rfl) (Nat.le_of_ble_eq_true rfl) (Nat.zero_le _) (Nat.zero_le _) (kr_rt ?_) kx_rt
        refine g_isub dX5_spread_23 ?_
        refine g_iadd dX5_spread_24 ?_
        refine g_istore_n (i := 1) dX5_spread_25 rfl (Nat.le_of_ble_eq_true rfl) ?_
        refine g_iinc (w := 1) dX5_spread_26 (by decide) rfl (nI_succ k).symm (Nat.le_of_ble_eq_true rfl) ?_
        refine g_goto (tgt := 4) dX5_spread_29 (by decide) ?_
        exact ih (k + 1) (by omega) (by omega)
  refine g_iconst (v := 0) dX5_spread_0 (by decide) ?_
  refine g_istore_n (i := 1) dX5_spread_1 rfl (Nat.le_of_ble_eq_true rfl) ?_
  refine g_iconst (v := 0) dX5_spread_2 (by decide) ?_
  refine g_istore_n (i := 2) dX5_spread_3 rfl (Nat.le_of_ble_eq_true rfl) ?_
  exact loop (S.2.2.2.2.2 + 1) 0 (by omega) (by omega)

set_option maxRecDepth 100000 in
theorem ev_classOfCell {l : Launch} {G : GG} (hl : l.stackTraces = false) {A : AD} {h : AH} {S : LgS} (hS : lgOk S) {c : Int32} :
    Ev l G 10 0 0 mX5_classOfCell [.ref (A 15 0), .int c] (lgd h A S) (Rt (some (.int (nI (clN S c S.2.2.2.2.2 0)))) (lgd h A S)) := by
  refine Ev.of hl (by decide) (Nat.le_of_ble_eq_true rfl) ?_
  have hd := hS.1
  have innr : ∀ (q R : Nat), q < S.2.2.2.2.2 → (∀ X, Go l G mX5_classOfCell 10 0 0 (Rt (some (.int (nI R))) (lgd h A S)) 47 [some (.ref (A 15 0)), some (.int c), some (.int (nI q)), X] [] (lgd h A S)) → ∀ (j : Nat) (i : Nat), j = S.2.2.1 (q + 1) - i → i ≤ 64 → Go l G mX5_classOfCell 10 0 0 (Rt (some (.int (nI (if inCl S.1 c j i = true then q else R)))) (lgd h A S)) 17 [some (.ref (A 15 0)), some (.int c), some (.int (nI q)), some (.int (nI i))] [] (lgd h A S) := by
    intro q R hq hout
    obtain ⟨h0, h1, h2⟩ := hS.2.2 q hq
    have inner : ∀ (j : Nat) (i : Nat), j = S.2.2.1 (q + 1) - i → i ≤ 64 → Go l G mX5_classOfCell 10 0 0 (Rt (some (.int (nI (if inCl S.1 c j i = true then q else R)))) (lgd h A S)) 17 [some (.ref (A 15 0)), some (.int c), some (.int (nI q)), some (.int (nI i))] [] (lgd h A S) := by
      intro j
      induction j with
      | zero =>
        intro i hi hi2
        refine g_iload_n (i := 3) dX5_classOfCell_17 rfl rfl ?_
        refine g_aload_n (i := 0) dX5_classOfCell_18 rfl rfl ?_
        refine g_getf dX5_classOfCell_19 K_X5 (k := 2) fl_X5_18 (Nat.le_of_ble_eq_true rfl) lgd_15 rfl ?_
        refine g_iload_n (i := 2) dX5_classOfCell_22 rfl rfl ?_
        refine g_iconst (v := 1) dX5_classOfCell_23 (by decide) ?_
        refine g_iadd dX5_classOfCell_24 ?_
        rw [← nI_succ]
        refine g_iald dX5_classOfCell_25 lgd_18 (ix_nI (by omega)) (by omega) ?_
        refine g_icmp_ge (tgt := 47) dX5_classOfCell_26 (by decide) (fun c26 => ?_) (fun c26 => ?_)
        · exact hout _
        · exact absurd ((le_nI (a := S.2.2.1 (q + 1)) (b := i) rfl (by omega) (by omega)).mpr (by omega)) c26
      | succ j ih =>
        intro i hi hi2
        refine g_iload_n (i := 3) dX5_classOfCell_17 rfl rfl ?_
        refine g_aload_n (i := 0) dX5_classOfCell_18 rfl rfl ?_
        refine g_getf dX5_classOfCell_19 K_X5 (k := 2) fl_X5_18 (Nat.le_of_ble_eq_true rfl) lgd_15 rfl ?_
        refine g_iload_n (i := 2) dX5_classOfCell_22 rfl rfl ?_
        refine g_iconst (v := 1) dX5_classOfCell_23 (by decide) ?_
        refine g_iadd dX5_classOfCell_24 ?_
        rw [← nI_succ]
        refine g_iald dX5_classOfCell_25 lgd_18 (ix_nI (by omega)) (by omega) ?_
        refine g_icmp_ge (tgt := 47) dX5_classOfCell_26 (by decide) (fun c26 => ?_) (fun c26 => ?_)
        · exact absurd ((le_nI (a := S.2.2.1 (q + 1)) (b := i) rfl (by omega) (by omega)).mp c26) (by omega)
        · refine g_aload_n (i := 0) dX5_classOfCell_29 rfl rfl ?_
          refine g_getf dX5_classOfCell_30 K_X5 (k := 0) fl_X5_9 (Nat.le_of_ble_eq_true rfl) lgd_15 rfl ?_
          refine g_iload_n (i := 3) dX5_classOfCell_33 rfl rfl ?_
          refine g_iald dX5_classOfCell_34 lgd_16 (ix_nI (by omega)) (by omega) ?_
          refine g_iload_n (i := 1) dX5_classOfCell_35 rfl rfl ?_
          refine g_icmp_ne (tgt := 41) dX5_classOfCell_36 (by decide) (fun c36 => ?_) (fun c36 => ?_)
          · refine g_iinc (w := 1) dX5_classOfCell_41 (by decide) rfl (nI_succ i).symm (Nat.le_of_ble_eq_true rfl) ?_
            refine g_goto (tgt := 17) dX5_classOfCell_44 (by decide) ?_
            rw [show inCl S.1 c (j + 1) i = inCl S.1 c j (i + 1) from if_neg c36]
            exact ih (i + 1) (by omega) (by omega)
          · refine g_iload_n (i := 2) dX5_classOfCell_39 rfl rfl ?_
            refine g_iret dX5_classOfCell_40 rfl rfl ?_
            exact ⟨by rw [show inCl S.1 c (j + 1) i = true from if_pos c36]; rfl, rfl⟩
    exact inner
  have loop : ∀ (j : Nat) (q : Nat) (X : Option Value), q + j = S.2.2.2.2.2 → Go l G mX5_classOfCell 10 0 0 (Rt (some (.int (nI (clN S c j q)))) (lgd h A S)) 2 [some (.ref (A 15 0)), some (.int c), some (.int (nI q)), X] [] (lgd h A S) := by
    intro j
    induction j with
    | zero =>
      intro q X hq
      refine g_iload_n (i := 2) dX5_classOfCell_2 rfl rfl ?_
      refine g_aload_n (i := 0) dX5_classOfCell_3 rfl rfl ?_
      refine g_getf dX5_classOfCell_4 K_X5 (k := 5) fl_X5_30 (Nat.le_of_ble_eq_true rfl) lgd_15 rfl ?_
      refine g_icmp_ge (tgt := 53) dX5_classOfCell_7 (by decide) (fun c7 => ?_) (fun c7 => ?_)
      · refine g_iconst (v := 0) dX5_classOfCell_53 (by decide) ?_
        refine g_iret dX5_classOfCell_54 rfl rfl ?_
        exact ⟨rfl, rfl⟩
      · exact absurd ((le_nI (a := S.2.2.2.2.2) (b := q) rfl (by omega) (by omega)).mpr (by omega)) c7
    | succ j ih =>
      intro q X hq
      refine g_iload_n (i := 2) dX5_classOfCell_2 rfl rfl ?_
      refine g_aload_n (i := 0) dX5_classOfCell_3 rfl rfl ?_
      refine g_getf dX5_classOfCell_4 K_X5 (k := 5) fl_X5_30 (Nat.le_of_ble_eq_true rfl) lgd_15 rfl ?_
      refine g_icmp_ge (tgt := 53) dX5_classOfCell_7 (by decide) (fun c7 => ?_) (fun c7 => ?_)
      · exact absurd ((le_nI (a := S.2.2.2.2.2) (b := q) rfl (by omega) (by omega)).mp c7) (by omega)
      · refine g_aload_n (i := 0) dX5_classOfCell_10 rfl rfl ?_
        refine g_getf dX5_classOfCell_11 K_X5 (k := 2) fl_X5_18 (Nat.le_of_ble_eq_true rfl) lgd_15 rfl ?_
        refine g_iload_n (i := 2) dX5_classOfCell_14 rfl rfl ?_
        refine g_iald dX5_classOfCell_15 lgd_18 (ix_nI (by omega)) (by omega) ?_
        refine g_istore_n (i := 3) dX5_classOfCell_16 rfl (Nat.le_of_ble_eq_true rfl) ?_
        refine innr q (clN S c j (q + 1)) (by omega) (fun X => ?_) _ _ rfl (by have := (hS.2.2 q (by omega)).1; omega)
        refine g_iinc (w := 1) dX5_classOfCell_47 (by decide) rfl (nI_succ q).symm (Nat.le_of_ble_eq_true rfl) ?_
        refine g_goto (tgt := 2) dX5_classOfCell_50 (by decide) ?_
        exact ih (q + 1) _ (by omega)
  refine g_iconst (v := 0) dX5_classOfCell_0 (by decide) ?_
  refine g_istore_n (i := 2) dX5_classOfCell_1 rfl (Nat.le_of_ble_eq_true rfl) ?_
  exact loop _ 0 _ (by omega)

set_option maxRecDepth 100000 in
theorem ev_smallestSpread {l : Launch} {G : GG} (hl : l.stackTraces = false) {A : AD} {h : AH} {S : LgS} {r s : Nat} (hr : r < 7) (hs : s < 64) :
    Ev l G 11 0 0 mX5_smallestSpread [.ref (A 15 0), .int (nI (r + 1)), .int (nI (s + 1))] (lgd h A S) (Rt (some (.int (ssJ S.2.1 (S.2.2.2.1 r) r s))) (lgd h A S)) := by
  refine Ev.of hl (by decide) (Nat.le_of_ble_eq_true rfl) ?_
  have loop : ∀ (j : Nat) (q : Nat) (x : Int32) (X : Option Value), j = s - q → q ≤ 64 → Go l G mX5_smallestSpread 11 0 0 (Rt (some (.int (ssN S.2.1 (S.2.2.2.1 r) s j q x))) (lgd h A S)) 18 [some (.ref (A 15 0)), some (.int (nI (r + 1))), some (.int (nI (s + 1))), some (.int x), some (.int (nI q)), X] [] (lgd h A S) := by
    intro j
    induction j with
    | zero =>
      intro q x X hj hq
      refine g_iload dX5_smallestSpread_18 rfl ?_
      refine g_iload_n (i := 2) dX5_smallestSpread_20 rfl rfl ?_
      refine g_iconst (v := 1) dX5_smallestSpread_21 (by decide) ?_
      refine g_isub dX5_smallestSpread_22 ?_
      rw [nI_m]
      refine g_icmp_ge (tgt := 69) dX5_smallestSpread_23 (by decide) (fun c23 => ?_) (fun c23 => ?_)
      · refine g_iload_n (i := 3) dX5_smallestSpread_69 rfl rfl ?_
        refine g_iret dX5_smallestSpread_70 rfl rfl ?_
        exact ⟨rfl, rfl⟩
      · exact absurd ((le_nI (a := s) (b := q) rfl (by omega) (by omega)).mpr (by omega)) c23
    | succ j ih =>
      intro q x X hj hq
      refine g_iload dX5_smallestSpread_18 rfl ?_
      refine g_iload_n (i := 2) dX5_smallestSpread_20 rfl rfl ?_
      refine g_iconst (v := 1) dX5_smallestSpread_21 (by decide) ?_
      refine g_isub dX5_smallestSpread_22 ?_
      rw [nI_m]
      refine g_icmp_ge (tgt := 69) dX5_smallestSpread_23 (by decide) (fun c23 => ?_) (fun c23 => ?_)
      · exact absurd ((le_nI (a := s) (b := q) rfl (by omega) (by omega)).mp c23) (by omega)
      · refine g_aload_n (i := 0) dX5_smallestSpread_26 rfl rfl ?_
        refine g_getf dX5_smallestSpread_27 K_X5 (k := 3) fl_X5_23 (Nat.le_of_ble_eq_true rfl) lgd_15 rfl ?_
        refine g_iload_n (i := 1) dX5_smallestSpread_30 rfl rfl ?_
        refine g_iconst (v := 1) dX5_smallestSpread_31 (by decide) ?_
        refine g_isub dX5_smallestSpread_32 ?_
        rw [nI_m]
        refine g_aald dX5_smallestSpread_33 lgd_19 (by decide) rfl (ix_nI (by omega)) (by omega) rfl ?_
        refine g_iload dX5_smallestSpread_34 rfl ?_
        refine g_iald dX5_smallestSpread_36 (lgd_20 (by omega)) (ix_nI (by omega)) (by omega) ?_
        refine g_aload_n (i := 0) dX5_smallestSpread_37 rfl rfl ?_
        refine g_getf dX5_smallestSpread_38 K_X5 (k := 1) fl_X5_15 (Nat.le_of_ble_eq_true rfl) lgd_15 rfl ?_
        refine g_iload_n (i := 2) dX5_smallestSpread_41 rfl rfl ?_
        refine g_iconst (v := 1) dX5_smallestSpread_42 (by decide) ?_
        refine g_isub dX5_smallestSpread_43 ?_
        rw [nI_m]
        refine g_iald dX5_smallestSpread_44 lgd_17 (ix_nI (by omega)) (by omega) ?_
        refine g_iadd dX5_smallestSpread_45 ?_
        refine g_aload_n (i := 0) dX5_smallestSpread_46 rfl rfl ?_
        refine g_getf dX5_smallestSpread_47 K_X5 (k := 1) fl_X5_15 (Nat.le_of_ble_eq_true rfl) lgd_15 rfl ?_
        refine g_iload dX5_smallestSpread_50 rfl ?_
        refine g_iald dX5_smallestSpread_52 lgd_17 (ix_nI (by omega)) (by omega) ?_
        refine g_isub dX5_smallestSpread_53 ?_
        refine g_istore dX5_smallestSpread_54 (Nat.le_of_ble_eq_true rfl) ?_
        refine g_iload_n (i := 3) dX5_smallestSpread_56 rfl rfl ?_
        refine g_iload dX5_smallestSpread_57 rfl ?_
        refine g_min dX5_smallestSpread_59 ml_X5_78 w_static_yJ9_min_7cf53 w_init_java_lang_Math w_code_Math_min (Nat.le_of_ble_eq_true rfl) (Nat.le_of_ble_eq_true rfl) ?_
        refine g_istore_n (i := 3) dX5_smallestSpread_62 rfl (Nat.le_of_ble_eq_true rfl) ?_
        refine g_iinc (w := 1) dX5_smallestSpread_63 (by decide) rfl (nI_succ q).symm (Nat.le_of_ble_eq_true rfl) ?_
        refine g_goto (tgt := 18) dX5_smallestSpread_66 (by decide) ?_
        exact ih (q + 1) _ _ (by omega) (by omega)
  refine g_aload_n (i := 0) dX5_smallestSpread_0 rfl rfl ?_
  refine g_getf dX5_smallestSpread_1 K_X5 (k := 3) fl_X5_23 (Nat.le_of_ble_eq_true rfl) lgd_15 rfl ?_
  refine g_iload_n (i := 1) dX5_smallestSpread_4 rfl rfl ?_
  refine g_iconst (v := 1) dX5_smallestSpread_5 (by decide) ?_
  refine g_isub dX5_smallestSpread_6 ?_
  rw [nI_m]
  refine g_aald dX5_smallestSpread_7 lgd_19 (by decide) rfl (ix_nI (by omega)) hr rfl ?_
  refine g_iload_n (i := 2) dX5_smallestSpread_8 rfl rfl ?_
  refine g_iconst (v := 1) dX5_smallestSpread_9 (by decide) ?_
  refine g_isub dX5_smallestSpread_10 ?_
  rw [nI_m]
  refine g_iald dX5_smallestSpread_11 (lgd_20 hr) (ix_nI (by omega)) (by omega) ?_
  refine g_istore_n (i := 3) dX5_smallestSpread_12 rfl (Nat.le_of_ble_eq_true rfl) ?_
  refine g_iload_n (i := 1) dX5_smallestSpread_13 rfl rfl ?_
  refine g_iconst (v := 1) dX5_smallestSpread_14 (by decide) ?_
  refine g_isub dX5_smallestSpread_15 ?_
  rw [nI_m]
  refine g_istore dX5_smallestSpread_16 (Nat.le_of_ble_eq_true rfl) ?_
  exact loop _ r _ _ rfl (by omega)

set_option maxRecDepth 100000 in
theorem ev_findSpreadByTable {l : Launch} {G : GG} (hl : l.stackTraces = false) {A : AD} {g : Nat} {m : MS} {h : AH} (HM : isMap h A g m) {S : LgS} {c : Nat} (hc1 : 1 ≤ c) (hc : c ≤ 6) :
    Ev l G 12 0 0 mX5_findSpreadByTable [.ref (A 15 0), .ref (A 0 g), .int (nI c)] (lgd h A S) (Rt (some (.int (tabT (rdS m S 64) c c (rdS m S 64).2.2.2.2.1))) (lgd h A (tabS m c S))) := by
  refine Ev.of hl (by decide) (Nat.le_of_ble_eq_true rfl) ?_
  have innr : ∀ (C H : Nat → Int32) (b : Nat → Nat) (n d : Nat) (P0 : Post) (r : Nat), n ≤ 64 → r + 1 < 7 → ∀ (j : Nat) (s : Nat) (T : Nat → Nat → Int32), j = n - s → s ≤ 64 → (∀ X, Go l G mX5_findSpreadByTable 12 0 0 P0 85 [some (.ref (A 15 0)), some (.ref (A 0 g)), some (.int (nI c)), some (.int (nI (r + 1))), X] [] (lgd h A (C, H, b, trN H r j s T, n, d))) → Go l G mX5_findSpreadByTable 12 0 0 P0 54 [some (.ref (A 15 0)), some (.ref (A 0 g)), some (.int (nI c)), some (.int (nI (r + 1))), some (.int (nI (s + 1)))] [] (lgd h A (C, H, b, T, n, d)) := by
    intro C H b n d P0 r hn hr7
    have hr : r < 7 := by omega
    have inner : ∀ (j : Nat) (s : Nat) (T : Nat → Nat → Int32), j = n - s → s ≤ 64 → (∀ X, Go l G mX5_findSpreadByTable 12 0 0 P0 85 [some (.ref (A 15 0)), some (.ref (A 0 g)), some (.int (nI c)), some (.int (nI (r + 1))), X] [] (lgd h A (C, H, b, trN H r j s T, n, d))) → Go l G mX5_findSpreadByTable 12 0 0 P0 54 [some (.ref (A 15 0)), some (.ref (A 0 g)), some (.int (nI c)), some (.int (nI (r + 1))), some (.int (nI (s + 1)))] [] (lgd h A (C, H, b, T, n, d)) := by
      intro j
      induction j with
      | zero =>
        intro s T hj hs hout
        refine g_iload dX5_findSpreadByTable_54 rfl ?_
        refine g_aload_n (i := 0) dX5_findSpreadByTable_56 rfl rfl ?_
        refine g_getf dX5_findSpreadByTable_57 K_X5 (k := 4) fl_X5_26 (Nat.le_of_ble_eq_true rfl) lgd_15 rfl ?_
        refine g_icmp_gt (tgt := 85) dX5_findSpreadByTable_60 (by decide) (fun c60 => ?_) (fun c60 => ?_)
        · exact hout _
        · exact absurd ((lt_nI (a := n) (b := s + 1) rfl (by omega) (by omega)).mpr (by omega)) c60
      | succ j ih =>
        intro s T hj hs hout
        refine g_iload dX5_findSpreadByTable_54 rfl ?_
        refine g_aload_n (i := 0) dX5_findSpreadByTable_56 rfl rfl ?_
        refine g_getf dX5_findSpreadByTable_57 K_X5 (k := 4) fl_X5_26 (Nat.le_of_ble_eq_true rfl) lgd_15 rfl ?_
        refine g_icmp_gt (tgt := 85) dX5_findSpreadByTable_60 (by decide) (fun c60 => ?_) (fun c60 => ?_)
        · exact absurd ((lt_nI (a := n) (b := s + 1) rfl (by omega) (by omega)).mp c60) (by omega)
        · refine g_aload_n (i := 0) dX5_findSpreadByTable_63 rfl rfl ?_
          refine g_getf dX5_findSpreadByTable_64 K_X5 (k := 3) fl_X5_23 (Nat.le_of_ble_eq_true rfl) lgd_15 rfl ?_
          refine g_iload_n (i := 3) dX5_findSpreadByTable_67 rfl rfl ?_
          refine g_aald dX5_findSpreadByTable_68 lgd_19 (by decide) rfl (ix_nI (by omega)) (by omega) rfl ?_
          refine g_iload dX5_findSpreadByTable_69 rfl ?_
          refine g_aload_n (i := 0) dX5_findSpreadByTable_71 rfl rfl ?_
          refine g_iload_n (i := 3) dX5_findSpreadByTable_72 rfl rfl ?_
          refine g_iload dX5_findSpreadByTable_73 rfl ?_
          refine g_callV (ev_smallestSpread hl hr (by omega)) dX5_findSpreadByTable_75 ml_X5_74 cvX5_smallestSpread K_X5 rfl lgd_15 rfl rfl (Nat.le_of_ble_eq_true rfl) (Nat.le_of_ble_eq_true rfl) (Nat.zero_le _) (Nat.zero_le _) (kr_rt ?_) kx_rt
          refine g_iast dX5_findSpreadByTable_78 (lgd_20 (by omega)) (ix_nI (by omega)) (by omega) rfl (Go.heap (lgd_t (by omega)) ?_)
          refine g_iinc (w := 1) dX5_findSpreadByTable_79 (by decide) rfl (nI_succ (s + 1)).symm (Nat.le_of_ble_eq_true rfl) ?_
          refine g_goto (tgt := 54) dX5_findSpreadByTable_82 (by decide) ?_
          exact ih (s + 1) (tUp T (r + 1) (s + 1) (ssJ H (T r) r s)) (by omega) (by omega) hout
    exact inner
  have rowz : ∀ (C H : Nat → Int32) (b : Nat → Nat) (n d : Nat), n ≤ 64 → ∀ (j : Nat) (r : Nat) (T : Nat → Nat → Int32) (X : Option Value), r + j = c → Go l G mX5_findSpreadByTable 12 0 0 (Rt (some (.int (taN H n j r T c n))) (lgd h A (C, H, b, taN H n j r T, n, d))) 46 [some (.ref (A 15 0)), some (.ref (A 0 g)), some (.int (nI c)), some (.int (nI (r + 1))), X] [] (lgd h A (C, H, b, T, n, d)) := by
    intro C H b n d hn
    have rows : ∀ (j : Nat) (r : Nat) (T : Nat → Nat → Int32) (X : Option Value), r + j = c → Go l G mX5_findSpreadByTable 12 0 0 (Rt (some (.int (taN H n j r T c n))) (lgd h A (C, H, b, taN H n j r T, n, d))) 46 [some (.ref (A 15 0)), some (.ref (A 0 g)), some (.int (nI c)), some (.int (nI (r + 1))), X] [] (lgd h A (C, H, b, T, n, d)) := by
      intro j
      induction j with
      | zero =>
        intro r T X hr
        refine g_iload_n (i := 3) dX5_findSpreadByTable_46 rfl rfl ?_
        refine g_iload_n (i := 2) dX5_findSpreadByTable_47 rfl rfl ?_
        refine g_icmp_gt (tgt := 91) dX5_findSpreadByTable_48 (by decide) (fun c48 => ?_) (fun c48 => ?_)
        · refine g_aload_n (i := 0) dX5_findSpreadByTable_91 rfl rfl ?_
          refine g_getf dX5_findSpreadByTable_92 K_X5 (k := 3) fl_X5_23 (Nat.le_of_ble_eq_true rfl) lgd_15 rfl ?_
          refine g_iload_n (i := 2) dX5_findSpreadByTable_95 rfl rfl ?_
          refine g_aald dX5_findSpreadByTable_96 lgd_19 (by decide) rfl (ix_nI (by omega)) (by omega) rfl ?_
          refine g_aload_n (i := 0) dX5_findSpreadByTable_97 rfl rfl ?_
          refine g_getf dX5_findSpreadByTable_98 K_X5 (k := 4) fl_X5_26 (Nat.le_of_ble_eq_true rfl) lgd_15 rfl ?_
          refine g_iald dX5_findSpreadByTable_101 (lgd_20 (by omega)) (ix_nI (j := n) (by omega)) (show n < 65 by omega) ?_
          refine g_iret dX5_findSpreadByTable_102 rfl rfl ?_
          exact ⟨rfl, rfl⟩
        · exact absurd ((lt_nI (a := c) (b := r + 1) rfl (by omega) (by omega)).mpr (by omega)) c48
      | succ j ih =>
        intro r T X hr
        refine g_iload_n (i := 3) dX5_findSpreadByTable_46 rfl rfl ?_
        refine g_iload_n (i := 2) dX5_findSpreadByTable_47 rfl rfl ?_
        refine g_icmp_gt (tgt := 91) dX5_findSpreadByTable_48 (by decide) (fun c48 => ?_) (fun c48 => ?_)
        · exact absurd ((lt_nI (a := c) (b := r + 1) rfl (by omega) (by omega)).mp c48) (by omega)
        · refine g_iload_n (i := 3) dX5_findSpreadByTable_51 rfl rfl ?_
          refine g_istore dX5_findSpreadByTable_52 (Nat.le_of_ble_eq_true rfl) ?_
          refine innr _ _ _ _ _ _ r hn (by omega) _ r T rfl (by omega) (fun X => ?_)
          refine g_iinc (w := 1) dX5_findSpreadByTable_85 (by decide) rfl (nI_succ (r + 1)).symm (Nat.le_of_ble_eq_true rfl) ?_
          refine g_goto (tgt := 46) dX5_findSpreadByTable_88 (by decide) ?_
          exact ih (r + 1) _ _ (by omega)
    exact rows
  have onez : ∀ (C H : Nat → Int32) (b : Nat → Nat) (T : Nat → Nat → Int32) (n d : Nat), n ≤ 64 → ∀ (n9 : Nat) (k : Nat), n - k < n9 → k ≤ n → Go l G mX5_findSpreadByTable 12 0 0 (Rt (some (.int (taN H n (c - 1) 1 (t1N H T n) c n))) (lgd h A (C, H, b, taN H n (c - 1) 1 (t1N H T n), n, d))) 7 [some (.ref (A 15 0)), some (.ref (A 0 g)), some (.int (nI c)), some (.int (nI (k + 1))), none] [] (lgd h A (C, H, b, t1N H T k, n, d)) := by
    intro C H b T n d hn
    have ones : ∀ (n9 : Nat) (k : Nat), n - k < n9 → k ≤ n → Go l G mX5_findSpreadByTable 12 0 0 (Rt (some (.int (taN H n (c - 1) 1 (t1N H T n) c n))) (lgd h A (C, H, b, taN H n (c - 1) 1 (t1N H T n), n, d))) 7 [some (.ref (A 15 0)), some (.ref (A 0 g)), some (.int (nI c)), some (.int (nI (k + 1))), none] [] (lgd h A (C, H, b, t1N H T k, n, d)) := by
      intro n9
      induction n9 with
      | zero => intros; omega
      | succ n9 ih =>
        intro k hf hk
        refine g_iload_n (i := 3) dX5_findSpreadByTable_7 rfl rfl ?_
        refine g_aload_n (i := 0) dX5_findSpreadByTable_8 rfl rfl ?_
        refine g_getf dX5_findSpreadByTable_9 K_X5 (k := 4) fl_X5_26 (Nat.le_of_ble_eq_true rfl) lgd_15 rfl ?_
        refine g_icmp_gt (tgt := 44) dX5_findSpreadByTable_12 (by decide) (fun c12 => ?_) (fun c12 => ?_)
        · have hke : k = n := by have := (lt_nI (a := n) (b := k + 1) rfl (by omega) (by omega)).mp c12; omega
          subst hke
          refine g_iconst (v := 2) dX5_findSpreadByTable_44 (by decide) ?_
          refine g_istore_n (i := 3) dX5_findSpreadByTable_45 rfl (Nat.le_of_ble_eq_true rfl) ?_
          exact rowz _ _ _ _ _ hn (c - 1) 1 _ _ (by omega)
        · have hk2 : k + 1 ≤ n := by have := mt (lt_nI (a := n) (b := k + 1) rfl (by omega) (by omega)).mpr c12; omega
          refine g_aload_n (i := 0) dX5_findSpreadByTable_15 rfl rfl ?_
          refine g_getf dX5_findSpreadByTable_16 K_X5 (k := 3) fl_X5_23 (Nat.le_of_ble_eq_true rfl) lgd_15 rfl ?_
          refine g_iconst (v := 1) dX5_findSpreadByTable_19 (by decide) ?_
          refine g_aald dX5_findSpreadByTable_20 lgd_19 (by decide) rfl (ix_nI (j := 1) (by decide)) (by decide) rfl ?_
          refine g_iload_n (i := 3) dX5_findSpreadByTable_21 rfl rfl ?_
          refine g_aload_n (i := 0) dX5_findSpreadByTable_22 rfl rfl ?_
          refine g_getf dX5_findSpreadByTable_23 K_X5 (k := 1) fl_X5_15 (Nat.le_of_ble_eq_true rfl) lgd_15 rfl ?_
          refine g_iload_n (i := 3) dX5_findSpreadByTable_26 rfl rfl ?_
          refine g_iconst (v := 1) dX5_findSpreadByTable_27 (by decide) ?_
          refine g_isub dX5_findSpreadByTable_28 ?_
          rw [nI_m]
          refine g_iald dX5_findSpreadByTable_29 lgd_17 (ix_nI (by omega)) (by omega) ?_
          refine g_aload_n (i := 0) dX5_findSpreadByTable_30 rfl rfl ?_
          refine g_getf dX5_findSpreadByTable_31 K_X5 (k := 1) fl_X5_15 (Nat.le_of_ble_eq_true rfl) lgd_15 rfl ?_
          refine g_iconst (v := 0) dX5_findSpreadByTable_34 (by decide) ?_
          refine g_iald dX5_findSpreadByTable_35 lgd_17 (ix_nI (j := 0) (by decide)) (by decide) ?_
          refine g_isub dX5_findSpreadByTable_36 ?_
          refine g_iast dX5_findSpreadByTable_37 (lgd_20 (by decide)) (ix_nI (by omega)) (by omega) rfl (Go.heap (lgd_t (by decide)) ?_)
          refine g_iinc (w := 1) dX5_findSpreadByTable_38 (by decide) rfl (nI_succ (k + 1)).symm (Nat.le_of_ble_eq_true rfl) ?_
          refine g_goto (tgt := 7) dX5_findSpreadByTable_41 (by decide) ?_
          exact ih (k + 1) (by omega) (by omega)
    exact ones
  refine g_aload_n (i := 0) dX5_findSpreadByTable_0 rfl rfl ?_
  refine g_aload_n (i := 1) dX5_findSpreadByTable_1 rfl rfl ?_
  refine g_callV (ev_readHeats hl HM) dX5_findSpreadByTable_2 ml_X5_33 cvX5_readHeats K_X5 rfl lgd_15 rfl rfl (Nat.le_of_ble_eq_true rfl) (Nat.le_of_ble_eq_true rfl) (Nat.zero_le _) (Nat.zero_le _) (kr_vd ?_) kx_rt
  refine g_iconst (v := 1) dX5_findSpreadByTable_5 (by decide) ?_
  refine g_istore_n (i := 3) dX5_findSpreadByTable_6 rfl (Nat.le_of_ble_eq_true rfl) ?_
  exact onez _ _ _ _ _ _ (rdS_le 64) ((rdS m S 64).2.2.2.2.1 + 1) 0 (by omega) (by omega)

