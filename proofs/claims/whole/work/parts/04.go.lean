/-! THE FRAME OF ALL WALKS: a heap as a function of (role, group), 'Go' (the machine from here on comes to an end as P says), 'Ev' (a method's contract as P says). -/
/-- words of the tables that stay true whatever has been resolved meanwhile -/
def gw (w : Cond) : Bool := (w.onTables && (w.keepsH || w.faceAtom)) || (match w with | .arrayClass _ => true | _ => false)
theorem gw_at {args a' : Array Value} {s U : State} {w : Cond} (hW : s.WarmedH U.vm) (hg : gw w = true) (h : w.before args s = true) : w.before a' U = true := by
  simp only [gw, Bool.or_eq_true, Bool.and_eq_true] at hg
  rcases hg with ⟨ht, hk | hk⟩ | hg
  · have h1 := Cond.onTables_warmH (T := U) (args' := a') hW ht hk h
    rwa [State.setVm_self] at h1
  · have h1 : w.before args (s.setVm U.vm) = true := Cond.faceAtom_setVm hW.alike w hk h
    exact va_tabs (u := s.setVm U.vm) ht rfl h1
  · cases w <;> first | exact word_at hW (Or.inr ⟨_, rfl⟩) h | cases hg
abbrev AC : Type := (Nat × vp_A) ⊕ (Nat × List Value)
abbrev AH : Type := Nat → Nat → Option (Nat × AC)
/-- the run's constants: class numbers and slots; array classes; the first new cell; the script (cell, length, ints); the reading words' cells -/
abbrev GG : Type := va_G × (Nat → ClassId) × Nat × (Nat × Nat × (Nat → Int32)) × (Nat → Nat) × (Nat → Nat)
abbrev gD (G : GG) : va_G := G.1
abbrev gA (G : GG) : Nat → ClassId := G.2.1
abbrev gB (G : GG) : Nat := G.2.2.1
abbrev gX (G : GG) : Nat × Nat × (Nat → Int32) := G.2.2.2.1
abbrev gK (G : GG) : Nat → Nat := G.2.2.2.2.1
abbrev gV (G : GG) : Nat → Nat := G.2.2.2.2.2
def gE (G : GG) : AC → va_E
  | .inl x => .inl (gA G x.1, x.2)
  | .inr o => .inr o
def up (h : AH) (s g : Nat) (c : Nat × AC) : AH := fun s' g' => if s' = s then (if g' = g then some c else h s' g') else h s' g'
theorem up_same (h : AH) (s g : Nat) (c : Nat × AC) : up h s g c s g = some c := by simp [up]
theorem up_role (h : AH) {s s' : Nat} (g g' : Nat) (c : Nat × AC) (n : s' ≠ s) : up h s g c s' g' = h s' g' := by simp [up, n]
theorem up_grp (h : AH) (s : Nat) {g g' : Nat} (c : Nat × AC) (n : g' ≠ g) : up h s g c s g' = h s g' := by simp [up, n]
def fr (G : GG) : Nat → Prop := fun q => gB G ≤ q
def Emb (G : GG) (h : AH) (H : Heap) : Prop :=
  (∀ s g a c, h s g = some (a, c) → va_at (gD G) classes (a, gE G c) H ∧ fr G a) ∧ ∀ s g s' g' a c c', h s g = some (a, c) → h s' g' = some (a, c') → s = s' ∧ g = g'
/-- the array kinds -/
def aty : Nat → FieldType
  | 0 => .int
  | 1 => .long
  | 2 => .char
  | 3 => .byte
  | 4 => .boolean
  | 5 => .double
  | 6 => .object "MapSanatorium$Command"
  | 7 => .object "MapSanatorium$HeatMap"
  | _ => .array .int
def rdLen : List Nat := [5, 7, 7, 5]
def rdByt : List (List Int32) := [[104, 101, 97, 116, 32], [103, 114, 111, 117, 110, 100, 32], [98, 111, 114, 100, 101, 114, 32], [112, 97, 115, 115, 32]]
/-- what cells that nobody writes hold -/
def Cs (G : GG) (U : State) (H : Heap) : Prop :=
  vx_Zq Bundle.tN "UNASSIGNED_STACK" Bundle.steD (fr G) U H ∧ vx_Zq Bundle.tN "SUPPRESSED_SENTINEL" Bundle.listD (fr G) U H ∧ va_X (gX G).1 (gX G).2.1 (gX G).2.2 U H ∧ (gX G).1 < H.size ∧ ¬ fr G (gX G).1 ∧ gB G ≤ H.size ∧
  va_Z "java/lang/String" "COMPACT_STRINGS" "Z" (.int 1) (fr G) U H ∧
  (∃ t, va_Z "java/lang/Integer" "DigitTens" "[B" (.ref t) (fr G) U H ∧ va_T .byte t 100 (fun j => .int (Int32.ofNat (48 + j / 10))) (fr G) U H) ∧
  (∃ t, va_Z "java/lang/Integer" "DigitOnes" "[B" (.ref t) (fr G) U H ∧ va_T .byte t 100 (fun j => .int (Int32.ofNat (48 + j % 10))) (fr G) U H) ∧
  vk_S 4 rdLen rdByt (gK G) (gV G) (fr G) U H ∧ va_Zq "jdk/internal/util/Preconditions" "SIOOBE_FORMATTER" "Ljava/util/function/BiFunction;" (fr G) U H
theorem Cs.go {G : GG} {u U : State} {H H1 : Heap} (h : Cs G u H) (hvm : u.vm.Alike U.vm) (hz : H.size ≤ H1.size) (hq : ∀ a : Nat, a < H.size → ¬ fr G a → H1[a]? = H[a]?) : Cs G U H1 := by
  obtain ⟨h1, h2, h3, h4, h5, h6, h7, ⟨t1, h8, h9⟩, ⟨t2, h10, h11⟩, h12, h13⟩ := h
  exact ⟨(vx_Zq.moved hvm h1).kept hq, (vx_Zq.moved hvm h2).kept hq, (va_X.moved hvm h3).kept (hq _ h4 h5), Nat.lt_of_lt_of_le h4 hz, h5, Nat.le_trans h6 hz, (va_Z.moved hvm h7).kept hq,
    ⟨t1, (va_Z.moved hvm h8).kept hq, (va_T.moved hvm h9).kept hq⟩, ⟨t2, (va_Z.moved hvm h10).kept hq, (va_T.moved hvm h11).kept hq⟩, (vk_S.moved hvm h12).kept hq, (va_Zq.moved hvm h13).kept hq⟩
/-- an array class over these components has been made -/
def aoT (ty : FieldType) (U : State) : Prop := (Cond.arrayOver ty).before #[] U = true
theorem aoT.moved {ty : FieldType} {u U : State} (hvm : u.vm.Alike U.vm) (h : aoT ty u) : aoT ty U := by
  have h1 : (Cond.arrayOver ty).before #[] (u.setVm U.vm) = true := (Cond.arrayOver_setVmC hvm ty).trans h
  exact h1
/-- the String constants, by class and entry -/
def strs : List (String × Nat × String) := lw_tbl.filterMap (fun w => match w with | .stringRef a k t => some (a, k, t) | _ => none)
/-- exceptions that aren't of each other's class -/
def ncs : List (String × String) :=
  [("java/lang/IllegalArgumentException", "java/lang/IndexOutOfBoundsException"), ("java/lang/UnsupportedOperationException", "java/lang/IndexOutOfBoundsException"), ("java/lang/UnsupportedOperationException", "java/lang/IllegalArgumentException"), ("java/lang/UnsupportedOperationException", "java/lang/IllegalStateException"),
   ("java/util/NoSuchElementException", "java/lang/IllegalArgumentException"), ("java/util/NoSuchElementException", "java/lang/IndexOutOfBoundsException"), ("java/util/NoSuchElementException", "java/lang/IllegalStateException"), ("java/lang/IllegalStateException", "java/lang/IllegalArgumentException"), ("java/lang/IllegalStateException", "java/lang/IndexOutOfBoundsException")]
/-- what holds of the state in which a method begins -/
def Cx (G : GG) (s : State) : Prop :=
  (∀ w ∈ lw_tbl, gw w = true → w.before #[] s = true) ∧ va_K (gD G) classes [] s ∧ (∀ t, t < 9 → ArrOfT s (gA G t) (aty t) ∧ va_RA s (gA G t) (aty t)) ∧
  (aoT (.object "MapSanatorium$Command") s ∧ aoT (.object "MapSanatorium$HeatMap") s ∧ aoT (.array .int) s) ∧ (∀ q ∈ strs, ∃ a, vk_R q.1 q.2.1 q.2.2 a s) ∧
  ((∀ q ∈ ncs, va_Nc q.1 q.2 s) ∧ vk_R "MapSanatorium$CommandReader" 58 "heat " (gK G 0) s ∧ vk_R "MapSanatorium$CommandReader" 70 "ground " (gK G 1) s ∧ vk_R "MapSanatorium$CommandReader" 75 "border " (gK G 2) s ∧ vk_R "MapSanatorium$CommandReader" 83 "pass " (gK G 3) s) ∧ Cs G s s.heap
theorem Cx.go {G : GG} {u U : State} (h : Cx G u) (hW : u.WarmedH U.vm) (hz : u.heap.size ≤ U.heap.size) (hq : ∀ a : Nat, a < u.heap.size → ¬ fr G a → U.heap[a]? = u.heap[a]?) : Cx G U := by
  obtain ⟨h1, h2, h3, ⟨h4, h5, h6⟩, h7, ⟨h13, h8, h9, h10, h11⟩, h12⟩ := h
  have hal := hW.alike
  exact ⟨fun w hw hg => gw_at hW hg (h1 w hw hg), va_K.moved hal h2, fun t ht => ⟨arrOfT_moved hal (h3 t ht).1, (h3 t ht).2.moved hal⟩, ⟨h4.moved hal, h5.moved hal, h6.moved hal⟩,
    fun q hq => (h7 q hq).elim fun a ha => ⟨a, vk_R.warm hW ha⟩, ⟨fun q hq => (h13 q hq).moved hal, vk_R.warm hW h8, vk_R.warm hW h9, vk_R.warm hW h10, vk_R.warm hW h11⟩, h12.go hal hz hq⟩
theorem Cx.same {G : GG} {u U : State} (h : Cx G u) (hv : U.vm = u.vm) (hh : U.heap = u.heap) : Cx G U :=
  h.go (by rw [hv]; exact State.WarmedH.refl u) (by rw [hh]; exact Nat.le_refl _) (fun a _ _ => by rw [hh])
theorem Cx.word {G : GG} {s : State} (h : Cx G s) {w : Cond} (hm : w ∈ lw_tbl) (hg : gw w = true) (a' : Array Value) : w.before a' s = true := gw_at (State.WarmedH.refl s) hg (h.1 w hm hg)
theorem Cx.words {G : GG} {s : State} (h : Cx G s) {w : Cond} (hm : w ∈ lw_tbl) (hg : gw w = true) (a' : Array Value) {U : State} (hW : s.WarmedH U.vm) : w.before a' U = true := gw_at hW hg (h.1 w hm hg)
/-- a method: name, bytes, locals, what it returns, its table -/
abbrev MD : Type := MethodName × ByteArray × Nat × Option FieldType × List (Nat × Nat × Nat × Nat)
def mw (M : MD) : Cond := match M.2.2.2.2 with
  | [] => .code M.1 M.2.1 M.2.2.1 M.2.2.2.1
  | t => .codeWith M.1 M.2.1 M.2.2.1 M.2.2.2.1 t
abbrev Post : Type := (Option Value ⊕ String) → AH → Prop
def eQ (G : GG) (P : Post) : Array Value → State → Outcome → State → Prop := fun _ st o t => ∃ v h', o = .returned v ∧ P (.inl v) h' ∧ Emb G h' t.heap ∧ va_F (fr G) st t
def eX (G : GG) (P : Post) : String → State → State → Prop := fun E st t => ∃ h', P (.inr E) h' ∧ Emb G h' t.heap ∧ va_F (fr G) st t
def eC (G : GG) (as : List Value) (h : AH) : Array Value → State → Prop := fun a U => a = as.toArray ∧ Cx G U ∧ Emb G h U.heap
def eR (d mc ms : Nat) : Room := { frames := d, cells := mc, slots := ms, locals := 64 * d }
/-- the method's contract: called with these values over this heap, it comes to an end as P says -/
def Ev (l : Launch) (G : GG) (d mc ms : Nat) (M : MD) (as : List Value) (h : AH) (P : Post) : Prop :=
  vx_Met l M.1 [mw M] (eR d mc ms) (eC G as h) (eQ G P) (eX G P) mc ms (fr G)
/-- what stays while a method runs -/
def Fx (l : Launch) (G : GG) (M : MD) (d : Nat) (p : Program) (R : Room) (s : State) (m : MethodId) (meth : Method) (c : Code) : Prop :=
  p.tables.exec = Jvm.exec ∧ c.code = M.2.1 ∧ meth.sig.returnType = M.2.2.2.1 ∧ c.maxLocals = M.2.2.1 ∧ meth.locks = false ∧ s.vm.findClass M.1.cls = some m.cls ∧ meth.name = M.1.name ∧ c.exceptionTable.toList = tableOf M.2.2.2.2 ∧ R.frames = d ∧ R.locals = 64 * d ∧ Cx G s ∧ l.stackTraces = false
/-! locals, by their places -/
def lk : List (Option Value) → Nat → Option Value
  | [], _ => none
  | a :: _, 0 => a
  | _ :: r, n + 1 => lk r n
def clr : Option Value → Option Value
  | some w => if w.category = 2 then none else some w
  | none => none
def ps1 : List (Option Value) → Nat → Value → List (Option Value)
  | [], _, _ => []
  | _ :: r, 0, v => some v :: r
  | a :: r, 1, v => clr a :: ps1 r 0 v
  | a :: r, n + 2, v => a :: ps1 r (n + 1) v
def clr0 : List (Option Value) → List (Option Value)
  | [] => []
  | _ :: r => none :: r
def ps2 : List (Option Value) → Nat → Value → List (Option Value)
  | [], _, _ => []
  | _ :: r, 0, v => some v :: clr0 r
  | a :: r, 1, v => clr a :: ps2 r 0 v
  | a :: r, n + 2, v => a :: ps2 r (n + 1) v
theorem lk_clr {a : Option Value} {w : Value} (h : clr a = some w) : a = some w ∧ ¬ w.category = 2 := by
  cases a with
  | none => cases h
  | some x =>
    simp only [clr] at h
    split at h
    · cases h
    · cases h; exact ⟨rfl, by assumption⟩
theorem lk_ps1 : ∀ (L : List (Option Value)) (i j : Nat) (v w : Value), lk (ps1 L i v) j = some w → (j = i ∧ w = v) ∨ (j ≠ i ∧ ¬ (j + 1 = i ∧ w.category = 2) ∧ lk L j = some w)
  | [], i, j, v, w, h => by simp [ps1, lk] at h
  | a :: r, 0, 0, v, w, h => by simp [ps1, lk] at h; exact Or.inl ⟨rfl, h.symm⟩
  | a :: r, 0, j + 1, v, w, h => by simp only [ps1, lk] at h; exact Or.inr ⟨by omega, by omega, h⟩
  | a :: r, 1, 0, v, w, h => by
    simp only [ps1, lk] at h
    obtain ⟨h1, h2⟩ := lk_clr h
    exact Or.inr ⟨by omega, fun q => h2 q.2, h1⟩
  | a :: r, 1, j + 1, v, w, h => by
    simp only [ps1, lk] at h
    rcases lk_ps1 r 0 j v w h with ⟨h1, h2⟩ | ⟨h1, -, h3⟩
    · exact Or.inl ⟨by omega, h2⟩
    · exact Or.inr ⟨by omega, by omega, h3⟩
  | a :: r, n + 2, 0, v, w, h => by simp only [ps1, lk] at h; exact Or.inr ⟨by omega, by omega, h⟩
  | a :: r, n + 2, j + 1, v, w, h => by
    simp only [ps1, lk] at h
    rcases lk_ps1 r (n + 1) j v w h with ⟨h1, h2⟩ | ⟨h1, h2, h3⟩
    · exact Or.inl ⟨by omega, h2⟩
    · exact Or.inr ⟨by omega, fun q => h2 ⟨by omega, q.2⟩, h3⟩
theorem lk_clr0 {r : List (Option Value)} {j : Nat} {w : Value} (h : lk (clr0 r) j = some w) : j ≠ 0 ∧ lk r j = some w := by
  cases r with
  | nil => simp [clr0, lk] at h
  | cons a r =>
    cases j with
    | zero => simp [clr0, lk] at h
    | succ j => exact ⟨by omega, h⟩
theorem lk_ps2 : ∀ (L : List (Option Value)) (i j : Nat) (v w : Value), lk (ps2 L i v) j = some w → (j = i ∧ w = v) ∨ (j ≠ i ∧ j ≠ i + 1 ∧ ¬ (j + 1 = i ∧ w.category = 2) ∧ lk L j = some w)
  | [], i, j, v, w, h => by simp [ps2, lk] at h
  | a :: r, 0, 0, v, w, h => by simp [ps2, lk] at h; exact Or.inl ⟨rfl, h.symm⟩
  | a :: r, 0, j + 1, v, w, h => by
    simp only [ps2, lk] at h
    obtain ⟨h1, h2⟩ := lk_clr0 h
    exact Or.inr ⟨by omega, by omega, by omega, h2⟩
  | a :: r, 1, 0, v, w, h => by
    simp only [ps2, lk] at h
    obtain ⟨h1, h2⟩ := lk_clr h
    exact Or.inr ⟨by omega, by omega, fun q => h2 q.2, h1⟩
  | a :: r, 1, j + 1, v, w, h => by
    simp only [ps2, lk] at h
    rcases lk_ps2 r 0 j v w h with ⟨h1, h2⟩ | ⟨h1, h4, -, h3⟩
    · exact Or.inl ⟨by omega, h2⟩
    · exact Or.inr ⟨by omega, by omega, by omega, h3⟩
  | a :: r, n + 2, 0, v, w, h => by simp only [ps2, lk] at h; exact Or.inr ⟨by omega, by omega, by omega, h⟩
  | a :: r, n + 2, j + 1, v, w, h => by
    simp only [ps2, lk] at h
    rcases lk_ps2 r (n + 1) j v w h with ⟨h1, h2⟩ | ⟨h1, h4, h2, h3⟩
    · exact Or.inl ⟨by omega, h2⟩
    · exact Or.inr ⟨by omega, by omega, fun q => h2 ⟨by omega, q.2⟩, h3⟩
def LH (ls : Array Slot) (n : Nat) (L : List (Option Value)) : Prop := ls.size = n ∧ lv_wf ls ∧ ∀ i v, lk L i = some v → ls[i]? = some (.val v)
theorem LH.at {ls : Array Slot} {n : Nat} {L : List (Option Value)} (h : LH ls n L) {i : Nat} {v : Value} (hv : lk L i = some v) : ls[i]? = some (.val v) := h.2.2 i v hv
def lkAll (L : List (Option Value)) : List (Nat × Value) := (List.range L.length).filterMap (fun j => (lk L j).map (fun v => (j, v)))
theorem lk_lt : ∀ (L : List (Option Value)) (j : Nat) (w : Value), lk L j = some w → j < L.length
  | [], j, w, h => by simp [lk] at h
  | a :: r, 0, w, h => by simp
  | a :: r, j + 1, w, h => by have := lk_lt r j w h; simp; omega
theorem mem_lkAll {L : List (Option Value)} {q : Nat × Value} : q ∈ lkAll L ↔ lk L q.1 = some q.2 := by
  simp only [lkAll, List.mem_filterMap, List.mem_range, Option.map_eq_some_iff]
  constructor
  · rintro ⟨j, -, v, h1, rfl⟩
    exact h1
  · intro h
    exact ⟨q.1, lk_lt _ _ _ h, q.2, h, rfl⟩
theorem LH.has {ls : Array Slot} {n : Nat} {L : List (Option Value)} (h : LH ls n L) : lv_has ls n (lkAll L) := ⟨h.1, h.2.1, fun q hq => h.2.2 _ _ (mem_lkAll.mp hq)⟩
theorem LH.ps1 {ls : Array Slot} {n : Nat} {L : List (Option Value)} {i : Nat} {v : Value} {lv' : List (Nat × Value)} (e : (i, v) :: (lkAll L).filter (fun q => !(q.1 == i) && !(q.1 + 1 == i && q.2.category == 2)) = lv') (h : lv_has ls n lv') : LH ls n (ps1 L i v) := by
  refine ⟨h.1, h.2.1, fun j w hj => h.2.2 (j, w) ?_⟩
  rw [← e]
  rcases lk_ps1 L i j v w hj with ⟨rfl, rfl⟩ | ⟨h1, h2, h3⟩
  · exact List.mem_cons_self
  · refine List.mem_cons_of_mem _ (List.mem_filter.mpr ⟨mem_lkAll.mpr h3, ?_⟩)
    simp only [Bool.and_eq_true, Bool.not_eq_true', beq_eq_false_iff_ne, ne_eq, Bool.and_eq_false_iff]
    refine ⟨h1, ?_⟩
    by_cases q : j + 1 = i
    · exact Or.inr fun z => h2 ⟨q, z⟩
    · exact Or.inl q
theorem LH.ps2 {ls : Array Slot} {n : Nat} {L : List (Option Value)} {i : Nat} {v : Value} {lv' : List (Nat × Value)} (e : (i, v) :: (lkAll L).filter (fun q => !(q.1 == i) && (!(q.1 == i + 1) && !(q.1 + 1 == i && q.2.category == 2))) = lv') (h : lv_has ls n lv') : LH ls n (ps2 L i v) := by
  refine ⟨h.1, h.2.1, fun j w hj => h.2.2 (j, w) ?_⟩
  rw [← e]
  rcases lk_ps2 L i j v w hj with ⟨rfl, rfl⟩ | ⟨h1, h4, h2, h3⟩
  · exact List.mem_cons_self
  · refine List.mem_cons_of_mem _ (List.mem_filter.mpr ⟨mem_lkAll.mpr h3, ?_⟩)
    simp only [Bool.and_eq_true, Bool.not_eq_true', beq_eq_false_iff_ne, ne_eq, Bool.and_eq_false_iff]
    refine ⟨h1, h4, ?_⟩
    by_cases q : j + 1 = i
    · exact Or.inr fun z => h2 ⟨q, z⟩
    · exact Or.inl q
theorem LH.less {ls : Array Slot} {n : Nat} {L L' : List (Option Value)} (h : LH ls n L) (hs : ∀ i v, lk L' i = some v → lk L i = some v) : LH ls n L' := ⟨h.1, h.2.1, fun i v q => h.2.2 i v (hs i v q)⟩
def eL : List Value → List (Option Value)
  | [] => []
  | v :: vs => if v.category = 2 then some v :: none :: eL vs else some v :: eL vs
def eP (n : Nat) (vs : List Value) : List (Option Value) := eL vs ++ List.replicate (n - (eL vs).length) none
theorem lk_rep : ∀ (k j : Nat) (w : Value), ¬ lk (List.replicate k none) j = some w
  | 0, j, w => by simp [lk]
  | k + 1, 0, w => by simp [List.replicate, lk]
  | k + 1, j + 1, w => by simp only [List.replicate, lk]; exact lk_rep k j w
theorem lk_eL : ∀ (vs : List Value) (k i0 j : Nat) (w : Value), lk (eL vs ++ List.replicate k none) j = some w → (i0 + j, w) ∈ lv_args i0 vs
  | [], k, i0, j, w, h => absurd h (lk_rep k j w)
  | v :: vs, k, i0, j, w, h => by
    simp only [eL, lv_args] at h ⊢
    by_cases hc : v.category = 2
    · simp only [hc, if_true, List.cons_append] at h ⊢
      match j, h with
      | 0, h => simp only [lk] at h; cases h; exact List.mem_cons_self
      | 1, h => simp [lk] at h
      | j + 2, h =>
        have := lk_eL vs k (i0 + 2) j w h
        rw [show i0 + 2 + j = i0 + (j + 2) by omega] at this
        exact List.mem_cons_of_mem _ this
    · simp only [hc, if_false, List.cons_append] at h ⊢
      match j, h with
      | 0, h => simp only [lk] at h; cases h; exact List.mem_cons_self
      | j + 1, h =>
        have := lk_eL vs k (i0 + 1) j w h
        rw [show i0 + 1 + j = i0 + (j + 1) by omega] at this
        exact List.mem_cons_of_mem _ this
theorem LH.entry (vs : List Value) {n : Nat} (h : (lg_sl vs).length ≤ n) : LH ((lg_sl vs ++ List.replicate (n - (lg_sl vs).length) Slot.unset).toArray) n (eP n vs) := by
  obtain ⟨h1, h2, h3⟩ := lv_entry vs h
  exact ⟨h1, h2, fun i v hv => h3 (i, v) (by have := lk_eL vs _ 0 i v hv; rwa [Nat.zero_add] at this)⟩
/-- from here on, with these locals, this stack, this heap, the method comes to an end as P says, with kc new cells of ks slots at most -/
def Go (l : Launch) (G : GG) (M : MD) (d kc ks : Nat) (P : Post) (pc : Nat) (L : List (Option Value)) (st : List Value) (h : AH) : Prop :=
  ∀ (p : Program) (e : Env) (R : Room) (s : State) (m : MethodId) (args : Array Value) (below : List Frame) (meth : Method) (c : Code) (H : Heap) (locs : List Loc) (cells slots mc ms : Nat) (ls : Array Slot),
    Fx l G M d p R s m meth c → cells + kc ≤ R.cells → slots + ks ≤ R.slots → cells + kc ≤ mc → slots + ks ≤ ms → Emb G h H → va_S (fr G) s.heap H locs → LH ls M.2.2.1 L →
    W p l e R s m args below meth c H locs cells slots (vx_MQ below (eQ G P) (eX G P) args s mc ms (fr G)) (F0 m pc ls st)
theorem Go.loc {l : Launch} {G : GG} {M : MD} {d kc ks : Nat} {P : Post} {pc : Nat} {L L' : List (Option Value)} {st : List Value} {h : AH} (hs : ∀ i v, lk L' i = some v → lk L i = some v) (k : Go l G M d kc ks P pc L' st h) : Go l G M d kc ks P pc L st h := by
  intro p e R s m args below meth c H locs cells slots mc ms ls F h1 h2 h3 h4 hE hS hL
  exact k _ _ _ _ _ _ _ _ _ _ _ _ _ _ _ _ F h1 h2 h3 h4 hE hS (hL.less hs)
theorem Go.wid {l : Launch} {G : GG} {M : MD} {d kc ks kc' ks' : Nat} {P : Post} {pc : Nat} {L : List (Option Value)} {st : List Value} {h : AH} (hc : kc' ≤ kc) (hs : ks' ≤ ks) (k : Go l G M d kc' ks' P pc L st h) : Go l G M d kc ks P pc L st h := by
  intro p e R s m args below meth c H locs cells slots mc ms ls F h1 h2 h3 h4 hE hS hL
  exact k _ _ _ _ _ _ _ _ _ _ _ _ _ _ _ _ F (by omega) (by omega) (by omega) (by omega) hE hS hL
theorem Go.heap {l : Launch} {G : GG} {M : MD} {d kc ks : Nat} {P : Post} {pc : Nat} {L : List (Option Value)} {st : List Value} {h h' : AH} (he : h = h') (k : Go l G M d kc ks P pc L st h') : Go l G M d kc ks P pc L st h := he ▸ k
theorem Ev.of {l : Launch} {G : GG} {d mc ms : Nat} {M : MD} {as : List Value} {h : AH} {P : Post} (hl : l.stackTraces = false) (hy : plainName M.1.cls = true) (hn : (lg_sl as).length ≤ M.2.2.1) (k : Go l G M d mc ms P 0 (eP M.2.2.1 as) [] h) : Ev l G d mc ms M as h P := by
  obtain ⟨y, cc, maxL, ret, tb⟩ := M
  cases tb with
  | nil =>
    refine vx_ofW (cc := cc) (maxL := maxL) (ret := ret) hy rfl ?_
    intro p e s m args below meth c s₁ B hml htab hv
    obtain ⟨rfl, hCx, hE⟩ := hv
    have hb := B.bytes
    have hL := LH.entry as hn
    rw [lg_entry_eq]
    refine k _ _ _ _ _ _ _ _ _ _ _ _ _ _ _ _ ⟨B.exec, B.bytes, B.returns, hml, B.notSynchronized, findClass_of_methodNamed B.named, (name_of_methodNamed B.named B.method).1, ?_, rfl, rfl, hCx, hl⟩ ?_ ?_ ?_ ?_ hE va_S.rf hL
    · exact List.eq_nil_iff_forall_not_mem.mpr fun x hx => htab x hx
    · show 0 + mc ≤ mc
      omega
    · show 0 + ms ≤ ms
      omega
    · omega
    · omega
  | cons x tb =>
    refine vx_ofWH (cc := cc) (maxL := maxL) (ret := ret) (hh := x :: tb) hy rfl ?_
    intro p e s m args below meth c s₁ B hml hv
    obtain ⟨rfl, hCx, hE⟩ := hv
    have hb := B.bytes
    have hL := LH.entry as hn
    have htab := vx_table (x := y) (maxL' := maxL) (ret' := ret) (bytes := cc) (hh := x :: tb) B (atoms_spec (ws := [mw (y, cc, maxL, ret, x :: tb)]) B.pre _ List.mem_cons_self)
    rw [lg_entry_eq]
    refine k _ _ _ _ _ _ _ _ _ _ _ _ _ _ _ _ ⟨B.exec, B.bytes, B.returns, hml, B.notSynchronized, findClass_of_methodNamed B.named, (name_of_methodNamed B.named B.method).1, htab, rfl, rfl, hCx, hl⟩ ?_ ?_ ?_ ?_ hE va_S.rf hL
    · show 0 + mc ≤ mc
      omega
    · show 0 + ms ≤ ms
      omega
    · omega
    · omega
