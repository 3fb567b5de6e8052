/-! Model: ticks (by wip/whole/gen/m34.py). -/
/-- the arrays with then, relapsing and m changed -/
def A3 (a : Nat → Nat → Int32) (T R m : Nat → Int32) : Nat → Nat → Int32 := va_up (va_up (va_up a 6 T) 7 R) 0 m
section A3S
variable {h : AH} {A : AD} {a : Nat → Nat → Int32} {f : Nat → Int32} {T R m x : Nat → Int32}
theorem A3_6 : va_up (A3 a T R m) 6 x = A3 a x R m := by
  funext r
  unfold A3 va_up
  by_cases e : r = 6
  · subst e; simp
  · simp [e]
theorem A3_7 : va_up (A3 a T R m) 7 x = A3 a T x m := by
  funext r
  unfold A3 va_up
  by_cases e : r = 7
  · subst e; simp
  · simp [e]
theorem A3_0 : va_up (A3 a T R m) 0 x = A3 a T R x := va_up2 _ _ _ _
theorem A3_self : A3 a (a 6) (a 7) (a 0) = a := by
  funext r
  unfold A3 va_up
  by_cases e0 : r = 0
  · subst e0; simp
  · by_cases e7 : r = 7
    · subst e7; simp
    · by_cases e6 : r = 6
      · subst e6; simp
      · simp [e0, e6, e7]
theorem mo_t6 : mo h A (va_up (A3 a T R m) 6 x, f) = mo h A (A3 a x R m, f) := by rw [A3_6]
theorem mo_t7 : mo h A (va_up (A3 a T R m) 7 x, f) = mo h A (A3 a T x m, f) := by rw [A3_7]
theorem mo_t0 : mo h A (va_up (A3 a T R m) 0 x, f) = mo h A (A3 a T R x, f) := by rw [A3_0]
end A3S
def emN (m : Nat → Int32) : Nat → Nat → Int32
  | 0 => m
  | k + 1 => if 700 ≤ emN m k k then va_up (va_up (emN m k) k (emN m k k - 100)) (64 + k) (va_up (emN m k) k (emN m k k - 100) (64 + k) + 100) else emN m k
def nrN (m : Nat → Int32) (c : Nat) : Nat → Bool
  | 0 => false
  | s + 1 => nrN m c s || (match nb c s with | none => false | some n => decide (500 ≤ m n))
def rlB (m : Nat → Int32) (c : Nat) : Bool := nrN m c 4 && decide (0 < m (64 + c)) && decide (m c < 300)
def rlF (m : Nat → Int32) (R : Nat → Int32) (k : Nat) : Nat → Int32 := fun i => if i < k then (if rlB m i = true then 1 else 0) else R i
/-- the cells that relapse: m and how many -/
def apN (m R : Nat → Int32) : Nat → (Nat → Int32) × Int32
  | 0 => (m, 0)
  | k + 1 => if R k = 0 then apN m R k else (va_up (va_up (apN m R k).1 k ((apN m R k).1 k + (apN m R k).1 (64 + k))) (64 + k) 0, (apN m R k).2 + 1)
def tk1 (m : Nat → Int32) : Nat → Int32 := flM (va_up m 200 (m 200 + 1))
def tk2 (m : Nat → Int32) : Nat → Int32 := emN (tk1 m) 64
def tk3 (m : Nat → Int32) : (Nat → Int32) × Int32 := apN (tk2 m) (fun i => if rlB (tk2 m) i = true then 1 else 0) 64
def tkF (m : Nat → Int32) : Nat → Int32 := va_up (tk3 m).1 201 ((tk3 m).1 201 + (tk3 m).2)
theorem rlF_s {m R : Nat → Int32} {k : Nat} {v : Int32} (h : v = if rlB m k = true then 1 else 0) : va_up (rlF m R k) k v = rlF m R (k + 1) := by
  subst h
  exact cpS (b := fun i => if rlB m i = true then 1 else 0)
theorem nr_1 {m : Nat → Int32} {c s : Nat} (h : nrN m c s = true) : nrN m c (s + 1) = true := by rw [nrN, h]; rfl
theorem nr_2 {m : Nat → Int32} {c s n : Nat} (en : nb c s = some n) (h : 500 ≤ m n) : nrN m c (s + 1) = true := by rw [nrN, en]; simp [h]
theorem nr_3 {m : Nat → Int32} {c s : Nat} (h : ¬ nrN m c s = true) (en : nb c s = none) : ¬ nrN m c (s + 1) = true := by rw [nrN, en, Bool.eq_false_iff.mpr h]; exact Bool.false_ne_true
theorem nr_4 {m : Nat → Int32} {c s n : Nat} (h : ¬ nrN m c s = true) (en : nb c s = some n) (h2 : ¬ 500 ≤ m n) : ¬ nrN m c (s + 1) = true := by rw [nrN, en, Bool.eq_false_iff.mpr h]; simp [h2]
theorem rl_t {m : Nat → Int32} {c : Nat} (h1 : nrN m c 4 = true) (h2 : 0 < m (64 + c)) (h3 : m c < 300) : rlB m c = true := by rw [rlB, h1, decide_eq_true h2, decide_eq_true h3]; rfl
theorem rl_1 {m : Nat → Int32} {c : Nat} (h1 : ¬ nrN m c 4 = true) : ¬ rlB m c = true := by rw [rlB, Bool.eq_false_iff.mpr h1, Bool.false_and, Bool.false_and]; decide
theorem rl_2 {m : Nat → Int32} {c : Nat} (h2 : ¬ 0 < m (64 + c)) : ¬ rlB m c = true := by rw [rlB, decide_eq_false h2, Bool.and_false, Bool.false_and]; decide
theorem rl_3 {m : Nat → Int32} {c : Nat} (h3 : ¬ m c < 300) : ¬ rlB m c = true := by rw [rlB, decide_eq_false h3, Bool.and_false]; decide

theorem ev_flows3 {l : Launch} {G : GG} (hl : l.stackTraces = false) {A : AD} {h : AH} {a : Nat → Nat → Int32} {f : Nat → Int32} {T R m : Nat → Int32} :
    Ev l G 11 0 0 mX10_flows [.ref (A 30 0)] (mo h A (A3 a T R m, f)) (Rt none (mo h A (A3 a (flA 64 (m, m)).1 R (flM m), f))) := by
  have e := ev_flows hl (G := G) (A := A) (h := h) (a := A3 a T R m) (f := f)
  rw [A3_6, A3_0] at e
  exact e

set_option maxRecDepth 100000 in
theorem tk_apply {l : Launch} {G : GG} (hl : l.stackTraces = false) {A : AD} {h : AH} {a : Nat → Nat → Int32} {f : Nat → Int32} {T R m0 : Nat → Int32} {P9 : Post} {n64 : Nat} (h64 : n64 = 64) (hout : (∀ X Y, Go l G mX10_passesTick 12 0 0 P9 237 [some (.ref (A 30 0)), some (.int (apN m0 R n64).2), some (.int (nI n64)), X, Y] [] (mo h A (A3 a T R (apN m0 R n64).1, f)))) : ∀ (j : Nat) (k : Nat) (X Y : Option Value), k + j = n64 → Go l G mX10_passesTick 12 0 0 P9 183 [some (.ref (A 30 0)), some (.int (apN m0 R k).2), some (.int (nI k)), X, Y] [] (mo h A (A3 a T R (apN m0 R k).1, f)) := by
  have loop : ∀ (j : Nat) (k : Nat) (X Y : Option Value), k + j = n64 → Go l G mX10_passesTick 12 0 0 P9 183 [some (.ref (A 30 0)), some (.int (apN m0 R k).2), some (.int (nI k)), X, Y] [] (mo h A (A3 a T R (apN m0 R k).1, f)) := by
    intro j
    induction j with
    | zero =>
      intro k X Y hk
      refine g_iload_n (i := 2) dX10_passesTick_183 rfl rfl ?_
      refine g_bipush (v := 64) dX10_passesTick_184 (by decide) ?_
      refine g_icmp_ge (tgt := 237) dX10_passesTick_186 (by decide) (fun c186 => ?_) (fun c186 => ?_)
      · have e : k = n64 := by omega
        subst e
        exact hout _ _
      · exact absurd ((le_nI (a := 64) (b := k) rfl (by omega) (by omega)).mpr (by omega)) c186
    | succ j ih =>
      intro k X Y hk
      refine g_iload_n (i := 2) dX10_passesTick_183 rfl rfl ?_
      refine g_bipush (v := 64) dX10_passesTick_184 (by decide) ?_
      refine g_icmp_ge (tgt := 237) dX10_passesTick_186 (by decide) (fun c186 => ?_) (fun c186 => ?_)
      · exact absurd ((le_nI (a := 64) (b := k) rfl (by omega) (by omega)).mp c186) (by omega)
      · refine g_aload_n (i := 0) dX10_passesTick_189 rfl rfl ?_
        refine g_getf dX10_passesTick_190 K_X10 (k := 15) fl_X10_38 (Nat.le_of_ble_eq_true rfl) mo_30 rfl ?_
        refine g_iload_n (i := 2) dX10_passesTick_193 rfl rfl ?_
        refine g_zald dX10_passesTick_194 mo_38 (ix_nI (j := k) (by omega)) (by omega) ?_
        refine g_if_eq (tgt := 231) dX10_passesTick_195 (by decide) (fun c195 => ?_) (fun c195 => ?_)
        · refine g_iinc (w := 1) dX10_passesTick_231 (by decide) rfl (nI_succ k).symm (Nat.le_of_ble_eq_true rfl) ?_
          refine g_goto (tgt := 183) dX10_passesTick_234 (by decide) ?_
          have e : apN m0 R (k + 1) = apN m0 R k := if_pos c195
          rw [← e]
          exact ih (k + 1) _ _ (by omega)
        · refine g_aload_n (i := 0) dX10_passesTick_198 rfl rfl ?_
          refine g_getf dX10_passesTick_199 K_X10 (k := 0) fl_X10_9 (Nat.le_of_ble_eq_true rfl) mo_30 rfl ?_
          refine g_iconst (v := 0) dX10_passesTick_202 (by decide) ?_
          refine g_iload_n (i := 2) dX10_passesTick_203 rfl rfl ?_
          refine g_iadd dX10_passesTick_204 ?_
          refine g_dup2 dX10_passesTick_205 rfl rfl ?_
          refine g_iald dX10_passesTick_206 mo_31 (ix0 (k := k) (by omega)) (by omega) ?_
          refine g_aload_n (i := 0) dX10_passesTick_207 rfl rfl ?_
          refine g_getf dX10_passesTick_208 K_X10 (k := 0) fl_X10_9 (Nat.le_of_ble_eq_true rfl) mo_30 rfl ?_
          refine g_bipush (v := 64) dX10_passesTick_211 (by decide) ?_
          refine g_iload_n (i := 2) dX10_passesTick_213 rfl rfl ?_
          refine g_iadd dX10_passesTick_214 ?_
          refine g_iald dX10_passesTick_215 mo_31 (ixA (b := 64) (k := k) rfl (by omega)) (by omega) ?_
          refine g_iadd dX10_passesTick_216 ?_
          refine g_iast dX10_passesTick_217 mo_31 (ix0 (k := k) (by omega)) (by omega) rfl (Go.heap (mo_a0.trans mo_t0) ?_)
          refine g_aload_n (i := 0) dX10_passesTick_218 rfl rfl ?_
          refine g_getf dX10_passesTick_219 K_X10 (k := 0) fl_X10_9 (Nat.le_of_ble_eq_true rfl) mo_30 rfl ?_
          refine g_bipush (v := 64) dX10_passesTick_222 (by decide) ?_
          refine g_iload_n (i := 2) dX10_passesTick_224 rfl rfl ?_
          refine g_iadd dX10_passesTick_225 ?_
          refine g_iconst (v := 0) dX10_passesTick_226 (by decide) ?_
          refine g_iast dX10_passesTick_227 mo_31 (ixA (b := 64) (k := k) rfl (by omega)) (by omega) rfl (Go.heap (mo_a0.trans mo_t0) ?_)
          refine g_iinc (w := 1) dX10_passesTick_228 (by decide) rfl rfl (Nat.le_of_ble_eq_true rfl) ?_
          refine g_iinc (w := 1) dX10_passesTick_231 (by decide) rfl (nI_succ k).symm (Nat.le_of_ble_eq_true rfl) ?_
          refine g_goto (tgt := 183) dX10_passesTick_234 (by decide) ?_
          have e : apN m0 R (k + 1) = (va_up (va_up (apN m0 R k).1 k ((apN m0 R k).1 k + (apN m0 R k).1 (64 + k))) (64 + k) 0, (apN m0 R k).2 + 1) := if_neg c195
          have z := ih (k + 1) X Y (by omega)
          rw [e] at z
          exact z
  exact loop

set_option maxRecDepth 100000 in
theorem tk_near {l : Launch} {G : GG} (hl : l.stackTraces = false) {A : AD} {h : AH} {a : Nat → Nat → Int32} {f : Nat → Int32} {T R m : Nat → Int32} {P9 : Post} {k : Nat} (hk : k < 64) (hout : (∀ X, Go l G mX10_passesTick 12 0 0 P9 132 [some (.ref (A 30 0)), some (.int (nI k)), some (.int (if nrN m k 4 = true then (1 : Int32) else 0)), some (.int (nI 4)), X] [] (mo h A (A3 a T R m, f)))) : ∀ (j : Nat) (s : Nat) (X : Option Value), s + j = 4 → Go l G mX10_passesTick 12 0 0 P9 83 [some (.ref (A 30 0)), some (.int (nI k)), some (.int (if nrN m k s = true then (1 : Int32) else 0)), some (.int (nI s)), X] [] (mo h A (A3 a T R m, f)) := by
  have loop : ∀ (j : Nat) (s : Nat) (X : Option Value), s + j = 4 → Go l G mX10_passesTick 12 0 0 P9 83 [some (.ref (A 30 0)), some (.int (nI k)), some (.int (if nrN m k s = true then (1 : Int32) else 0)), some (.int (nI s)), X] [] (mo h A (A3 a T R m, f)) := by
    intro j
    induction j with
    | zero =>
      intro s X hs9
      refine g_iload_n (i := 3) dX10_passesTick_83 rfl rfl ?_
      refine g_iconst (v := 4) dX10_passesTick_84 (by decide) ?_
      refine g_icmp_ge (tgt := 132) dX10_passesTick_85 (by decide) (fun c85 => ?_) (fun c85 => ?_)
      · obtain rfl : s = 4 := by omega
        exact hout _
      · exact absurd ((le_nI (a := 4) (b := s) rfl (by omega) (by omega)).mpr (by omega)) c85
    | succ j ih =>
      intro s X hs9
      refine g_iload_n (i := 3) dX10_passesTick_83 rfl rfl ?_
      refine g_iconst (v := 4) dX10_passesTick_84 (by decide) ?_
      refine g_icmp_ge (tgt := 132) dX10_passesTick_85 (by decide) (fun c85 => ?_) (fun c85 => ?_)
      · exact absurd ((le_nI (a := 4) (b := s) rfl (by omega) (by omega)).mp c85) (by omega)
      · refine g_iload_n (i := 1) dX10_passesTick_88 rfl rfl ?_
        refine g_iload_n (i := 3) dX10_passesTick_89 rfl rfl ?_
        refine g_callS (ev_beside hl hk (by omega)) dX10_passesTick_90 ml_X10_93 csX10_beside rfl rfl (Nat.le_of_ble_eq_true rfl) (Nat.le_of_ble_eq_true rfl) (Nat.zero_le _) (Nat.zero_le _) (kr_rt ?_) kx_rt
        refine g_istore dX10_passesTick_93 (Nat.le_of_ble_eq_true rfl) ?_
        refine g_iload_n (i := 2) dX10_passesTick_95 rfl rfl ?_
        refine g_if_ne (tgt := 120) dX10_passesTick_96 (by decide) (fun c96 => ?_) (fun c96 => ?_)
        · refine g_iconst (v := 1) dX10_passesTick_120 (by decide) ?_
          refine g_goto (tgt := 125) dX10_passesTick_121 (by decide) ?_
          refine g_istore_n (i := 2) dX10_passesTick_125 rfl (Nat.le_of_ble_eq_true rfl) ?_
          refine g_iinc (w := 1) dX10_passesTick_126 (by decide) rfl (nI_succ s).symm (Nat.le_of_ble_eq_true rfl) ?_
          refine g_goto (tgt := 83) dX10_passesTick_129 (by decide) ?_
          have z := fun X9 => ih (s + 1) X9 (by omega)
          rw [show (if nrN m k (s + 1) = true then (1 : Int32) else 0) = 1 from if_pos (nr_1 (ite_1 c96))] at z
          exact z _
        · refine g_iload dX10_passesTick_99 rfl ?_
          refine g_iconst (v := (-1)) dX10_passesTick_101 (by decide) ?_
          refine g_icmp_eq (tgt := 124) dX10_passesTick_102 (by decide) (fun c102 => ?_) (fun c102 => ?_)
          · refine g_iconst (v := 0) dX10_passesTick_124 (by decide) ?_
            refine g_istore_n (i := 2) dX10_passesTick_125 rfl (Nat.le_of_ble_eq_true rfl) ?_
            refine g_iinc (w := 1) dX10_passesTick_126 (by decide) rfl (nI_succ s).symm (Nat.le_of_ble_eq_true rfl) ?_
            refine g_goto (tgt := 83) dX10_passesTick_129 (by decide) ?_
            have z := fun X9 => ih (s + 1) X9 (by omega)
            rw [show (if nrN m k (s + 1) = true then (1 : Int32) else 0) = 0 from if_neg (nr_3 (ite_0 c96) ((nbS k hk s (by omega)).2 c102))] at z
            exact z _
          · obtain ⟨n, hn, en⟩ := (nbS k hk s (by omega)).1 c102
            rw [en]
            show Go l G mX10_passesTick 12 _ _ _ _ [_, _, _, _, some (.int (nI n))] _ _
            refine g_aload_n (i := 0) dX10_passesTick_105 rfl rfl ?_
            refine g_getf dX10_passesTick_106 K_X10 (k := 0) fl_X10_9 (Nat.le_of_ble_eq_true rfl) mo_30 rfl ?_
            refine g_iconst (v := 0) dX10_passesTick_109 (by decide) ?_
            refine g_iload dX10_passesTick_110 rfl ?_
            refine g_iadd dX10_passesTick_112 ?_
            refine g_iald dX10_passesTick_113 mo_31 (ix0 (k := n) (by omega)) (by omega) ?_
            refine g_sipush (v := 500) dX10_passesTick_114 (by decide) ?_
            refine g_icmp_lt (tgt := 124) dX10_passesTick_117 (by decide) (fun c117 => ?_) (fun c117 => ?_)
            · refine g_iconst (v := 0) dX10_passesTick_124 (by decide) ?_
              refine g_istore_n (i := 2) dX10_passesTick_125 rfl (Nat.le_of_ble_eq_true rfl) ?_
              refine g_iinc (w := 1) dX10_passesTick_126 (by decide) rfl (nI_succ s).symm (Nat.le_of_ble_eq_true rfl) ?_
              refine g_goto (tgt := 83) dX10_passesTick_129 (by decide) ?_
              have z := fun X9 => ih (s + 1) X9 (by omega)
              rw [show (if nrN m k (s + 1) = true then (1 : Int32) else 0) = 0 from if_neg (nr_4 (ite_0 c96) en (nlt' c117))] at z
              exact z _
            · refine g_iconst (v := 1) dX10_passesTick_120 (by decide) ?_
              refine g_goto (tgt := 125) dX10_passesTick_121 (by decide) ?_
              refine g_istore_n (i := 2) dX10_passesTick_125 rfl (Nat.le_of_ble_eq_true rfl) ?_
              refine g_iinc (w := 1) dX10_passesTick_126 (by decide) rfl (nI_succ s).symm (Nat.le_of_ble_eq_true rfl) ?_
              refine g_goto (tgt := 83) dX10_passesTick_129 (by decide) ?_
              have z := fun X9 => ih (s + 1) X9 (by omega)
              rw [show (if nrN m k (s + 1) = true then (1 : Int32) else 0) = 1 from if_pos (nr_2 en (ltn' c117))] at z
              exact z _
  exact loop

set_option maxRecDepth 100000 in
theorem tk_flags {l : Launch} {G : GG} (hl : l.stackTraces = false) {A : AD} {h : AH} {a : Nat → Nat → Int32} {f : Nat → Int32} {T R m : Nat → Int32} {P9 : Post} {n64 : Nat} (h64 : n64 = 64) (hout : (∀ X Y Z, Go l G mX10_passesTick 12 0 0 P9 179 [some (.ref (A 30 0)), some (.int (nI n64)), X, Y, Z] [] (mo h A (A3 a T (rlF m R n64) m, f)))) : ∀ (j : Nat) (k : Nat) (X Y Z : Option Value), k + j = n64 → Go l G mX10_passesTick 12 0 0 P9 73 [some (.ref (A 30 0)), some (.int (nI k)), X, Y, Z] [] (mo h A (A3 a T (rlF m R k) m, f)) := by
  have loop : ∀ (j : Nat) (k : Nat) (X Y Z : Option Value), k + j = n64 → Go l G mX10_passesTick 12 0 0 P9 73 [some (.ref (A 30 0)), some (.int (nI k)), X, Y, Z] [] (mo h A (A3 a T (rlF m R k) m, f)) := by
    intro j
    induction j with
    | zero =>
      intro k X Y Z hk
      refine g_iload_n (i := 1) dX10_passesTick_73 rfl rfl ?_
      refine g_bipush (v := 64) dX10_passesTick_74 (by decide) ?_
      refine g_icmp_ge (tgt := 179) dX10_passesTick_76 (by decide) (fun c76 => ?_) (fun c76 => ?_)
      · have e : k = n64 := by omega
        subst e
        exact hout _ _ _
      · exact absurd ((le_nI (a := 64) (b := k) rfl (by omega) (by omega)).mpr (by omega)) c76
    | succ j ih =>
      intro k X Y Z hk
      refine g_iload_n (i := 1) dX10_passesTick_73 rfl rfl ?_
      refine g_bipush (v := 64) dX10_passesTick_74 (by decide) ?_
      refine g_icmp_ge (tgt := 179) dX10_passesTick_76 (by decide) (fun c76 => ?_) (fun c76 => ?_)
      · exact absurd ((le_nI (a := 64) (b := k) rfl (by omega) (by omega)).mp c76) (by omega)
      · refine g_iconst (v := 0) dX10_passesTick_79 (by decide) ?_
        refine g_istore_n (i := 2) dX10_passesTick_80 rfl (Nat.le_of_ble_eq_true rfl) ?_
        refine g_iconst (v := 0) dX10_passesTick_81 (by decide) ?_
        refine g_istore_n (i := 3) dX10_passesTick_82 rfl (Nat.le_of_ble_eq_true rfl) ?_
        refine tk_near hl (k := k) (by omega) (fun X => ?_) 4 0 _ rfl
        refine g_aload_n (i := 0) dX10_passesTick_132 rfl rfl ?_
        refine g_getf dX10_passesTick_133 K_X10 (k := 15) fl_X10_38 (Nat.le_of_ble_eq_true rfl) mo_30 rfl ?_
        refine g_iload_n (i := 1) dX10_passesTick_136 rfl rfl ?_
        refine g_iload_n (i := 2) dX10_passesTick_137 rfl rfl ?_
        refine g_if_eq (tgt := 171) dX10_passesTick_138 (by decide) (fun c138 => ?_) (fun c138 => ?_)
        · refine g_iconst (v := 0) dX10_passesTick_171 (by decide) ?_
          refine g_zast dX10_passesTick_172 mo_38 (ix_nI (j := k) (by omega)) (by omega) rfl (Go.heap (mo_a7.trans mo_t7) ?_)
          refine g_iinc (w := 1) dX10_passesTick_173 (by decide) rfl (nI_succ k).symm (Nat.le_of_ble_eq_true rfl) ?_
          refine g_goto (tgt := 73) dX10_passesTick_176 (by decide) ?_
          refine Go.heap (h' := (mo h A (A3 a T (rlF m R (k + 1)) m, f))) ?_ (ih (k + 1) _ _ _ (by omega))
          exact congrArg (fun z => mo h A (A3 a T z m, f)) (rlF_s (v := 0) (if_neg (rl_1 (m := m) (ite_0 c138))).symm)
        · refine g_aload_n (i := 0) dX10_passesTick_141 rfl rfl ?_
          refine g_getf dX10_passesTick_142 K_X10 (k := 0) fl_X10_9 (Nat.le_of_ble_eq_true rfl) mo_30 rfl ?_
          refine g_bipush (v := 64) dX10_passesTick_145 (by decide) ?_
          refine g_iload_n (i := 1) dX10_passesTick_147 rfl rfl ?_
          refine g_iadd dX10_passesTick_148 ?_
          refine g_iald dX10_passesTick_149 mo_31 (ixA (b := 64) (k := k) rfl (by omega)) (by omega) ?_
          refine g_if_le (tgt := 171) dX10_passesTick_150 (by decide) (fun c150 => ?_) (fun c150 => ?_)
          · refine g_iconst (v := 0) dX10_passesTick_171 (by decide) ?_
            refine g_zast dX10_passesTick_172 mo_38 (ix_nI (j := k) (by omega)) (by omega) rfl (Go.heap (mo_a7.trans mo_t7) ?_)
            refine g_iinc (w := 1) dX10_passesTick_173 (by decide) rfl (nI_succ k).symm (Nat.le_of_ble_eq_true rfl) ?_
            refine g_goto (tgt := 73) dX10_passesTick_176 (by decide) ?_
            refine Go.heap (h' := (mo h A (A3 a T (rlF m R (k + 1)) m, f))) ?_ (ih (k + 1) _ _ _ (by omega))
            exact congrArg (fun z => mo h A (A3 a T z m, f)) (rlF_s (v := 0) (if_neg (rl_2 (m := m) (Int32.not_lt.mpr c150))).symm)
          · refine g_aload_n (i := 0) dX10_passesTick_153 rfl rfl ?_
            refine g_getf dX10_passesTick_154 K_X10 (k := 0) fl_X10_9 (Nat.le_of_ble_eq_true rfl) mo_30 rfl ?_
            refine g_iconst (v := 0) dX10_passesTick_157 (by decide) ?_
            refine g_iload_n (i := 1) dX10_passesTick_158 rfl rfl ?_
            refine g_iadd dX10_passesTick_159 ?_
            refine g_iald dX10_passesTick_160 mo_31 (ix0 (k := k) (by omega)) (by omega) ?_
            refine g_sipush (v := 300) dX10_passesTick_161 (by decide) ?_
            refine g_icmp_ge (tgt := 171) dX10_passesTick_164 (by decide) (fun c164 => ?_) (fun c164 => ?_)
            · refine g_iconst (v := 0) dX10_passesTick_171 (by decide) ?_
              refine g_zast dX10_passesTick_172 mo_38 (ix_nI (j := k) (by omega)) (by omega) rfl (Go.heap (mo_a7.trans mo_t7) ?_)
              refine g_iinc (w := 1) dX10_passesTick_173 (by decide) rfl (nI_succ k).symm (Nat.le_of_ble_eq_true rfl) ?_
              refine g_goto (tgt := 73) dX10_passesTick_176 (by decide) ?_
              refine Go.heap (h' := (mo h A (A3 a T (rlF m R (k + 1)) m, f))) ?_ (ih (k + 1) _ _ _ (by omega))
              exact congrArg (fun z => mo h A (A3 a T z m, f)) (rlF_s (v := 0) (if_neg (rl_3 (m := m) (nlt c164))).symm)
            · refine g_iconst (v := 1) dX10_passesTick_167 (by decide) ?_
              refine g_goto (tgt := 172) dX10_passesTick_168 (by decide) ?_
              refine g_zast dX10_passesTick_172 mo_38 (ix_nI (j := k) (by omega)) (by omega) rfl (Go.heap (mo_a7.trans mo_t7) ?_)
              refine g_iinc (w := 1) dX10_passesTick_173 (by decide) rfl (nI_succ k).symm (Nat.le_of_ble_eq_true rfl) ?_
              refine g_goto (tgt := 73) dX10_passesTick_176 (by decide) ?_
              refine Go.heap (h' := (mo h A (A3 a T (rlF m R (k + 1)) m, f))) ?_ (ih (k + 1) _ _ _ (by omega))
              exact congrArg (fun z => mo h A (A3 a T z m, f)) (rlF_s (v := 1) (if_pos (rl_t (m := m) (ite_1 c138) (ltn c150) (ltn c164))).symm)
  exact loop

set_option maxRecDepth 100000 in
theorem tk_embers {l : Launch} {G : GG} (hl : l.stackTraces = false) {A : AD} {h : AH} {a : Nat → Nat → Int32} {f : Nat → Int32} {T R m : Nat → Int32} {P9 : Post} {n64 : Nat} (h64 : n64 = 64) (hout : (Go l G mX10_passesTick 12 0 0 P9 71 [some (.ref (A 30 0)), some (.int (nI n64)), none, none, none] [] (mo h A (A3 a T R (emN m n64), f)))) : ∀ (j : Nat) (k : Nat), k + j = n64 → Go l G mX10_passesTick 12 0 0 P9 18 [some (.ref (A 30 0)), some (.int (nI k)), none, none, none] [] (mo h A (A3 a T R (emN m k), f)) := by
  have loop : ∀ (j : Nat) (k : Nat), k + j = n64 → Go l G mX10_passesTick 12 0 0 P9 18 [some (.ref (A 30 0)), some (.int (nI k)), none, none, none] [] (mo h A (A3 a T R (emN m k), f)) := by
    intro j
    induction j with
    | zero =>
      intro k hk
      refine g_iload_n (i := 1) dX10_passesTick_18 rfl rfl ?_
      refine g_bipush (v := 64) dX10_passesTick_19 (by decide) ?_
      refine g_icmp_ge (tgt := 71) dX10_passesTick_21 (by decide) (fun c21 => ?_) (fun c21 => ?_)
      · have e : k = n64 := by omega
        subst e
        exact hout
      · exact absurd ((le_nI (a := 64) (b := k) rfl (by omega) (by omega)).mpr (by omega)) c21
    | succ j ih =>
      intro k hk
      refine g_iload_n (i := 1) dX10_passesTick_18 rfl rfl ?_
      refine g_bipush (v := 64) dX10_passesTick_19 (by decide) ?_
      refine g_icmp_ge (tgt := 71) dX10_passesTick_21 (by decide) (fun c21 => ?_) (fun c21 => ?_)
      · exact absurd ((le_nI (a := 64) (b := k) rfl (by omega) (by omega)).mp c21) (by omega)
      · refine g_aload_n (i := 0) dX10_passesTick_24 rfl rfl ?_
        refine g_getf dX10_passesTick_25 K_X10 (k := 0) fl_X10_9 (Nat.le_of_ble_eq_true rfl) mo_30 rfl ?_
        refine g_iconst (v := 0) dX10_passesTick_28 (by decide) ?_
        refine g_iload_n (i := 1) dX10_passesTick_29 rfl rfl ?_
        refine g_iadd dX10_passesTick_30 ?_
        refine g_iald dX10_passesTick_31 mo_31 (ix0 (k := k) (by omega)) (by omega) ?_
        refine g_sipush (v := 700) dX10_passesTick_32 (by decide) ?_
        refine g_icmp_lt (tgt := 65) dX10_passesTick_35 (by decide) (fun c35 => ?_) (fun c35 => ?_)
        · refine g_iinc (w := 1) dX10_passesTick_65 (by decide) rfl (nI_succ k).symm (Nat.le_of_ble_eq_true rfl) ?_
          refine g_goto (tgt := 18) dX10_passesTick_68 (by decide) ?_
          have e : emN m (k + 1) = emN m k := if_neg (nlt' c35)
          rw [← e]
          exact ih (k + 1) (by omega)
        · refine g_aload_n (i := 0) dX10_passesTick_38 rfl rfl ?_
          refine g_getf dX10_passesTick_39 K_X10 (k := 0) fl_X10_9 (Nat.le_of_ble_eq_true rfl) mo_30 rfl ?_
          refine g_iconst (v := 0) dX10_passesTick_42 (by decide) ?_
          refine g_iload_n (i := 1) dX10_passesTick_43 rfl rfl ?_
          refine g_iadd dX10_passesTick_44 ?_
          refine g_dup2 dX10_passesTick_45 rfl rfl ?_
          refine g_iald dX10_passesTick_46 mo_31 (ix0 (k := k) (by omega)) (by omega) ?_
          refine g_bipush (v := 100) dX10_passesTick_47 (by decide) ?_
          refine g_isub dX10_passesTick_49 ?_
          refine g_iast dX10_passesTick_50 mo_31 (ix0 (k := k) (by omega)) (by omega) rfl (Go.heap (mo_a0.trans mo_t0) ?_)
          refine g_aload_n (i := 0) dX10_passesTick_51 rfl rfl ?_
          refine g_getf dX10_passesTick_52 K_X10 (k := 0) fl_X10_9 (Nat.le_of_ble_eq_true rfl) mo_30 rfl ?_
          refine g_bipush (v := 64) dX10_passesTick_55 (by decide) ?_
          refine g_iload_n (i := 1) dX10_passesTick_57 rfl rfl ?_
          refine g_iadd dX10_passesTick_58 ?_
          refine g_dup2 dX10_passesTick_59 rfl rfl ?_
          refine g_iald dX10_passesTick_60 mo_31 (ixA (b := 64) (k := k) rfl (by omega)) (by omega) ?_
          refine g_bipush (v := 100) dX10_passesTick_61 (by decide) ?_
          refine g_iadd dX10_passesTick_63 ?_
          refine g_iast dX10_passesTick_64 mo_31 (ixA (b := 64) (k := k) rfl (by omega)) (by omega) rfl (Go.heap (mo_a0.trans mo_t0) ?_)
          refine g_iinc (w := 1) dX10_passesTick_65 (by decide) rfl (nI_succ k).symm (Nat.le_of_ble_eq_true rfl) ?_
          refine g_goto (tgt := 18) dX10_passesTick_68 (by decide) ?_
          have e : emN m (k + 1) = va_up (va_up (emN m k) k (emN m k k - 100)) (64 + k) (va_up (emN m k) k (emN m k k - 100) (64 + k) + 100) := if_pos (ltn' c35)
          have z := ih (k + 1) (by omega)
          rw [e] at z
          exact z
  exact loop

theorem rlF_0 {m R : Nat → Int32} : rlF m R 0 = R := by funext i; simp [rlF]
theorem apN_congr {m R R' : Nat → Int32} : ∀ k, (∀ i, i < k → R i = R' i) → apN m R k = apN m R' k
  | 0, _ => rfl
  | k + 1, h => by
    have e := apN_congr (m := m) k (fun i hi => h i (by omega))
    rw [apN, apN, e, h k (by omega)]
theorem tk3_eq {m R : Nat → Int32} {n : Nat} (h : n = 64) : apN (emN (tk1 m) n) (rlF (emN (tk1 m) n) R n) n = tk3 m := by
  subst h
  unfold tk3 tk2
  exact apN_congr 64 (fun i hi => if_pos hi)

set_option maxRecDepth 100000 in
theorem ev_tick {l : Launch} {G : GG} (hl : l.stackTraces = false) {A : AD} {h : AH} {a : Nat → Nat → Int32} {f : Nat → Int32} {T R m : Nat → Int32} :
    Ev l G 12 0 0 mX10_passesTick [.ref (A 30 0)] (mo h A (A3 a T R m, f)) (RtX (some (.int (tk3 m).2)) (fun x : (Nat → Int32) × (Nat → Int32) => (mo h A (A3 a x.1 x.2 (tkF m), f)))) := by
  refine Ev.of hl (by decide) (Nat.le_of_ble_eq_true rfl) ?_
  refine g_aload_n (i := 0) dX10_passesTick_0 rfl rfl ?_
  refine g_getf dX10_passesTick_1 K_X10 (k := 0) fl_X10_9 (Nat.le_of_ble_eq_true rfl) mo_30 rfl ?_
  refine g_sipush (v := 200) dX10_passesTick_4 (by decide) ?_
  refine g_dup2 dX10_passesTick_7 rfl rfl ?_
  refine g_iald dX10_passesTick_8 mo_31 (ix_nI (j := 200) (by decide)) (by decide) ?_
  refine g_iconst (v := 1) dX10_passesTick_9 (by decide) ?_
  refine g_iadd dX10_passesTick_10 ?_
  refine g_iast dX10_passesTick_11 mo_31 (ix_nI (j := 200) (by decide)) (by decide) rfl (Go.heap (mo_a0.trans mo_t0) ?_)
  refine g_aload_n (i := 0) dX10_passesTick_12 rfl rfl ?_
  refine g_callV (ev_flows3 hl (T := T) (R := R) (m := (va_up m 200 (m 200 + 1)))) dX10_passesTick_13 ml_X10_105 cvX10_flows K_X10 rfl mo_30 rfl rfl (Nat.le_of_ble_eq_true rfl) (Nat.le_of_ble_eq_true rfl) (Nat.zero_le _) (Nat.zero_le _) (kr_vd ?_) kx_rt
  generalize (flA 64 ((va_up m 200 (m 200 + 1)), (va_up m 200 (m 200 + 1)))).1 = T9
  rw [show flM (va_up m 200 (m 200 + 1)) = tk1 m from rfl]
  refine g_iconst (v := 0) dX10_passesTick_16 (by decide) ?_
  refine g_istore_n (i := 1) dX10_passesTick_17 rfl (Nat.le_of_ble_eq_true rfl) ?_
  obtain ⟨n64, h64⟩ : ∃ n, n = 64 := ⟨64, rfl⟩
  refine Go.heap (h' := (mo h A (A3 a T9 R (emN (tk1 m) 0), f))) rfl ?_
  refine tk_embers hl h64 ?_ n64 0 (Nat.zero_add _)
  refine g_iconst (v := 0) dX10_passesTick_71 (by decide) ?_
  refine g_istore_n (i := 1) dX10_passesTick_72 rfl (Nat.le_of_ble_eq_true rfl) ?_
  refine Go.heap (h' := (mo h A (A3 a T9 (rlF (emN (tk1 m) n64) R 0) (emN (tk1 m) n64), f))) (by rw [rlF_0]) ?_
  refine tk_flags hl h64 (fun X Y Z => ?_) n64 0 _ _ _ (Nat.zero_add _)
  refine g_iconst (v := 0) dX10_passesTick_179 (by decide) ?_
  refine g_istore_n (i := 1) dX10_passesTick_180 rfl (Nat.le_of_ble_eq_true rfl) ?_
  refine g_iconst (v := 0) dX10_passesTick_181 (by decide) ?_
  refine g_istore_n (i := 2) dX10_passesTick_182 rfl (Nat.le_of_ble_eq_true rfl) ?_
  refine Go.heap (h' := (mo h A (A3 a T9 (rlF (emN (tk1 m) n64) R n64) (apN (emN (tk1 m) n64) (rlF (emN (tk1 m) n64) R n64) 0).1, f))) rfl ?_
  refine tk_apply hl h64 (fun X Y => ?_) n64 0 _ _ (Nat.zero_add _)
  refine g_aload_n (i := 0) dX10_passesTick_237 rfl rfl ?_
  refine g_getf dX10_passesTick_238 K_X10 (k := 0) fl_X10_9 (Nat.le_of_ble_eq_true rfl) mo_30 rfl ?_
  refine g_sipush (v := 201) dX10_passesTick_241 (by decide) ?_
  refine g_dup2 dX10_passesTick_244 rfl rfl ?_
  refine g_iald dX10_passesTick_245 mo_31 (ix_nI (j := 201) (by decide)) (by decide) ?_
  refine g_iload_n (i := 1) dX10_passesTick_246 rfl rfl ?_
  refine g_iadd dX10_passesTick_247 ?_
  refine g_iast dX10_passesTick_248 mo_31 (ix_nI (j := 201) (by decide)) (by decide) rfl (Go.heap (mo_a0.trans mo_t0) ?_)
  refine g_iload_n (i := 1) dX10_passesTick_249 rfl rfl ?_
  refine g_iret dX10_passesTick_250 rfl rfl ?_
  rw [tk3_eq h64]
  exact ⟨rfl, (_, _), rfl⟩

