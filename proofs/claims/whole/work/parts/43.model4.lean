/-! Model: neighbours, flows, ticks (by wip/whole/gen/m33.py). -/
theorem nbG : ∀ c, c < 64 → (nI c - nI c / 8 * 8 = nI (c % 8) ∧ nI c / 8 = nI (c / 8)) ∧ (nI (c / 8) = 0 → oI (nb c 0) = -1) ∧ (¬ nI (c / 8) = 0 → oI (nb c 0) = nI c - 8) ∧ (nI (c % 8) = 7 → oI (nb c 1) = -1) ∧ (¬ nI (c % 8) = 7 → oI (nb c 1) = nI c + 1) ∧ (nI (c / 8) = 7 → oI (nb c 2) = -1) ∧ (¬ nI (c / 8) = 7 → oI (nb c 2) = nI c + 8) ∧ (nI (c % 8) = 0 → oI (nb c 3) = -1) ∧ (¬ nI (c % 8) = 0 → oI (nb c 3) = nI c - 1) := by decide +kernel
theorem sl_pos (m : Nat → Int32) (k n : Nat) : ¬ slN m k + slN m n = 0 ∧ ¬ 2 * slN m k = 0 := by
  unfold slN
  repeat' split
  all_goals decide
abbrev FS : Type := (Nat → Int32) × (Nat → Int32)
/-- one side of a cell: (then, m) -/
def fl1 (c s : Nat) (S : FS) : FS := match nb c s with
  | none => (va_up S.1 c (S.1 c - (if 0 < S.2 c - S.2 (192 + s) then S.2 c - S.2 (192 + s) else 0) / (2 * slN S.2 c)), va_up S.2 (196 + s) (S.2 (196 + s) + (if 0 < S.2 c - S.2 (192 + s) then S.2 c - S.2 (192 + s) else 0) / (2 * slN S.2 c)))
  | some n => if S.2 (128 + n) = 35 then S else if S.2 n < S.2 c then (va_up (va_up S.1 c (S.1 c - (S.2 c - S.2 n) / (slN S.2 c + slN S.2 n))) n (va_up S.1 c (S.1 c - (S.2 c - S.2 n) / (slN S.2 c + slN S.2 n)) n + (S.2 c - S.2 n) / (slN S.2 c + slN S.2 n)), S.2) else S
/-- the sides from s on -/
def flJ (c : Nat) : Nat → Nat → FS → FS
  | 0, _, S => S
  | j + 1, s, S => if S.2 (128 + c) = 35 then S else flJ c j (s + 1) (fl1 c s S)
def flA : Nat → FS → FS
  | 0, S => S
  | k + 1, S => flJ k 4 0 (flA k S)
/-- m after the flows -/
def flM (m : Nat → Int32) : Nat → Int32 := fun i => if i < 64 then (flA 64 (m, m)).1 i else (flA 64 (m, m)).2 i

set_option maxRecDepth 100000 in
theorem ev_beside {l : Launch} {G : GG} (hl : l.stackTraces = false) {c s : Nat} (hc : c < 64) (hs : s < 4) {h : AH} :
    Ev l G 10 0 0 mX10_beside [.int (nI c), .int (nI s)] h (Rt (some (.int (oI (nb c s)))) h) := by
  refine Ev.of hl (by decide) (Nat.le_of_ble_eq_true rfl) ?_
  refine g_iload_n (i := 0) dX10_beside_0 rfl rfl ?_
  refine g_bipush (v := 8) dX10_beside_1 (by decide) ?_
  refine g_irem dX10_beside_3 (by decide) ?_
  refine g_istore_n (i := 2) dX10_beside_4 rfl (Nat.le_of_ble_eq_true rfl) ?_
  refine g_iload_n (i := 0) dX10_beside_5 rfl rfl ?_
  refine g_bipush (v := 8) dX10_beside_6 (by decide) ?_
  refine g_idiv dX10_beside_8 (by decide) ?_
  refine g_istore_n (i := 3) dX10_beside_9 rfl (Nat.le_of_ble_eq_true rfl) ?_
  refine g_iload_n (i := 1) dX10_beside_10 rfl rfl ?_
  obtain ⟨⟨e1, e2⟩, f1, f2, f3, f4, f5, f6, f7, f8⟩ := nbG c hc
  rw [e1, e2]
  have hs4 : s = 0 ∨ s = 1 ∨ s = 2 ∨ s = 3 := by omega
  rcases hs4 with rfl | rfl | rfl | rfl
  · refine g_tabIn (tgt := 36) dX10_beside_11 (by decide) (by decide) rfl (by decide) ?_
    refine g_iload_n (i := 3) dX10_beside_36 rfl rfl ?_
    refine g_if_ne (tgt := 44) dX10_beside_37 (by decide) (fun c37 => ?_) (fun c37 => ?_)
    · refine g_iload_n (i := 0) dX10_beside_44 rfl rfl ?_
      refine g_bipush (v := 8) dX10_beside_45 (by decide) ?_
      refine g_isub dX10_beside_47 ?_
      refine g_iret dX10_beside_48 rfl rfl ?_
      exact ⟨by rw [f2 c37], rfl⟩
    · refine g_iconst (v := (-1)) dX10_beside_40 (by decide) ?_
      refine g_goto (tgt := 48) dX10_beside_41 (by decide) ?_
      refine g_iret dX10_beside_48 rfl rfl ?_
      exact ⟨by rw [f1 c37], rfl⟩
  · refine g_tabIn (tgt := 49) dX10_beside_11 (by decide) (by decide) rfl (by decide) ?_
    refine g_iload_n (i := 2) dX10_beside_49 rfl rfl ?_
    refine g_bipush (v := 7) dX10_beside_50 (by decide) ?_
    refine g_icmp_ne (tgt := 59) dX10_beside_52 (by decide) (fun c52 => ?_) (fun c52 => ?_)
    · refine g_iload_n (i := 0) dX10_beside_59 rfl rfl ?_
      refine g_iconst (v := 1) dX10_beside_60 (by decide) ?_
      refine g_iadd dX10_beside_61 ?_
      refine g_iret dX10_beside_62 rfl rfl ?_
      exact ⟨by rw [f4 c52], rfl⟩
    · refine g_iconst (v := (-1)) dX10_beside_55 (by decide) ?_
      refine g_goto (tgt := 62) dX10_beside_56 (by decide) ?_
      refine g_iret dX10_beside_62 rfl rfl ?_
      exact ⟨by rw [f3 c52], rfl⟩
  · refine g_tabIn (tgt := 63) dX10_beside_11 (by decide) (by decide) rfl (by decide) ?_
    refine g_iload_n (i := 3) dX10_beside_63 rfl rfl ?_
    refine g_bipush (v := 7) dX10_beside_64 (by decide) ?_
    refine g_icmp_ne (tgt := 73) dX10_beside_66 (by decide) (fun c66 => ?_) (fun c66 => ?_)
    · refine g_iload_n (i := 0) dX10_beside_73 rfl rfl ?_
      refine g_bipush (v := 8) dX10_beside_74 (by decide) ?_
      refine g_iadd dX10_beside_76 ?_
      refine g_iret dX10_beside_77 rfl rfl ?_
      exact ⟨by rw [f6 c66], rfl⟩
    · refine g_iconst (v := (-1)) dX10_beside_69 (by decide) ?_
      refine g_goto (tgt := 77) dX10_beside_70 (by decide) ?_
      refine g_iret dX10_beside_77 rfl rfl ?_
      exact ⟨by rw [f5 c66], rfl⟩
  · refine g_tabOut (tgt := 78) dX10_beside_11 (Or.inr (by decide)) (by decide) ?_
    refine g_iload_n (i := 2) dX10_beside_78 rfl rfl ?_
    refine g_if_ne (tgt := 86) dX10_beside_79 (by decide) (fun c79 => ?_) (fun c79 => ?_)
    · refine g_iload_n (i := 0) dX10_beside_86 rfl rfl ?_
      refine g_iconst (v := 1) dX10_beside_87 (by decide) ?_
      refine g_isub dX10_beside_88 ?_
      refine g_iret dX10_beside_89 rfl rfl ?_
      exact ⟨by rw [f8 c79], rfl⟩
    · refine g_iconst (v := (-1)) dX10_beside_82 (by decide) ?_
      refine g_goto (tgt := 89) dX10_beside_83 (by decide) ?_
      refine g_iret dX10_beside_89 rfl rfl ?_
      exact ⟨by rw [f7 c79], rfl⟩

theorem st6 {a : Nat → Nat → Int32} {T m x : Nat → Int32} : va_up (va_up (va_up a 6 T) 0 m) 6 x = va_up (va_up a 6 x) 0 m := by
  funext r
  unfold va_up
  by_cases e : r = 6
  · subst e; simp
  · simp [e]
section MS6
variable {h : AH} {A : AD} {a : Nat → Nat → Int32} {f : Nat → Int32} {T m x : Nat → Int32}
theorem mo_s6 : mo h A (va_up (va_up (va_up a 6 T) 0 m) 6 x, f) = mo h A (va_up (va_up a 6 x) 0 m, f) := by rw [st6]
theorem mo_s0 : mo h A (va_up (va_up (va_up a 6 T) 0 m) 0 x, f) = mo h A (va_up (va_up a 6 T) 0 x, f) := by rw [va_up2]
end MS6

set_option maxRecDepth 100000 in
theorem fl_inner {l : Launch} {G : GG} (hl : l.stackTraces = false) {A : AD} {h : AH} {a : Nat → Nat → Int32} {f : Nat → Int32} {P9 : Post} {k : Nat} (hk : k < 64) : ∀ (j : Nat) (s : Nat) (T m : Nat → Int32) (X Y : Option Value), s + j = 4 → (∀ (s9 : Nat) (X Y : Option Value), Go l G mX10_flows 11 0 0 P9 210 [some (.ref (A 30 0)), some (.int (nI k)), some (.int (nI s9)), X, Y] [] (mo h A (va_up (va_up a 6 (flJ k j s (T, m)).1) 0 (flJ k j s (T, m)).2, f))) → Go l G mX10_flows 11 0 0 P9 38 [some (.ref (A 30 0)), some (.int (nI k)), some (.int (nI s)), X, Y] [] (mo h A (va_up (va_up a 6 T) 0 m, f)) := by
  have inner : ∀ (j : Nat) (s : Nat) (T m : Nat → Int32) (X Y : Option Value), s + j = 4 → (∀ (s9 : Nat) (X Y : Option Value), Go l G mX10_flows 11 0 0 P9 210 [some (.ref (A 30 0)), some (.int (nI k)), some (.int (nI s9)), X, Y] [] (mo h A (va_up (va_up a 6 (flJ k j s (T, m)).1) 0 (flJ k j s (T, m)).2, f))) → Go l G mX10_flows 11 0 0 P9 38 [some (.ref (A 30 0)), some (.int (nI k)), some (.int (nI s)), X, Y] [] (mo h A (va_up (va_up a 6 T) 0 m, f)) := by
    intro j
    induction j with
    | zero =>
      intro s T m X Y hs0 hout
      refine g_iload_n (i := 2) dX10_flows_38 rfl rfl ?_
      refine g_iconst (v := 4) dX10_flows_39 (by decide) ?_
      refine g_icmp_ge (tgt := 210) dX10_flows_40 (by decide) (fun c40 => ?_) (fun c40 => ?_)
      · exact hout _ _ _
      · exact absurd ((le_nI (a := 4) (b := s) rfl (by omega) (by omega)).mpr (by omega)) c40
    | succ j ih =>
      intro s T m X Y hs0 hout
      refine g_iload_n (i := 2) dX10_flows_38 rfl rfl ?_
      refine g_iconst (v := 4) dX10_flows_39 (by decide) ?_
      refine g_icmp_ge (tgt := 210) dX10_flows_40 (by decide) (fun c40 => ?_) (fun c40 => ?_)
      · exact absurd ((le_nI (a := 4) (b := s) rfl (by omega) (by omega)).mp c40) (by omega)
      · refine g_aload_n (i := 0) dX10_flows_43 rfl rfl ?_
        refine g_iload_n (i := 1) dX10_flows_44 rfl rfl ?_
        refine g_callV (ev_mRock hl (k := k) (by omega)) dX10_flows_45 ml_X10_89 cvX10_isRock K_X10 rfl mo_30 rfl rfl (Nat.le_of_ble_eq_true rfl) (Nat.le_of_ble_eq_true rfl) (Nat.zero_le _) (Nat.zero_le _) (kr_rt ?_) kx_rt
        refine g_if_ne (tgt := 210) dX10_flows_48 (by decide) (fun c48 => ?_) (fun c48 => ?_)
        · have hr : m (128 + k) = 35 := ite_1 c48
          rw [show flJ k (j + 1) s (T, m) = (T, m) from if_pos hr] at hout
          exact hout _ _ _
        · have hs : s < 4 := by omega
          have hr : ¬ m (128 + k) = 35 := ite_0 c48
          refine g_iload_n (i := 1) dX10_flows_51 rfl rfl ?_
          refine g_iload_n (i := 2) dX10_flows_52 rfl rfl ?_
          refine g_callS (ev_beside hl hk (by omega)) dX10_flows_53 ml_X10_93 csX10_beside rfl rfl (Nat.le_of_ble_eq_true rfl) (Nat.le_of_ble_eq_true rfl) (Nat.zero_le _) (Nat.zero_le _) (kr_rt ?_) kx_rt
          refine g_istore_n (i := 3) dX10_flows_56 rfl (Nat.le_of_ble_eq_true rfl) ?_
          refine g_iload_n (i := 3) dX10_flows_57 rfl rfl ?_
          refine g_iconst (v := (-1)) dX10_flows_58 (by decide) ?_
          refine g_icmp_ne (tgt := 124) dX10_flows_59 (by decide) (fun c59 => ?_) (fun c59 => ?_)
          · obtain ⟨n, hn, en⟩ := (nbS k hk s hs).1 c59
            rw [en]
            show Go l G mX10_flows 11 _ _ _ _ [_, _, _, some (.int (nI n)), _] _ _
            refine g_aload_n (i := 0) dX10_flows_124 rfl rfl ?_
            refine g_iload_n (i := 3) dX10_flows_125 rfl rfl ?_
            refine g_callV (ev_mRock hl (k := n) (by omega)) dX10_flows_126 ml_X10_89 cvX10_isRock K_X10 rfl mo_30 rfl rfl (Nat.le_of_ble_eq_true rfl) (Nat.le_of_ble_eq_true rfl) (Nat.zero_le _) (Nat.zero_le _) (kr_rt ?_) kx_rt
            refine g_if_ne (tgt := 204) dX10_flows_129 (by decide) (fun c129 => ?_) (fun c129 => ?_)
            · refine g_iinc (w := 1) dX10_flows_204 (by decide) rfl (nI_succ s).symm (Nat.le_of_ble_eq_true rfl) ?_
              refine g_goto (tgt := 38) dX10_flows_207 (by decide) ?_
              have hst : flJ k (j + 1) s (T, m) = flJ k j (s + 1) (T, m) := (if_neg hr).trans (congrArg (flJ k j (s + 1)) (show fl1 k s (T, m) = (T, m) from by rw [fl1, en]; exact if_pos (ite_1 c129)))
              rw [hst] at hout
              exact ih (s + 1) (T) (m) _ _ (by omega) hout
            · refine g_aload_n (i := 0) dX10_flows_132 rfl rfl ?_
              refine g_getf dX10_flows_133 K_X10 (k := 0) fl_X10_9 (Nat.le_of_ble_eq_true rfl) mo_30 rfl ?_
              refine g_iconst (v := 0) dX10_flows_136 (by decide) ?_
              refine g_iload_n (i := 1) dX10_flows_137 rfl rfl ?_
              refine g_iadd dX10_flows_138 ?_
              refine g_iald dX10_flows_139 mo_31 (ix0 (k := k) (by omega)) (by omega) ?_
              refine g_aload_n (i := 0) dX10_flows_140 rfl rfl ?_
              refine g_getf dX10_flows_141 K_X10 (k := 0) fl_X10_9 (Nat.le_of_ble_eq_true rfl) mo_30 rfl ?_
              refine g_iconst (v := 0) dX10_flows_144 (by decide) ?_
              refine g_iload_n (i := 3) dX10_flows_145 rfl rfl ?_
              refine g_iadd dX10_flows_146 ?_
              refine g_iald dX10_flows_147 mo_31 (ix0 (k := n) (by omega)) (by omega) ?_
              refine g_icmp_le (tgt := 204) dX10_flows_148 (by decide) (fun c148 => ?_) (fun c148 => ?_)
              · refine g_iinc (w := 1) dX10_flows_204 (by decide) rfl (nI_succ s).symm (Nat.le_of_ble_eq_true rfl) ?_
                refine g_goto (tgt := 38) dX10_flows_207 (by decide) ?_
                have hst : flJ k (j + 1) s (T, m) = flJ k j (s + 1) (T, m) := (if_neg hr).trans (congrArg (flJ k j (s + 1)) (show fl1 k s (T, m) = (T, m) from by rw [fl1, en]; exact (if_neg (ite_0 c129)).trans (if_neg (nlt c148))))
                rw [hst] at hout
                exact ih (s + 1) (T) (m) _ _ (by omega) hout
              · refine g_aload_n (i := 0) dX10_flows_151 rfl rfl ?_
                refine g_getf dX10_flows_152 K_X10 (k := 0) fl_X10_9 (Nat.le_of_ble_eq_true rfl) mo_30 rfl ?_
                refine g_iconst (v := 0) dX10_flows_155 (by decide) ?_
                refine g_iload_n (i := 1) dX10_flows_156 rfl rfl ?_
                refine g_iadd dX10_flows_157 ?_
                refine g_iald dX10_flows_158 mo_31 (ix0 (k := k) (by omega)) (by omega) ?_
                refine g_aload_n (i := 0) dX10_flows_159 rfl rfl ?_
                refine g_getf dX10_flows_160 K_X10 (k := 0) fl_X10_9 (Nat.le_of_ble_eq_true rfl) mo_30 rfl ?_
                refine g_iconst (v := 0) dX10_flows_163 (by decide) ?_
                refine g_iload_n (i := 3) dX10_flows_164 rfl rfl ?_
                refine g_iadd dX10_flows_165 ?_
                refine g_iald dX10_flows_166 mo_31 (ix0 (k := n) (by omega)) (by omega) ?_
                refine g_isub dX10_flows_167 ?_
                refine g_aload_n (i := 0) dX10_flows_168 rfl rfl ?_
                refine g_iload_n (i := 1) dX10_flows_169 rfl rfl ?_
                refine g_callV (ev_mSlow hl (k := k) (by omega)) dX10_flows_170 ml_X10_102 cvX10_slow K_X10 rfl mo_30 rfl rfl (Nat.le_of_ble_eq_true rfl) (Nat.le_of_ble_eq_true rfl) (Nat.zero_le _) (Nat.zero_le _) (kr_rt ?_) kx_rt
                refine g_aload_n (i := 0) dX10_flows_173 rfl rfl ?_
                refine g_iload_n (i := 3) dX10_flows_174 rfl rfl ?_
                refine g_callV (ev_mSlow hl (k := n) (by omega)) dX10_flows_175 ml_X10_102 cvX10_slow K_X10 rfl mo_30 rfl rfl (Nat.le_of_ble_eq_true rfl) (Nat.le_of_ble_eq_true rfl) (Nat.zero_le _) (Nat.zero_le _) (kr_rt ?_) kx_rt
                refine g_iadd dX10_flows_178 ?_
                refine g_idiv dX10_flows_179 (sl_pos _ k n).1 ?_
                refine g_istore dX10_flows_180 (Nat.le_of_ble_eq_true rfl) ?_
                refine g_aload_n (i := 0) dX10_flows_182 rfl rfl ?_
                refine g_getf dX10_flows_183 K_X10 (k := 14) fl_X10_35 (Nat.le_of_ble_eq_true rfl) mo_30 rfl ?_
                refine g_iload_n (i := 1) dX10_flows_186 rfl rfl ?_
                refine g_dup2 dX10_flows_187 rfl rfl ?_
                refine g_iald dX10_flows_188 mo_37 (ix_nI (j := k) (by omega)) (by omega) ?_
                refine g_iload dX10_flows_189 rfl ?_
                refine g_isub dX10_flows_191 ?_
                refine g_iast dX10_flows_192 mo_37 (ix_nI (j := k) (by omega)) (by omega) rfl (Go.heap (mo_a6.trans mo_s6) ?_)
                refine g_aload_n (i := 0) dX10_flows_193 rfl rfl ?_
                refine g_getf dX10_flows_194 K_X10 (k := 14) fl_X10_35 (Nat.le_of_ble_eq_true rfl) mo_30 rfl ?_
                refine g_iload_n (i := 3) dX10_flows_197 rfl rfl ?_
                refine g_dup2 dX10_flows_198 rfl rfl ?_
                refine g_iald dX10_flows_199 mo_37 (ix_nI (j := n) (by omega)) (by omega) ?_
                refine g_iload dX10_flows_200 rfl ?_
                refine g_iadd dX10_flows_202 ?_
                refine g_iast dX10_flows_203 mo_37 (ix_nI (j := n) (by omega)) (by omega) rfl (Go.heap (mo_a6.trans mo_s6) ?_)
                refine g_iinc (w := 1) dX10_flows_204 (by decide) rfl (nI_succ s).symm (Nat.le_of_ble_eq_true rfl) ?_
                refine g_goto (tgt := 38) dX10_flows_207 (by decide) ?_
                have hst : flJ k (j + 1) s (T, m) = flJ k j (s + 1) (va_up (va_up T k (T k - (m k - m n) / (slN m k + slN m n))) n (va_up T k (T k - (m k - m n) / (slN m k + slN m n)) n + (m k - m n) / (slN m k + slN m n)), m) := (if_neg hr).trans (congrArg (flJ k j (s + 1)) (show fl1 k s (T, m) = (va_up (va_up T k (T k - (m k - m n) / (slN m k + slN m n))) n (va_up T k (T k - (m k - m n) / (slN m k + slN m n)) n + (m k - m n) / (slN m k + slN m n)), m) from by rw [fl1, en]; exact (if_neg (ite_0 c129)).trans (if_pos (ltn c148))))
                rw [hst] at hout
                exact ih (s + 1) (va_up (va_up T k (T k - (m k - m n) / (slN m k + slN m n))) n (va_up T k (T k - (m k - m n) / (slN m k + slN m n)) n + (m k - m n) / (slN m k + slN m n))) (m) _ _ (by omega) hout
          · have en := (nbS k hk s hs).2 c59
            refine g_iconst (v := 0) dX10_flows_62 (by decide) ?_
            refine g_aload_n (i := 0) dX10_flows_63 rfl rfl ?_
            refine g_getf dX10_flows_64 K_X10 (k := 0) fl_X10_9 (Nat.le_of_ble_eq_true rfl) mo_30 rfl ?_
            refine g_iconst (v := 0) dX10_flows_67 (by decide) ?_
            refine g_iload_n (i := 1) dX10_flows_68 rfl rfl ?_
            refine g_iadd dX10_flows_69 ?_
            refine g_iald dX10_flows_70 mo_31 (ix0 (k := k) (by omega)) (by omega) ?_
            refine g_aload_n (i := 0) dX10_flows_71 rfl rfl ?_
            refine g_getf dX10_flows_72 K_X10 (k := 0) fl_X10_9 (Nat.le_of_ble_eq_true rfl) mo_30 rfl ?_
            refine g_sipush (v := 192) dX10_flows_75 (by decide) ?_
            refine g_iload_n (i := 2) dX10_flows_78 rfl rfl ?_
            refine g_iadd dX10_flows_79 ?_
            refine g_iald dX10_flows_80 mo_31 (ixA (b := 192) (k := s) rfl (by omega)) (by omega) ?_
            refine g_isub dX10_flows_81 ?_
            refine g_max dX10_flows_82 ml_X10_97 w_static_yJ9_max_7cf53 w_init_java_lang_Math w_code_Math_max (Nat.le_of_ble_eq_true rfl) (Nat.le_of_ble_eq_true rfl) ?_
            refine g_iconst (v := 2) dX10_flows_85 (by decide) ?_
            refine g_aload_n (i := 0) dX10_flows_86 rfl rfl ?_
            refine g_iload_n (i := 1) dX10_flows_87 rfl rfl ?_
            refine g_callV (ev_mSlow hl (k := k) (by omega)) dX10_flows_88 ml_X10_102 cvX10_slow K_X10 rfl mo_30 rfl rfl (Nat.le_of_ble_eq_true rfl) (Nat.le_of_ble_eq_true rfl) (Nat.zero_le _) (Nat.zero_le _) (kr_rt ?_) kx_rt
            refine g_imul dX10_flows_91 ?_
            refine g_idiv dX10_flows_92 (sl_pos _ k k).2 ?_
            refine g_istore dX10_flows_93 (Nat.le_of_ble_eq_true rfl) ?_
            refine g_aload_n (i := 0) dX10_flows_95 rfl rfl ?_
            refine g_getf dX10_flows_96 K_X10 (k := 14) fl_X10_35 (Nat.le_of_ble_eq_true rfl) mo_30 rfl ?_
            refine g_iload_n (i := 1) dX10_flows_99 rfl rfl ?_
            refine g_dup2 dX10_flows_100 rfl rfl ?_
            refine g_iald dX10_flows_101 mo_37 (ix_nI (j := k) (by omega)) (by omega) ?_
            refine g_iload dX10_flows_102 rfl ?_
            refine g_isub dX10_flows_104 ?_
            refine g_iast dX10_flows_105 mo_37 (ix_nI (j := k) (by omega)) (by omega) rfl (Go.heap (mo_a6.trans mo_s6) ?_)
            refine g_aload_n (i := 0) dX10_flows_106 rfl rfl ?_
            refine g_getf dX10_flows_107 K_X10 (k := 0) fl_X10_9 (Nat.le_of_ble_eq_true rfl) mo_30 rfl ?_
            refine g_sipush (v := 196) dX10_flows_110 (by decide) ?_
            refine g_iload_n (i := 2) dX10_flows_113 rfl rfl ?_
            refine g_iadd dX10_flows_114 ?_
            refine g_dup2 dX10_flows_115 rfl rfl ?_
            refine g_iald dX10_flows_116 mo_31 (ixA (b := 196) (k := s) rfl (by omega)) (by omega) ?_
            refine g_iload dX10_flows_117 rfl ?_
            refine g_iadd dX10_flows_119 ?_
            refine g_iast dX10_flows_120 mo_31 (ixA (b := 196) (k := s) rfl (by omega)) (by omega) rfl (Go.heap (mo_a0.trans mo_s0) ?_)
            refine g_goto (tgt := 204) dX10_flows_121 (by decide) ?_
            refine g_iinc (w := 1) dX10_flows_204 (by decide) rfl (nI_succ s).symm (Nat.le_of_ble_eq_true rfl) ?_
            refine g_goto (tgt := 38) dX10_flows_207 (by decide) ?_
            have hst : flJ k (j + 1) s (T, m) = flJ k j (s + 1) (va_up T k (T k - (if 0 < m k - m (192 + s) then m k - m (192 + s) else 0) / (2 * slN m k)), va_up m (196 + s) (m (196 + s) + (if 0 < m k - m (192 + s) then m k - m (192 + s) else 0) / (2 * slN m k))) := (if_neg hr).trans (congrArg (flJ k j (s + 1)) (show fl1 k s (T, m) = (va_up T k (T k - (if 0 < m k - m (192 + s) then m k - m (192 + s) else 0) / (2 * slN m k)), va_up m (196 + s) (m (196 + s) + (if 0 < m k - m (192 + s) then m k - m (192 + s) else 0) / (2 * slN m k))) from by rw [fl1, en]))
            rw [hst] at hout
            exact ih (s + 1) (va_up T k (T k - (if 0 < m k - m (192 + s) then m k - m (192 + s) else 0) / (2 * slN m k))) (va_up m (196 + s) (m (196 + s) + (if 0 < m k - m (192 + s) then m k - m (192 + s) else 0) / (2 * slN m k))) _ _ (by omega) hout
  exact inner

set_option maxRecDepth 100000 in
theorem fl_last {l : Launch} {G : GG} (hl : l.stackTraces = false) {A : AD} {h : AH} {a : Nat → Nat → Int32} {f : Nat → Int32} {T m : Nat → Int32} {X Y Z : Option Value} : ∀ (j : Nat) (k : Nat), k + j = 64 → Go l G mX10_flows 11 0 0 (Rt none (mo h A (va_up (va_up a 6 T) 0 (fun i => if i < 64 then T i else m i), f))) 218 [some (.ref (A 30 0)), some (.int (nI k)), X, Y, Z] [] (mo h A (va_up (va_up a 6 T) 0 (fun i => if i < k then T i else m i), f)) := by
  have last : ∀ (j : Nat) (k : Nat), k + j = 64 → Go l G mX10_flows 11 0 0 (Rt none (mo h A (va_up (va_up a 6 T) 0 (fun i => if i < 64 then T i else m i), f))) 218 [some (.ref (A 30 0)), some (.int (nI k)), X, Y, Z] [] (mo h A (va_up (va_up a 6 T) 0 (fun i => if i < k then T i else m i), f)) := by
    intro j
    induction j with
    | zero =>
      intro k hk
      refine g_iload_n (i := 1) dX10_flows_218 rfl rfl ?_
      refine g_bipush (v := 64) dX10_flows_219 (by decide) ?_
      refine g_icmp_ge (tgt := 244) dX10_flows_221 (by decide) (fun c221 => ?_) (fun c221 => ?_)
      · obtain rfl : k = 64 := by omega
        refine g_vret dX10_flows_244 rfl ?_
        exact ⟨rfl, rfl⟩
      · exact absurd ((le_nI (a := 64) (b := k) rfl (by omega) (by omega)).mpr (by omega)) c221
    | succ j ih =>
      intro k hk
      refine g_iload_n (i := 1) dX10_flows_218 rfl rfl ?_
      refine g_bipush (v := 64) dX10_flows_219 (by decide) ?_
      refine g_icmp_ge (tgt := 244) dX10_flows_221 (by decide) (fun c221 => ?_) (fun c221 => ?_)
      · exact absurd ((le_nI (a := 64) (b := k) rfl (by omega) (by omega)).mp c221) (by omega)
      · refine g_aload_n (i := 0) dX10_flows_224 rfl rfl ?_
        refine g_getf dX10_flows_225 K_X10 (k := 0) fl_X10_9 (Nat.le_of_ble_eq_true rfl) mo_30 rfl ?_
        refine g_iconst (v := 0) dX10_flows_228 (by decide) ?_
        refine g_iload_n (i := 1) dX10_flows_229 rfl rfl ?_
        refine g_iadd dX10_flows_230 ?_
        refine g_aload_n (i := 0) dX10_flows_231 rfl rfl ?_
        refine g_getf dX10_flows_232 K_X10 (k := 14) fl_X10_35 (Nat.le_of_ble_eq_true rfl) mo_30 rfl ?_
        refine g_iload_n (i := 1) dX10_flows_235 rfl rfl ?_
        refine g_iald dX10_flows_236 mo_37 (ix_nI (j := k) (by omega)) (by omega) ?_
        refine g_iast dX10_flows_237 mo_31 (ix0 (k := k) (by omega)) (by omega) rfl (Go.heap (mo_a0.trans mo_s0) ?_)
        refine g_iinc (w := 1) dX10_flows_238 (by decide) rfl (nI_succ k).symm (Nat.le_of_ble_eq_true rfl) ?_
        refine g_goto (tgt := 218) dX10_flows_241 (by decide) ?_
        refine Go.heap (h' := (mo h A (va_up (va_up a 6 T) 0 (fun i => if i < (k + 1) then T i else m i), f))) ?_ (ih (k + 1) (by omega))
        have e := cpS (b := T) (c := m) (k := k)
        rw [← e]; rfl
  exact last

set_option maxRecDepth 100000 in
theorem fl_outer {l : Launch} {G : GG} (hl : l.stackTraces = false) {A : AD} {h : AH} {a : Nat → Nat → Int32} {f : Nat → Int32} {P9 : Post} {n : Nat} (hn : n = 64) (hout : (∀ X Y Z, Go l G mX10_flows 11 0 0 P9 218 [some (.ref (A 30 0)), some (.int (nI 0)), X, Y, Z] [] (mo h A (va_up (va_up a 6 (flA n (a 0, a 0)).1) 0 (flA n (a 0, a 0)).2, f)))) : ∀ (j : Nat) (k : Nat) (X Y Z : Option Value), k + j = n → Go l G mX10_flows 11 0 0 P9 30 [some (.ref (A 30 0)), some (.int (nI k)), X, Y, Z] [] (mo h A (va_up (va_up a 6 (flA k (a 0, a 0)).1) 0 (flA k (a 0, a 0)).2, f)) := by
  have outer : ∀ (j : Nat) (k : Nat) (X Y Z : Option Value), k + j = n → Go l G mX10_flows 11 0 0 P9 30 [some (.ref (A 30 0)), some (.int (nI k)), X, Y, Z] [] (mo h A (va_up (va_up a 6 (flA k (a 0, a 0)).1) 0 (flA k (a 0, a 0)).2, f)) := by
    intro j
    induction j with
    | zero =>
      intro k X Y Z hk
      refine g_iload_n (i := 1) dX10_flows_30 rfl rfl ?_
      refine g_bipush (v := 64) dX10_flows_31 (by decide) ?_
      refine g_icmp_ge (tgt := 216) dX10_flows_33 (by decide) (fun c33 => ?_) (fun c33 => ?_)
      · refine g_iconst (v := 0) dX10_flows_216 (by decide) ?_
        refine g_istore_n (i := 1) dX10_flows_217 rfl (Nat.le_of_ble_eq_true rfl) ?_
        have e : k = n := by omega
        subst e
        exact hout _ _ _
      · exact absurd ((le_nI (a := 64) (b := k) rfl (by omega) (by omega)).mpr (by omega)) c33
    | succ j ih =>
      intro k X Y Z hk
      refine g_iload_n (i := 1) dX10_flows_30 rfl rfl ?_
      refine g_bipush (v := 64) dX10_flows_31 (by decide) ?_
      refine g_icmp_ge (tgt := 216) dX10_flows_33 (by decide) (fun c33 => ?_) (fun c33 => ?_)
      · exact absurd ((le_nI (a := 64) (b := k) rfl (by omega) (by omega)).mp c33) (by omega)
      · refine g_iconst (v := 0) dX10_flows_36 (by decide) ?_
        refine g_istore_n (i := 2) dX10_flows_37 rfl (Nat.le_of_ble_eq_true rfl) ?_
        refine fl_inner hl (k := k) (by omega) 4 0 _ _ _ _ rfl (fun s9 X Y => ?_)
        refine g_iinc (w := 1) dX10_flows_210 (by decide) rfl (nI_succ k).symm (Nat.le_of_ble_eq_true rfl) ?_
        refine g_goto (tgt := 30) dX10_flows_213 (by decide) ?_
        exact ih (k + 1) _ _ _ (by omega)
  exact outer

set_option maxRecDepth 100000 in
theorem fl_first {l : Launch} {G : GG} (hl : l.stackTraces = false) {A : AD} {h : AH} {a : Nat → Nat → Int32} {f : Nat → Int32} {P9 : Post} (hout : (∀ X Y Z, Go l G mX10_flows 11 0 0 P9 30 [some (.ref (A 30 0)), some (.int (nI 0)), X, Y, Z] [] (mo h A (va_up (va_up a 6 (flA 0 (a 0, a 0)).1) 0 (flA 0 (a 0, a 0)).2, f)))) : ∀ (j : Nat) (k : Nat), k + j = 64 → Go l G mX10_flows 11 0 0 P9 2 [some (.ref (A 30 0)), some (.int (nI k)), none, none, none] [] (mo h A (va_up a 6 (fun i => if i < k then a 0 i else a 6 i), f)) := by
  have first : ∀ (j : Nat) (k : Nat), k + j = 64 → Go l G mX10_flows 11 0 0 P9 2 [some (.ref (A 30 0)), some (.int (nI k)), none, none, none] [] (mo h A (va_up a 6 (fun i => if i < k then a 0 i else a 6 i), f)) := by
    intro j
    induction j with
    | zero =>
      intro k hk
      refine g_iload_n (i := 1) dX10_flows_2 rfl rfl ?_
      refine g_bipush (v := 64) dX10_flows_3 (by decide) ?_
      refine g_icmp_ge (tgt := 28) dX10_flows_5 (by decide) (fun c5 => ?_) (fun c5 => ?_)
      · refine g_iconst (v := 0) dX10_flows_28 (by decide) ?_
        refine g_istore_n (i := 1) dX10_flows_29 rfl (Nat.le_of_ble_eq_true rfl) ?_
        refine Go.heap (mo_a6 (a := a) (f := f) (x := (fun i => if i < k then a 0 i else a 6 i))).symm ?_
        refine Go.arr (f' := a 0) (fun i hi => if_pos (by omega)) ?_
        refine Go.heap (mo_a6 (a := a) (f := f)) ?_
        refine Go.heap (h' := (mo h A (va_up (va_up a 6 (flA 0 (a 0, a 0)).1) 0 (flA 0 (a 0, a 0)).2, f))) (by show mo h A (va_up a 6 (a 0), f) = mo h A (va_up (va_up a 6 (a 0)) 0 (a 0), f); rw [show va_up (va_up a 6 (a 0)) 0 (a 0) = va_up a 6 (a 0) from va_self (va_up a 6 (a 0)) 0]) ?_
        exact hout _ _ _
      · exact absurd ((le_nI (a := 64) (b := k) rfl (by omega) (by omega)).mpr (by omega)) c5
    | succ j ih =>
      intro k hk
      refine g_iload_n (i := 1) dX10_flows_2 rfl rfl ?_
      refine g_bipush (v := 64) dX10_flows_3 (by decide) ?_
      refine g_icmp_ge (tgt := 28) dX10_flows_5 (by decide) (fun c5 => ?_) (fun c5 => ?_)
      · exact absurd ((le_nI (a := 64) (b := k) rfl (by omega) (by omega)).mp c5) (by omega)
      · refine g_aload_n (i := 0) dX10_flows_8 rfl rfl ?_
        refine g_getf dX10_flows_9 K_X10 (k := 14) fl_X10_35 (Nat.le_of_ble_eq_true rfl) mo_30 rfl ?_
        refine g_iload_n (i := 1) dX10_flows_12 rfl rfl ?_
        refine g_aload_n (i := 0) dX10_flows_13 rfl rfl ?_
        refine g_getf dX10_flows_14 K_X10 (k := 0) fl_X10_9 (Nat.le_of_ble_eq_true rfl) mo_30 rfl ?_
        refine g_iconst (v := 0) dX10_flows_17 (by decide) ?_
        refine g_iload_n (i := 1) dX10_flows_18 rfl rfl ?_
        refine g_iadd dX10_flows_19 ?_
        refine g_iald dX10_flows_20 mo_31 (ix0 (k := k) (by omega)) (by omega) ?_
        refine g_iast dX10_flows_21 mo_37 (ix_nI (j := k) (by omega)) (by omega) rfl (Go.heap mo_a6 ?_)
        refine g_iinc (w := 1) dX10_flows_22 (by decide) rfl (nI_succ k).symm (Nat.le_of_ble_eq_true rfl) ?_
        refine g_goto (tgt := 2) dX10_flows_25 (by decide) ?_
        refine Go.heap (h' := (mo h A (va_up a 6 (fun i => if i < (k + 1) then a 0 i else a 6 i), f))) (by rw [va_up2, va_up_self, va_up_ne _ _ (show (0 : Nat) ≠ 6 by decide), cpS]) ?_
        exact ih (k + 1) (by omega)
  exact first

set_option maxRecDepth 100000 in
theorem ev_flows {l : Launch} {G : GG} (hl : l.stackTraces = false) {A : AD} {h : AH} {a : Nat → Nat → Int32} {f : Nat → Int32} :
    Ev l G 11 0 0 mX10_flows [.ref (A 30 0)] (mo h A (a, f)) (Rt none (mo h A (va_up (va_up a 6 (flA 64 (a 0, a 0)).1) 0 (flM (a 0)), f))) := by
  refine Ev.of hl (by decide) (Nat.le_of_ble_eq_true rfl) ?_
  refine g_iconst (v := 0) dX10_flows_0 (by decide) ?_
  refine g_istore_n (i := 1) dX10_flows_1 rfl (Nat.le_of_ble_eq_true rfl) ?_
  obtain ⟨n, hn⟩ : ∃ n, n = 64 := ⟨64, rfl⟩
  rw [show flM (a 0) = fun i => if i < 64 then (flA n (a 0, a 0)).1 i else (flA n (a 0, a 0)).2 i by rw [hn]; rfl, show flA 64 (a 0, a 0) = flA n (a 0, a 0) by rw [hn]]
  refine Go.heap (h' := (mo h A (va_up a 6 (fun i => if i < 0 then a 0 i else a 6 i), f))) ?_ (fl_first hl (fun X Y Z => fl_outer hl hn (fun X Y Z => ?_) n 0 _ _ _ (Nat.zero_add n)) 64 0 rfl)
  · congr 2; exact (va_self a 6).symm
  · refine Go.heap (h' := (mo h A (va_up (va_up a 6 (flA n (a 0, a 0)).1) 0 (fun i => if i < 0 then (flA n (a 0, a 0)).1 i else (flA n (a 0, a 0)).2 i), f))) ?_ (fl_last hl 64 0 rfl)
    rfl

