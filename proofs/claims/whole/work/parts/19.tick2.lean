/-! the ticker, on (by wip/whole/gen/m5.py). -/
/-- G below k, F from k on -/
def upTo (F G : Nat → Int32) (k : Nat) : Nat → Int32 := fun q => if q < k then G q else F q
theorem upTo_at {F G : Nat → Int32} {k : Nat} : upTo F G k k = F k := if_neg (Nat.lt_irrefl k)
theorem upTo_0 {F G : Nat → Int32} : upTo F G 0 = F := funext fun q => if_neg (Nat.not_lt_zero q)
theorem upTo_lt {F G : Nat → Int32} {k q : Nat} (h : q < k) : upTo F G k q = G q := if_pos h
theorem stepU {F G : Nat → Int32} {k : Nat} : va_up (upTo F G k) k (G k) = upTo F G (k + 1) := by
  funext q
  by_cases e : q = k
  · subst e; simp [va_up, upTo]
  · by_cases e2 : q < k
    · simp [va_up, upTo, e, e2, Nat.lt_succ_of_lt e2]
    · simp [va_up, upTo, e, e2, show ¬ q < k + 1 by omega]
theorem stepN {F G : Nat → Int32} {k : Nat} (h : F k = G k) : upTo F G (k + 1) = upTo F G k := by
  funext q
  by_cases e : q = k
  · subst e; simp [upTo, h]
  · by_cases e2 : q < k
    · simp [upTo, e2, Nat.lt_succ_of_lt e2]
    · simp [upTo, e2, show ¬ q < k + 1 by omega]
section TX
variable {l : Launch} {G : GG} {M : MD} {d kc ks pc : Nat} {P : Post} {L : List (Option Value)} {st : List Value} {h : AH} {A : AD} {g : Nat} {m : MS} {c : Nat → Int32}
theorem Go.tkc {f f' : Nat → Int32} (hf : ∀ k, k < 64 → f k = f' k) (k : Go l G M d kc ks P pc L st (tk h A g m f')) : Go l G M d kc ks P pc L st (tk h A g m f) := Go.arr hf k
theorem Go.tkh {a f f' : Nat → Int32} {r : (Nat → Int32) × (Nat → Int32) × (Nat → Int32) × Int32 × Int32 × Int32} (hf : ∀ k, k < 64 → f k = f' k) (k : Go l G M d kc ks P pc L st (tk h A g (a, f', r) c)) : Go l G M d kc ks P pc L st (tk h A g (a, f, r) c) :=
  Go.heap (tk_heat h A g (a, f, r) c f).symm (Go.arr hf (Go.heap (tk_heat h A g (a, f, r) c f') k))
theorem Go.tke {a b f f' : Nat → Int32} {r : (Nat → Int32) × (Nat → Int32) × Int32 × Int32 × Int32} (hf : ∀ k, k < 64 → f k = f' k) (k : Go l G M d kc ks P pc L st (tk h A g (a, b, f', r) c)) : Go l G M d kc ks P pc L st (tk h A g (a, b, f, r) c) :=
  Go.heap (tk_emb h A g (a, b, f, r) c f).symm (Go.arr hf (Go.heap (tk_emb h A g (a, b, f, r) c f') k))
end TX
theorem hot_mono {m : MS} {c j k : Nat} (h : hotN m c k = true) (hk : k ≤ j) : hotN m c j = true := by
  induction j with
  | zero => rw [show k = 0 by omega] at h; exact h
  | succ j ih =>
    by_cases e : k = j + 1
    · rw [← e]; exact h
    · rw [hotN, ih (by omega)]; rfl
theorem lvArith : ∀ k, k < 8 → (8 : Int32) * nI k + 8 - 1 = nI (8 * k + 7) ∧ (56 : Int32) + nI k = nI (56 + k) ∧ (8 : Int32) * nI k = nI (8 * k) := by decide +kernel

set_option maxRecDepth 100000 in
theorem ev_letHeatFlow {l : Launch} {G : GG} (hl : l.stackTraces = false) {A : AD} {g : Nat} {m : MS} {c : Nat → Int32} {h : AH} (hT : h 9 0 = some (A 9 0, .inr (7, [.ref (A 10 0)]))) :
    Ev l G 12 0 0 mX7_letHeatFlow [.ref (A 9 0), .ref (A 0 g)] (tk h A g m c) (RtX none (fun c => tk h A g (flowM m) c)) := by
  refine Ev.of hl (by decide) (Nat.le_of_ble_eq_true rfl) ?_
  have loop4 : ∀ (n9 : Nat) (k : Nat), 64 - k < n9 → k ≤ 64 → Go l G mX7_letHeatFlow 12 0 0 (RtX none (fun c => tk h A g (flowM m) c)) 115 [some (.ref (A 9 0)), some (.ref (A 0 g)), some (.int (nI k))] [] (tk h A g (m.1, (upTo m.2.1 (fun q => m.2.1 q + lvCA m 8 q) k), m.2.2.1, m.2.2.2.1, lvLA m 8, m.2.2.2.2.2) (lvCA m 8)) := by
    intro n9
    induction n9 with
    | zero => intros; omega
    | succ n9 ih =>
      intro k hf hk
      refine g_iload_n (i := 2) dX7_letHeatFlow_115 rfl rfl ?_
      refine g_bipush (v := 64) dX7_letHeatFlow_116 (by decide) ?_
      refine g_icmp_ge (tgt := 142) dX7_letHeatFlow_118 (by decide) (fun c118 => ?_) (fun c118 => ?_)
      · have hke : k = 64 := by have := (le_nI (a := 64) rfl (by omega) (by omega)).mp c118; omega
        subst hke
        refine Go.tkh (fun k hk => upTo_lt hk) ?_
        refine g_vret dX7_letHeatFlow_142 rfl ?_
        exact ⟨rfl, _, rfl⟩
      · have hk2 : k < 64 := by have := mt (le_nI (a := 64) (b := k) rfl (by omega) (by omega)).mpr c118; omega
        refine g_aload_n (i := 1) dX7_letHeatFlow_121 rfl rfl ?_
        refine g_getN dX7_letHeatFlow_122 K_X3 (k := 1) fl_X7_46 (Nat.le_of_ble_eq_true rfl) (tk_map _ _ _ _ _).1 rfl ?_
        refine g_iload_n (i := 2) dX7_letHeatFlow_125 rfl rfl ?_
        refine g_dup2 dX7_letHeatFlow_126 rfl rfl ?_
        refine g_iald dX7_letHeatFlow_127 (tk_map _ _ _ _ _).2.2.1 (ix_nI (by omega)) (by omega) ?_
        refine g_aload_n (i := 0) dX7_letHeatFlow_128 rfl rfl ?_
        refine g_getf dX7_letHeatFlow_129 K_X7 (k := 0) fl_X7_9 (Nat.le_of_ble_eq_true rfl) (tk_9 hT _ _ _) rfl ?_
        refine g_iload_n (i := 2) dX7_letHeatFlow_132 rfl rfl ?_
        refine g_iald dX7_letHeatFlow_133 (tk_10 _ _ _ _ _) (ix_nI (by omega)) (by omega) ?_
        refine g_iadd dX7_letHeatFlow_134 ?_
        refine g_iast dX7_letHeatFlow_135 (tk_map _ _ _ _ _).2.2.1 (ix_nI (by omega)) (by omega) (show _ = (fun q => m.2.1 q + lvCA m 8 q) k from by dsimp only; rw [upTo_at]) (Go.heap ((tk_heat _ _ _ _ _ _).trans (by rw [stepU])) ?_)
        refine g_iinc (w := 1) dX7_letHeatFlow_136 (by decide) rfl (nI_succ k).symm (Nat.le_of_ble_eq_true rfl) ?_
        refine g_goto (tgt := 115) dX7_letHeatFlow_139 (by decide) ?_
        exact ih (k + 1) (by omega) (by omega)
  have loop3 : ∀ (n9 : Nat) (k : Nat), 8 - k < n9 → k ≤ 8 → Go l G mX7_letHeatFlow 12 0 0 (RtX none (fun c => tk h A g (flowM m) c)) 59 [some (.ref (A 9 0)), some (.ref (A 0 g)), some (.int (nI k))] [] (tk h A g (mLo m (lvLA m k)) (lvCA m k)) := by
    intro n9
    induction n9 with
    | zero => intros; omega
    | succ n9 ih =>
      intro k hf hk
      refine g_iload_n (i := 2) dX7_letHeatFlow_59 rfl rfl ?_
      refine g_bipush (v := 8) dX7_letHeatFlow_60 (by decide) ?_
      refine g_icmp_ge (tgt := 113) dX7_letHeatFlow_62 (by decide) (fun c62 => ?_) (fun c62 => ?_)
      · have hke : k = 8 := by have := (le_nI (a := 8) rfl (by omega) (by omega)).mp c62; omega
        subst hke
        refine g_iconst (v := 0) dX7_letHeatFlow_113 (by decide) ?_
        refine g_istore_n (i := 2) dX7_letHeatFlow_114 rfl (Nat.le_of_ble_eq_true rfl) ?_
        refine Go.heap (h' := tk h A g (m.1, upTo m.2.1 (fun q => m.2.1 q + lvCA m 8 q) 0, m.2.2.1, m.2.2.2.1, lvLA m 8, m.2.2.2.2.2) (lvCA m 8)) (by rw [upTo_0]) ?_
        exact loop4 65 0 (by omega) (by omega)
      · have hk2 : k < 8 := by have := mt (le_nI (a := 8) (b := k) rfl (by omega) (by omega)).mpr c62; omega
        obtain ⟨e1, e2, e3⟩ := lvArith k hk2
        refine g_aload_n (i := 0) dX7_letHeatFlow_65 rfl rfl ?_
        refine g_aload_n (i := 1) dX7_letHeatFlow_66 rfl rfl ?_
        refine g_iconst (v := 0) dX7_letHeatFlow_67 (by decide) ?_
        refine g_iload_n (i := 2) dX7_letHeatFlow_68 rfl rfl ?_
        refine g_callV (ev_leaveBy (s := 0) (i := k) hl hT (by decide) (by omega)) dX7_letHeatFlow_69 ml_X7_43 cvX7_leaveBy K_X7 rfl (tk_9 hT _ _ _) rfl rfl (Nat.le_of_ble_eq_true rfl) (Nat.le_of_ble_eq_true rfl) (Nat.zero_le _) (Nat.zero_le _) (kr_vd ?_) kx_rt
        refine g_aload_n (i := 0) dX7_letHeatFlow_72 rfl rfl ?_
        refine g_aload_n (i := 1) dX7_letHeatFlow_73 rfl rfl ?_
        refine g_iconst (v := 1) dX7_letHeatFlow_74 (by decide) ?_
        refine g_bipush (v := 8) dX7_letHeatFlow_75 (by decide) ?_
        refine g_iload_n (i := 2) dX7_letHeatFlow_77 rfl rfl ?_
        refine g_imul dX7_letHeatFlow_78 ?_
        refine g_bipush (v := 8) dX7_letHeatFlow_79 (by decide) ?_
        refine g_iadd dX7_letHeatFlow_81 ?_
        refine g_iconst (v := 1) dX7_letHeatFlow_82 (by decide) ?_
        refine g_isub dX7_letHeatFlow_83 ?_
        rw [e1]
        refine g_callV (ev_leaveBy (s := 1) (i := 8 * k + 7) hl hT (by decide) (by omega)) dX7_letHeatFlow_84 ml_X7_43 cvX7_leaveBy K_X7 rfl (tk_9 hT _ _ _) rfl rfl (Nat.le_of_ble_eq_true rfl) (Nat.le_of_ble_eq_true rfl) (Nat.zero_le _) (Nat.zero_le _) (kr_vd ?_) kx_rt
        refine g_aload_n (i := 0) dX7_letHeatFlow_87 rfl rfl ?_
        refine g_aload_n (i := 1) dX7_letHeatFlow_88 rfl rfl ?_
        refine g_iconst (v := 2) dX7_letHeatFlow_89 (by decide) ?_
        refine g_bipush (v := 56) dX7_letHeatFlow_90 (by decide) ?_
        refine g_iload_n (i := 2) dX7_letHeatFlow_92 rfl rfl ?_
        refine g_iadd dX7_letHeatFlow_93 ?_
        rw [e2]
        refine g_callV (ev_leaveBy (s := 2) (i := 56 + k) hl hT (by decide) (by omega)) dX7_letHeatFlow_94 ml_X7_43 cvX7_leaveBy K_X7 rfl (tk_9 hT _ _ _) rfl rfl (Nat.le_of_ble_eq_true rfl) (Nat.le_of_ble_eq_true rfl) (Nat.zero_le _) (Nat.zero_le _) (kr_vd ?_) kx_rt
        refine g_aload_n (i := 0) dX7_letHeatFlow_97 rfl rfl ?_
        refine g_aload_n (i := 1) dX7_letHeatFlow_98 rfl rfl ?_
        refine g_iconst (v := 3) dX7_letHeatFlow_99 (by decide) ?_
        refine g_bipush (v := 8) dX7_letHeatFlow_100 (by decide) ?_
        refine g_iload_n (i := 2) dX7_letHeatFlow_102 rfl rfl ?_
        refine g_imul dX7_letHeatFlow_103 ?_
        rw [e3]
        refine g_callV (ev_leaveBy (s := 3) (i := 8 * k) hl hT (by decide) (by omega)) dX7_letHeatFlow_104 ml_X7_43 cvX7_leaveBy K_X7 rfl (tk_9 hT _ _ _) rfl rfl (Nat.le_of_ble_eq_true rfl) (Nat.le_of_ble_eq_true rfl) (Nat.zero_le _) (Nat.zero_le _) (kr_vd ?_) kx_rt
        refine g_iinc (w := 1) dX7_letHeatFlow_107 (by decide) rfl (nI_succ k).symm (Nat.le_of_ble_eq_true rfl) ?_
        refine g_goto (tgt := 59) dX7_letHeatFlow_110 (by decide) ?_
        exact ih (k + 1) (by omega) (by omega)
  have loop2 : ∀ (n9 : Nat) (k : Nat), 64 - k < n9 → k ≤ 64 → Go l G mX7_letHeatFlow 12 0 0 (RtX none (fun c => tk h A g (flowM m) c)) 23 [some (.ref (A 9 0)), some (.ref (A 0 g)), some (.int (nI k))] [] (tk h A g m (flowAll m k)) := by
    intro n9
    induction n9 with
    | zero => intros; omega
    | succ n9 ih =>
      intro k hf hk
      refine g_iload_n (i := 2) dX7_letHeatFlow_23 rfl rfl ?_
      refine g_bipush (v := 64) dX7_letHeatFlow_24 (by decide) ?_
      refine g_icmp_ge (tgt := 57) dX7_letHeatFlow_26 (by decide) (fun c26 => ?_) (fun c26 => ?_)
      · have hke : k = 64 := by have := (le_nI (a := 64) rfl (by omega) (by omega)).mp c26; omega
        subst hke
        refine g_iconst (v := 0) dX7_letHeatFlow_57 (by decide) ?_
        refine g_istore_n (i := 2) dX7_letHeatFlow_58 rfl (Nat.le_of_ble_eq_true rfl) ?_
        exact loop3 9 0 (by omega) (by omega)
      · have hk2 : k < 64 := by have := mt (le_nI (a := 64) (b := k) rfl (by omega) (by omega)).mpr c26; omega
        refine g_aload_n (i := 0) dX7_letHeatFlow_29 rfl rfl ?_
        refine g_aload_n (i := 1) dX7_letHeatFlow_30 rfl rfl ?_
        refine g_iload_n (i := 2) dX7_letHeatFlow_31 rfl rfl ?_
        refine g_iload_n (i := 2) dX7_letHeatFlow_32 rfl rfl ?_
        refine g_iconst (v := 1) dX7_letHeatFlow_33 (by decide) ?_
        refine g_callSN (ev_neighbourOf (s := 1) hl hk2 (by decide)) dX7_letHeatFlow_34 ml_X7_35 csX9_neighbourOf rfl rfl rfl (Nat.le_of_ble_eq_true rfl) (Nat.le_of_ble_eq_true rfl) (Nat.zero_le _) (Nat.zero_le _) (kr_rt ?_) kx_rt
        refine g_callV (ev_flowTo hl hT hk2 (fun n hn => nb_lt hk2 hn)) dX7_letHeatFlow_37 ml_X7_39 cvX7_flowTo K_X7 rfl (tk_9 hT _ _ _) rfl rfl (Nat.le_of_ble_eq_true rfl) (Nat.le_of_ble_eq_true rfl) (Nat.zero_le _) (Nat.zero_le _) (kr_vd ?_) kx_rt
        refine g_aload_n (i := 0) dX7_letHeatFlow_40 rfl rfl ?_
        refine g_aload_n (i := 1) dX7_letHeatFlow_41 rfl rfl ?_
        refine g_iload_n (i := 2) dX7_letHeatFlow_42 rfl rfl ?_
        refine g_iload_n (i := 2) dX7_letHeatFlow_43 rfl rfl ?_
        refine g_iconst (v := 2) dX7_letHeatFlow_44 (by decide) ?_
        refine g_callSN (ev_neighbourOf (s := 2) hl hk2 (by decide)) dX7_letHeatFlow_45 ml_X7_35 csX9_neighbourOf rfl rfl rfl (Nat.le_of_ble_eq_true rfl) (Nat.le_of_ble_eq_true rfl) (Nat.zero_le _) (Nat.zero_le _) (kr_rt ?_) kx_rt
        refine g_callV (ev_flowTo hl hT hk2 (fun n hn => nb_lt hk2 hn)) dX7_letHeatFlow_48 ml_X7_39 cvX7_flowTo K_X7 rfl (tk_9 hT _ _ _) rfl rfl (Nat.le_of_ble_eq_true rfl) (Nat.le_of_ble_eq_true rfl) (Nat.zero_le _) (Nat.zero_le _) (kr_vd ?_) kx_rt
        refine g_iinc (w := 1) dX7_letHeatFlow_51 (by decide) rfl (nI_succ k).symm (Nat.le_of_ble_eq_true rfl) ?_
        refine g_goto (tgt := 23) dX7_letHeatFlow_54 (by decide) ?_
        exact ih (k + 1) (by omega) (by omega)
  have loop1 : ∀ (n9 : Nat) (k : Nat), 64 - k < n9 → k ≤ 64 → Go l G mX7_letHeatFlow 12 0 0 (RtX none (fun c => tk h A g (flowM m) c)) 2 [some (.ref (A 9 0)), some (.ref (A 0 g)), some (.int (nI k))] [] (tk h A g m (upTo c (fun _ => 0) k)) := by
    intro n9
    induction n9 with
    | zero => intros; omega
    | succ n9 ih =>
      intro k hf hk
      refine g_iload_n (i := 2) dX7_letHeatFlow_2 rfl rfl ?_
      refine g_bipush (v := 64) dX7_letHeatFlow_3 (by decide) ?_
      refine g_icmp_ge (tgt := 21) dX7_letHeatFlow_5 (by decide) (fun c5 => ?_) (fun c5 => ?_)
      · have hke : k = 64 := by have := (le_nI (a := 64) rfl (by omega) (by omega)).mp c5; omega
        subst hke
        refine Go.tkc (f' := fun _ => 0) (fun k hk => upTo_lt hk) ?_
        refine g_iconst (v := 0) dX7_letHeatFlow_21 (by decide) ?_
        refine g_istore_n (i := 2) dX7_letHeatFlow_22 rfl (Nat.le_of_ble_eq_true rfl) ?_
        exact loop2 65 0 (by omega) (by omega)
      · have hk2 : k < 64 := by have := mt (le_nI (a := 64) (b := k) rfl (by omega) (by omega)).mpr c5; omega
        refine g_aload_n (i := 0) dX7_letHeatFlow_8 rfl rfl ?_
        refine g_getf dX7_letHeatFlow_9 K_X7 (k := 0) fl_X7_9 (Nat.le_of_ble_eq_true rfl) (tk_9 hT _ _ _) rfl ?_
        refine g_iload_n (i := 2) dX7_letHeatFlow_12 rfl rfl ?_
        refine g_iconst (v := 0) dX7_letHeatFlow_13 (by decide) ?_
        refine g_iast dX7_letHeatFlow_14 (tk_10 _ _ _ _ _) (ix_nI (by omega)) (by omega) (show _ = (fun _ => (0 : Int32)) k from rfl) (Go.heap ((tk_c _ _ _ _ _ _).trans (by rw [stepU])) ?_)
        refine g_iinc (w := 1) dX7_letHeatFlow_15 (by decide) rfl (nI_succ k).symm (Nat.le_of_ble_eq_true rfl) ?_
        refine g_goto (tgt := 2) dX7_letHeatFlow_18 (by decide) ?_
        exact ih (k + 1) (by omega) (by omega)
  refine g_iconst (v := 0) dX7_letHeatFlow_0 (by decide) ?_
  refine g_istore_n (i := 2) dX7_letHeatFlow_1 rfl (Nat.le_of_ble_eq_true rfl) ?_
  refine Go.heap (h' := tk h A g m (upTo c (fun _ => 0) 0)) (by rw [upTo_0]) ?_
  exact loop1 65 0 (by omega) (by omega)

set_option maxRecDepth 100000 in
theorem ev_makeEmbers {l : Launch} {G : GG} (hl : l.stackTraces = false) {A : AD} {g : Nat} {m : MS} {c : Nat → Int32} {h : AH} (hT : h 9 0 = some (A 9 0, .inr (7, [.ref (A 10 0)]))) :
    Ev l G 10 0 0 mX7_makeEmbers [.ref (A 9 0), .ref (A 0 g)] (tk h A g m c) (Rt none (tk h A g (embM m) c)) := by
  refine Ev.of hl (by decide) (Nat.le_of_ble_eq_true rfl) ?_
  have loop : ∀ (n9 : Nat) (k : Nat), 64 - k < n9 → k ≤ 64 → Go l G mX7_makeEmbers 10 0 0 (Rt none (tk h A g (embM m) c)) 2 [some (.ref (A 9 0)), some (.ref (A 0 g)), some (.int (nI k))] [] (tk h A g (m.1, upTo m.2.1 (fun q => if 700 ≤ m.2.1 q then m.2.1 q - 100 else m.2.1 q) k, upTo m.2.2.1 (fun q => if 700 ≤ m.2.1 q then m.2.2.1 q + 100 else m.2.2.1 q) k, m.2.2.2) c) := by
    intro n9
    induction n9 with
    | zero => intros; omega
    | succ n9 ih =>
      intro k hf hk
      refine g_iload_n (i := 2) dX7_makeEmbers_2 rfl rfl ?_
      refine g_bipush (v := 64) dX7_makeEmbers_3 (by decide) ?_
      refine g_icmp_ge (tgt := 48) dX7_makeEmbers_5 (by decide) (fun c5 => ?_) (fun c5 => ?_)
      · have hke : k = 64 := by have := (le_nI (a := 64) rfl (by omega) (by omega)).mp c5; omega
        subst hke
        refine Go.tkh (fun k hk => upTo_lt hk) ?_
        refine Go.tke (fun k hk => upTo_lt hk) ?_
        refine g_vret dX7_makeEmbers_48 rfl ?_
        exact ⟨rfl, rfl⟩
      · have hk2 : k < 64 := by have := mt (le_nI (a := 64) (b := k) rfl (by omega) (by omega)).mpr c5; omega
        refine g_aload_n (i := 1) dX7_makeEmbers_8 rfl rfl ?_
        refine g_getN dX7_makeEmbers_9 K_X3 (k := 1) fl_X7_46 (Nat.le_of_ble_eq_true rfl) (tk_map _ _ _ _ _).1 rfl ?_
        refine g_iload_n (i := 2) dX7_makeEmbers_12 rfl rfl ?_
        refine g_iald dX7_makeEmbers_13 (tk_map _ _ _ _ _).2.2.1 (ix_nI (by omega)) (by omega) ?_
        dsimp only
        rw [upTo_at]
        refine g_sipush (v := 700) dX7_makeEmbers_14 (by decide) ?_
        refine g_icmp_lt (tgt := 42) dX7_makeEmbers_17 (by decide) (fun c17 => ?_) (fun c17 => ?_)
        · refine g_iinc (w := 1) dX7_makeEmbers_42 (by decide) rfl (nI_succ k).symm (Nat.le_of_ble_eq_true rfl) ?_
          refine g_goto (tgt := 2) dX7_makeEmbers_45 (by decide) ?_
          have z := ih (k + 1) (by omega) (by omega)
          rw [stepN (F := m.2.1) (k := k) (if_neg (Int32.not_le.mpr c17)).symm, stepN (F := m.2.2.1) (k := k) (if_neg (Int32.not_le.mpr c17)).symm] at z
          exact z
        · refine g_aload_n (i := 1) dX7_makeEmbers_20 rfl rfl ?_
          refine g_getN dX7_makeEmbers_21 K_X3 (k := 1) fl_X7_46 (Nat.le_of_ble_eq_true rfl) (tk_map _ _ _ _ _).1 rfl ?_
          refine g_iload_n (i := 2) dX7_makeEmbers_24 rfl rfl ?_
          refine g_dup2 dX7_makeEmbers_25 rfl rfl ?_
          refine g_iald dX7_makeEmbers_26 (tk_map _ _ _ _ _).2.2.1 (ix_nI (by omega)) (by omega) ?_
          refine g_bipush (v := 100) dX7_makeEmbers_27 (by decide) ?_
          refine g_isub dX7_makeEmbers_29 ?_
          refine g_iast dX7_makeEmbers_30 (tk_map _ _ _ _ _).2.2.1 (ix_nI (by omega)) (by omega) (show _ = (fun q => if 700 ≤ m.2.1 q then m.2.1 q - 100 else m.2.1 q) k from by dsimp only; rw [upTo_at]; exact (if_pos (Int32.not_lt.mp c17)).symm) (Go.heap ((tk_heat _ _ _ _ _ _).trans (by rw [stepU])) ?_)
          refine g_aload_n (i := 1) dX7_makeEmbers_31 rfl rfl ?_
          refine g_getN dX7_makeEmbers_32 K_X3 (k := 2) fl_X7_63 (Nat.le_of_ble_eq_true rfl) (tk_map _ _ _ _ _).1 rfl ?_
          refine g_iload_n (i := 2) dX7_makeEmbers_35 rfl rfl ?_
          refine g_dup2 dX7_makeEmbers_36 rfl rfl ?_
          refine g_iald dX7_makeEmbers_37 (tk_map _ _ _ _ _).2.2.2.1 (ix_nI (by omega)) (by omega) ?_
          refine g_bipush (v := 100) dX7_makeEmbers_38 (by decide) ?_
          refine g_iadd dX7_makeEmbers_40 ?_
          refine g_iast dX7_makeEmbers_41 (tk_map _ _ _ _ _).2.2.2.1 (ix_nI (by omega)) (by omega) (show _ = (fun q => if 700 ≤ m.2.1 q then m.2.2.1 q + 100 else m.2.2.1 q) k from by dsimp only; rw [upTo_at]; exact (if_pos (Int32.not_lt.mp c17)).symm) (Go.heap ((tk_emb _ _ _ _ _ _).trans (by rw [stepU])) ?_)
          refine g_iinc (w := 1) dX7_makeEmbers_42 (by decide) rfl (nI_succ k).symm (Nat.le_of_ble_eq_true rfl) ?_
          refine g_goto (tgt := 2) dX7_makeEmbers_45 (by decide) ?_
          exact ih (k + 1) (by omega) (by omega)
  refine g_iconst (v := 0) dX7_makeEmbers_0 (by decide) ?_
  refine g_istore_n (i := 2) dX7_makeEmbers_1 rfl (Nat.le_of_ble_eq_true rfl) ?_
  refine Go.heap (h' := tk h A g (m.1, upTo m.2.1 (fun q => if 700 ≤ m.2.1 q then m.2.1 q - 100 else m.2.1 q) 0, upTo m.2.2.1 (fun q => if 700 ≤ m.2.1 q then m.2.2.1 q + 100 else m.2.2.1 q) 0, m.2.2.2) c) (by rw [upTo_0, upTo_0]) ?_
  exact loop 65 0 (by omega) (by omega)

set_option maxRecDepth 100000 in
theorem ev_isRelapsing {l : Launch} {G : GG} (hl : l.stackTraces = false) {A : AD} {g : Nat} {m : MS} {h : AH} (H : isMap h A g m) {i : Nat} (hi : i < 64) :
    Ev l G 11 0 0 mX7_isRelapsing [.ref (A 0 g), .int (nI i)] h (Rt (some (.int (if isRel m i = true then 1 else 0))) h) := by
  refine Ev.of hl (by decide) (Nat.le_of_ble_eq_true rfl) ?_
  have loop : 0 < m.2.2.1 i → m.2.1 i < 300 → ∀ (n9 : Nat) (k : Nat) (X : Option Value), 4 - k < n9 → k ≤ 4 → hotN m i k = false → Go l G mX7_isRelapsing 11 0 0 (Rt (some (.int (if isRel m i = true then 1 else 0))) h) 25 [some (.ref (A 0 g)), some (.int (nI i)), some (.int (nI k)), X] [] h := by
    intro ha hb n9
    induction n9 with
    | zero => intros; omega
    | succ n9 ih =>
      intro k X hf hk hz
      refine g_iload_n (i := 2) dX7_isRelapsing_25 rfl rfl ?_
      refine g_iconst (v := 4) dX7_isRelapsing_26 (by decide) ?_
      refine g_icmp_ge (tgt := 61) dX7_isRelapsing_27 (by decide) (fun c27 => ?_) (fun c27 => ?_)
      · refine g_iconst (v := 0) dX7_isRelapsing_61 (by decide) ?_
        refine g_iret dX7_isRelapsing_62 rfl rfl ?_
        exact ⟨by rw [if_neg]; rw [show k = 4 by have := (le_nI (a := 4) rfl (by omega) (by omega)).mp c27; omega] at hz; rw [isRel, hz]; simp, rfl⟩
      · have hk2 : k < 4 := by have := mt (le_nI (a := 4) (b := k) rfl (by omega) (by omega)).mpr c27; omega
        refine g_iload_n (i := 1) dX7_isRelapsing_30 rfl rfl ?_
        refine g_iload_n (i := 2) dX7_isRelapsing_31 rfl rfl ?_
        refine g_callSN (ev_neighbourOf hl hi hk2) dX7_isRelapsing_32 ml_X7_35 csX9_neighbourOf rfl rfl rfl (Nat.le_of_ble_eq_true rfl) (Nat.le_of_ble_eq_true rfl) (Nat.zero_le _) (Nat.zero_le _) (kr_rt ?_) kx_rt
        refine g_istore_n (i := 3) dX7_isRelapsing_35 rfl (Nat.le_of_ble_eq_true rfl) ?_
        refine g_iload_n (i := 3) dX7_isRelapsing_36 rfl rfl ?_
        refine g_iconst (v := (-1)) dX7_isRelapsing_37 (by decide) ?_
        refine g_icmp_eq (tgt := 55) dX7_isRelapsing_38 (by decide) (fun c38 => ?_) (fun c38 => ?_)
        · refine g_iinc (w := 1) dX7_isRelapsing_55 (by decide) rfl (nI_succ k).symm (Nat.le_of_ble_eq_true rfl) ?_
          refine g_goto (tgt := 25) dX7_isRelapsing_58 (by decide) ?_
          exact ih (k + 1) _ (by omega) (by omega) (by rw [hotN, hz, (nbS i hi k hk2).2 c38]; rfl)
        · obtain ⟨n, hn64, hnb⟩ := (nbS i hi k hk2).1 c38
          rw [hnb]
          refine Go.loc (L' := [some (.ref (A 0 g)), some (.int (nI i)), some (.int (nI k)), some (.int (nI n))]) (fun _ _ q => q) ?_
          refine g_aload_n (i := 0) dX7_isRelapsing_41 rfl rfl ?_
          refine g_getN dX7_isRelapsing_42 K_X3 (k := 1) fl_X7_46 (Nat.le_of_ble_eq_true rfl) H.1 rfl ?_
          refine g_iload_n (i := 3) dX7_isRelapsing_45 rfl rfl ?_
          refine g_iald dX7_isRelapsing_46 H.2.2.1 (ix_nI (by omega)) hn64 ?_
          refine g_sipush (v := 500) dX7_isRelapsing_47 (by decide) ?_
          refine g_icmp_lt (tgt := 55) dX7_isRelapsing_50 (by decide) (fun c50 => ?_) (fun c50 => ?_)
          · refine g_iinc (w := 1) dX7_isRelapsing_55 (by decide) rfl (nI_succ k).symm (Nat.le_of_ble_eq_true rfl) ?_
            refine g_goto (tgt := 25) dX7_isRelapsing_58 (by decide) ?_
            exact ih (k + 1) _ (by omega) (by omega) (by rw [hotN, hz, hnb]; simp [Int32.not_le.mpr c50])
          · refine g_iconst (v := 1) dX7_isRelapsing_53 (by decide) ?_
            refine g_iret dX7_isRelapsing_54 rfl rfl ?_
            exact ⟨by rw [if_pos]; rw [isRel, hot_mono (j := 4) (k := k + 1) (by rw [hotN, hnb]; simp [Int32.not_lt.mp c50]) (by omega)]; simp [ha, hb], rfl⟩
  refine g_aload_n (i := 0) dX7_isRelapsing_0 rfl rfl ?_
  refine g_getN dX7_isRelapsing_1 K_X3 (k := 2) fl_X7_63 (Nat.le_of_ble_eq_true rfl) H.1 rfl ?_
  refine g_iload_n (i := 1) dX7_isRelapsing_4 rfl rfl ?_
  refine g_iald dX7_isRelapsing_5 H.2.2.2.1 (ix_nI (by omega)) hi ?_
  refine g_if_le (tgt := 21) dX7_isRelapsing_6 (by decide) (fun c6 => ?_) (fun c6 => ?_)
  · refine g_iconst (v := 0) dX7_isRelapsing_21 (by decide) ?_
    refine g_iret dX7_isRelapsing_22 rfl rfl ?_
    exact ⟨by rw [if_neg]; simp [isRel, Int32.not_lt.mpr c6], rfl⟩
  · refine g_aload_n (i := 0) dX7_isRelapsing_9 rfl rfl ?_
    refine g_getN dX7_isRelapsing_10 K_X3 (k := 1) fl_X7_46 (Nat.le_of_ble_eq_true rfl) H.1 rfl ?_
    refine g_iload_n (i := 1) dX7_isRelapsing_13 rfl rfl ?_
    refine g_iald dX7_isRelapsing_14 H.2.2.1 (ix_nI (by omega)) hi ?_
    refine g_sipush (v := 300) dX7_isRelapsing_15 (by decide) ?_
    refine g_icmp_lt (tgt := 23) dX7_isRelapsing_18 (by decide) (fun c18 => ?_) (fun c18 => ?_)
    · refine g_iconst (v := 0) dX7_isRelapsing_23 (by decide) ?_
      refine g_istore_n (i := 2) dX7_isRelapsing_24 rfl (Nat.le_of_ble_eq_true rfl) ?_
      exact loop (Int32.not_le.mp c6) c18 5 0 _ (by omega) (by omega) rfl
    · refine g_iconst (v := 0) dX7_isRelapsing_21 (by decide) ?_
      refine g_iret dX7_isRelapsing_22 rfl rfl ?_
      exact ⟨by rw [if_neg]; simp [isRel, Int32.not_lt.mpr (Int32.not_lt.mp c18)], rfl⟩

set_option maxRecDepth 100000 in
theorem ev_relapseCells {l : Launch} {G : GG} (hl : l.stackTraces = false) {A : AD} {g : Nat} {m : MS} {c : Nat → Int32} {h : AH} (hT : h 9 0 = some (A 9 0, .inr (7, [.ref (A 10 0)]))) :
    Ev l G 12 0 0 mX7_relapseCells [.ref (A 9 0), .ref (A 0 g)] (tk h A g m c) (RtX (some (.int (relN m 64))) (fun c => tk h A g (relM m) c)) := by
  refine Ev.of hl (by decide) (Nat.le_of_ble_eq_true rfl) ?_
  have loop2 : ∀ (n9 : Nat) (k : Nat), 64 - k < n9 → k ≤ 64 → Go l G mX7_relapseCells 12 0 0 (RtX (some (.int (relN m 64))) (fun c => tk h A g (relM m) c)) 42 [some (.ref (A 9 0)), some (.ref (A 0 g)), some (.int (relN m k)), some (.int (nI k))] [] (tk h A g (m.1, upTo m.2.1 (fun q => if 0 < relC m q then m.2.1 q + relC m q else m.2.1 q) k, upTo m.2.2.1 (fun q => if 0 < relC m q then 0 else m.2.2.1 q) k, m.2.2.2) (relC m)) := by
    intro n9
    induction n9 with
    | zero => intros; omega
    | succ n9 ih =>
      intro k hf hk
      refine g_iload_n (i := 3) dX7_relapseCells_42 rfl rfl ?_
      refine g_bipush (v := 64) dX7_relapseCells_43 (by decide) ?_
      refine g_icmp_ge (tgt := 88) dX7_relapseCells_45 (by decide) (fun c45 => ?_) (fun c45 => ?_)
      · have hke : k = 64 := by have := (le_nI (a := 64) rfl (by omega) (by omega)).mp c45; omega
        subst hke
        refine Go.tkh (fun k hk => upTo_lt hk) ?_
        refine Go.tke (fun k hk => upTo_lt hk) ?_
        refine g_iload_n (i := 2) dX7_relapseCells_88 rfl rfl ?_
        refine g_iret dX7_relapseCells_89 rfl rfl ?_
        exact ⟨rfl, _, rfl⟩
      · have hk2 : k < 64 := by have := mt (le_nI (a := 64) (b := k) rfl (by omega) (by omega)).mpr c45; omega
        refine g_aload_n (i := 0) dX7_relapseCells_48 rfl rfl ?_
        refine g_getf dX7_relapseCells_49 K_X7 (k := 0) fl_X7_9 (Nat.le_of_ble_eq_true rfl) (tk_9 hT _ _ _) rfl ?_
        refine g_iload_n (i := 3) dX7_relapseCells_52 rfl rfl ?_
        refine g_iald dX7_relapseCells_53 (tk_10 _ _ _ _ _) (ix_nI (by omega)) (by omega) ?_
        refine g_if_le (tgt := 82) dX7_relapseCells_54 (by decide) (fun c54 => ?_) (fun c54 => ?_)
        · refine g_iinc (w := 1) dX7_relapseCells_82 (by decide) rfl (nI_succ k).symm (Nat.le_of_ble_eq_true rfl) ?_
          refine g_goto (tgt := 42) dX7_relapseCells_85 (by decide) ?_
          have z := ih (k + 1) (by omega) (by omega)
          rw [stepN (F := m.2.1) (k := k) (if_neg (Int32.not_lt.mpr c54)).symm, stepN (F := m.2.2.1) (k := k) (if_neg (Int32.not_lt.mpr c54)).symm, show relN m (k + 1) = _ from if_neg (Int32.not_lt.mpr c54)] at z
          exact z
        · refine g_aload_n (i := 1) dX7_relapseCells_57 rfl rfl ?_
          refine g_getN dX7_relapseCells_58 K_X3 (k := 1) fl_X7_46 (Nat.le_of_ble_eq_true rfl) (tk_map _ _ _ _ _).1 rfl ?_
          refine g_iload_n (i := 3) dX7_relapseCells_61 rfl rfl ?_
          refine g_dup2 dX7_relapseCells_62 rfl rfl ?_
          refine g_iald dX7_relapseCells_63 (tk_map _ _ _ _ _).2.2.1 (ix_nI (by omega)) (by omega) ?_
          refine g_aload_n (i := 0) dX7_relapseCells_64 rfl rfl ?_
          refine g_getf dX7_relapseCells_65 K_X7 (k := 0) fl_X7_9 (Nat.le_of_ble_eq_true rfl) (tk_9 hT _ _ _) rfl ?_
          refine g_iload_n (i := 3) dX7_relapseCells_68 rfl rfl ?_
          refine g_iald dX7_relapseCells_69 (tk_10 _ _ _ _ _) (ix_nI (by omega)) (by omega) ?_
          refine g_iadd dX7_relapseCells_70 ?_
          refine g_iast dX7_relapseCells_71 (tk_map _ _ _ _ _).2.2.1 (ix_nI (by omega)) (by omega) (show _ = (fun q => if 0 < relC m q then m.2.1 q + relC m q else m.2.1 q) k from by dsimp only; rw [upTo_at]; exact (if_pos (Int32.not_le.mp c54)).symm) (Go.heap ((tk_heat _ _ _ _ _ _).trans (by rw [stepU])) ?_)
          refine g_aload_n (i := 1) dX7_relapseCells_72 rfl rfl ?_
          refine g_getN dX7_relapseCells_73 K_X3 (k := 2) fl_X7_63 (Nat.le_of_ble_eq_true rfl) (tk_map _ _ _ _ _).1 rfl ?_
          refine g_iload_n (i := 3) dX7_relapseCells_76 rfl rfl ?_
          refine g_iconst (v := 0) dX7_relapseCells_77 (by decide) ?_
          refine g_iast dX7_relapseCells_78 (tk_map _ _ _ _ _).2.2.2.1 (ix_nI (by omega)) (by omega) (show _ = (fun q => if 0 < relC m q then 0 else m.2.2.1 q) k from (if_pos (Int32.not_le.mp c54)).symm) (Go.heap ((tk_emb _ _ _ _ _ _).trans (by rw [stepU])) ?_)
          refine g_iinc (w := 1) dX7_relapseCells_79 (by decide) rfl rfl (Nat.le_of_ble_eq_true rfl) ?_
          refine g_iinc (w := 1) dX7_relapseCells_82 (by decide) rfl (nI_succ k).symm (Nat.le_of_ble_eq_true rfl) ?_
          refine g_goto (tgt := 42) dX7_relapseCells_85 (by decide) ?_
          have z := ih (k + 1) (by omega) (by omega)
          rw [show relN m (k + 1) = _ from if_pos (Int32.not_le.mp c54)] at z
          exact z
  have loop1 : ∀ (n9 : Nat) (k : Nat), 64 - k < n9 → k ≤ 64 → Go l G mX7_relapseCells 12 0 0 (RtX (some (.int (relN m 64))) (fun c => tk h A g (relM m) c)) 4 [some (.ref (A 9 0)), some (.ref (A 0 g)), some (.int 0), some (.int (nI k))] [] (tk h A g m (upTo c (relC m) k)) := by
    intro n9
    induction n9 with
    | zero => intros; omega
    | succ n9 ih =>
      intro k hf hk
      refine g_iload_n (i := 3) dX7_relapseCells_4 rfl rfl ?_
      refine g_bipush (v := 64) dX7_relapseCells_5 (by decide) ?_
      refine g_icmp_ge (tgt := 40) dX7_relapseCells_7 (by decide) (fun c7 => ?_) (fun c7 => ?_)
      · have hke : k = 64 := by have := (le_nI (a := 64) rfl (by omega) (by omega)).mp c7; omega
        subst hke
        refine Go.tkc (f' := relC m) (fun k hk => upTo_lt hk) ?_
        refine g_iconst (v := 0) dX7_relapseCells_40 (by decide) ?_
        refine g_istore_n (i := 3) dX7_relapseCells_41 rfl (Nat.le_of_ble_eq_true rfl) ?_
        refine Go.heap (h' := tk h A g (m.1, upTo m.2.1 (fun q => if 0 < relC m q then m.2.1 q + relC m q else m.2.1 q) 0, upTo m.2.2.1 (fun q => if 0 < relC m q then 0 else m.2.2.1 q) 0, m.2.2.2) (relC m)) (by rw [upTo_0, upTo_0]) ?_
        exact loop2 65 0 (by omega) (by omega)
      · have hk2 : k < 64 := by have := mt (le_nI (a := 64) (b := k) rfl (by omega) (by omega)).mpr c7; omega
        refine g_aload_n (i := 0) dX7_relapseCells_10 rfl rfl ?_
        refine g_getf dX7_relapseCells_11 K_X7 (k := 0) fl_X7_9 (Nat.le_of_ble_eq_true rfl) (tk_9 hT _ _ _) rfl ?_
        refine g_iload_n (i := 3) dX7_relapseCells_14 rfl rfl ?_
        refine g_aload_n (i := 1) dX7_relapseCells_15 rfl rfl ?_
        refine g_iload_n (i := 3) dX7_relapseCells_16 rfl rfl ?_
        refine g_callS (ev_isRelapsing hl (tk_map _ _ _ _ _) hk2) dX7_relapseCells_17 ml_X7_66 csX7_isRelapsing rfl rfl (Nat.le_of_ble_eq_true rfl) (Nat.le_of_ble_eq_true rfl) (Nat.zero_le _) (Nat.zero_le _) (kr_rt ?_) kx_rt
        refine g_if_eq (tgt := 32) dX7_relapseCells_20 (by decide) (fun c20 => ?_) (fun c20 => ?_)
        · refine g_iconst (v := 0) dX7_relapseCells_32 (by decide) ?_
          refine g_iast dX7_relapseCells_33 (tk_10 _ _ _ _ _) (ix_nI (by omega)) (by omega) (show _ = relC m k from (if_neg (ite_0 c20)).symm) (Go.heap ((tk_c _ _ _ _ _ _).trans (by rw [stepU])) ?_)
          refine g_iinc (w := 1) dX7_relapseCells_34 (by decide) rfl (nI_succ k).symm (Nat.le_of_ble_eq_true rfl) ?_
          refine g_goto (tgt := 4) dX7_relapseCells_37 (by decide) ?_
          exact ih (k + 1) (by omega) (by omega)
        · refine g_aload_n (i := 1) dX7_relapseCells_23 rfl rfl ?_
          refine g_getN dX7_relapseCells_24 K_X3 (k := 2) fl_X7_63 (Nat.le_of_ble_eq_true rfl) (tk_map _ _ _ _ _).1 rfl ?_
          refine g_iload_n (i := 3) dX7_relapseCells_27 rfl rfl ?_
          refine g_iald dX7_relapseCells_28 (tk_map _ _ _ _ _).2.2.2.1 (ix_nI (by omega)) (by omega) ?_
          refine g_goto (tgt := 33) dX7_relapseCells_29 (by decide) ?_
          refine g_iast dX7_relapseCells_33 (tk_10 _ _ _ _ _) (ix_nI (by omega)) (by omega) (show _ = relC m k from (if_pos (ite_1 c20)).symm) (Go.heap ((tk_c _ _ _ _ _ _).trans (by rw [stepU])) ?_)
          refine g_iinc (w := 1) dX7_relapseCells_34 (by decide) rfl (nI_succ k).symm (Nat.le_of_ble_eq_true rfl) ?_
          refine g_goto (tgt := 4) dX7_relapseCells_37 (by decide) ?_
          exact ih (k + 1) (by omega) (by omega)
  refine g_iconst (v := 0) dX7_relapseCells_0 (by decide) ?_
  refine g_istore_n (i := 2) dX7_relapseCells_1 rfl (Nat.le_of_ble_eq_true rfl) ?_
  refine g_iconst (v := 0) dX7_relapseCells_2 (by decide) ?_
  refine g_istore_n (i := 3) dX7_relapseCells_3 rfl (Nat.le_of_ble_eq_true rfl) ?_
  refine Go.heap (h' := tk h A g m (upTo c (relC m) 0)) (by rw [upTo_0]) ?_
  exact loop1 65 0 (by omega) (by omega)

set_option maxRecDepth 100000 in
theorem ev_letTicksPass {l : Launch} {G : GG} (hl : l.stackTraces = false) {A : AD} {g : Nat} {m : MS} {c : Nat → Int32} {h : AH} (hT : h 9 0 = some (A 9 0, .inr (7, [.ref (A 10 0)]))) {n : Nat} (hn : n ≤ 20) :
    Ev l G 13 0 0 mX7_letTicksPass [.ref (A 9 0), .ref (A 0 g), .int (nI n)] (tk h A g m c) (RtX (some (.int (ticksR n m))) (fun c => tk h A g (endM (ticksM n m) (nI n) (ticksR n m)) c)) := by
  refine Ev.of hl (by decide) (Nat.le_of_ble_eq_true rfl) ?_
  have loop : ∀ (n9 : Nat) (k : Nat) (c : Nat → Int32), n - k < n9 → k ≤ n → Go l G mX7_letTicksPass 13 0 0 (RtX (some (.int (ticksR n m))) (fun c => tk h A g (endM (ticksM n m) (nI n) (ticksR n m)) c)) 5 [some (.ref (A 9 0)), some (.ref (A 0 g)), some (.int (nI n)), some (.int (ticksR k m)), some (.int (nI k))] [] (tk h A g (ticksM k m) c) := by
    intro n9
    induction n9 with
    | zero => intros; omega
    | succ n9 ih =>
      intro k c hf hk
      refine g_iload dX7_letTicksPass_5 rfl ?_
      refine g_iload_n (i := 2) dX7_letTicksPass_7 rfl rfl ?_
      refine g_icmp_ge (tgt := 35) dX7_letTicksPass_8 (by decide) (fun c8 => ?_) (fun c8 => ?_)
      · have hke : k = n := by have := (le_nI (a := n) rfl (by omega) (by omega)).mp c8; omega
        subst hke
        refine g_aload_n (i := 1) dX7_letTicksPass_35 rfl rfl ?_
        refine g_dup dX7_letTicksPass_36 rfl ?_
        refine g_getN dX7_letTicksPass_37 K_X3 (k := 5) fl_X7_26 (Nat.le_of_ble_eq_true rfl) (tk_map _ _ _ _ _).1 rfl ?_
        refine g_iload_n (i := 2) dX7_letTicksPass_40 rfl rfl ?_
        refine g_iadd dX7_letTicksPass_41 ?_
        refine g_putN dX7_letTicksPass_42 K_X3 (k := 5) fl_X7_26 (Nat.le_of_ble_eq_true rfl) rfl (tk_map _ _ _ _ _).1 (Nat.le_of_ble_eq_true rfl) rfl rfl (Go.heap (tk_obj _ _ _ _ _ _ _ _) ?_)
        refine g_aload_n (i := 1) dX7_letTicksPass_45 rfl rfl ?_
        refine g_dup dX7_letTicksPass_46 rfl ?_
        refine g_getN dX7_letTicksPass_47 K_X3 (k := 6) fl_X7_32 (Nat.le_of_ble_eq_true rfl) (tk_map _ _ _ _ _).1 rfl ?_
        refine g_iload_n (i := 3) dX7_letTicksPass_50 rfl rfl ?_
        refine g_iadd dX7_letTicksPass_51 ?_
        refine g_putN dX7_letTicksPass_52 K_X3 (k := 6) fl_X7_32 (Nat.le_of_ble_eq_true rfl) rfl (tk_map _ _ _ _ _).1 (Nat.le_of_ble_eq_true rfl) rfl rfl (Go.heap (tk_obj _ _ _ _ _ _ _ _) ?_)
        refine g_iload_n (i := 3) dX7_letTicksPass_55 rfl rfl ?_
        refine g_iret dX7_letTicksPass_56 rfl rfl ?_
        exact ⟨rfl, _, rfl⟩
      · have hk2 : k < n := by have := mt (le_nI (a := n) (b := k) rfl (by omega) (by omega)).mpr c8; omega
        refine g_aload_n (i := 0) dX7_letTicksPass_11 rfl rfl ?_
        refine g_aload_n (i := 1) dX7_letTicksPass_12 rfl rfl ?_
        refine g_callV (ev_letHeatFlow hl hT) dX7_letTicksPass_13 ml_X7_15 cvX7_letHeatFlow K_X7 rfl (tk_9 hT _ _ _) rfl rfl (Nat.le_of_ble_eq_true rfl) (Nat.le_of_ble_eq_true rfl) (Nat.zero_le _) (Nat.zero_le _) (kr_xv (fun c1 => ?_)) kx_x
        refine g_aload_n (i := 0) dX7_letTicksPass_16 rfl rfl ?_
        refine g_aload_n (i := 1) dX7_letTicksPass_17 rfl rfl ?_
        refine g_callV (ev_makeEmbers hl hT) dX7_letTicksPass_18 ml_X7_19 cvX7_makeEmbers K_X7 rfl (tk_9 hT _ _ _) rfl rfl (Nat.le_of_ble_eq_true rfl) (Nat.le_of_ble_eq_true rfl) (Nat.zero_le _) (Nat.zero_le _) (kr_vd ?_) kx_rt
        refine g_iload_n (i := 3) dX7_letTicksPass_21 rfl rfl ?_
        refine g_aload_n (i := 0) dX7_letTicksPass_22 rfl rfl ?_
        refine g_aload_n (i := 1) dX7_letTicksPass_23 rfl rfl ?_
        refine g_callV (ev_relapseCells hl hT) dX7_letTicksPass_24 ml_X7_22 cvX7_relapseCells K_X7 rfl (tk_9 hT _ _ _) rfl rfl (Nat.le_of_ble_eq_true rfl) (Nat.le_of_ble_eq_true rfl) (Nat.zero_le _) (Nat.zero_le _) (kr_x (fun c2 => ?_)) kx_x
        refine g_iadd dX7_letTicksPass_27 ?_
        refine g_istore_n (i := 3) dX7_letTicksPass_28 rfl (Nat.le_of_ble_eq_true rfl) ?_
        refine g_iinc (w := 1) dX7_letTicksPass_29 (by decide) rfl (nI_succ k).symm (Nat.le_of_ble_eq_true rfl) ?_
        refine g_goto (tgt := 5) dX7_letTicksPass_32 (by decide) ?_
        exact ih (k + 1) c2 (by omega) (by omega)
  refine g_iconst (v := 0) dX7_letTicksPass_0 (by decide) ?_
  refine g_istore_n (i := 3) dX7_letTicksPass_1 rfl (Nat.le_of_ble_eq_true rfl) ?_
  refine g_iconst (v := 0) dX7_letTicksPass_2 (by decide) ?_
  refine g_istore dX7_letTicksPass_3 (Nat.le_of_ble_eq_true rfl) ?_
  exact loop (n + 1) 0 c (by omega) (by omega)

