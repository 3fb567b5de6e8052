/-! Model: the coolest way (by wip/whole/gen/m37.py). -/
/-- open up to v -/
def opP (H R : Nat → Int32) (v : Int32) (c : Nat) : Prop := ¬ R c = 35 ∧ H c ≤ v
def opr (H R : Nat → Int32) (v : Int32) (c d : Nat) : Prop := c < 64 ∧ d < 64 ∧ opP H R v c ∧ opP H R v d ∧ ∃ s, s < 4 ∧ nb c s = some d
/-- a way from fm to c over cells of v at most -/
def wyP (H R : Nat → Int32) (fm : Nat) (v : Int32) (c : Nat) : Prop := opP H R v fm ∧ con (opr H R v) fm c
/-- v is the coolest way's peak -/
def isPk (H R : Nat → Int32) (fm to : Nat) (v : Int32) : Prop := wyP H R fm v to ∧ ∀ w, wyP H R fm w to → v ≤ w
def mxI (x y : Int32) : Int32 := if x < y then y else x
def pkI (H R : Nat → Int32) (fm : Nat) (P : Nat → Int32) : Prop := (∀ c, c < 64 → ¬ P c = -1 → 0 ≤ P c ∧ wyP H R fm (P c) c) ∧ (¬ R fm = 35 → ¬ P fm = -1 ∧ P fm ≤ H fm)
def pkF (H R : Nat → Int32) (fm : Nat) (P : Nat → Int32) : Prop := ∀ c, c < 64 → (P c = -1 → ∀ v, ¬ wyP H R fm v c) ∧ (¬ P c = -1 → isPk H R fm c (P c))
def pkT (H R : Nat → Int32) (P : Nat → Int32) (c s : Nat) : Prop := ¬ R c = 35 → ∀ o, nb c s = some o → ¬ P o = -1 → ¬ P c = -1 ∧ P c ≤ mxI (P o) (H c)
def muQ (P : Nat → Int32) : Nat → Nat
  | 0 => 0
  | k + 1 => muQ P k + (if P k = -1 then 4294967296 else (P k).toNatClampNeg)
def pkJ (H R : Nat → Int32) (fm : Nat) (P0 : Nat → Int32) (c s : Nat) (P : Nat → Int32) (F : Int32) : Prop :=
  pkI H R fm P ∧ ((F = 0 ∧ P = P0 ∧ ∀ c' s', (c' < c ∨ (c' = c ∧ s' < s)) → s' < 4 → pkT H R P0 c' s') ∨ (F = 1 ∧ muQ P 64 < muQ P0 64))
def pk0 (H R : Nat → Int32) (fm : Nat) (i : Nat) : Int32 := if i = fm ∧ ¬ R i = 35 then H i else -1
theorem nb_symm : ∀ c, c < 64 → ∀ s, s < 4 → ∀ d, nb c s = some d → d < 64 ∧ ∃ s', s' < 4 ∧ nb d s' = some c := by
  have h : ∀ c, c < 64 → ∀ s, s < 4 → (match nb c s with | none => true | some d => decide (d < 64) && (decide (nb d 0 = some c) || decide (nb d 1 = some c) || decide (nb d 2 = some c) || decide (nb d 3 = some c))) = true := by decide +kernel
  intro c hc s hs d hd
  have z := h c hc s hs
  rw [hd] at z
  simp only [Bool.and_eq_true, Bool.or_eq_true, decide_eq_true_iff] at z
  obtain ⟨z1, ((z | z) | z) | z⟩ := z
  · exact ⟨z1, 0, by omega, z⟩
  · exact ⟨z1, 1, by omega, z⟩
  · exact ⟨z1, 2, by omega, z⟩
  · exact ⟨z1, 3, by omega, z⟩
section PK
variable {H R : Nat → Int32} {fm : Nat} {P P0 : Nat → Int32} {c s n : Nat} {F v w : Int32}
theorem mx_l : v ≤ mxI v w := by unfold mxI; split; exact Int32.le_of_lt ‹_›; exact Int32.le_refl _
theorem mx_r : w ≤ mxI v w := by unfold mxI; split; exact Int32.le_refl _; exact Int32.not_lt.mp ‹_›
theorem mx_le {x : Int32} (h : v ≤ x) (h2 : w ≤ x) : mxI v w ≤ x := by unfold mxI; split <;> assumption
theorem ge_nm (h : 0 ≤ v) : ¬ v = -1 := fun e => by rw [e] at h; exact absurd h (by decide)
theorem opr_mono (h : v ≤ w) {a b : Nat} (q : opr H R v a b) : opr H R w a b := ⟨q.1, q.2.1, ⟨q.2.2.1.1, Int32.le_trans q.2.2.1.2 h⟩, ⟨q.2.2.2.1.1, Int32.le_trans q.2.2.2.1.2 h⟩, q.2.2.2.2⟩
theorem wy_mono (h : v ≤ w) (q : wyP H R fm v c) : wyP H R fm w c := ⟨⟨q.1.1, Int32.le_trans q.1.2 h⟩, con_mono (fun _ _ => opr_mono h) q.2⟩
theorem wy_op (q : wyP H R fm v c) (hf : fm < 64) : c < 64 ∧ opP H R v c := con_ind (p := fun x => x < 64 ∧ opP H R v x) (fun _ _ z _ => ⟨z.2.1, z.2.2.2.1⟩) q.2 ⟨hf, q.1⟩
theorem wy_next (hf : fm < 64) (hc : c < 64) (hr : ¬ R c = 35) (hs : s < 4) (en : nb c s = some n) (q : wyP H R fm v n) : wyP H R fm (mxI v (H c)) c := by
  have z := wy_op q hf
  obtain ⟨hn, s', hs', e'⟩ := nb_symm c hc s hs n en
  have q2 := wy_mono (w := mxI v (H c)) mx_l q
  exact ⟨q2.1, con_trans q2.2 (con_one ⟨hn, hc, ⟨z.2.1, Int32.le_trans z.2.2 mx_l⟩, ⟨hr, mx_r⟩, s', hs', e'⟩)⟩
theorem mq_ge {x : Int32} : ∀ n, n ≤ c → muQ (va_up P c x) n = muQ P n
  | 0, _ => rfl
  | n + 1, h => by rw [muQ, muQ, mq_ge n (by omega), va_up_ne _ _ (by omega)]
theorem mq_lt {x : Int32} (hx : (if x = -1 then 4294967296 else x.toNatClampNeg) < (if P c = -1 then 4294967296 else (P c).toNatClampNeg)) : ∀ n, c < n → muQ (va_up P c x) n < muQ P n
  | n + 1, h => by
    rw [muQ, muQ]
    by_cases e : c = n
    · subst e
      rw [mq_ge c (Nat.le_refl _), va_up_self]; omega
    · rw [va_up_ne _ _ (fun q => e q.symm)]
      have := mq_lt hx n (by omega)
      omega
theorem cl_lt {x y : Int32} (h0 : 0 ≤ x) (h : x < y) : x.toNatClampNeg < y.toNatClampNeg := by
  have h1 := Int32.lt_iff_toInt_lt.mp h
  have h2 : (0 : Int) ≤ x.toInt := Int32.le_iff_toInt_le.mp h0
  show x.toInt.toNat < y.toInt.toNat
  omega
theorem cl_32 {x : Int32} : x.toNatClampNeg < 4294967296 := by
  have := Int32.toInt_lt x
  show x.toInt.toNat < _
  omega
theorem pkJ_keep (hJ : pkJ H R fm P0 c s P F) (hn : pkT H R P c s) : pkJ H R fm P0 c (s + 1) P F := by
  refine ⟨hJ.1, hJ.2.elim (fun q => Or.inl ⟨q.1, q.2.1, fun c' s' hb hs => ?_⟩) Or.inr⟩
  by_cases e : c' < c ∨ (c' = c ∧ s' < s)
  · exact q.2.2 c' s' e hs
  · obtain ⟨rfl, rfl⟩ : c' = c ∧ s' = s := by omega
    rw [← q.2.1]
    exact hn
theorem pkJ_set (hf : fm < 64) (hh : ∀ i, i < 64 → 0 ≤ H i) (hJ : pkJ H R fm P0 c s P F) (hc : c < 64) (hr : ¬ R c = 35) (hs : s < 4) (en : nb c s = some n) (hP : ¬ P n = -1) (hb : P c = -1 ∨ ¬ P c ≤ mxI (P n) (H c)) : pkJ H R fm P0 c (s + 1) (va_up P c (mxI (P n) (H c))) 1 := by
  have hn := (nb_symm c hc s hs n en).1
  have z := hJ.1.1 n hn hP
  have h0 : 0 ≤ mxI (P n) (H c) := Int32.le_trans z.1 mx_l
  have hlt : (if mxI (P n) (H c) = -1 then 4294967296 else (mxI (P n) (H c)).toNatClampNeg) < (if P c = -1 then 4294967296 else (P c).toNatClampNeg) := by
    rw [if_neg (ge_nm h0)]
    by_cases e : P c = -1
    · rw [if_pos e]; exact cl_32
    · rw [if_neg e]; exact cl_lt h0 (Int32.not_le.mp (hb.resolve_left e))
  refine ⟨⟨fun x hx hxn => ?_, fun hrf => ?_⟩, Or.inr ⟨rfl, ?_⟩⟩
  · by_cases e : x = c
    · subst e
      rw [va_up_self]
      exact ⟨h0, wy_next hf hx hr hs en z.2⟩
    · rw [va_up_ne _ _ e] at hxn ⊢
      exact hJ.1.1 x hx hxn
  · by_cases e : fm = c
    · subst e
      rw [va_up_self]
      exact ⟨ge_nm h0, by
        have q := hJ.1.2 hrf
        have q2 := Int32.not_le.mp (hb.resolve_left q.1)
        exact Int32.le_trans (Int32.le_of_lt q2) q.2⟩
    · rw [va_up_ne _ _ e]
      exact hJ.1.2 hrf
  · have q := mq_lt hlt 64 hc
    rcases hJ.2 with z2 | z2
    · rw [← z2.2.1]; exact q
    · exact Nat.lt_trans q z2.2
theorem pkJ_next (hJ : pkJ H R fm P0 c 4 P F) : pkJ H R fm P0 (c + 1) 0 P F :=
  ⟨hJ.1, hJ.2.elim (fun q => Or.inl ⟨q.1, q.2.1, fun c' s' hb hs => q.2.2 c' s' (by omega) hs⟩) Or.inr⟩
theorem pkJ_rock (hr : R c = 35) (hJ : pkJ H R fm P0 c s P F) : pkJ H R fm P0 (c + 1) 0 P F := by
  refine ⟨hJ.1, hJ.2.elim (fun q => Or.inl ⟨q.1, q.2.1, fun c' s' hb hs => ?_⟩) Or.inr⟩
  by_cases e : c' < c
  · exact q.2.2 c' s' (Or.inl e) hs
  · obtain rfl : c' = c := by omega
    exact fun h => absurd hr h
theorem pkJ_0 (h : pkI H R fm P) : pkJ H R fm P 0 0 P 0 := ⟨h, Or.inl ⟨rfl, rfl, fun c' s' hb => by omega⟩⟩
theorem pkJ_end (hf : fm < 64) (hJ : pkJ H R fm P0 64 0 P 0) : pkF H R fm P := by
  obtain ⟨hI, q | q⟩ := hJ
  · obtain ⟨-, rfl, hst⟩ := q
    have key : ∀ v c, wyP H R fm v c → ¬ P c = -1 ∧ P c ≤ v := fun v c hw =>
      (con_ind (p := fun x => x < 64 ∧ ¬ P x = -1 ∧ P x ≤ v) (fun x y hs hx => by
        obtain ⟨hx', hy, ox, oy, s, hs4, es⟩ := hs
        obtain ⟨-, s', hs', e'⟩ := nb_symm x hx' s hs4 y es
        have z := hst y s' (Or.inl hy) hs' oy.1 x e' hx.2.1
        exact ⟨hy, z.1, Int32.le_trans z.2 (mx_le hx.2.2 oy.2)⟩) hw.2 ⟨hf, by
          have z := hI.2 hw.1.1
          exact ⟨z.1, Int32.le_trans z.2 hw.1.2⟩⟩).2
    exact fun c hc => ⟨fun e v hw => (key v c hw).1 e, fun e => ⟨(hI.1 c hc e).2, fun w hw => (key w c hw).2⟩⟩
  · exact absurd q.1 (by decide)
theorem pkI_0 (hf : fm < 64) (hh : ∀ i, i < 64 → 0 ≤ H i) : pkI H R fm (fun i => if i < 64 then pk0 H R fm i else P i) := by
  refine ⟨fun c hc => ?_, fun hr => ?_⟩
  · show ¬ (if c < 64 then pk0 H R fm c else P c) = -1 → 0 ≤ (if c < 64 then pk0 H R fm c else P c) ∧ wyP H R fm (if c < 64 then pk0 H R fm c else P c) c
    rw [if_pos hc, pk0]
    by_cases e : c = fm ∧ ¬ R c = 35
    · rw [if_pos e]
      obtain ⟨rfl, hr⟩ := e
      exact fun _ => ⟨hh c hc, ⟨hr, Int32.le_refl _⟩, con_refl⟩
    · rw [if_neg e]; exact fun q => absurd rfl q
  · show ¬ (if fm < 64 then pk0 H R fm fm else P fm) = -1 ∧ (if fm < 64 then pk0 H R fm fm else P fm) ≤ H fm
    rw [if_pos hf, pk0, if_pos ⟨rfl, hr⟩]
    exact ⟨ge_nm (hh fm hf), Int32.le_refl _⟩
end PK
section MP9
variable {h : AH} {A : AD} {a : Nat → Nat → Int32} {f : Nat → Int32} {P x : Nat → Int32}
theorem mo_p40 : mo h A (va_up a 9 P, f) 40 0 = some (iArr (A 40 0) 64 P) := rfl
theorem mo_q40 : up (mo h A (va_up a 9 P, f)) 40 0 (iArr (A 40 0) 64 x) = mo h A (va_up a 9 x, f) := by rw [mo_a9, va_up2]
end MP9

set_option maxRecDepth 100000 in
theorem pk_inner {l : Launch} {G : GG} (hl : l.stackTraces = false) {A : AD} {h : AH} {a : Nat → Nat → Int32} {f : Nat → Int32} {fm : Nat} {x1 x2 x3 x4 : Option Value} (hf : fm < 64) (hh : ∀ i, i < 64 → 0 ≤ a 0 i) {P0 : Nat → Int32} {P9 : Post} {k : Nat} (hk : k < 64) (hout : (∀ (P : Nat → Int32) (F : Int32) (X Y Z : Option Value), pkJ (a 0) (fun c => a 0 (128 + c)) fm P0 (k + 1) 0 P F → Go l G mX10_coolestPeak 12 0 0 P9 225 [some (.ref (A 30 0)), x1, x2, x3, x4, some (.int (nI fm)), some (.int F), some (.int (nI k)), X, Y, Z] [] (mo h A (va_up a 9 P, f)))) : ∀ (j : Nat) (s : Nat) (P : Nat → Int32) (F : Int32) (X Y : Option Value), s + j = 4 → pkJ (a 0) (fun c => a 0 (128 + c)) fm P0 k s P F → Go l G mX10_coolestPeak 12 0 0 P9 112 [some (.ref (A 30 0)), x1, x2, x3, x4, some (.int (nI fm)), some (.int F), some (.int (nI k)), some (.int (nI s)), X, Y] [] (mo h A (va_up a 9 P, f)) := by
  have inner : ∀ (j : Nat) (s : Nat) (P : Nat → Int32) (F : Int32) (X Y : Option Value), s + j = 4 → pkJ (a 0) (fun c => a 0 (128 + c)) fm P0 k s P F → Go l G mX10_coolestPeak 12 0 0 P9 112 [some (.ref (A 30 0)), x1, x2, x3, x4, some (.int (nI fm)), some (.int F), some (.int (nI k)), some (.int (nI s)), X, Y] [] (mo h A (va_up a 9 P, f)) := by
    intro j
    induction j with
    | zero =>
      intro s P F X Y hs0 hJ
      refine g_iload dX10_coolestPeak_112 rfl ?_
      refine g_iconst (v := 4) dX10_coolestPeak_114 (by decide) ?_
      refine g_icmp_ge (tgt := 225) dX10_coolestPeak_115 (by decide) (fun c115 => ?_) (fun c115 => ?_)
      · obtain rfl : s = 4 := by omega
        exact hout _ _ _ _ _ (pkJ_next hJ)
      · exact absurd ((le_nI (a := 4) (b := s) rfl (by omega) (by omega)).mpr (by omega)) c115
    | succ j ih =>
      intro s P F X Y hs0 hJ
      refine g_iload dX10_coolestPeak_112 rfl ?_
      refine g_iconst (v := 4) dX10_coolestPeak_114 (by decide) ?_
      refine g_icmp_ge (tgt := 225) dX10_coolestPeak_115 (by decide) (fun c115 => ?_) (fun c115 => ?_)
      · exact absurd ((le_nI (a := 4) (b := s) rfl (by omega) (by omega)).mp c115) (by omega)
      · refine g_aload_n (i := 0) dX10_coolestPeak_118 rfl rfl ?_
        refine g_iload dX10_coolestPeak_119 rfl ?_
        refine g_callV (ev_mRock hl (k := k) (by omega)) dX10_coolestPeak_121 ml_X10_89 cvX10_isRock K_X10 rfl mo_30 rfl rfl (Nat.le_of_ble_eq_true rfl) (Nat.le_of_ble_eq_true rfl) (Nat.zero_le _) (Nat.zero_le _) (kr_rt ?_) kx_rt
        refine g_if_ne (tgt := 225) dX10_coolestPeak_124 (by decide) (fun c124 => ?_) (fun c124 => ?_)
        · exact hout _ _ _ _ _ (pkJ_rock (ite_1 c124) hJ)
        · have hs : s < 4 := by omega
          have hr : ¬ a 0 (128 + k) = 35 := ite_0 c124
          refine g_iload dX10_coolestPeak_127 rfl ?_
          refine g_iload dX10_coolestPeak_129 rfl ?_
          refine g_callS (ev_beside hl hk hs) dX10_coolestPeak_131 ml_X10_93 csX10_beside rfl rfl (Nat.le_of_ble_eq_true rfl) (Nat.le_of_ble_eq_true rfl) (Nat.zero_le _) (Nat.zero_le _) (kr_rt ?_) kx_rt
          refine g_istore dX10_coolestPeak_134 (Nat.le_of_ble_eq_true rfl) ?_
          refine g_iload dX10_coolestPeak_136 rfl ?_
          refine g_iconst (v := (-1)) dX10_coolestPeak_138 (by decide) ?_
          refine g_icmp_eq (tgt := 153) dX10_coolestPeak_139 (by decide) (fun c139 => ?_) (fun c139 => ?_)
          · have en := (nbS k hk s hs).2 c139
            refine g_iconst (v := (-1)) dX10_coolestPeak_153 (by decide) ?_
            refine g_goto (tgt := 176) dX10_coolestPeak_154 (by decide) ?_
            refine g_istore dX10_coolestPeak_176 (Nat.le_of_ble_eq_true rfl) ?_
            refine g_iload dX10_coolestPeak_178 rfl ?_
            refine g_iconst (v := (-1)) dX10_coolestPeak_180 (by decide) ?_
            refine g_icmp_eq (tgt := 219) dX10_coolestPeak_181 (by decide) (fun c181 => ?_) (fun c181 => ?_)
            · refine g_iinc (w := 1) dX10_coolestPeak_219 (by decide) rfl (nI_succ s).symm (Nat.le_of_ble_eq_true rfl) ?_
              refine g_goto (tgt := 112) dX10_coolestPeak_222 (by decide) ?_
              exact ih (s + 1) _ _ _ _ (by omega) (pkJ_keep hJ (fun _ o e9 => by rw [e9] at en; cases en))
            · exact absurd rfl c181
          · obtain ⟨n, hn, en⟩ := (nbS k hk s hs).1 c139
            rw [en]
            show Go l G mX10_coolestPeak 12 _ _ _ _ [_, _, _, _, _, _, _, _, _, some (.int (nI n)), _] _ _
            refine g_aload_n (i := 0) dX10_coolestPeak_142 rfl rfl ?_
            refine g_getf dX10_coolestPeak_143 K_X10 (k := 17) fl_X10_45 (Nat.le_of_ble_eq_true rfl) mo_30 rfl ?_
            refine g_iload dX10_coolestPeak_146 rfl ?_
            refine g_iald dX10_coolestPeak_148 mo_p40 (ix_nI (j := n) (by omega)) (by omega) ?_
            refine g_iconst (v := (-1)) dX10_coolestPeak_149 (by decide) ?_
            refine g_icmp_ne (tgt := 157) dX10_coolestPeak_150 (by decide) (fun c150 => ?_) (fun c150 => ?_)
            · refine g_aload_n (i := 0) dX10_coolestPeak_157 rfl rfl ?_
              refine g_getf dX10_coolestPeak_158 K_X10 (k := 17) fl_X10_45 (Nat.le_of_ble_eq_true rfl) mo_30 rfl ?_
              refine g_iload dX10_coolestPeak_161 rfl ?_
              refine g_iald dX10_coolestPeak_163 mo_p40 (ix_nI (j := n) (by omega)) (by omega) ?_
              refine g_aload_n (i := 0) dX10_coolestPeak_164 rfl rfl ?_
              refine g_getf dX10_coolestPeak_165 K_X10 (k := 0) fl_X10_9 (Nat.le_of_ble_eq_true rfl) mo_30 rfl ?_
              refine g_iconst (v := 0) dX10_coolestPeak_168 (by decide) ?_
              refine g_iload dX10_coolestPeak_169 rfl ?_
              refine g_iadd dX10_coolestPeak_171 ?_
              refine g_iald dX10_coolestPeak_172 mo_31 (ix0 (k := k) (by omega)) (by omega) ?_
              refine g_max dX10_coolestPeak_173 ml_X10_97 w_static_yJ9_max_7cf53 w_init_java_lang_Math w_code_Math_max (Nat.le_of_ble_eq_true rfl) (Nat.le_of_ble_eq_true rfl) ?_
              show Go l G mX10_coolestPeak 12 0 0 P9 176 _ [.int (mxI (P n) (a 0 k))] _
              refine g_istore dX10_coolestPeak_176 (Nat.le_of_ble_eq_true rfl) ?_
              refine g_iload dX10_coolestPeak_178 rfl ?_
              refine g_iconst (v := (-1)) dX10_coolestPeak_180 (by decide) ?_
              refine g_icmp_eq (tgt := 219) dX10_coolestPeak_181 (by decide) (fun c181 => ?_) (fun c181 => ?_)
              · exact absurd c181 (ge_nm (Int32.le_trans (hJ.1.1 n hn c150).1 mx_l))
              · refine g_aload_n (i := 0) dX10_coolestPeak_184 rfl rfl ?_
                refine g_getf dX10_coolestPeak_185 K_X10 (k := 17) fl_X10_45 (Nat.le_of_ble_eq_true rfl) mo_30 rfl ?_
                refine g_iload dX10_coolestPeak_188 rfl ?_
                refine g_iald dX10_coolestPeak_190 mo_p40 (ix_nI (j := k) (by omega)) (by omega) ?_
                refine g_iconst (v := (-1)) dX10_coolestPeak_191 (by decide) ?_
                refine g_icmp_eq (tgt := 207) dX10_coolestPeak_192 (by decide) (fun c192 => ?_) (fun c192 => ?_)
                · refine g_aload_n (i := 0) dX10_coolestPeak_207 rfl rfl ?_
                  refine g_getf dX10_coolestPeak_208 K_X10 (k := 17) fl_X10_45 (Nat.le_of_ble_eq_true rfl) mo_30 rfl ?_
                  refine g_iload dX10_coolestPeak_211 rfl ?_
                  refine g_iload dX10_coolestPeak_213 rfl ?_
                  refine g_iast dX10_coolestPeak_215 mo_p40 (ix_nI (j := k) (by omega)) (by omega) rfl (Go.heap mo_q40 ?_)
                  refine g_iconst (v := 1) dX10_coolestPeak_216 (by decide) ?_
                  refine g_istore dX10_coolestPeak_217 (Nat.le_of_ble_eq_true rfl) ?_
                  refine g_iinc (w := 1) dX10_coolestPeak_219 (by decide) rfl (nI_succ s).symm (Nat.le_of_ble_eq_true rfl) ?_
                  refine g_goto (tgt := 112) dX10_coolestPeak_222 (by decide) ?_
                  exact ih (s + 1) _ _ _ _ (by omega) (pkJ_set hf hh hJ hk hr hs en c150 (Or.inl c192))
                · refine g_iload dX10_coolestPeak_195 rfl ?_
                  refine g_aload_n (i := 0) dX10_coolestPeak_197 rfl rfl ?_
                  refine g_getf dX10_coolestPeak_198 K_X10 (k := 17) fl_X10_45 (Nat.le_of_ble_eq_true rfl) mo_30 rfl ?_
                  refine g_iload dX10_coolestPeak_201 rfl ?_
                  refine g_iald dX10_coolestPeak_203 mo_p40 (ix_nI (j := k) (by omega)) (by omega) ?_
                  refine g_icmp_ge (tgt := 219) dX10_coolestPeak_204 (by decide) (fun c204 => ?_) (fun c204 => ?_)
                  · refine g_iinc (w := 1) dX10_coolestPeak_219 (by decide) rfl (nI_succ s).symm (Nat.le_of_ble_eq_true rfl) ?_
                    refine g_goto (tgt := 112) dX10_coolestPeak_222 (by decide) ?_
                    exact ih (s + 1) _ _ _ _ (by omega) (pkJ_keep hJ (fun _ o e9 _ => by rw [en] at e9; cases e9; exact ⟨c192, c204⟩))
                  · refine g_aload_n (i := 0) dX10_coolestPeak_207 rfl rfl ?_
                    refine g_getf dX10_coolestPeak_208 K_X10 (k := 17) fl_X10_45 (Nat.le_of_ble_eq_true rfl) mo_30 rfl ?_
                    refine g_iload dX10_coolestPeak_211 rfl ?_
                    refine g_iload dX10_coolestPeak_213 rfl ?_
                    refine g_iast dX10_coolestPeak_215 mo_p40 (ix_nI (j := k) (by omega)) (by omega) rfl (Go.heap mo_q40 ?_)
                    refine g_iconst (v := 1) dX10_coolestPeak_216 (by decide) ?_
                    refine g_istore dX10_coolestPeak_217 (Nat.le_of_ble_eq_true rfl) ?_
                    refine g_iinc (w := 1) dX10_coolestPeak_219 (by decide) rfl (nI_succ s).symm (Nat.le_of_ble_eq_true rfl) ?_
                    refine g_goto (tgt := 112) dX10_coolestPeak_222 (by decide) ?_
                    exact ih (s + 1) _ _ _ _ (by omega) (pkJ_set hf hh hJ hk hr hs en c150 (Or.inr c204))
            · refine g_iconst (v := (-1)) dX10_coolestPeak_153 (by decide) ?_
              refine g_goto (tgt := 176) dX10_coolestPeak_154 (by decide) ?_
              refine g_istore dX10_coolestPeak_176 (Nat.le_of_ble_eq_true rfl) ?_
              refine g_iload dX10_coolestPeak_178 rfl ?_
              refine g_iconst (v := (-1)) dX10_coolestPeak_180 (by decide) ?_
              refine g_icmp_eq (tgt := 219) dX10_coolestPeak_181 (by decide) (fun c181 => ?_) (fun c181 => ?_)
              · refine g_iinc (w := 1) dX10_coolestPeak_219 (by decide) rfl (nI_succ s).symm (Nat.le_of_ble_eq_true rfl) ?_
                refine g_goto (tgt := 112) dX10_coolestPeak_222 (by decide) ?_
                exact ih (s + 1) _ _ _ _ (by omega) (pkJ_keep hJ (fun _ o e9 q9 => by rw [en] at e9; cases e9; exact absurd c150 q9))
              · exact absurd rfl c181
  exact inner

set_option maxRecDepth 100000 in
theorem pk_mid {l : Launch} {G : GG} (hl : l.stackTraces = false) {A : AD} {h : AH} {a : Nat → Nat → Int32} {f : Nat → Int32} {fm : Nat} {x1 x2 x3 x4 : Option Value} (hf : fm < 64) (hh : ∀ i, i < 64 → 0 ≤ a 0 i) {P0 : Nat → Int32} {P9 : Post} (hout : (∀ (P : Nat → Int32) (F : Int32) (X Y Z W : Option Value), pkJ (a 0) (fun c => a 0 (128 + c)) fm P0 64 0 P F → Go l G mX10_coolestPeak 12 0 0 P9 91 [some (.ref (A 30 0)), x1, x2, x3, x4, some (.int (nI fm)), some (.int F), X, Y, Z, W] [] (mo h A (va_up a 9 P, f)))) : ∀ (j : Nat) (k : Nat) (P : Nat → Int32) (F : Int32) (X Y Z : Option Value), k + j = 64 → pkJ (a 0) (fun c => a 0 (128 + c)) fm P0 k 0 P F → Go l G mX10_coolestPeak 12 0 0 P9 102 [some (.ref (A 30 0)), x1, x2, x3, x4, some (.int (nI fm)), some (.int F), some (.int (nI k)), X, Y, Z] [] (mo h A (va_up a 9 P, f)) := by
  have mid : ∀ (j : Nat) (k : Nat) (P : Nat → Int32) (F : Int32) (X Y Z : Option Value), k + j = 64 → pkJ (a 0) (fun c => a 0 (128 + c)) fm P0 k 0 P F → Go l G mX10_coolestPeak 12 0 0 P9 102 [some (.ref (A 30 0)), x1, x2, x3, x4, some (.int (nI fm)), some (.int F), some (.int (nI k)), X, Y, Z] [] (mo h A (va_up a 9 P, f)) := by
    intro j
    induction j with
    | zero =>
      intro k P F X Y Z hk hJ
      refine g_iload dX10_coolestPeak_102 rfl ?_
      refine g_bipush (v := 64) dX10_coolestPeak_104 (by decide) ?_
      refine g_icmp_ge (tgt := 231) dX10_coolestPeak_106 (by decide) (fun c106 => ?_) (fun c106 => ?_)
      · refine g_goto (tgt := 91) dX10_coolestPeak_231 (by decide) ?_
        obtain rfl : k = 64 := by omega
        exact hout _ _ _ _ _ _ hJ
      · exact absurd ((le_nI (a := 64) (b := k) rfl (by omega) (by omega)).mpr (by omega)) c106
    | succ j ih =>
      intro k P F X Y Z hk hJ
      refine g_iload dX10_coolestPeak_102 rfl ?_
      refine g_bipush (v := 64) dX10_coolestPeak_104 (by decide) ?_
      refine g_icmp_ge (tgt := 231) dX10_coolestPeak_106 (by decide) (fun c106 => ?_) (fun c106 => ?_)
      · exact absurd ((le_nI (a := 64) (b := k) rfl (by omega) (by omega)).mp c106) (by omega)
      · refine g_iconst (v := 0) dX10_coolestPeak_109 (by decide) ?_
        refine g_istore dX10_coolestPeak_110 (Nat.le_of_ble_eq_true rfl) ?_
        refine pk_inner hl hf hh (k := k) (by omega) (fun P2 F2 X2 Y2 Z2 hJ2 => ?_) 4 0 P F _ _ rfl hJ
        refine g_iinc (w := 1) dX10_coolestPeak_225 (by decide) rfl (nI_succ k).symm (Nat.le_of_ble_eq_true rfl) ?_
        refine g_goto (tgt := 102) dX10_coolestPeak_228 (by decide) ?_
        exact ih (k + 1) _ _ _ _ _ (by omega) hJ2
  exact mid

set_option maxRecDepth 100000 in
theorem pk_while {l : Launch} {G : GG} (hl : l.stackTraces = false) {A : AD} {h : AH} {a : Nat → Nat → Int32} {f : Nat → Int32} {fm : Nat} {x1 x2 x3 x4 : Option Value} (hf : fm < 64) (hh : ∀ i, i < 64 → 0 ≤ a 0 i) {P9 : Post} (hout : (∀ (P : Nat → Int32) (X Y Z W U : Option Value), pkF (a 0) (fun c => a 0 (128 + c)) fm P → Go l G mX10_coolestPeak 12 0 0 P9 234 [some (.ref (A 30 0)), x1, x2, x3, x4, some (.int (nI fm)), U, X, Y, Z, W] [] (mo h A (va_up a 9 P, f)))) : ∀ (j : Nat) (P : Nat → Int32) (X Y Z W : Option Value), muQ P 64 < j → pkI (a 0) (fun c => a 0 (128 + c)) fm P → Go l G mX10_coolestPeak 12 0 0 P9 91 [some (.ref (A 30 0)), x1, x2, x3, x4, some (.int (nI fm)), some (.int 1), X, Y, Z, W] [] (mo h A (va_up a 9 P, f)) := by
  have wl : ∀ (j : Nat) (P : Nat → Int32) (X Y Z W : Option Value), muQ P 64 < j → pkI (a 0) (fun c => a 0 (128 + c)) fm P → Go l G mX10_coolestPeak 12 0 0 P9 91 [some (.ref (A 30 0)), x1, x2, x3, x4, some (.int (nI fm)), some (.int 1), X, Y, Z, W] [] (mo h A (va_up a 9 P, f)) := by
    intro j
    induction j with
    | zero => intros; omega
    | succ j ih =>
      intro P X Y Z W hn hP
      refine g_iload dX10_coolestPeak_91 rfl ?_
      refine g_if_eq (tgt := 234) dX10_coolestPeak_93 (by decide) (fun c93 => ?_) (fun c93 => ?_)
      · exact absurd c93 (by decide)
      · refine g_iconst (v := 0) dX10_coolestPeak_96 (by decide) ?_
        refine g_istore dX10_coolestPeak_97 (Nat.le_of_ble_eq_true rfl) ?_
        refine g_iconst (v := 0) dX10_coolestPeak_99 (by decide) ?_
        refine g_istore dX10_coolestPeak_100 (Nat.le_of_ble_eq_true rfl) ?_
        refine pk_mid hl hf hh (P0 := P) (fun P2 F2 X2 Y2 Z2 W2 hJ2 => ?_) 64 0 P 0 _ _ _ rfl (pkJ_0 hP)
        rcases hJ2.2 with q9 | q9
        · obtain ⟨rfl, q9⟩ := q9
          refine g_iload dX10_coolestPeak_91 rfl ?_
          refine g_if_eq (tgt := 234) dX10_coolestPeak_93 (by decide) (fun c93 => ?_) (fun c93 => ?_)
          · exact hout _ _ _ _ _ _ (pkJ_end hf hJ2)
          · exact absurd rfl c93
        · obtain ⟨rfl, q9⟩ := q9
          exact ih P2 _ _ _ _ (Nat.lt_of_lt_of_le q9 (Nat.le_of_lt_succ hn)) hJ2.1
  exact wl

set_option maxRecDepth 100000 in
theorem pk_all {l : Launch} {G : GG} (hl : l.stackTraces = false) {A : AD} {h : AH} {a : Nat → Nat → Int32} {f : Nat → Int32} {fm : Nat} {x1 x2 x3 x4 : Option Value} (hf : fm < 64) (hh : ∀ i, i < 64 → 0 ≤ a 0 i) {P9 : Post} (hout : (∀ (P : Nat → Int32) (X Y Z W U : Option Value), pkF (a 0) (fun c => a 0 (128 + c)) fm P → Go l G mX10_coolestPeak 12 0 0 P9 234 [some (.ref (A 30 0)), x1, x2, x3, x4, some (.int (nI fm)), U, X, Y, Z, W] [] (mo h A (va_up a 9 P, f)))) : Go l G mX10_coolestPeak 12 0 0 P9 39 [some (.ref (A 30 0)), x1, x2, x3, x4, some (.int (nI fm)), some (.int (nI 0)), none, none, none, none] [] (mo h A (a, f)) := by
  have ini : ∀ (j : Nat) (k : Nat), k + j = 64 → Go l G mX10_coolestPeak 12 0 0 P9 39 [some (.ref (A 30 0)), x1, x2, x3, x4, some (.int (nI fm)), some (.int (nI k)), none, none, none, none] [] (mo h A (va_up a 9 (fun i => if i < k then pk0 (a 0) (fun c => a 0 (128 + c)) fm i else a 9 i), f)) := by
    intro j
    induction j with
    | zero =>
      intro k hk
      refine g_iload dX10_coolestPeak_39 rfl ?_
      refine g_bipush (v := 64) dX10_coolestPeak_41 (by decide) ?_
      refine g_icmp_ge (tgt := 88) dX10_coolestPeak_43 (by decide) (fun c43 => ?_) (fun c43 => ?_)
      · refine g_iconst (v := 1) dX10_coolestPeak_88 (by decide) ?_
        refine g_istore dX10_coolestPeak_89 (Nat.le_of_ble_eq_true rfl) ?_
        obtain rfl : k = 64 := by omega
        exact pk_while hl hf hh hout _ _ _ _ _ _ (Nat.lt_succ_self _) (pkI_0 hf hh)
      · exact absurd ((le_nI (a := 64) (b := k) rfl (by omega) (by omega)).mpr (by omega)) c43
    | succ j ih =>
      intro k hk
      refine g_iload dX10_coolestPeak_39 rfl ?_
      refine g_bipush (v := 64) dX10_coolestPeak_41 (by decide) ?_
      refine g_icmp_ge (tgt := 88) dX10_coolestPeak_43 (by decide) (fun c43 => ?_) (fun c43 => ?_)
      · exact absurd ((le_nI (a := 64) (b := k) rfl (by omega) (by omega)).mp c43) (by omega)
      · refine g_aload_n (i := 0) dX10_coolestPeak_46 rfl rfl ?_
        refine g_getf dX10_coolestPeak_47 K_X10 (k := 17) fl_X10_45 (Nat.le_of_ble_eq_true rfl) mo_30 rfl ?_
        refine g_iload dX10_coolestPeak_50 rfl ?_
        refine g_iload dX10_coolestPeak_52 rfl ?_
        refine g_iload dX10_coolestPeak_54 rfl ?_
        refine g_icmp_ne (tgt := 80) dX10_coolestPeak_56 (by decide) (fun c56 => ?_) (fun c56 => ?_)
        · refine g_iconst (v := (-1)) dX10_coolestPeak_80 (by decide) ?_
          refine g_iast dX10_coolestPeak_81 mo_p40 (ix_nI (j := k) (by omega)) (by omega) rfl (Go.heap mo_q40 ?_)
          refine g_iinc (w := 1) dX10_coolestPeak_82 (by decide) rfl (nI_succ k).symm (Nat.le_of_ble_eq_true rfl) ?_
          refine g_goto (tgt := 39) dX10_coolestPeak_85 (by decide) ?_
          have z := ih (k + 1) (by omega)
          have e := cpS (b := pk0 (a 0) (fun c => a 0 (128 + c)) fm) (c := a 9) (k := k)
          rw [show pk0 (a 0) (fun c => a 0 (128 + c)) fm k = -1 from if_neg (fun q9 => c56 (congrArg nI q9.1))] at e
          rw [← e] at z
          exact z
        · refine g_aload_n (i := 0) dX10_coolestPeak_59 rfl rfl ?_
          refine g_iload dX10_coolestPeak_60 rfl ?_
          refine g_callV (ev_mRock hl (k := k) (by omega)) dX10_coolestPeak_62 ml_X10_89 cvX10_isRock K_X10 rfl mo_30 rfl rfl (Nat.le_of_ble_eq_true rfl) (Nat.le_of_ble_eq_true rfl) (Nat.zero_le _) (Nat.zero_le _) (kr_rt ?_) kx_rt
          refine g_if_ne (tgt := 80) dX10_coolestPeak_65 (by decide) (fun c65 => ?_) (fun c65 => ?_)
          · refine g_iconst (v := (-1)) dX10_coolestPeak_80 (by decide) ?_
            refine g_iast dX10_coolestPeak_81 mo_p40 (ix_nI (j := k) (by omega)) (by omega) rfl (Go.heap mo_q40 ?_)
            refine g_iinc (w := 1) dX10_coolestPeak_82 (by decide) rfl (nI_succ k).symm (Nat.le_of_ble_eq_true rfl) ?_
            refine g_goto (tgt := 39) dX10_coolestPeak_85 (by decide) ?_
            have z := ih (k + 1) (by omega)
            have e := cpS (b := pk0 (a 0) (fun c => a 0 (128 + c)) fm) (c := a 9) (k := k)
            rw [show pk0 (a 0) (fun c => a 0 (128 + c)) fm k = -1 from if_neg (fun q9 => q9.2 (ite_1 c65))] at e
            rw [← e] at z
            exact z
          · refine g_aload_n (i := 0) dX10_coolestPeak_68 rfl rfl ?_
            refine g_getf dX10_coolestPeak_69 K_X10 (k := 0) fl_X10_9 (Nat.le_of_ble_eq_true rfl) mo_30 rfl ?_
            refine g_iconst (v := 0) dX10_coolestPeak_72 (by decide) ?_
            refine g_iload dX10_coolestPeak_73 rfl ?_
            refine g_iadd dX10_coolestPeak_75 ?_
            refine g_iald dX10_coolestPeak_76 mo_31 (ix0 (k := k) (by omega)) (by omega) ?_
            refine g_goto (tgt := 81) dX10_coolestPeak_77 (by decide) ?_
            refine g_iast dX10_coolestPeak_81 mo_p40 (ix_nI (j := k) (by omega)) (by omega) rfl (Go.heap mo_q40 ?_)
            refine g_iinc (w := 1) dX10_coolestPeak_82 (by decide) rfl (nI_succ k).symm (Nat.le_of_ble_eq_true rfl) ?_
            refine g_goto (tgt := 39) dX10_coolestPeak_85 (by decide) ?_
            have z := ih (k + 1) (by omega)
            have e := cpS (b := pk0 (a 0) (fun c => a 0 (128 + c)) fm) (c := a 9) (k := k)
            rw [show pk0 (a 0) (fun c => a 0 (128 + c)) fm k = a 0 k from if_pos ⟨(nI_inj (by omega) (by omega)).mp c56, ite_0 c65⟩] at e
            rw [← e] at z
            exact z
  refine Go.heap (h' := (mo h A (va_up a 9 (fun i => if i < 0 then pk0 (a 0) (fun c => a 0 (128 + c)) fm i else a 9 i), f))) ?_ (ini 64 0 rfl)
  congr 2; exact (va_self a 9).symm

set_option maxRecDepth 100000 in
theorem ev_mPeak {l : Launch} {G : GG} (hl : l.stackTraces = false) {A : AD} {h : AH} {a : Nat → Nat → Int32} {f : Nat → Int32} {i j9 i2 j2 : Nat} (hi : i < 8) (hj : j9 < 8) (hi2 : i2 < 8) (hj2 : j2 < 8) (hh : ∀ i, i < 64 → 0 ≤ a 0 i) {v : Int32} (hv : isPk (a 0) (fun c => a 0 (128 + c)) (8 * j9 + i) (8 * j2 + i2) v) :
    Ev l G 12 0 0 mX10_coolestPeak [.ref (A 30 0), .int (nI i), .int (nI j9), .int (nI i2), .int (nI j2)] (mo h A (a, f)) (RtX (some (.int v)) (fun x : Nat → Int32 => (mo h A (va_up a 9 x, va_up f 11 0)))) := by
  refine Ev.of hl (by decide) (Nat.le_of_ble_eq_true rfl) ?_
  refine g_aload_n (i := 0) dX10_coolestPeak_0 rfl rfl ?_
  refine g_iconst (v := 0) dX10_coolestPeak_1 (by decide) ?_
  refine g_putf dX10_coolestPeak_2 K_X10 (k := 11) fl_X10_67 (Nat.le_of_ble_eq_true rfl) rfl mo_30 (Nat.le_of_ble_eq_true rfl) rfl rfl (Go.heap (mo_f11) ?_)
  refine g_iload_n (i := 1) dX10_coolestPeak_5 rfl rfl ?_
  refine g_iload_n (i := 2) dX10_coolestPeak_6 rfl rfl ?_
  refine g_callS (ev_mIsCell hl) dX10_coolestPeak_7 ml_X10_108 csX10_isCell rfl rfl (Nat.le_of_ble_eq_true rfl) (Nat.le_of_ble_eq_true rfl) (Nat.zero_le _) (Nat.zero_le _) (kr_rt ?_) kx_rt
  refine g_if_eq (tgt := 22) dX10_coolestPeak_10 (by decide) (fun c10 => ?_) (fun c10 => ?_)
  · exact absurd c10 (by rw [if_pos (cellB_nI hi hj)]; decide)
  · refine g_iload_n (i := 3) dX10_coolestPeak_13 rfl rfl ?_
    refine g_iload dX10_coolestPeak_14 rfl ?_
    refine g_callS (ev_mIsCell hl) dX10_coolestPeak_16 ml_X10_108 csX10_isCell rfl rfl (Nat.le_of_ble_eq_true rfl) (Nat.le_of_ble_eq_true rfl) (Nat.zero_le _) (Nat.zero_le _) (kr_rt ?_) kx_rt
    refine g_if_ne (tgt := 28) dX10_coolestPeak_19 (by decide) (fun c19 => ?_) (fun c19 => ?_)
    · refine g_bipush (v := 8) dX10_coolestPeak_28 (by decide) ?_
      refine g_iload_n (i := 2) dX10_coolestPeak_30 rfl rfl ?_
      refine g_imul dX10_coolestPeak_31 ?_
      refine g_iload_n (i := 1) dX10_coolestPeak_32 rfl rfl ?_
      refine g_iadd dX10_coolestPeak_33 ?_
      rw [cel]
      refine g_istore dX10_coolestPeak_34 (Nat.le_of_ble_eq_true rfl) ?_
      refine g_iconst (v := 0) dX10_coolestPeak_36 (by decide) ?_
      refine g_istore dX10_coolestPeak_37 (Nat.le_of_ble_eq_true rfl) ?_
      refine pk_all hl (fm := (8 * j9 + i)) (f := va_up f 11 0) (by omega) hh (fun P X Y Z W U hP => ?_)
      refine g_aload_n (i := 0) dX10_coolestPeak_234 rfl rfl ?_
      refine g_getf dX10_coolestPeak_235 K_X10 (k := 17) fl_X10_45 (Nat.le_of_ble_eq_true rfl) mo_30 rfl ?_
      refine g_bipush (v := 8) dX10_coolestPeak_238 (by decide) ?_
      refine g_iload dX10_coolestPeak_240 rfl ?_
      refine g_imul dX10_coolestPeak_242 ?_
      refine g_iload_n (i := 3) dX10_coolestPeak_243 rfl rfl ?_
      refine g_iadd dX10_coolestPeak_244 ?_
      rw [cel]
      refine g_iald dX10_coolestPeak_245 mo_p40 (ix_nI (j := (8 * j2 + i2)) (by omega)) (by omega) ?_
      refine g_istore dX10_coolestPeak_246 (Nat.le_of_ble_eq_true rfl) ?_
      refine g_iload dX10_coolestPeak_248 rfl ?_
      refine g_iconst (v := (-1)) dX10_coolestPeak_250 (by decide) ?_
      refine g_icmp_ne (tgt := 262) dX10_coolestPeak_251 (by decide) (fun c251 => ?_) (fun c251 => ?_)
      · refine g_iload dX10_coolestPeak_262 rfl ?_
        refine g_iret dX10_coolestPeak_264 rfl rfl ?_
        have z := (hP (8 * j2 + i2) (by omega)).2 c251
        exact ⟨by rw [Int32.le_antisymm (z.2 v hv.1) (hv.2 _ z.1)], P, rfl⟩
      · exact absurd hv.1 ((hP (8 * j2 + i2) (by omega)).1 c251 v)
    · exact absurd c19 (by rw [if_pos (cellB_nI hi2 hj2)]; decide)

set_option maxRecDepth 100000 in
theorem ev_mPeak_no2 {l : Launch} {G : GG} (hl : l.stackTraces = false) {A : AD} {h : AH} {a : Nat → Nat → Int32} {f : Nat → Int32} {i j9 i2 j2 : Nat} (hi : i < 8) (hj : j9 < 8) (hi2 : i2 < 8) (hj2 : j2 < 8) (hh : ∀ i, i < 64 → 0 ≤ a 0 i) (hv : ∀ v, ¬ wyP (a 0) (fun c => a 0 (128 + c)) (8 * j9 + i) v (8 * j2 + i2)) :
    Ev l G 12 0 0 mX10_coolestPeak [.ref (A 30 0), .int (nI i), .int (nI j9), .int (nI i2), .int (nI j2)] (mo h A (a, f)) (RtX (some (.int (-1))) (fun x : Nat → Int32 => (mo h A (va_up a 9 x, va_up f 11 2)))) := by
  refine Ev.of hl (by decide) (Nat.le_of_ble_eq_true rfl) ?_
  refine g_aload_n (i := 0) dX10_coolestPeak_0 rfl rfl ?_
  refine g_iconst (v := 0) dX10_coolestPeak_1 (by decide) ?_
  refine g_putf dX10_coolestPeak_2 K_X10 (k := 11) fl_X10_67 (Nat.le_of_ble_eq_true rfl) rfl mo_30 (Nat.le_of_ble_eq_true rfl) rfl rfl (Go.heap (mo_f11) ?_)
  refine g_iload_n (i := 1) dX10_coolestPeak_5 rfl rfl ?_
  refine g_iload_n (i := 2) dX10_coolestPeak_6 rfl rfl ?_
  refine g_callS (ev_mIsCell hl) dX10_coolestPeak_7 ml_X10_108 csX10_isCell rfl rfl (Nat.le_of_ble_eq_true rfl) (Nat.le_of_ble_eq_true rfl) (Nat.zero_le _) (Nat.zero_le _) (kr_rt ?_) kx_rt
  refine g_if_eq (tgt := 22) dX10_coolestPeak_10 (by decide) (fun c10 => ?_) (fun c10 => ?_)
  · exact absurd c10 (by rw [if_pos (cellB_nI hi hj)]; decide)
  · refine g_iload_n (i := 3) dX10_coolestPeak_13 rfl rfl ?_
    refine g_iload dX10_coolestPeak_14 rfl ?_
    refine g_callS (ev_mIsCell hl) dX10_coolestPeak_16 ml_X10_108 csX10_isCell rfl rfl (Nat.le_of_ble_eq_true rfl) (Nat.le_of_ble_eq_true rfl) (Nat.zero_le _) (Nat.zero_le _) (kr_rt ?_) kx_rt
    refine g_if_ne (tgt := 28) dX10_coolestPeak_19 (by decide) (fun c19 => ?_) (fun c19 => ?_)
    · refine g_bipush (v := 8) dX10_coolestPeak_28 (by decide) ?_
      refine g_iload_n (i := 2) dX10_coolestPeak_30 rfl rfl ?_
      refine g_imul dX10_coolestPeak_31 ?_
      refine g_iload_n (i := 1) dX10_coolestPeak_32 rfl rfl ?_
      refine g_iadd dX10_coolestPeak_33 ?_
      rw [cel]
      refine g_istore dX10_coolestPeak_34 (Nat.le_of_ble_eq_true rfl) ?_
      refine g_iconst (v := 0) dX10_coolestPeak_36 (by decide) ?_
      refine g_istore dX10_coolestPeak_37 (Nat.le_of_ble_eq_true rfl) ?_
      refine pk_all hl (fm := (8 * j9 + i)) (f := va_up f 11 0) (by omega) hh (fun P X Y Z W U hP => ?_)
      refine g_aload_n (i := 0) dX10_coolestPeak_234 rfl rfl ?_
      refine g_getf dX10_coolestPeak_235 K_X10 (k := 17) fl_X10_45 (Nat.le_of_ble_eq_true rfl) mo_30 rfl ?_
      refine g_bipush (v := 8) dX10_coolestPeak_238 (by decide) ?_
      refine g_iload dX10_coolestPeak_240 rfl ?_
      refine g_imul dX10_coolestPeak_242 ?_
      refine g_iload_n (i := 3) dX10_coolestPeak_243 rfl rfl ?_
      refine g_iadd dX10_coolestPeak_244 ?_
      rw [cel]
      refine g_iald dX10_coolestPeak_245 mo_p40 (ix_nI (j := (8 * j2 + i2)) (by omega)) (by omega) ?_
      refine g_istore dX10_coolestPeak_246 (Nat.le_of_ble_eq_true rfl) ?_
      refine g_iload dX10_coolestPeak_248 rfl ?_
      refine g_iconst (v := (-1)) dX10_coolestPeak_250 (by decide) ?_
      refine g_icmp_ne (tgt := 262) dX10_coolestPeak_251 (by decide) (fun c251 => ?_) (fun c251 => ?_)
      · exact absurd ((hP (8 * j2 + i2) (by omega)).2 c251).1 (hv _)
      · refine g_aload_n (i := 0) dX10_coolestPeak_254 rfl rfl ?_
        refine g_iconst (v := 2) dX10_coolestPeak_255 (by decide) ?_
        refine g_callV (ev_throwing hl (x := 2)) dX10_coolestPeak_256 ml_X10_76 cvX10_throwing K_X10 rfl mo_30 rfl rfl (Nat.le_of_ble_eq_true rfl) (Nat.le_of_ble_eq_true rfl) (Nat.zero_le _) (Nat.zero_le _) (kr_rt ?_) kx_rt
        refine g_goto (tgt := 264) dX10_coolestPeak_259 (by decide) ?_
        refine g_iret dX10_coolestPeak_264 rfl rfl ?_
        exact ⟨rfl, P, by rw [va_up2]⟩
    · exact absurd c19 (by rw [if_pos (cellB_nI hi2 hj2)]; decide)

set_option maxRecDepth 100000 in
theorem ev_mPeak_no1 {l : Launch} {G : GG} (hl : l.stackTraces = false) {A : AD} {h : AH} {a : Nat → Nat → Int32} {f : Nat → Int32} {x y z w : Int32} (hc : ¬ (cellB x y ∧ cellB z w)) :
    Ev l G 12 0 0 mX10_coolestPeak [.ref (A 30 0), .int x, .int y, .int z, .int w] (mo h A (a, f)) (Rt (some (.int (-1))) (mo h A (a, va_up f 11 1))) := by
  refine Ev.of hl (by decide) (Nat.le_of_ble_eq_true rfl) ?_
  refine g_aload_n (i := 0) dX10_coolestPeak_0 rfl rfl ?_
  refine g_iconst (v := 0) dX10_coolestPeak_1 (by decide) ?_
  refine g_putf dX10_coolestPeak_2 K_X10 (k := 11) fl_X10_67 (Nat.le_of_ble_eq_true rfl) rfl mo_30 (Nat.le_of_ble_eq_true rfl) rfl rfl (Go.heap (mo_f11) ?_)
  refine g_iload_n (i := 1) dX10_coolestPeak_5 rfl rfl ?_
  refine g_iload_n (i := 2) dX10_coolestPeak_6 rfl rfl ?_
  refine g_callS (ev_mIsCell hl) dX10_coolestPeak_7 ml_X10_108 csX10_isCell rfl rfl (Nat.le_of_ble_eq_true rfl) (Nat.le_of_ble_eq_true rfl) (Nat.zero_le _) (Nat.zero_le _) (kr_rt ?_) kx_rt
  refine g_if_eq (tgt := 22) dX10_coolestPeak_10 (by decide) (fun c10 => ?_) (fun c10 => ?_)
  · refine g_aload_n (i := 0) dX10_coolestPeak_22 rfl rfl ?_
    refine g_iconst (v := 1) dX10_coolestPeak_23 (by decide) ?_
    refine g_callV (ev_throwing hl (x := 1)) dX10_coolestPeak_24 ml_X10_76 cvX10_throwing K_X10 rfl mo_30 rfl rfl (Nat.le_of_ble_eq_true rfl) (Nat.le_of_ble_eq_true rfl) (Nat.zero_le _) (Nat.zero_le _) (kr_rt ?_) kx_rt
    refine g_iret dX10_coolestPeak_27 rfl rfl ?_
    exact ⟨rfl, by rw [va_up2]⟩
  · refine g_iload_n (i := 3) dX10_coolestPeak_13 rfl rfl ?_
    refine g_iload dX10_coolestPeak_14 rfl ?_
    refine g_callS (ev_mIsCell hl) dX10_coolestPeak_16 ml_X10_108 csX10_isCell rfl rfl (Nat.le_of_ble_eq_true rfl) (Nat.le_of_ble_eq_true rfl) (Nat.zero_le _) (Nat.zero_le _) (kr_rt ?_) kx_rt
    refine g_if_ne (tgt := 28) dX10_coolestPeak_19 (by decide) (fun c19 => ?_) (fun c19 => ?_)
    · exact absurd ⟨ite_1 c10, ite_1 c19⟩ hc
    · refine g_aload_n (i := 0) dX10_coolestPeak_22 rfl rfl ?_
      refine g_iconst (v := 1) dX10_coolestPeak_23 (by decide) ?_
      refine g_callV (ev_throwing hl (x := 1)) dX10_coolestPeak_24 ml_X10_76 cvX10_throwing K_X10 rfl mo_30 rfl rfl (Nat.le_of_ble_eq_true rfl) (Nat.le_of_ble_eq_true rfl) (Nat.zero_le _) (Nat.zero_le _) (kr_rt ?_) kx_rt
      refine g_iret dX10_coolestPeak_27 rfl rfl ?_
      exact ⟨rfl, by rw [va_up2]⟩

set_option maxRecDepth 100000 in
theorem ev_mPeakT {l : Launch} {G : GG} (hl : l.stackTraces = false) {A : AD} {h : AH} {a : Nat → Nat → Int32} {f : Nat → Int32} {i j9 i2 j2 : Nat} (hi : i < 8) (hj : j9 < 8) (hi2 : i2 < 8) (hj2 : j2 < 8) (hh : ∀ i, i < 64 → 0 ≤ a 0 i) {v : Int32} (hv : isPk (a 0) (fun c => a 0 (128 + c)) (8 * j9 + i) (8 * j2 + i2) v) :
    Ev l G 13 0 0 mX10_coolestPeakByTrying [.ref (A 30 0), .int (nI i), .int (nI j9), .int (nI i2), .int (nI j2)] (mo h A (a, f)) (RtX (some (.int v)) (fun x : Nat → Int32 => (mo h A (va_up a 9 x, va_up f 11 0)))) := by
  refine Ev.of hl (by decide) (Nat.le_of_ble_eq_true rfl) ?_
  refine g_aload_n (i := 0) dX10_coolestPeakByTrying_0 rfl rfl ?_
  refine g_iload_n (i := 1) dX10_coolestPeakByTrying_1 rfl rfl ?_
  refine g_iload_n (i := 2) dX10_coolestPeakByTrying_2 rfl rfl ?_
  refine g_iload_n (i := 3) dX10_coolestPeakByTrying_3 rfl rfl ?_
  refine g_iload dX10_coolestPeakByTrying_4 rfl ?_
  refine g_callV (ev_mPeak hl hi hj hi2 hj2 hh hv) dX10_coolestPeakByTrying_6 ml_X10_186 cvX10_coolestPeak K_X10 rfl mo_30 rfl rfl (Nat.le_of_ble_eq_true rfl) (Nat.le_of_ble_eq_true rfl) (Nat.zero_le _) (Nat.zero_le _) (kr_x (fun x9 => ?_)) kx_x
  refine g_iret dX10_coolestPeakByTrying_9 rfl rfl ?_
  exact ⟨rfl, x9, rfl⟩

set_option maxRecDepth 100000 in
theorem ev_mPeakT_no2 {l : Launch} {G : GG} (hl : l.stackTraces = false) {A : AD} {h : AH} {a : Nat → Nat → Int32} {f : Nat → Int32} {i j9 i2 j2 : Nat} (hi : i < 8) (hj : j9 < 8) (hi2 : i2 < 8) (hj2 : j2 < 8) (hh : ∀ i, i < 64 → 0 ≤ a 0 i) (hv : ∀ v, ¬ wyP (a 0) (fun c => a 0 (128 + c)) (8 * j9 + i) v (8 * j2 + i2)) :
    Ev l G 13 0 0 mX10_coolestPeakByTrying [.ref (A 30 0), .int (nI i), .int (nI j9), .int (nI i2), .int (nI j2)] (mo h A (a, f)) (RtX (some (.int (-1))) (fun x : Nat → Int32 => (mo h A (va_up a 9 x, va_up f 11 2)))) := by
  refine Ev.of hl (by decide) (Nat.le_of_ble_eq_true rfl) ?_
  refine g_aload_n (i := 0) dX10_coolestPeakByTrying_0 rfl rfl ?_
  refine g_iload_n (i := 1) dX10_coolestPeakByTrying_1 rfl rfl ?_
  refine g_iload_n (i := 2) dX10_coolestPeakByTrying_2 rfl rfl ?_
  refine g_iload_n (i := 3) dX10_coolestPeakByTrying_3 rfl rfl ?_
  refine g_iload dX10_coolestPeakByTrying_4 rfl ?_
  refine g_callV (ev_mPeak_no2 hl hi hj hi2 hj2 hh hv) dX10_coolestPeakByTrying_6 ml_X10_186 cvX10_coolestPeak K_X10 rfl mo_30 rfl rfl (Nat.le_of_ble_eq_true rfl) (Nat.le_of_ble_eq_true rfl) (Nat.zero_le _) (Nat.zero_le _) (kr_x (fun x9 => ?_)) kx_x
  refine g_iret dX10_coolestPeakByTrying_9 rfl rfl ?_
  exact ⟨rfl, x9, rfl⟩

set_option maxRecDepth 100000 in
theorem ev_mPeakT_no1 {l : Launch} {G : GG} (hl : l.stackTraces = false) {A : AD} {h : AH} {a : Nat → Nat → Int32} {f : Nat → Int32} {x y z w : Int32} (hc : ¬ (cellB x y ∧ cellB z w)) :
    Ev l G 13 0 0 mX10_coolestPeakByTrying [.ref (A 30 0), .int x, .int y, .int z, .int w] (mo h A (a, f)) (Rt (some (.int (-1))) (mo h A (a, va_up f 11 1))) := by
  refine Ev.of hl (by decide) (Nat.le_of_ble_eq_true rfl) ?_
  refine g_aload_n (i := 0) dX10_coolestPeakByTrying_0 rfl rfl ?_
  refine g_iload_n (i := 1) dX10_coolestPeakByTrying_1 rfl rfl ?_
  refine g_iload_n (i := 2) dX10_coolestPeakByTrying_2 rfl rfl ?_
  refine g_iload_n (i := 3) dX10_coolestPeakByTrying_3 rfl rfl ?_
  refine g_iload dX10_coolestPeakByTrying_4 rfl ?_
  refine g_callV (ev_mPeak_no1 hl hc) dX10_coolestPeakByTrying_6 ml_X10_186 cvX10_coolestPeak K_X10 rfl mo_30 rfl rfl (Nat.le_of_ble_eq_true rfl) (Nat.le_of_ble_eq_true rfl) (Nat.zero_le _) (Nat.zero_le _) (kr_rt ?_) kx_rt
  refine g_iret dX10_coolestPeakByTrying_9 rfl rfl ?_
  exact ⟨rfl, rfl⟩

