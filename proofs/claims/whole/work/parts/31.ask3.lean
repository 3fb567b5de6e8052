/-! Legends, lines, statistics, consistency (by wip/whole/gen/m17.py). -/
theorem drN_inv {K : Int64} {n : Nat} : ∀ j p (b : Nat → Nat) d, p + j = n → (∀ q, q < d → b q < p ∧ (0 < q → 1 ≤ b q)) → ∀ q, q < (drN K j p b d).2 → (drN K j p b d).1 q < n ∧ (0 < q → 1 ≤ (drN K j p b d).1 q)
  | 0, p, b, d, h, H => fun q hq => by
    have := H q hq
    exact ⟨by show b q < n; omega, this.2⟩
  | j + 1, p, b, d, h, H => by
    rw [drN]
    split
    · split
      · refine drN_inv j (p + 1) (va_up b d p) (d + 1) (by omega) (fun q hq => ?_)
        by_cases e : q = d
        · subst e
          rw [va_up_self]
          refine ⟨by omega, fun h0 => ?_⟩
          have := (H 0 h0).1
          omega
        · rw [va_up_ne _ _ e]
          have := H q (by omega)
          exact ⟨by omega, this.2⟩
      · refine drN_inv j (p + 1) b d (by omega) (fun q hq => ?_)
        have := H q hq
        exact ⟨by omega, this.2⟩
    · intro q hq
      have := H q hq
      exact ⟨by show b q < n; omega, this.2⟩
theorem drw_ok (m : MS) (c : Nat) (S : LgS) : lgOk (drwS m c S) := by
  have hn : (rdS m S 64).2.2.2.2.1 ≤ 64 := rdS_le 64
  generalize hR : rdS m S 64 = R at hn
  have hd := drN_le (K := mkN R.2.1 R.2.2.2.2.1 (c - 1)) R.2.2.2.2.1 0 R.2.2.1 0 (Nat.zero_le 6)
  have hi := drN_inv (K := mkN R.2.1 R.2.2.2.2.1 (c - 1)) (n := R.2.2.2.2.1) R.2.2.2.2.1 0 R.2.2.1 0 (Nat.zero_add _) (fun q hq => absurd hq (Nat.not_lt_zero q))
  unfold drwS
  rw [hR]
  unfold drS
  generalize drN (mkN R.2.1 R.2.2.2.2.1 (c - 1)) R.2.2.2.2.1 0 R.2.2.1 0 = D at hd hi
  refine ⟨hd, hn, fun q hq => ?_⟩
  have hq : q < D.2 := hq
  have h1 := (hi q hq).1
  show va_up D.1 D.2 R.2.2.2.2.1 q < 64 ∧ 1 ≤ va_up D.1 D.2 R.2.2.2.2.1 (q + 1) ∧ va_up D.1 D.2 R.2.2.2.2.1 (q + 1) ≤ 64
  rw [va_up_ne _ _ (show q ≠ D.2 by omega)]
  refine ⟨by omega, ?_⟩
  by_cases e : q + 1 = D.2
  · rw [e, va_up_self]
    omega
  · rw [va_up_ne _ _ e]
    have h2 := hi (q + 1) (by omega)
    exact ⟨h2.2 (by omega), by omega⟩
section LWF
variable {p : Program} {l : Launch} {e : Env} {R : Room} {s : State} {m : MethodId} {args : Array Value} {below : List Frame} {meth : Method} {c : Code} {H : Heap} {locs : List Loc} {cells slots : Nat} {Q : State → Prop}
theorem sx_ldcwF {T : State} (X : Stand p l e R s m args below meth c T locs cells slots) (hexec : p.tables.exec = Jvm.exec) {own : String} {index : Nat} {v : UInt32} (hown : s.vm.findClass own = some m.cls)
    (hconst : (Cond.constantFloat own index v).before args s = true) {g : JFrame} (hg : g.method = m) (hdg : decode c.code g.pc = .ok (.ldc_w index, 3)) :
    ∀ target, Steps p.tables e below (T.setTop { g with pc := g.pc + 3, stack := .float v :: g.stack }) target → Steps p.tables e below (T.setTop g) target := by
  obtain ⟨k, cf, hk, hcf, hcp⟩ := Cond.constantFloat_spec hown hconst
  obtain ⟨k', hk', he⟩ := X.warmed.alike.2.2 _ _ hk
  intro target hrest
  subst hg
  jvm_step X.here [hexec, hdg, ldc_w.wp_float (s := T) (f := g) X.here.top hk' (by rw [he]; exact hcf) hcp]
  exact hrest
theorem sx_lldcwF {cc : ByteArray} {pc : Nat} {ls : Array Slot} {rest : List Value} (hexec : p.tables.exec = Jvm.exec) (hb : c.code = cc) {own : String} {index : Nat} {v : UInt32} (hown : s.vm.findClass own = some m.cls) (hconst : (Cond.constantFloat own index v).before args s = true) (hdg : decode cc pc = .ok (.ldc_w index, 3)) (k : W p l e R s m args below meth c H locs cells slots Q (F0 m (pc + 3) ls (.float v :: rest))) : W p l e R s m args below meth c H locs cells slots Q (F0 m pc ls rest) := by
  intro T hT X
  obtain ⟨t, a, b⟩ := k T hT X
  exact ⟨t, sx_ldcwF X hexec hown hconst (g := F0 m pc ls rest) rfl (by rw [hb]; exact hdg) t a, b⟩
end LWF
theorem g_ldcwf {l : Launch} {G : GG} {M : MD} {d kc ks pc : Nat} {P : Post} {L : List (Option Value)} {st : List Value} {h : AH} {idx : Nat} {v : UInt32} (hd : decode M.2.1 pc = .ok (.ldc_w idx, 3)) (hm : Cond.constantFloat M.1.cls idx v ∈ lw_tbl) (k : Go l G M d kc ks P (pc + 3) L (.float v :: st) h) : Go l G M d kc ks P pc L (st) h := by
  intro p e R s m args below meth c H locs cells slots mc ms ls F h1 h2 h3 h4 hE hS hL
  exact sx_lldcwF F.1 F.2.1 F.own (F.cx.word hm rfl _) hd (k _ _ _ _ _ _ _ _ _ _ _ _ _ _ _ _ F h1 h2 h3 h4 hE hS hL)
/-- a text by its letters, with fewer or other letters beyond its end -/
theorem isTx.congr {B : SB} {t t' : Nat → Nat} {n : Nat} (h : isTx B t n) (e : ∀ i, i < n → t i = t' i) : isTx B t' n := by
  obtain ⟨h1, h2, h3, h4, h5⟩ := h
  exact ⟨h1, h2, h3, fun j hj => by rw [← e j hj]; exact h4 j hj, h5⟩
/-- a row's letters -/
def sgN (m : MS) (c : Nat) : Nat := (signC m c).toNatClampNeg
def hOk (m : MS) : Prop := ∀ i, i < 64 → 0 ≤ m.2.1 i ∧ m.2.1 i < 10000000
theorem nI_ofS {x : Int32} (h : 0 ≤ x) : x = nI x.toNatClampNeg ∧ x.toNatClampNeg < 2 ^ 31 := by
  have h0 : (0 : Int) ≤ x.toInt := by
    have := Int32.le_iff_toInt_le.mp h
    exact this
  have h1 := Int32.toInt_lt x
  have hn : x.toNatClampNeg = x.toInt.toNat := rfl
  refine ⟨?_, by rw [hn]; omega⟩
  rw [← Int32.toInt_inj, nI_toInt (by rw [hn]; omega), hn]
  omega
theorem dig10 : ∀ k, k < 10 → ((48 + nI k).toUInt32 % 65536).toInt32 = nI (48 + k) := by decide +kernel
theorem sgn_ok {m : MS} {c : Nat} (hh : 0 ≤ m.2.1 c) (hg : groundP (m.1 c)) : signC m c = nI (sgN m c) ∧ sgN m c < 127 := by
  have key : ∀ k, k < 127 → signC m c = nI k → signC m c = nI (sgN m c) ∧ sgN m c < 127 := fun k hk e => by
    have e2 : sgN m c = k := by rw [sgN, e, nI_clamp (by omega)]
    rw [e2]
    exact ⟨e, hk⟩
  by_cases h0 : m.2.1 c = 0
  · by_cases h1 : m.2.2.1 c = 0
    · have e : signC m c = m.1 c := by rw [signC, if_pos h0, if_pos h1]
      rcases hg with h | h | h | h
      · exact key 46 (by decide) (e.trans h)
      · exact key 58 (by decide) (e.trans h)
      · exact key 126 (by decide) (e.trans h)
      · exact key 35 (by decide) (e.trans h)
    · exact key 101 (by decide) (by rw [signC, if_pos h0, if_neg h1]; rfl)
  · have h2 : (0 : Int32) ≤ m.2.1 c / 100 := by
      rw [Int32.le_iff_toInt_le, Int32.toInt_div_of_ne_right _ _ (by decide)]
      have := Int32.le_iff_toInt_le.mp hh
      show (0 : Int) ≤ Int.tdiv _ 100
      exact Int.tdiv_nonneg this (by decide)
    obtain ⟨e1, e2⟩ := nI_ofS h2
    have e : signC m c = ((48 + (if m.2.1 c / 100 < 9 then m.2.1 c / 100 else 9)).toUInt32 % 65536).toInt32 := by rw [signC, if_neg h0]
    by_cases h9 : m.2.1 c / 100 < 9
    · rw [if_pos h9] at e
      have h9' : (m.2.1 c / 100).toNatClampNeg < 9 := by
        rw [e1] at h9
        exact (nI_lt' (b := 9) rfl e2 (by decide)).mp h9
      rw [e1, dig10 _ (by omega)] at e
      exact key _ (by omega) e
    · rw [if_neg h9] at e
      exact key 57 (by decide) (e.trans (dig10 9 (by decide)))
def rowF (m : MS) (j : Nat) : Nat → Nat := fun i => sgN m (8 * j + i)
/-- texts grown -/
def tC (T : TX) (w : Nat) : TX := (sb_cat T.1 T.2 (fun _ => w), T.2 + 1)
def tI (T : TX) (v : Nat) : TX := (sb_cat T.1 T.2 (sb_dec v), T.2 + sb_dg v)
def lgTx (a b : Nat → Nat) : Nat → TX
  | 0 => (fun _ => 0, 0)
  | k + 1 => tI (tC (tI (if k = 0 then lgTx a b k else tC (lgTx a b k) 44) (a k)) 45) (b k)
theorem dg7 {v : Nat} (h : v < 10000000) : sb_dg v ≤ 7 := by
  unfold sb_dg
  (repeat' split) <;> omega
theorem lgTx_le {a b : Nat → Nat} (h : ∀ q, a q < 10000000 ∧ b q < 10000000) : ∀ k, (lgTx a b k).2 ≤ 16 * k
  | 0 => Nat.le_refl _
  | k + 1 => by
    have h1 := lgTx_le h k
    have h2 := dg7 (h k).1
    have h3 := dg7 (h k).2
    rw [lgTx]
    split
    · show (lgTx a b k).2 + sb_dg (a k) + 1 + sb_dg (b k) ≤ _; omega
    · show (lgTx a b k).2 + 1 + sb_dg (a k) + 1 + sb_dg (b k) ≤ _; omega

set_option maxRecDepth 100000 in
theorem ev_legendSpread {l : Launch} {G : GG} (hl : l.stackTraces = false) {A : AD} {h : AH} {M : Nat → MS} {N : Nat × Nat} {c : Nat → Int32} {q : Nat → Nat} {H : HS} {L : LgS} {R : RS} {t l9 : SB} {O : OB} {k : Nat} (hk1 : 1 ≤ k) (hk : k ≤ 6) (ho : nI k ≤ openN (M 0).1 64) :
    Ev l G 13 0 0 mX9_legendSpread [.ref (A 6 0), .int (nI k)] (hC h A (M, N, c, q, H, L, R, t, l9, O)) (Rt (some (.int (spN (drwS (M 0) k L) (drwS (M 0) k L).2.2.2.2.2))) (hC h A (M, N, c, q, H, (drwS (M 0) k L), R, t, l9, O))) := by
  refine Ev.of hl (by decide) (Nat.le_of_ble_eq_true rfl) ?_
  refine g_aload_n (i := 0) dX9_legendSpread_0 rfl rfl ?_
  refine g_iload_n (i := 1) dX9_legendSpread_1 rfl rfl ?_
  refine g_callV (ev_requireLegend_ok hl (show clsP (nI k) from ⟨(le_nI (a := 1) rfl (by decide) (by omega)).mpr hk1, (nI_le' (b := 6) rfl (by omega) (by decide)).mpr hk⟩) ho) dX9_legendSpread_2 ml_X9_254 cvX9_requireLegend K_X9 rfl hC_6 rfl rfl (Nat.le_of_ble_eq_true rfl) (Nat.le_of_ble_eq_true rfl) (Nat.zero_le _) (Nat.zero_le _) (kr_vd ?_) kx_rt
  refine g_aload_n (i := 0) dX9_legendSpread_5 rfl rfl ?_
  refine g_getf dX9_legendSpread_6 K_X9 (k := 8) fl_X9_56 (Nat.le_of_ble_eq_true rfl) hC_6 rfl ?_
  refine g_aload_n (i := 0) dX9_legendSpread_9 rfl rfl ?_
  refine g_getf dX9_legendSpread_10 K_X9 (k := 0) fl_X9_10 (Nat.le_of_ble_eq_true rfl) hC_6 rfl ?_
  refine g_iload_n (i := 1) dX9_legendSpread_13 rfl rfl ?_
  refine g_callV (wr_draw hl hk1 (by omega)) dX9_legendSpread_14 ml_X9_257 cvX5_draw K_X5 rfl hC_15 rfl rfl (Nat.le_of_ble_eq_true rfl) (Nat.le_of_ble_eq_true rfl) (Nat.zero_le _) (Nat.zero_le _) (kr_vd ?_) kx_rt
  refine g_aload_n (i := 0) dX9_legendSpread_17 rfl rfl ?_
  refine g_getf dX9_legendSpread_18 K_X9 (k := 8) fl_X9_56 (Nat.le_of_ble_eq_true rfl) hC_6 rfl ?_
  refine g_callV (wr_spread hl (drw_ok _ _ _)) dX9_legendSpread_21 ml_X9_261 cvX5_spread K_X5 rfl hC_15 rfl rfl (Nat.le_of_ble_eq_true rfl) (Nat.le_of_ble_eq_true rfl) (Nat.zero_le _) (Nat.zero_le _) (kr_rt ?_) kx_rt
  refine g_iret dX9_legendSpread_24 rfl rfl ?_
  exact ⟨rfl, rfl⟩

set_option maxRecDepth 100000 in
theorem ev_legendSpread_no1 {l : Launch} {G : GG} (hl : l.stackTraces = false) {A : AD} {h : AH} {M : Nat → MS} {N : Nat × Nat} {c : Nat → Int32} {q : Nat → Nat} {H : HS} {L : LgS} {R : RS} {t l9 : SB} {O : OB} {x : Int32} (hv : ¬ clsP x) :
    Ev l G 13 1 6 mX9_legendSpread [.ref (A 6 0), .int x] (hC h A (M, N, c, q, H, L, R, t, l9, O)) (Tr "java/lang/IllegalArgumentException" (hC h A (M, N, c, q, H, L, R, t, l9, O))) := by
  refine Ev.of hl (by decide) (Nat.le_of_ble_eq_true rfl) ?_
  refine g_aload_n (i := 0) dX9_legendSpread_0 rfl rfl ?_
  refine g_iload_n (i := 1) dX9_legendSpread_1 rfl rfl ?_
  refine g_callV (ev_requireLegend_no1 hl hv) dX9_legendSpread_2 ml_X9_254 cvX9_requireLegend K_X9 rfl hC_6 rfl rfl (Nat.le_of_ble_eq_true rfl) (Nat.le_of_ble_eq_true rfl) (Nat.le_refl _) (Nat.le_refl _) kr_tr (kx_tr rfl ⟨rfl, rfl⟩)

set_option maxRecDepth 100000 in
theorem ev_legendSpread_no2 {l : Launch} {G : GG} (hl : l.stackTraces = false) {A : AD} {h : AH} {M : Nat → MS} {N : Nat × Nat} {c : Nat → Int32} {q : Nat → Nat} {H : HS} {L : LgS} {R : RS} {t l9 : SB} {O : OB} {x : Int32} (hv : clsP x) (ho : ¬ x ≤ openN (M 0).1 64) :
    Ev l G 13 1 6 mX9_legendSpread [.ref (A 6 0), .int x] (hC h A (M, N, c, q, H, L, R, t, l9, O)) (Tr "java/lang/IllegalStateException" (hC h A (M, N, c, q, H, L, R, t, l9, O))) := by
  refine Ev.of hl (by decide) (Nat.le_of_ble_eq_true rfl) ?_
  refine g_aload_n (i := 0) dX9_legendSpread_0 rfl rfl ?_
  refine g_iload_n (i := 1) dX9_legendSpread_1 rfl rfl ?_
  refine g_callV (ev_requireLegend_no2 hl hv ho) dX9_legendSpread_2 ml_X9_254 cvX9_requireLegend K_X9 rfl hC_6 rfl rfl (Nat.le_of_ble_eq_true rfl) (Nat.le_of_ble_eq_true rfl) (Nat.le_refl _) (Nat.le_refl _) kr_tr (kx_tr rfl ⟨rfl, rfl⟩)

set_option maxRecDepth 100000 in
theorem ev_legendTable {l : Launch} {G : GG} (hl : l.stackTraces = false) {A : AD} {h : AH} {M : Nat → MS} {N : Nat × Nat} {c : Nat → Int32} {q : Nat → Nat} {H : HS} {L : LgS} {R : RS} {t l9 : SB} {O : OB} {k : Nat} (hk1 : 1 ≤ k) (hk : k ≤ 6) (ho : nI k ≤ openN (M 0).1 64) :
    Ev l G 13 0 0 mX9_legendSpreadByTable [.ref (A 6 0), .int (nI k)] (hC h A (M, N, c, q, H, L, R, t, l9, O)) (Rt (some (.int (tabT (rdS (M 0) L 64) k k (rdS (M 0) L 64).2.2.2.2.1))) (hC h A (M, N, c, q, H, (tabS (M 0) k L), R, t, l9, O))) := by
  refine Ev.of hl (by decide) (Nat.le_of_ble_eq_true rfl) ?_
  refine g_aload_n (i := 0) dX9_legendSpreadByTable_0 rfl rfl ?_
  refine g_iload_n (i := 1) dX9_legendSpreadByTable_1 rfl rfl ?_
  refine g_callV (ev_requireLegend_ok hl (show clsP (nI k) from ⟨(le_nI (a := 1) rfl (by decide) (by omega)).mpr hk1, (nI_le' (b := 6) rfl (by omega) (by decide)).mpr hk⟩) ho) dX9_legendSpreadByTable_2 ml_X9_254 cvX9_requireLegend K_X9 rfl hC_6 rfl rfl (Nat.le_of_ble_eq_true rfl) (Nat.le_of_ble_eq_true rfl) (Nat.zero_le _) (Nat.zero_le _) (kr_vd ?_) kx_rt
  refine g_aload_n (i := 0) dX9_legendSpreadByTable_5 rfl rfl ?_
  refine g_getf dX9_legendSpreadByTable_6 K_X9 (k := 8) fl_X9_56 (Nat.le_of_ble_eq_true rfl) hC_6 rfl ?_
  refine g_aload_n (i := 0) dX9_legendSpreadByTable_9 rfl rfl ?_
  refine g_getf dX9_legendSpreadByTable_10 K_X9 (k := 0) fl_X9_10 (Nat.le_of_ble_eq_true rfl) hC_6 rfl ?_
  refine g_iload_n (i := 1) dX9_legendSpreadByTable_13 rfl rfl ?_
  refine g_callV (wr_table hl hk1 hk) dX9_legendSpreadByTable_14 ml_X9_264 cvX5_findSpreadByTable K_X5 rfl hC_15 rfl rfl (Nat.le_of_ble_eq_true rfl) (Nat.le_of_ble_eq_true rfl) (Nat.zero_le _) (Nat.zero_le _) (kr_rt ?_) kx_rt
  refine g_iret dX9_legendSpreadByTable_17 rfl rfl ?_
  exact ⟨rfl, rfl⟩

set_option maxRecDepth 100000 in
theorem ev_legendTable_no1 {l : Launch} {G : GG} (hl : l.stackTraces = false) {A : AD} {h : AH} {M : Nat → MS} {N : Nat × Nat} {c : Nat → Int32} {q : Nat → Nat} {H : HS} {L : LgS} {R : RS} {t l9 : SB} {O : OB} {x : Int32} (hv : ¬ clsP x) :
    Ev l G 13 1 6 mX9_legendSpreadByTable [.ref (A 6 0), .int x] (hC h A (M, N, c, q, H, L, R, t, l9, O)) (Tr "java/lang/IllegalArgumentException" (hC h A (M, N, c, q, H, L, R, t, l9, O))) := by
  refine Ev.of hl (by decide) (Nat.le_of_ble_eq_true rfl) ?_
  refine g_aload_n (i := 0) dX9_legendSpreadByTable_0 rfl rfl ?_
  refine g_iload_n (i := 1) dX9_legendSpreadByTable_1 rfl rfl ?_
  refine g_callV (ev_requireLegend_no1 hl hv) dX9_legendSpreadByTable_2 ml_X9_254 cvX9_requireLegend K_X9 rfl hC_6 rfl rfl (Nat.le_of_ble_eq_true rfl) (Nat.le_of_ble_eq_true rfl) (Nat.le_refl _) (Nat.le_refl _) kr_tr (kx_tr rfl ⟨rfl, rfl⟩)

set_option maxRecDepth 100000 in
theorem ev_legendTable_no2 {l : Launch} {G : GG} (hl : l.stackTraces = false) {A : AD} {h : AH} {M : Nat → MS} {N : Nat × Nat} {c : Nat → Int32} {q : Nat → Nat} {H : HS} {L : LgS} {R : RS} {t l9 : SB} {O : OB} {x : Int32} (hv : clsP x) (ho : ¬ x ≤ openN (M 0).1 64) :
    Ev l G 13 1 6 mX9_legendSpreadByTable [.ref (A 6 0), .int x] (hC h A (M, N, c, q, H, L, R, t, l9, O)) (Tr "java/lang/IllegalStateException" (hC h A (M, N, c, q, H, L, R, t, l9, O))) := by
  refine Ev.of hl (by decide) (Nat.le_of_ble_eq_true rfl) ?_
  refine g_aload_n (i := 0) dX9_legendSpreadByTable_0 rfl rfl ?_
  refine g_iload_n (i := 1) dX9_legendSpreadByTable_1 rfl rfl ?_
  refine g_callV (ev_requireLegend_no2 hl hv ho) dX9_legendSpreadByTable_2 ml_X9_254 cvX9_requireLegend K_X9 rfl hC_6 rfl rfl (Nat.le_of_ble_eq_true rfl) (Nat.le_of_ble_eq_true rfl) (Nat.le_refl _) (Nat.le_refl _) kr_tr (kx_tr rfl ⟨rfl, rfl⟩)

set_option maxRecDepth 100000 in
theorem ev_classBegin {l : Launch} {G : GG} (hl : l.stackTraces = false) {A : AD} {h : AH} {M : Nat → MS} {N : Nat × Nat} {c : Nat → Int32} {q : Nat → Nat} {H : HS} {L : LgS} {R : RS} {t l9 : SB} {O : OB} {k : Nat} (hk1 : 1 ≤ k) (hk : k ≤ 6) (ho : nI k ≤ openN (M 0).1 64) {w : Nat} (hw : w < k) :
    Ev l G 13 0 0 mX9_classBegin [.ref (A 6 0), .int (nI k), .int (nI w)] (hC h A (M, N, c, q, H, L, R, t, l9, O)) (Rt (some (.int (smH (drwS (M 0) k L) w))) (hC h A (M, N, c, q, H, (drwS (M 0) k L), R, t, l9, O))) := by
  refine Ev.of hl (by decide) (Nat.le_of_ble_eq_true rfl) ?_
  refine g_aload_n (i := 0) dX9_classBegin_0 rfl rfl ?_
  refine g_iload_n (i := 1) dX9_classBegin_1 rfl rfl ?_
  refine g_callV (ev_requireLegend_ok hl (show clsP (nI k) from ⟨(le_nI (a := 1) rfl (by decide) (by omega)).mpr hk1, (nI_le' (b := 6) rfl (by omega) (by decide)).mpr hk⟩) ho) dX9_classBegin_2 ml_X9_254 cvX9_requireLegend K_X9 rfl hC_6 rfl rfl (Nat.le_of_ble_eq_true rfl) (Nat.le_of_ble_eq_true rfl) (Nat.zero_le _) (Nat.zero_le _) (kr_vd ?_) kx_rt
  refine g_iload_n (i := 2) dX9_classBegin_5 rfl rfl ?_
  refine g_if_lt (tgt := 14) dX9_classBegin_6 (by decide) (fun c6 => ?_) (fun c6 => ?_)
  · exact absurd (nI_pos' (n := w) (by omega)) (Int32.not_le.mpr c6)
  · refine g_iload_n (i := 2) dX9_classBegin_9 rfl rfl ?_
    refine g_iload_n (i := 1) dX9_classBegin_10 rfl rfl ?_
    refine g_icmp_lt (tgt := 25) dX9_classBegin_11 (by decide) (fun c11 => ?_) (fun c11 => ?_)
    · refine g_aload_n (i := 0) dX9_classBegin_25 rfl rfl ?_
      refine g_getf dX9_classBegin_26 K_X9 (k := 8) fl_X9_56 (Nat.le_of_ble_eq_true rfl) hC_6 rfl ?_
      refine g_aload_n (i := 0) dX9_classBegin_29 rfl rfl ?_
      refine g_getf dX9_classBegin_30 K_X9 (k := 0) fl_X9_10 (Nat.le_of_ble_eq_true rfl) hC_6 rfl ?_
      refine g_iload_n (i := 1) dX9_classBegin_33 rfl rfl ?_
      refine g_callV (wr_draw hl hk1 (by omega)) dX9_classBegin_34 ml_X9_257 cvX5_draw K_X5 rfl hC_15 rfl rfl (Nat.le_of_ble_eq_true rfl) (Nat.le_of_ble_eq_true rfl) (Nat.zero_le _) (Nat.zero_le _) (kr_vd ?_) kx_rt
      refine g_aload_n (i := 0) dX9_classBegin_37 rfl rfl ?_
      refine g_getf dX9_classBegin_38 K_X9 (k := 8) fl_X9_56 (Nat.le_of_ble_eq_true rfl) hC_6 rfl ?_
      refine g_iload_n (i := 2) dX9_classBegin_41 rfl rfl ?_
      refine g_callV (wr_small hl (drw_ok _ _ _) (by omega)) dX9_classBegin_42 ml_X9_269 cvX5_smallestHeat K_X5 rfl hC_15 rfl rfl (Nat.le_of_ble_eq_true rfl) (Nat.le_of_ble_eq_true rfl) (Nat.zero_le _) (Nat.zero_le _) (kr_rt ?_) kx_rt
      refine g_iret dX9_classBegin_45 rfl rfl ?_
      exact ⟨rfl, rfl⟩
    · exact absurd ((lt_nI (a := w) (b := k) rfl (by omega) (by omega)).mpr hw) c11

set_option maxRecDepth 100000 in
theorem ev_classBegin_no1 {l : Launch} {G : GG} (hl : l.stackTraces = false) {A : AD} {h : AH} {M : Nat → MS} {N : Nat × Nat} {c : Nat → Int32} {q : Nat → Nat} {H : HS} {L : LgS} {R : RS} {t l9 : SB} {O : OB} {y : Int32} {x : Int32} (hv : ¬ clsP x) :
    Ev l G 13 1 6 mX9_classBegin [.ref (A 6 0), .int x, .int y] (hC h A (M, N, c, q, H, L, R, t, l9, O)) (Tr "java/lang/IllegalArgumentException" (hC h A (M, N, c, q, H, L, R, t, l9, O))) := by
  refine Ev.of hl (by decide) (Nat.le_of_ble_eq_true rfl) ?_
  refine g_aload_n (i := 0) dX9_classBegin_0 rfl rfl ?_
  refine g_iload_n (i := 1) dX9_classBegin_1 rfl rfl ?_
  refine g_callV (ev_requireLegend_no1 hl hv) dX9_classBegin_2 ml_X9_254 cvX9_requireLegend K_X9 rfl hC_6 rfl rfl (Nat.le_of_ble_eq_true rfl) (Nat.le_of_ble_eq_true rfl) (Nat.le_refl _) (Nat.le_refl _) kr_tr (kx_tr rfl ⟨rfl, rfl⟩)

set_option maxRecDepth 100000 in
theorem ev_classBegin_no2 {l : Launch} {G : GG} (hl : l.stackTraces = false) {A : AD} {h : AH} {M : Nat → MS} {N : Nat × Nat} {c : Nat → Int32} {q : Nat → Nat} {H : HS} {L : LgS} {R : RS} {t l9 : SB} {O : OB} {y : Int32} {x : Int32} (hv : clsP x) (ho : ¬ x ≤ openN (M 0).1 64) :
    Ev l G 13 1 6 mX9_classBegin [.ref (A 6 0), .int x, .int y] (hC h A (M, N, c, q, H, L, R, t, l9, O)) (Tr "java/lang/IllegalStateException" (hC h A (M, N, c, q, H, L, R, t, l9, O))) := by
  refine Ev.of hl (by decide) (Nat.le_of_ble_eq_true rfl) ?_
  refine g_aload_n (i := 0) dX9_classBegin_0 rfl rfl ?_
  refine g_iload_n (i := 1) dX9_classBegin_1 rfl rfl ?_
  refine g_callV (ev_requireLegend_no2 hl hv ho) dX9_classBegin_2 ml_X9_254 cvX9_requireLegend K_X9 rfl hC_6 rfl rfl (Nat.le_of_ble_eq_true rfl) (Nat.le_of_ble_eq_true rfl) (Nat.le_refl _) (Nat.le_refl _) kr_tr (kx_tr rfl ⟨rfl, rfl⟩)

set_option maxRecDepth 100000 in
theorem ev_classBegin_no3 {l : Launch} {G : GG} (hl : l.stackTraces = false) {A : AD} {h : AH} {M : Nat → MS} {N : Nat × Nat} {c : Nat → Int32} {q : Nat → Nat} {H : HS} {L : LgS} {R : RS} {t l9 : SB} {O : OB} {x y : Int32} (hv : clsP x) (ho : x ≤ openN (M 0).1 64) (hy : ¬ (0 ≤ y ∧ y < x)) :
    Ev l G 13 1 6 mX9_classBegin [.ref (A 6 0), .int x, .int y] (hC h A (M, N, c, q, H, L, R, t, l9, O)) (Tr "java/util/NoSuchElementException" (hC h A (M, N, c, q, H, L, R, t, l9, O))) := by
  refine Ev.of hl (by decide) (Nat.le_of_ble_eq_true rfl) ?_
  refine g_aload_n (i := 0) dX9_classBegin_0 rfl rfl ?_
  refine g_iload_n (i := 1) dX9_classBegin_1 rfl rfl ?_
  refine g_callV (ev_requireLegend_ok hl hv ho) dX9_classBegin_2 ml_X9_254 cvX9_requireLegend K_X9 rfl hC_6 rfl rfl (Nat.le_of_ble_eq_true rfl) (Nat.le_of_ble_eq_true rfl) (Nat.zero_le _) (Nat.zero_le _) (kr_vd ?_) kx_rt
  refine g_iload_n (i := 2) dX9_classBegin_5 rfl rfl ?_
  refine g_if_lt (tgt := 14) dX9_classBegin_6 (by decide) (fun c6 => ?_) (fun c6 => ?_)
  · exact g_throwN th_X9_164_267 dX9_classBegin_14 dX9_classBegin_17 dX9_classBegin_18 dX9_classBegin_21 dX9_classBegin_24 rfl (by decide) (by decide) (Nat.le_of_ble_eq_true rfl) (Nat.le_of_ble_eq_true rfl) ⟨rfl, rfl⟩
  · refine g_iload_n (i := 2) dX9_classBegin_9 rfl rfl ?_
    refine g_iload_n (i := 1) dX9_classBegin_10 rfl rfl ?_
    refine g_icmp_lt (tgt := 25) dX9_classBegin_11 (by decide) (fun c11 => ?_) (fun c11 => ?_)
    · exact absurd ⟨ltn' c6, c11⟩ hy
    · exact g_throwN th_X9_164_267 dX9_classBegin_14 dX9_classBegin_17 dX9_classBegin_18 dX9_classBegin_21 dX9_classBegin_24 rfl (by decide) (by decide) (Nat.le_of_ble_eq_true rfl) (Nat.le_of_ble_eq_true rfl) ⟨rfl, rfl⟩

set_option maxRecDepth 100000 in
theorem ev_classOf {l : Launch} {G : GG} (hl : l.stackTraces = false) {A : AD} {h : AH} {M : Nat → MS} {N : Nat × Nat} {c : Nat → Int32} {q : Nat → Nat} {H : HS} {L : LgS} {R : RS} {t l9 : SB} {O : OB} {i j : Nat} (hi : i < 8) (hj : j < 8) {k : Nat} (hk1 : 1 ≤ k) (hk : k ≤ 6) (ho : nI k ≤ openN (M 0).1 64) (hr : ¬ (M 0).1 (8 * j + i) = 35) :
    Ev l G 13 0 0 mX9_classOf [.ref (A 6 0), .int (nI i), .int (nI j), .int (nI k)] (hC h A (M, N, c, q, H, L, R, t, l9, O)) (Rt (some (.int (nI (clN (drwS (M 0) k L) (nI (8 * j + i)) (drwS (M 0) k L).2.2.2.2.2 0)))) (hC h A (M, N, c, q, H, (drwS (M 0) k L), R, t, l9, O))) := by
  refine Ev.of hl (by decide) (Nat.le_of_ble_eq_true rfl) ?_
  refine g_iload_n (i := 1) dX9_classOf_0 rfl rfl ?_
  refine g_iload_n (i := 2) dX9_classOf_1 rfl rfl ?_
  refine g_callS (ev_requireCell_ok hl (cellB_nI hi hj)) dX9_classOf_2 ml_X9_91 csX9_requireCell rfl rfl (Nat.le_of_ble_eq_true rfl) (Nat.le_of_ble_eq_true rfl) (Nat.zero_le _) (Nat.zero_le _) (kr_vd ?_) kx_rt
  refine g_aload_n (i := 0) dX9_classOf_5 rfl rfl ?_
  refine g_iload_n (i := 3) dX9_classOf_6 rfl rfl ?_
  refine g_callV (ev_requireLegend_ok hl (show clsP (nI k) from ⟨(le_nI (a := 1) rfl (by decide) (by omega)).mpr hk1, (nI_le' (b := 6) rfl (by omega) (by decide)).mpr hk⟩) ho) dX9_classOf_7 ml_X9_254 cvX9_requireLegend K_X9 rfl hC_6 rfl rfl (Nat.le_of_ble_eq_true rfl) (Nat.le_of_ble_eq_true rfl) (Nat.zero_le _) (Nat.zero_le _) (kr_vd ?_) kx_rt
  refine g_aload_n (i := 0) dX9_classOf_10 rfl rfl ?_
  refine g_getf dX9_classOf_11 K_X9 (k := 0) fl_X9_10 (Nat.le_of_ble_eq_true rfl) hC_6 rfl ?_
  refine g_iload_n (i := 1) dX9_classOf_14 rfl rfl ?_
  refine g_iload_n (i := 2) dX9_classOf_15 rfl rfl ?_
  refine g_callS (ev_cellOf hl) dX9_classOf_16 ml_X9_106 csX9_cellOf rfl rfl (Nat.le_of_ble_eq_true rfl) (Nat.le_of_ble_eq_true rfl) (Nat.zero_le _) (Nat.zero_le _) (kr_rt ?_) kx_rt
  rw [cel]
  refine g_callV (ev_isRock hl (hC_map (g := 0) (by decide)) (ix_nI (j := 8 * j + i) (by omega)) (by omega)) dX9_classOf_19 ml_X9_272 cvX3_isRock K_X3 rfl (hC_map (g := 0) (by decide)).1 rfl rfl (Nat.le_of_ble_eq_true rfl) (Nat.le_of_ble_eq_true rfl) (Nat.zero_le _) (Nat.zero_le _) (kr_rt ?_) kx_rt
  refine g_if_eq (tgt := 36) dX9_classOf_22 (by decide) (fun c22 => ?_) (fun c22 => ?_)
  · refine g_aload_n (i := 0) dX9_classOf_36 rfl rfl ?_
    refine g_getf dX9_classOf_37 K_X9 (k := 8) fl_X9_56 (Nat.le_of_ble_eq_true rfl) hC_6 rfl ?_
    refine g_aload_n (i := 0) dX9_classOf_40 rfl rfl ?_
    refine g_getf dX9_classOf_41 K_X9 (k := 0) fl_X9_10 (Nat.le_of_ble_eq_true rfl) hC_6 rfl ?_
    refine g_iload_n (i := 3) dX9_classOf_44 rfl rfl ?_
    refine g_callV (wr_draw hl hk1 (by omega)) dX9_classOf_45 ml_X9_257 cvX5_draw K_X5 rfl hC_15 rfl rfl (Nat.le_of_ble_eq_true rfl) (Nat.le_of_ble_eq_true rfl) (Nat.zero_le _) (Nat.zero_le _) (kr_vd ?_) kx_rt
    refine g_aload_n (i := 0) dX9_classOf_48 rfl rfl ?_
    refine g_getf dX9_classOf_49 K_X9 (k := 8) fl_X9_56 (Nat.le_of_ble_eq_true rfl) hC_6 rfl ?_
    refine g_iload_n (i := 1) dX9_classOf_52 rfl rfl ?_
    refine g_iload_n (i := 2) dX9_classOf_53 rfl rfl ?_
    refine g_callS (ev_cellOf hl) dX9_classOf_54 ml_X9_106 csX9_cellOf rfl rfl (Nat.le_of_ble_eq_true rfl) (Nat.le_of_ble_eq_true rfl) (Nat.zero_le _) (Nat.zero_le _) (kr_rt ?_) kx_rt
    rw [cel]
    refine g_callV (wr_classOf hl (drw_ok _ _ _)) dX9_classOf_57 ml_X9_277 cvX5_classOfCell K_X5 rfl hC_15 rfl rfl (Nat.le_of_ble_eq_true rfl) (Nat.le_of_ble_eq_true rfl) (Nat.zero_le _) (Nat.zero_le _) (kr_rt ?_) kx_rt
    refine g_iret dX9_classOf_60 rfl rfl ?_
    exact ⟨rfl, rfl⟩
  · exact absurd (if_neg hr) c22

set_option maxRecDepth 100000 in
theorem ev_classOf_no1 {l : Launch} {G : GG} (hl : l.stackTraces = false) {A : AD} {h : AH} {M : Nat → MS} {N : Nat × Nat} {c : Nat → Int32} {q : Nat → Nat} {H : HS} {L : LgS} {R : RS} {t l9 : SB} {O : OB} {x y z : Int32} (hc : ¬ cellB x y) :
    Ev l G 13 1 6 mX9_classOf [.ref (A 6 0), .int x, .int y, .int z] (hC h A (M, N, c, q, H, L, R, t, l9, O)) (Tr "java/lang/IndexOutOfBoundsException" (hC h A (M, N, c, q, H, L, R, t, l9, O))) := by
  refine Ev.of hl (by decide) (Nat.le_of_ble_eq_true rfl) ?_
  refine g_iload_n (i := 1) dX9_classOf_0 rfl rfl ?_
  refine g_iload_n (i := 2) dX9_classOf_1 rfl rfl ?_
  refine g_callS (ev_requireCell_no hl hc) dX9_classOf_2 ml_X9_91 csX9_requireCell rfl rfl (Nat.le_of_ble_eq_true rfl) (Nat.le_of_ble_eq_true rfl) (Nat.le_refl _) (Nat.le_refl _) kr_tr (kx_tr rfl ⟨rfl, rfl⟩)

set_option maxRecDepth 100000 in
theorem ev_classOf_no2 {l : Launch} {G : GG} (hl : l.stackTraces = false) {A : AD} {h : AH} {M : Nat → MS} {N : Nat × Nat} {c : Nat → Int32} {q : Nat → Nat} {H : HS} {L : LgS} {R : RS} {t l9 : SB} {O : OB} {x y z : Int32} (hc : cellB x y) (hv : ¬ clsP z) :
    Ev l G 13 1 6 mX9_classOf [.ref (A 6 0), .int x, .int y, .int z] (hC h A (M, N, c, q, H, L, R, t, l9, O)) (Tr "java/lang/IllegalArgumentException" (hC h A (M, N, c, q, H, L, R, t, l9, O))) := by
  refine Ev.of hl (by decide) (Nat.le_of_ble_eq_true rfl) ?_
  refine g_iload_n (i := 1) dX9_classOf_0 rfl rfl ?_
  refine g_iload_n (i := 2) dX9_classOf_1 rfl rfl ?_
  refine g_callS (ev_requireCell_ok hl hc) dX9_classOf_2 ml_X9_91 csX9_requireCell rfl rfl (Nat.le_of_ble_eq_true rfl) (Nat.le_of_ble_eq_true rfl) (Nat.zero_le _) (Nat.zero_le _) (kr_vd ?_) kx_rt
  refine g_aload_n (i := 0) dX9_classOf_5 rfl rfl ?_
  refine g_iload_n (i := 3) dX9_classOf_6 rfl rfl ?_
  refine g_callV (ev_requireLegend_no1 hl hv) dX9_classOf_7 ml_X9_254 cvX9_requireLegend K_X9 rfl hC_6 rfl rfl (Nat.le_of_ble_eq_true rfl) (Nat.le_of_ble_eq_true rfl) (Nat.le_refl _) (Nat.le_refl _) kr_tr (kx_tr rfl ⟨rfl, rfl⟩)

set_option maxRecDepth 100000 in
theorem ev_classOf_no3 {l : Launch} {G : GG} (hl : l.stackTraces = false) {A : AD} {h : AH} {M : Nat → MS} {N : Nat × Nat} {c : Nat → Int32} {q : Nat → Nat} {H : HS} {L : LgS} {R : RS} {t l9 : SB} {O : OB} {x y z : Int32} (hc : cellB x y) (hv : clsP z) (ho : ¬ z ≤ openN (M 0).1 64) :
    Ev l G 13 1 6 mX9_classOf [.ref (A 6 0), .int x, .int y, .int z] (hC h A (M, N, c, q, H, L, R, t, l9, O)) (Tr "java/lang/IllegalStateException" (hC h A (M, N, c, q, H, L, R, t, l9, O))) := by
  refine Ev.of hl (by decide) (Nat.le_of_ble_eq_true rfl) ?_
  refine g_iload_n (i := 1) dX9_classOf_0 rfl rfl ?_
  refine g_iload_n (i := 2) dX9_classOf_1 rfl rfl ?_
  refine g_callS (ev_requireCell_ok hl hc) dX9_classOf_2 ml_X9_91 csX9_requireCell rfl rfl (Nat.le_of_ble_eq_true rfl) (Nat.le_of_ble_eq_true rfl) (Nat.zero_le _) (Nat.zero_le _) (kr_vd ?_) kx_rt
  refine g_aload_n (i := 0) dX9_classOf_5 rfl rfl ?_
  refine g_iload_n (i := 3) dX9_classOf_6 rfl rfl ?_
  refine g_callV (ev_requireLegend_no2 hl hv ho) dX9_classOf_7 ml_X9_254 cvX9_requireLegend K_X9 rfl hC_6 rfl rfl (Nat.le_of_ble_eq_true rfl) (Nat.le_of_ble_eq_true rfl) (Nat.le_refl _) (Nat.le_refl _) kr_tr (kx_tr rfl ⟨rfl, rfl⟩)

set_option maxRecDepth 100000 in
theorem ev_classOf_no4 {l : Launch} {G : GG} (hl : l.stackTraces = false) {A : AD} {h : AH} {M : Nat → MS} {N : Nat × Nat} {c : Nat → Int32} {q : Nat → Nat} {H : HS} {L : LgS} {R : RS} {t l9 : SB} {O : OB} {i j : Nat} (hi : i < 8) (hj : j < 8) {z : Int32} (hv : clsP z) (ho : z ≤ openN (M 0).1 64) (hr : (M 0).1 (8 * j + i) = 35) :
    Ev l G 13 1 6 mX9_classOf [.ref (A 6 0), .int (nI i), .int (nI j), .int z] (hC h A (M, N, c, q, H, L, R, t, l9, O)) (Tr "java/lang/UnsupportedOperationException" (hC h A (M, N, c, q, H, L, R, t, l9, O))) := by
  refine Ev.of hl (by decide) (Nat.le_of_ble_eq_true rfl) ?_
  refine g_iload_n (i := 1) dX9_classOf_0 rfl rfl ?_
  refine g_iload_n (i := 2) dX9_classOf_1 rfl rfl ?_
  refine g_callS (ev_requireCell_ok hl (cellB_nI hi hj)) dX9_classOf_2 ml_X9_91 csX9_requireCell rfl rfl (Nat.le_of_ble_eq_true rfl) (Nat.le_of_ble_eq_true rfl) (Nat.zero_le _) (Nat.zero_le _) (kr_vd ?_) kx_rt
  refine g_aload_n (i := 0) dX9_classOf_5 rfl rfl ?_
  refine g_iload_n (i := 3) dX9_classOf_6 rfl rfl ?_
  refine g_callV (ev_requireLegend_ok hl hv ho) dX9_classOf_7 ml_X9_254 cvX9_requireLegend K_X9 rfl hC_6 rfl rfl (Nat.le_of_ble_eq_true rfl) (Nat.le_of_ble_eq_true rfl) (Nat.zero_le _) (Nat.zero_le _) (kr_vd ?_) kx_rt
  refine g_aload_n (i := 0) dX9_classOf_10 rfl rfl ?_
  refine g_getf dX9_classOf_11 K_X9 (k := 0) fl_X9_10 (Nat.le_of_ble_eq_true rfl) hC_6 rfl ?_
  refine g_iload_n (i := 1) dX9_classOf_14 rfl rfl ?_
  refine g_iload_n (i := 2) dX9_classOf_15 rfl rfl ?_
  refine g_callS (ev_cellOf hl) dX9_classOf_16 ml_X9_106 csX9_cellOf rfl rfl (Nat.le_of_ble_eq_true rfl) (Nat.le_of_ble_eq_true rfl) (Nat.zero_le _) (Nat.zero_le _) (kr_rt ?_) kx_rt
  rw [cel]
  refine g_callV (ev_isRock hl (hC_map (g := 0) (by decide)) (ix_nI (j := 8 * j + i) (by omega)) (by omega)) dX9_classOf_19 ml_X9_272 cvX3_isRock K_X3 rfl (hC_map (g := 0) (by decide)).1 rfl rfl (Nat.le_of_ble_eq_true rfl) (Nat.le_of_ble_eq_true rfl) (Nat.zero_le _) (Nat.zero_le _) (kr_rt ?_) kx_rt
  refine g_if_eq (tgt := 36) dX9_classOf_22 (by decide) (fun c22 => ?_) (fun c22 => ?_)
  · exact absurd c22 (by rw [if_pos hr]; decide)
  · exact g_throwSW th_X9_114_275 dX9_classOf_25 dX9_classOf_28 dX9_classOf_29 dX9_classOf_32 dX9_classOf_35 rfl (by decide) (by decide) (Nat.le_of_ble_eq_true rfl) (Nat.le_of_ble_eq_true rfl) ⟨rfl, rfl⟩

set_option maxRecDepth 100000 in
theorem ev_describeRow {l : Launch} {G : GG} (hl : l.stackTraces = false) {A : AD} {h : AH} {M : Nat → MS} {N : Nat × Nat} {c : Nat → Int32} {q : Nat → Nat} {H : HS} {L : LgS} {R : RS} {t l9 : SB} {O : OB} {j : Nat} (hj : j < 8) (hH : hOk (M 0)) (hG : gOk (M 0)) {T : TX} (hB : isTx l9 T.1 T.2) :
    Ev l G 32 9 1278 mX9_describeRow [.ref (A 6 0), .int (nI j)] (hC h A (M, N, c, q, H, L, R, t, l9, O)) (RtX (some (.int (nI 8))) (fun x : {B' : SB // isTx B' (rowF (M 0) j) 8} => (hC h A (M, N, c, q, H, L, R, t, x.1, O)))) := by
  refine Ev.of hl (by decide) (Nat.le_of_ble_eq_true rfl) ?_
  have loop : ∀ (r9 : Nat) (k : Nat) (l9 : SB), isTx l9 (rowF (M 0) j) k → k + r9 = 8 → Go l G mX9_describeRow 32 r9 (142 * r9) (RtX (some (.int (nI 8))) (fun x : {B' : SB // isTx B' (rowF (M 0) j) 8} => (hC h A (M, N, c, q, H, L, R, t, x.1, O)))) 15 [some (.ref (A 6 0)), some (.int (nI j)), some (.int (nI k))] [] (hC h A (M, N, c, q, H, L, R, t, l9, O)) := by
    intro r9
    induction r9 with
    | zero =>
      intro k l9 hB hk
      refine g_iload_n (i := 2) dX9_describeRow_15 rfl rfl ?_
      refine g_bipush (v := 8) dX9_describeRow_16 (by decide) ?_
      refine g_icmp_ge (tgt := 47) dX9_describeRow_18 (by decide) (fun c18 => ?_) (fun c18 => ?_)
      · obtain rfl : k = 8 := by omega
        refine g_aload_n (i := 0) dX9_describeRow_47 rfl rfl ?_
        refine g_getf dX9_describeRow_48 K_X9 (k := 10) fl_X9_70 (Nat.le_of_ble_eq_true rfl) hC_6 rfl ?_
        refine g_callV (wr_lLen hl (T := (rowF (M 0) j, 8)) hB) dX9_describeRow_51 ml_X9_334 cvJ4_length_8abf5 K_J4 rfl hC_22 rfl rfl (Nat.le_of_ble_eq_true rfl) (Nat.le_of_ble_eq_true rfl) (Nat.zero_le _) (Nat.zero_le _) (kr_rt ?_) kx_rt
        refine g_iret dX9_describeRow_54 rfl rfl ?_
        exact ⟨rfl, ⟨l9, hB⟩, rfl⟩
      · exact absurd ((le_nI (a := 8) (b := k) rfl (by omega) (by omega)).mpr (by omega)) c18
    | succ r9 ih =>
      intro k l9 hB hk
      refine g_iload_n (i := 2) dX9_describeRow_15 rfl rfl ?_
      refine g_bipush (v := 8) dX9_describeRow_16 (by decide) ?_
      refine g_icmp_ge (tgt := 47) dX9_describeRow_18 (by decide) (fun c18 => ?_) (fun c18 => ?_)
      · exact absurd ((le_nI (a := 8) (b := k) rfl (by omega) (by omega)).mp c18) (by omega)
      · refine g_aload_n (i := 0) dX9_describeRow_21 rfl rfl ?_
        refine g_getf dX9_describeRow_22 K_X9 (k := 10) fl_X9_70 (Nat.le_of_ble_eq_true rfl) hC_6 rfl ?_
        refine g_aload_n (i := 0) dX9_describeRow_25 rfl rfl ?_
        refine g_getf dX9_describeRow_26 K_X9 (k := 0) fl_X9_10 (Nat.le_of_ble_eq_true rfl) hC_6 rfl ?_
        refine g_iload_n (i := 2) dX9_describeRow_29 rfl rfl ?_
        refine g_iload_n (i := 1) dX9_describeRow_30 rfl rfl ?_
        refine g_callS (ev_cellOf hl) dX9_describeRow_31 ml_X9_106 csX9_cellOf rfl rfl (Nat.le_of_ble_eq_true rfl) (Nat.le_of_ble_eq_true rfl) (Nat.zero_le _) (Nat.zero_le _) (kr_rt ?_) kx_rt
        rw [cel]
        have hs := sgn_ok (m := M 0) (c := 8 * j + k) (hH _ (by omega)).1 (hG _ (by omega))
        refine g_callV (ev_signOf hl (hC_map (g := 0) (by decide)) (c := 8 * j + k) (by omega) (by rw [hs.1]; exact nchr (by have := hs.2; omega))) dX9_describeRow_34 ml_X9_326 cvX3_signOf K_X3 rfl (hC_map (g := 0) (by decide)).1 rfl rfl (Nat.le_of_ble_eq_true rfl) (Nat.le_of_ble_eq_true rfl) (Nat.zero_le _) (Nat.zero_le _) (kr_rt ?_) kx_rt
        rw [show signC (M 0) (8 * j + k) = nI (sgN (M 0) (8 * j + k)) from hs.1]
        refine g_callV (wr_lApC hl (T := (rowF (M 0) j, k)) hB (w := sgN (M 0) (8 * j + k)) (by have := hs.2; omega) (show k + 1 ≤ 142 by omega)) dX9_describeRow_37 ml_X9_330 cvJ4_append_cf468 K_J4 rfl hC_22 rfl rfl (Nat.le_of_ble_eq_true rfl) (Nat.le_of_ble_eq_true rfl) (by omega) (by omega) (kr_xm (fun x9 => ?_)) kx_x
        refine g_pop dX9_describeRow_40 rfl ?_
        refine g_iinc (w := 1) dX9_describeRow_41 (by decide) rfl (nI_succ k).symm (Nat.le_of_ble_eq_true rfl) ?_
        refine g_goto (tgt := 15) dX9_describeRow_44 (by decide) ?_
        obtain ⟨B9, hB9⟩ := x9
        have hB8 : isTx B9 (rowF (M 0) j) (k + 1) := hB9.congr (fun i hi => by
            show sb_cat (rowF (M 0) j) k (fun _ => sgN (M 0) (8 * j + k)) i = _
            by_cases e : i < k
            · exact if_pos e
            · obtain rfl : i = k := by omega
              exact if_neg e)
        refine Go.wid (kc' := r9) (ks' := 142 * r9) (by omega) (by omega) ?_
        exact ih (k + 1) B9 hB8 (by omega)
  refine g_iconst (v := 0) dX9_describeRow_0 (by decide) ?_
  refine g_iload_n (i := 1) dX9_describeRow_1 rfl rfl ?_
  refine g_callS (ev_requireCell_ok hl (show cellB 0 (nI j) from cellB_nI (i := 0) (by decide) hj)) dX9_describeRow_2 ml_X9_91 csX9_requireCell rfl rfl (Nat.le_of_ble_eq_true rfl) (Nat.le_of_ble_eq_true rfl) (Nat.zero_le _) (Nat.zero_le _) (kr_vd ?_) kx_rt
  refine g_aload_n (i := 0) dX9_describeRow_5 rfl rfl ?_
  refine g_getf dX9_describeRow_6 K_X9 (k := 10) fl_X9_70 (Nat.le_of_ble_eq_true rfl) hC_6 rfl ?_
  refine g_iconst (v := 0) dX9_describeRow_9 (by decide) ?_
  refine g_callV (wr_lSet0 hl hB) dX9_describeRow_10 ml_X9_323 cvJ4_setLength_d00df K_J4 rfl hC_22 rfl rfl (Nat.le_of_ble_eq_true rfl) (Nat.le_of_ble_eq_true rfl) (by decide) (by decide) (kr_xvm (fun x9 => ?_)) kx_x
  refine g_iconst (v := 0) dX9_describeRow_13 (by decide) ?_
  refine g_istore_n (i := 2) dX9_describeRow_14 rfl (Nat.le_of_ble_eq_true rfl) ?_
  obtain ⟨B8, hB8⟩ := x9
  refine Go.wid (kc' := 8) (ks' := 142 * 8) (by decide) (by decide) ?_
  exact loop 8 0 B8 (hB8.congr (fun i hi => absurd hi (Nat.not_lt_zero i))) rfl

set_option maxRecDepth 100000 in
theorem ev_describeRow_no {l : Launch} {G : GG} (hl : l.stackTraces = false) {A : AD} {h : AH} {M : Nat → MS} {N : Nat × Nat} {c : Nat → Int32} {q : Nat → Nat} {H : HS} {L : LgS} {R : RS} {t l9 : SB} {O : OB} {x : Int32} (hc : ¬ cellB 0 x) :
    Ev l G 32 1 6 mX9_describeRow [.ref (A 6 0), .int x] (hC h A (M, N, c, q, H, L, R, t, l9, O)) (Tr "java/lang/IndexOutOfBoundsException" (hC h A (M, N, c, q, H, L, R, t, l9, O))) := by
  refine Ev.of hl (by decide) (Nat.le_of_ble_eq_true rfl) ?_
  refine g_iconst (v := 0) dX9_describeRow_0 (by decide) ?_
  refine g_iload_n (i := 1) dX9_describeRow_1 rfl rfl ?_
  refine g_callS (ev_requireCell_no hl hc) dX9_describeRow_2 ml_X9_91 csX9_requireCell rfl rfl (Nat.le_of_ble_eq_true rfl) (Nat.le_of_ble_eq_true rfl) (Nat.le_refl _) (Nat.le_refl _) kr_tr (kx_tr rfl ⟨rfl, rfl⟩)


set_option maxRecDepth 100000 in
theorem gen_loop {l : Launch} {G : GG} (hl : l.stackTraces = false) {A : AD} {h : AH} {M : Nat → MS} {N : Nat × Nat} {c : Nat → Int32} {q : Nat → Nat} {H : HS} {L : LgS} {R : RS} {t l9 : SB} {O : OB} {k : Nat} (hk : k ≤ 6) (hS : lgOk L)  {a b : Nat → Nat} (hab : ∀ w, a w < 10000000 ∧ b w < 10000000) (hv : ∀ w, w < k → smH L w = nI (a w) ∧ grH L w = nI (b w)) : ∀ (r p : Nat) (l9 : SB), isTx l9 (lgTx a b p).1 (lgTx a b p).2 → p + r = k → Go l G mX9_describeLegend 32 (r * 4) (142 * (r * 4)) (RtX (some (.int (nI (lgTx a b k).2))) (fun x : {B' : SB // isTx B' (lgTx a b k).1 (lgTx a b k).2} => (hC h A (M, N, c, q, H, L, R, t, x.1, O)))) 27 [some (.ref (A 6 0)), some (.int (nI k)), some (.int (nI p))] [] (hC h A (M, N, c, q, H, L, R, t, l9, O)) := by
  have restH : ∀ (r p : Nat) (l9 : SB), p < k → isTx l9 (if p = 0 then lgTx a b p else tC (lgTx a b p) 44).1 (if p = 0 then lgTx a b p else tC (lgTx a b p) 44).2 → (if p = 0 then lgTx a b p else tC (lgTx a b p) 44).2 ≤ 16 * p + 1 → (∀ (p : Nat) (l9 : SB), isTx l9 (lgTx a b p).1 (lgTx a b p).2 → p + r = k → Go l G mX9_describeLegend 32 (r * 4) (142 * (r * 4)) (RtX (some (.int (nI (lgTx a b k).2))) (fun x : {B' : SB // isTx B' (lgTx a b k).1 (lgTx a b k).2} => (hC h A (M, N, c, q, H, L, R, t, x.1, O)))) 27 [some (.ref (A 6 0)), some (.int (nI k)), some (.int (nI p))] [] (hC h A (M, N, c, q, H, L, R, t, l9, O))) → p + (r + 1) = k → Go l G mX9_describeLegend 32 (r * 4 + 3) (142 * (r * 4 + 3)) (RtX (some (.int (nI (lgTx a b k).2))) (fun x : {B' : SB // isTx B' (lgTx a b k).1 (lgTx a b k).2} => (hC h A (M, N, c, q, H, L, R, t, x.1, O)))) 46 [some (.ref (A 6 0)), some (.int (nI k)), some (.int (nI p))] [] (hC h A (M, N, c, q, H, L, R, t, l9, O)) := by
    intro r p B1 hp hB1 hL1 ih hpk
    generalize hT1 : (if p = 0 then lgTx a b p else tC (lgTx a b p) 44) = T1 at hB1 hL1
    have h2 := dg7 (hab p).1
    have h3 := dg7 (hab p).2
    have e2 : (tI T1 (a p)).2 = T1.2 + sb_dg (a p) := rfl
    have e3 : (tC (tI T1 (a p)) 45).2 = T1.2 + sb_dg (a p) + 1 := rfl
    refine g_aload_n (i := 0) dX9_describeLegend_46 rfl rfl ?_
    refine g_getf dX9_describeLegend_47 K_X9 (k := 10) fl_X9_70 (Nat.le_of_ble_eq_true rfl) hC_6 rfl ?_
    refine g_aload_n (i := 0) dX9_describeLegend_50 rfl rfl ?_
    refine g_getf dX9_describeLegend_51 K_X9 (k := 8) fl_X9_56 (Nat.le_of_ble_eq_true rfl) hC_6 rfl ?_
    refine g_iload_n (i := 2) dX9_describeLegend_54 rfl rfl ?_
    refine g_callV (wr_small hl hS (by omega)) dX9_describeLegend_55 ml_X9_269 cvX5_smallestHeat K_X5 rfl hC_15 rfl rfl (Nat.le_of_ble_eq_true rfl) (Nat.le_of_ble_eq_true rfl) (Nat.zero_le _) (Nat.zero_le _) (kr_rt ?_) kx_rt
    rw [(hv p hp).1]
    refine g_callV (wr_lApI hl (T := T1) hB1 (w := (a p)) (by have := hab p; omega) (show _ ≤ 142 by show _ + _ ≤ 142; omega)) dX9_describeLegend_58 ml_X9_337 cvJ4_append_bf812 K_J4 rfl hC_22 rfl rfl (Nat.le_of_ble_eq_true rfl) (Nat.le_of_ble_eq_true rfl) (by omega) (by omega) (kr_xm (fun y2 => ?_)) kx_x
    obtain ⟨B2, hB2⟩ := y2
    have hB2 : isTx B2 (tI T1 (a p)).1 (tI T1 (a p)).2 := hB2
    refine Go.heap (h' := (hC h A (M, N, c, q, H, L, R, t, B2, O))) rfl ?_
    refine g_pop dX9_describeLegend_61 rfl ?_
    refine g_aload_n (i := 0) dX9_describeLegend_62 rfl rfl ?_
    refine g_getf dX9_describeLegend_63 K_X9 (k := 10) fl_X9_70 (Nat.le_of_ble_eq_true rfl) hC_6 rfl ?_
    refine g_bipush (v := 45) dX9_describeLegend_66 (by decide) ?_
    refine g_callV (wr_lApC hl (T := (tI T1 (a p))) hB2 (w := 45) (by decide) (show _ ≤ 142 by show _ + _ ≤ 142; omega)) dX9_describeLegend_68 ml_X9_330 cvJ4_append_cf468 K_J4 rfl hC_22 rfl rfl (Nat.le_of_ble_eq_true rfl) (Nat.le_of_ble_eq_true rfl) (by omega) (by omega) (kr_xm (fun y3 => ?_)) kx_x
    obtain ⟨B3, hB3⟩ := y3
    have hB3 : isTx B3 (tC (tI T1 (a p)) 45).1 (tC (tI T1 (a p)) 45).2 := hB3
    refine Go.heap (h' := (hC h A (M, N, c, q, H, L, R, t, B3, O))) rfl ?_
    refine g_pop dX9_describeLegend_71 rfl ?_
    refine g_aload_n (i := 0) dX9_describeLegend_72 rfl rfl ?_
    refine g_getf dX9_describeLegend_73 K_X9 (k := 10) fl_X9_70 (Nat.le_of_ble_eq_true rfl) hC_6 rfl ?_
    refine g_aload_n (i := 0) dX9_describeLegend_76 rfl rfl ?_
    refine g_getf dX9_describeLegend_77 K_X9 (k := 8) fl_X9_56 (Nat.le_of_ble_eq_true rfl) hC_6 rfl ?_
    refine g_iload_n (i := 2) dX9_describeLegend_80 rfl rfl ?_
    refine g_callV (wr_great hl hS (by omega)) dX9_describeLegend_81 ml_X9_340 cvX5_greatestHeat K_X5 rfl hC_15 rfl rfl (Nat.le_of_ble_eq_true rfl) (Nat.le_of_ble_eq_true rfl) (Nat.zero_le _) (Nat.zero_le _) (kr_rt ?_) kx_rt
    rw [(hv p hp).2]
    refine g_callV (wr_lApI hl (T := (tC (tI T1 (a p)) 45)) hB3 (w := (b p)) (by have := hab p; omega) (show _ ≤ 142 by show _ + _ ≤ 142; omega)) dX9_describeLegend_84 ml_X9_337 cvJ4_append_bf812 K_J4 rfl hC_22 rfl rfl (Nat.le_of_ble_eq_true rfl) (Nat.le_of_ble_eq_true rfl) (by omega) (by omega) (kr_xm (fun y4 => ?_)) kx_x
    obtain ⟨B4, hB4⟩ := y4
    have hB4 : isTx B4 (tI (tC (tI T1 (a p)) 45) (b p)).1 (tI (tC (tI T1 (a p)) 45) (b p)).2 := hB4
    refine Go.heap (h' := (hC h A (M, N, c, q, H, L, R, t, B4, O))) rfl ?_
    refine g_pop dX9_describeLegend_87 rfl ?_
    refine g_iinc (w := 1) dX9_describeLegend_88 (by decide) rfl (nI_succ p).symm (Nat.le_of_ble_eq_true rfl) ?_
    refine g_goto (tgt := 27) dX9_describeLegend_91 (by decide) ?_
    refine Go.wid (kc' := r * 4) (ks' := 142 * (r * 4)) (by omega) (by omega) ?_
    exact ih (p + 1) B4 (by rw [lgTx, hT1]; exact hB4) (by omega)
  have loop : ∀ (r : Nat) (p : Nat) (l9 : SB), isTx l9 (lgTx a b p).1 (lgTx a b p).2 → p + r = k → Go l G mX9_describeLegend 32 (r * 4) (142 * (r * 4)) (RtX (some (.int (nI (lgTx a b k).2))) (fun x : {B' : SB // isTx B' (lgTx a b k).1 (lgTx a b k).2} => (hC h A (M, N, c, q, H, L, R, t, x.1, O)))) 27 [some (.ref (A 6 0)), some (.int (nI k)), some (.int (nI p))] [] (hC h A (M, N, c, q, H, L, R, t, l9, O)) := by
    intro r
    induction r with
    | zero =>
      intro p l9 hB0 hpk
      refine g_iload_n (i := 2) dX9_describeLegend_27 rfl rfl ?_
      refine g_iload_n (i := 1) dX9_describeLegend_28 rfl rfl ?_
      refine g_icmp_ge (tgt := 94) dX9_describeLegend_29 (by decide) (fun c29 => ?_) (fun c29 => ?_)
      · obtain rfl : k = p := by omega
        refine g_aload_n (i := 0) dX9_describeLegend_94 rfl rfl ?_
        refine g_getf dX9_describeLegend_95 K_X9 (k := 10) fl_X9_70 (Nat.le_of_ble_eq_true rfl) hC_6 rfl ?_
        refine g_callV (wr_lLen hl (T := lgTx a b k) hB0) dX9_describeLegend_98 ml_X9_334 cvJ4_length_8abf5 K_J4 rfl hC_22 rfl rfl (Nat.le_of_ble_eq_true rfl) (Nat.le_of_ble_eq_true rfl) (Nat.zero_le _) (Nat.zero_le _) (kr_rt ?_) kx_rt
        refine g_iret dX9_describeLegend_101 rfl rfl ?_
        exact ⟨rfl, ⟨l9, hB0⟩, rfl⟩
      · exact absurd ((le_nI (a := k) (b := p) rfl (by omega) (by omega)).mpr (by omega)) c29
    | succ r ih =>
      intro p l9 hB0 hpk
      have h16 := lgTx_le hab p
      refine g_iload_n (i := 2) dX9_describeLegend_27 rfl rfl ?_
      refine g_iload_n (i := 1) dX9_describeLegend_28 rfl rfl ?_
      refine g_icmp_ge (tgt := 94) dX9_describeLegend_29 (by decide) (fun c29 => ?_) (fun c29 => ?_)
      · exact absurd ((le_nI (a := k) (b := p) rfl (by omega) (by omega)).mp c29) (by omega)
      · refine g_iload_n (i := 2) dX9_describeLegend_32 rfl rfl ?_
        refine g_if_le (tgt := 46) dX9_describeLegend_33 (by decide) (fun c33 => ?_) (fun c33 => ?_)
        · have hp0 : p = 0 := by have := (nI_le' (a := p) (b := 0) rfl (by omega) (by omega)).mp c33; omega
          refine Go.wid (kc' := r * 4 + 3) (ks' := 142 * (r * 4 + 3)) (by omega) (by omega) ?_
          exact restH r p l9 (by omega) (by rw [if_pos hp0]; exact hB0) (by rw [if_pos hp0]; omega) ih hpk
        · refine g_aload_n (i := 0) dX9_describeLegend_36 rfl rfl ?_
          refine g_getf dX9_describeLegend_37 K_X9 (k := 10) fl_X9_70 (Nat.le_of_ble_eq_true rfl) hC_6 rfl ?_
          refine g_bipush (v := 44) dX9_describeLegend_40 (by decide) ?_
          refine g_callV (wr_lApC hl (T := (lgTx a b p)) hB0 (w := 44) (by decide) (show _ ≤ 142 by show _ + _ ≤ 142; omega)) dX9_describeLegend_42 ml_X9_330 cvJ4_append_cf468 K_J4 rfl hC_22 rfl rfl (Nat.le_of_ble_eq_true rfl) (Nat.le_of_ble_eq_true rfl) (by omega) (by omega) (kr_xm (fun y1 => ?_)) kx_x
          obtain ⟨B1, hB1⟩ := y1
          have hB1 : isTx B1 (tC (lgTx a b p) 44).1 (tC (lgTx a b p) 44).2 := hB1
          refine Go.heap (h' := (hC h A (M, N, c, q, H, L, R, t, B1, O))) rfl ?_
          refine g_pop dX9_describeLegend_45 rfl ?_
          have hp0 : ¬ p = 0 := fun z => c33 (by rw [z]; decide)
          refine Go.wid (kc' := r * 4 + 3) (ks' := 142 * (r * 4 + 3)) (by omega) (by omega) ?_
          exact restH r p B1 (by omega) (by rw [if_neg hp0]; exact hB1) (by rw [if_neg hp0]; show (lgTx a b p).2 + 1 ≤ _; omega) ih hpk
  exact loop

set_option maxRecDepth 100000 in
theorem ev_describeLegend {l : Launch} {G : GG} (hl : l.stackTraces = false) {A : AD} {h : AH} {M : Nat → MS} {N : Nat × Nat} {c : Nat → Int32} {q : Nat → Nat} {H : HS} {L : LgS} {R : RS} {t l9 : SB} {O : OB} {k : Nat} (hk1 : 1 ≤ k) (hk : k ≤ 6) (ho : nI k ≤ openN (M 0).1 64) {a b : Nat → Nat} (hab : ∀ w, a w < 10000000 ∧ b w < 10000000) (hv : ∀ w, w < k → smH (drwS (M 0) k L) w = nI (a w) ∧ grH (drwS (M 0) k L) w = nI (b w)) {T : TX} (hB : isTx l9 T.1 T.2) :
    Ev l G 32 (4 * k + 1) (142 * (4 * k + 1)) mX9_describeLegend [.ref (A 6 0), .int (nI k)] (hC h A (M, N, c, q, H, L, R, t, l9, O)) (RtX (some (.int (nI (lgTx a b k).2))) (fun x : {B' : SB // isTx B' (lgTx a b k).1 (lgTx a b k).2} => (hC h A (M, N, c, q, H, (drwS (M 0) k L), R, t, x.1, O)))) := by
  refine Ev.of hl (by decide) (Nat.le_of_ble_eq_true rfl) ?_
  refine g_aload_n (i := 0) dX9_describeLegend_0 rfl rfl ?_
  refine g_iload_n (i := 1) dX9_describeLegend_1 rfl rfl ?_
  refine g_callV (ev_requireLegend_ok hl (show clsP (nI k) from ⟨(le_nI (a := 1) rfl (by decide) (by omega)).mpr hk1, (nI_le' (b := 6) rfl (by omega) (by decide)).mpr hk⟩) ho) dX9_describeLegend_2 ml_X9_254 cvX9_requireLegend K_X9 rfl hC_6 rfl rfl (Nat.le_of_ble_eq_true rfl) (Nat.le_of_ble_eq_true rfl) (Nat.zero_le _) (Nat.zero_le _) (kr_vd ?_) kx_rt
  refine g_aload_n (i := 0) dX9_describeLegend_5 rfl rfl ?_
  refine g_getf dX9_describeLegend_6 K_X9 (k := 8) fl_X9_56 (Nat.le_of_ble_eq_true rfl) hC_6 rfl ?_
  refine g_aload_n (i := 0) dX9_describeLegend_9 rfl rfl ?_
  refine g_getf dX9_describeLegend_10 K_X9 (k := 0) fl_X9_10 (Nat.le_of_ble_eq_true rfl) hC_6 rfl ?_
  refine g_iload_n (i := 1) dX9_describeLegend_13 rfl rfl ?_
  refine g_callV (wr_draw hl hk1 (by omega)) dX9_describeLegend_14 ml_X9_257 cvX5_draw K_X5 rfl hC_15 rfl rfl (Nat.le_of_ble_eq_true rfl) (Nat.le_of_ble_eq_true rfl) (Nat.zero_le _) (Nat.zero_le _) (kr_vd ?_) kx_rt
  refine g_aload_n (i := 0) dX9_describeLegend_17 rfl rfl ?_
  refine g_getf dX9_describeLegend_18 K_X9 (k := 10) fl_X9_70 (Nat.le_of_ble_eq_true rfl) hC_6 rfl ?_
  refine g_iconst (v := 0) dX9_describeLegend_21 (by decide) ?_
  refine g_callV (wr_lSet0 hl hB) dX9_describeLegend_22 ml_X9_323 cvJ4_setLength_d00df K_J4 rfl hC_22 rfl rfl (Nat.le_of_ble_eq_true rfl) (Nat.le_of_ble_eq_true rfl) (by omega) (by omega) (kr_xvm (fun x9 => ?_)) kx_x
  refine g_iconst (v := 0) dX9_describeLegend_25 (by decide) ?_
  refine g_istore_n (i := 2) dX9_describeLegend_26 rfl (Nat.le_of_ble_eq_true rfl) ?_
  obtain ⟨B8, hB8⟩ := x9
  refine Go.wid (kc' := k * 4) (ks' := 142 * (k * 4)) (by omega) (by omega) ?_
  exact gen_loop (l9 := l9) hl hk (drw_ok _ _ _) hab hv k 0 B8 (hB8.congr (fun i hi => absurd hi (Nat.not_lt_zero i))) (Nat.zero_add k)

set_option maxRecDepth 100000 in
theorem ev_describeLegend_no1 {l : Launch} {G : GG} (hl : l.stackTraces = false) {A : AD} {h : AH} {M : Nat → MS} {N : Nat × Nat} {c : Nat → Int32} {q : Nat → Nat} {H : HS} {L : LgS} {R : RS} {t l9 : SB} {O : OB} {x : Int32} (hv : ¬ clsP x) :
    Ev l G 32 1 6 mX9_describeLegend [.ref (A 6 0), .int x] (hC h A (M, N, c, q, H, L, R, t, l9, O)) (Tr "java/lang/IllegalArgumentException" (hC h A (M, N, c, q, H, L, R, t, l9, O))) := by
  refine Ev.of hl (by decide) (Nat.le_of_ble_eq_true rfl) ?_
  refine g_aload_n (i := 0) dX9_describeLegend_0 rfl rfl ?_
  refine g_iload_n (i := 1) dX9_describeLegend_1 rfl rfl ?_
  refine g_callV (ev_requireLegend_no1 hl hv) dX9_describeLegend_2 ml_X9_254 cvX9_requireLegend K_X9 rfl hC_6 rfl rfl (Nat.le_of_ble_eq_true rfl) (Nat.le_of_ble_eq_true rfl) (Nat.le_refl _) (Nat.le_refl _) kr_tr (kx_tr rfl ⟨rfl, rfl⟩)

set_option maxRecDepth 100000 in
theorem ev_describeLegend_no2 {l : Launch} {G : GG} (hl : l.stackTraces = false) {A : AD} {h : AH} {M : Nat → MS} {N : Nat × Nat} {c : Nat → Int32} {q : Nat → Nat} {H : HS} {L : LgS} {R : RS} {t l9 : SB} {O : OB} {x : Int32} (hv : clsP x) (ho : ¬ x ≤ openN (M 0).1 64) :
    Ev l G 32 1 6 mX9_describeLegend [.ref (A 6 0), .int x] (hC h A (M, N, c, q, H, L, R, t, l9, O)) (Tr "java/lang/IllegalStateException" (hC h A (M, N, c, q, H, L, R, t, l9, O))) := by
  refine Ev.of hl (by decide) (Nat.le_of_ble_eq_true rfl) ?_
  refine g_aload_n (i := 0) dX9_describeLegend_0 rfl rfl ?_
  refine g_iload_n (i := 1) dX9_describeLegend_1 rfl rfl ?_
  refine g_callV (ev_requireLegend_no2 hl hv ho) dX9_describeLegend_2 ml_X9_254 cvX9_requireLegend K_X9 rfl hC_6 rfl rfl (Nat.le_of_ble_eq_true rfl) (Nat.le_of_ble_eq_true rfl) (Nat.le_refl _) (Nat.le_refl _) kr_tr (kx_tr rfl ⟨rfl, rfl⟩)

set_option maxRecDepth 100000 in
theorem ev_lineAt {l : Launch} {G : GG} (hl : l.stackTraces = false) {A : AD} {h : AH} {M : Nat → MS} {N : Nat × Nat} {c : Nat → Int32} {q : Nat → Nat} {H : HS} {L : LgS} {R : RS} {t l9 : SB} {O : OB} {T : TX} (hT : T.2 ≤ 142) (hB : isTx l9 T.1 T.2) {i : Nat} (hi : i < T.2) :
    Ev l G 14 0 0 mX9_lineAt [.ref (A 6 0), .int (nI i)] (hC h A (M, N, c, q, H, L, R, t, l9, O)) (Rt (some (.int (nI (T.1 i)))) (hC h A (M, N, c, q, H, L, R, t, l9, O))) := by
  refine Ev.of hl (by decide) (Nat.le_of_ble_eq_true rfl) ?_
  refine g_iload_n (i := 1) dX9_lineAt_0 rfl rfl ?_
  refine g_if_lt (tgt := 15) dX9_lineAt_1 (by decide) (fun c1 => ?_) (fun c1 => ?_)
  · exact absurd (nI_pos' (n := i) (by omega)) (Int32.not_le.mpr c1)
  · refine g_iload_n (i := 1) dX9_lineAt_4 rfl rfl ?_
    refine g_aload_n (i := 0) dX9_lineAt_5 rfl rfl ?_
    refine g_getf dX9_lineAt_6 K_X9 (k := 10) fl_X9_70 (Nat.le_of_ble_eq_true rfl) hC_6 rfl ?_
    refine g_callV (wr_lLen hl hB) dX9_lineAt_9 ml_X9_334 cvJ4_length_8abf5 K_J4 rfl hC_22 rfl rfl (Nat.le_of_ble_eq_true rfl) (Nat.le_of_ble_eq_true rfl) (Nat.zero_le _) (Nat.zero_le _) (kr_rt ?_) kx_rt
    refine g_icmp_lt (tgt := 26) dX9_lineAt_12 (by decide) (fun c12 => ?_) (fun c12 => ?_)
    · refine g_aload_n (i := 0) dX9_lineAt_26 rfl rfl ?_
      refine g_getf dX9_lineAt_27 K_X9 (k := 10) fl_X9_70 (Nat.le_of_ble_eq_true rfl) hC_6 rfl ?_
      refine g_iload_n (i := 1) dX9_lineAt_30 rfl rfl ?_
      refine g_callV (wr_lChar hl hB hi) dX9_lineAt_31 ml_X9_348 cvJ4_charAt_5068e K_J4 rfl hC_22 rfl rfl (Nat.le_of_ble_eq_true rfl) (Nat.le_of_ble_eq_true rfl) (Nat.zero_le _) (Nat.zero_le _) (kr_rt ?_) kx_rt
      refine g_iret dX9_lineAt_34 rfl (nchr (hB.2.2.2.1 i hi).1) ?_
      exact ⟨rfl, rfl⟩
    · exact absurd ((lt_nI (a := i) (b := T.2) rfl (by omega) (by omega)).mpr hi) c12

set_option maxRecDepth 100000 in
theorem ev_lineAt_no {l : Launch} {G : GG} (hl : l.stackTraces = false) {A : AD} {h : AH} {M : Nat → MS} {N : Nat × Nat} {c : Nat → Int32} {q : Nat → Nat} {H : HS} {L : LgS} {R : RS} {t l9 : SB} {O : OB} {T : TX} (hB : isTx l9 T.1 T.2) {x : Int32} (hx : ¬ (0 ≤ x ∧ x < nI T.2)) :
    Ev l G 14 1 6 mX9_lineAt [.ref (A 6 0), .int x] (hC h A (M, N, c, q, H, L, R, t, l9, O)) (Tr "java/lang/IndexOutOfBoundsException" (hC h A (M, N, c, q, H, L, R, t, l9, O))) := by
  refine Ev.of hl (by decide) (Nat.le_of_ble_eq_true rfl) ?_
  refine g_iload_n (i := 1) dX9_lineAt_0 rfl rfl ?_
  refine g_if_lt (tgt := 15) dX9_lineAt_1 (by decide) (fun c1 => ?_) (fun c1 => ?_)
  · exact g_throwSW th_X9_343_345 dX9_lineAt_15 dX9_lineAt_18 dX9_lineAt_19 dX9_lineAt_22 dX9_lineAt_25 rfl (by decide) (by decide) (Nat.le_of_ble_eq_true rfl) (Nat.le_of_ble_eq_true rfl) ⟨rfl, rfl⟩
  · refine g_iload_n (i := 1) dX9_lineAt_4 rfl rfl ?_
    refine g_aload_n (i := 0) dX9_lineAt_5 rfl rfl ?_
    refine g_getf dX9_lineAt_6 K_X9 (k := 10) fl_X9_70 (Nat.le_of_ble_eq_true rfl) hC_6 rfl ?_
    refine g_callV (wr_lLen hl hB) dX9_lineAt_9 ml_X9_334 cvJ4_length_8abf5 K_J4 rfl hC_22 rfl rfl (Nat.le_of_ble_eq_true rfl) (Nat.le_of_ble_eq_true rfl) (Nat.zero_le _) (Nat.zero_le _) (kr_rt ?_) kx_rt
    refine g_icmp_lt (tgt := 26) dX9_lineAt_12 (by decide) (fun c12 => ?_) (fun c12 => ?_)
    · exact absurd ⟨ltn' c1, c12⟩ hx
    · exact g_throwSW th_X9_343_345 dX9_lineAt_15 dX9_lineAt_18 dX9_lineAt_19 dX9_lineAt_22 dX9_lineAt_25 rfl (by decide) (by decide) (Nat.le_of_ble_eq_true rfl) (Nat.le_of_ble_eq_true rfl) ⟨rfl, rfl⟩

set_option maxRecDepth 100000 in
theorem ev_meanHeat {l : Launch} {G : GG} (hl : l.stackTraces = false) {A : AD} {h : AH} {M : Nat → MS} {N : Nat × Nat} {c : Nat → Int32} {q : Nat → Nat} {H : HS} {L : LgS} {R : RS} {t l9 : SB} {O : OB} (ho : ¬ openN (M 0).1 64 = 0) (hf : vf_n64 (FP.ddiv (FP.i2d (sumN (M 0).2.1 64)) (FP.i2d (openN (M 0).1 64)))) :
    Ev l G 12 0 0 mX9_meanHeat [.ref (A 6 0)] (hC h A (M, N, c, q, H, L, R, t, l9, O)) (Rt (some (.double (FP.ddiv (FP.i2d (sumN (M 0).2.1 64)) (FP.i2d (openN (M 0).1 64))))) (hC h A (M, N, c, q, H, L, R, t, l9, O))) := by
  refine Ev.of hl (by decide) (Nat.le_of_ble_eq_true rfl) ?_
  refine g_aload_n (i := 0) dX9_meanHeat_0 rfl rfl ?_
  refine g_getf dX9_meanHeat_1 K_X9 (k := 0) fl_X9_10 (Nat.le_of_ble_eq_true rfl) hC_6 rfl ?_
  refine g_callV (ev_countOpen hl (hC_map (g := 0) (by decide))) dX9_meanHeat_4 ml_X9_351 cvX3_countOpenCells K_X3 rfl (hC_map (g := 0) (by decide)).1 rfl rfl (Nat.le_of_ble_eq_true rfl) (Nat.le_of_ble_eq_true rfl) (Nat.zero_le _) (Nat.zero_le _) (kr_rt ?_) kx_rt
  refine g_istore_n (i := 1) dX9_meanHeat_7 rfl (Nat.le_of_ble_eq_true rfl) ?_
  refine g_iload_n (i := 1) dX9_meanHeat_8 rfl rfl ?_
  refine g_if_ne (tgt := 23) dX9_meanHeat_9 (by decide) (fun c9 => ?_) (fun c9 => ?_)
  · refine g_aload_n (i := 0) dX9_meanHeat_23 rfl rfl ?_
    refine g_getf dX9_meanHeat_24 K_X9 (k := 0) fl_X9_10 (Nat.le_of_ble_eq_true rfl) hC_6 rfl ?_
    refine g_callV (ev_heatOfCells hl (hC_map (g := 0) (by decide))) dX9_meanHeat_27 ml_X9_147 cvX3_heatOfCells K_X3 rfl (hC_map (g := 0) (by decide)).1 rfl rfl (Nat.le_of_ble_eq_true rfl) (Nat.le_of_ble_eq_true rfl) (Nat.zero_le _) (Nat.zero_le _) (kr_rt ?_) kx_rt
    refine g_i2d dX9_meanHeat_30 ?_
    refine g_iload_n (i := 1) dX9_meanHeat_31 rfl rfl ?_
    refine g_i2d dX9_meanHeat_32 ?_
    refine g_ddiv dX9_meanHeat_33 hf ?_
    refine g_dret dX9_meanHeat_34 rfl ?_
    exact ⟨rfl, rfl⟩
  · exact absurd c9 ho

set_option maxRecDepth 100000 in
theorem ev_meanHeat_no {l : Launch} {G : GG} (hl : l.stackTraces = false) {A : AD} {h : AH} {M : Nat → MS} {N : Nat × Nat} {c : Nat → Int32} {q : Nat → Nat} {H : HS} {L : LgS} {R : RS} {t l9 : SB} {O : OB} (ho : openN (M 0).1 64 = 0) :
    Ev l G 12 1 6 mX9_meanHeat [.ref (A 6 0)] (hC h A (M, N, c, q, H, L, R, t, l9, O)) (Tr "java/lang/ArithmeticException" (hC h A (M, N, c, q, H, L, R, t, l9, O))) := by
  refine Ev.of hl (by decide) (Nat.le_of_ble_eq_true rfl) ?_
  refine g_aload_n (i := 0) dX9_meanHeat_0 rfl rfl ?_
  refine g_getf dX9_meanHeat_1 K_X9 (k := 0) fl_X9_10 (Nat.le_of_ble_eq_true rfl) hC_6 rfl ?_
  refine g_callV (ev_countOpen hl (hC_map (g := 0) (by decide))) dX9_meanHeat_4 ml_X9_351 cvX3_countOpenCells K_X3 rfl (hC_map (g := 0) (by decide)).1 rfl rfl (Nat.le_of_ble_eq_true rfl) (Nat.le_of_ble_eq_true rfl) (Nat.zero_le _) (Nat.zero_le _) (kr_rt ?_) kx_rt
  refine g_istore_n (i := 1) dX9_meanHeat_7 rfl (Nat.le_of_ble_eq_true rfl) ?_
  refine g_iload_n (i := 1) dX9_meanHeat_8 rfl rfl ?_
  refine g_if_ne (tgt := 23) dX9_meanHeat_9 (by decide) (fun c9 => ?_) (fun c9 => ?_)
  · exact absurd ho c9
  · exact g_throwSW th_X9_354_356 dX9_meanHeat_12 dX9_meanHeat_15 dX9_meanHeat_16 dX9_meanHeat_19 dX9_meanHeat_22 rfl (by decide) (by decide) (Nat.le_of_ble_eq_true rfl) (Nat.le_of_ble_eq_true rfl) ⟨rfl, rfl⟩

set_option maxRecDepth 100000 in
theorem ev_levelShare {l : Launch} {G : GG} (hl : l.stackTraces = false) {A : AD} {h : AH} {M : Nat → MS} {N : Nat × Nat} {c : Nat → Int32} {q : Nat → Nat} {H : HS} {L : LgS} {R : RS} {t l9 : SB} {O : OB} {v : Int32} (hv : levP v) (hf : vf_n32 (FP.fdiv (FP.i2f (pcJ (levN (M 0).2.1 v 64))) 1115684864)) :
    Ev l G 12 0 0 mX9_levelShare [.ref (A 6 0), .int v] (hC h A (M, N, c, q, H, L, R, t, l9, O)) (Rt (some (.float (FP.fdiv (FP.i2f (pcJ (levN (M 0).2.1 v 64))) 1115684864))) (hC h A (M, N, c, q, H, L, R, t, l9, O))) := by
  refine Ev.of hl (by decide) (Nat.le_of_ble_eq_true rfl) ?_
  refine g_iload_n (i := 1) dX9_levelShare_0 rfl rfl ?_
  refine g_callS (ev_requireLevel_ok hl hv) dX9_levelShare_1 ml_X9_202 csX9_requireLevel rfl rfl (Nat.le_of_ble_eq_true rfl) (Nat.le_of_ble_eq_true rfl) (Nat.zero_le _) (Nat.zero_le _) (kr_vd ?_) kx_rt
  refine g_aload_n (i := 0) dX9_levelShare_4 rfl rfl ?_
  refine g_getf dX9_levelShare_5 K_X9 (k := 0) fl_X9_10 (Nat.le_of_ble_eq_true rfl) hC_6 rfl ?_
  refine g_iload_n (i := 1) dX9_levelShare_8 rfl rfl ?_
  refine g_callV (ev_cellsOfLevel hl (hC_map (g := 0) (by decide))) dX9_levelShare_9 ml_X9_208 cvX3_cellsOfLevel K_X3 rfl (hC_map (g := 0) (by decide)).1 rfl rfl (Nat.le_of_ble_eq_true rfl) (Nat.le_of_ble_eq_true rfl) (Nat.zero_le _) (Nat.zero_le _) (kr_rt ?_) kx_rt
  refine g_callS (ev_bitCount hl) dX9_levelShare_12 ml_X9_240 csJ13_bitCount_95d88 rfl rfl (Nat.le_of_ble_eq_true rfl) (Nat.le_of_ble_eq_true rfl) (Nat.zero_le _) (Nat.zero_le _) (kr_rt ?_) kx_rt
  refine g_i2f dX9_levelShare_15 ?_
  refine g_ldcwf dX9_levelShare_16 co_X9_359 ?_
  refine g_fdiv dX9_levelShare_19 hf ?_
  refine g_fret dX9_levelShare_20 rfl ?_
  exact ⟨rfl, rfl⟩

set_option maxRecDepth 100000 in
theorem ev_levelShare_no {l : Launch} {G : GG} (hl : l.stackTraces = false) {A : AD} {h : AH} {M : Nat → MS} {N : Nat × Nat} {c : Nat → Int32} {q : Nat → Nat} {H : HS} {L : LgS} {R : RS} {t l9 : SB} {O : OB} {v : Int32} (hv : ¬ levP v) :
    Ev l G 12 1 6 mX9_levelShare [.ref (A 6 0), .int v] (hC h A (M, N, c, q, H, L, R, t, l9, O)) (Tr "java/lang/IllegalArgumentException" (hC h A (M, N, c, q, H, L, R, t, l9, O))) := by
  refine Ev.of hl (by decide) (Nat.le_of_ble_eq_true rfl) ?_
  refine g_iload_n (i := 1) dX9_levelShare_0 rfl rfl ?_
  refine g_callS (ev_requireLevel_no hl hv) dX9_levelShare_1 ml_X9_202 csX9_requireLevel rfl rfl (Nat.le_of_ble_eq_true rfl) (Nat.le_of_ble_eq_true rfl) (Nat.le_refl _) (Nat.le_refl _) kr_tr (kx_tr rfl ⟨rfl, rfl⟩)

set_option maxRecDepth 100000 in
theorem ev_errorPosition {l : Launch} {G : GG} (hl : l.stackTraces = false) {A : AD} {h : AH} {M : Nat → MS} {N : Nat × Nat} {c : Nat → Int32} {q : Nat → Nat} {H : HS} {L : LgS} {R : RS} {t l9 : SB} {O : OB} (hr : ¬ O.2.2.2.1 = -1) :
    Ev l G 10 0 0 mX9_errorPosition [.ref (A 6 0)] (hC h A (M, N, c, q, H, L, R, t, l9, O)) (Rt (some (.int (O.2.2.2.1))) (hC h A (M, N, c, q, H, L, R, t, l9, O))) := by
  refine Ev.of hl (by decide) (Nat.le_of_ble_eq_true rfl) ?_
  refine g_aload_n (i := 0) dX9_errorPosition_0 rfl rfl ?_
  refine g_getf dX9_errorPosition_1 K_X9 (k := 14) fl_X9_85 (Nat.le_of_ble_eq_true rfl) hC_6 rfl ?_
  refine g_iconst (v := (-1)) dX9_errorPosition_4 (by decide) ?_
  refine g_icmp_ne (tgt := 19) dX9_errorPosition_5 (by decide) (fun c5 => ?_) (fun c5 => ?_)
  · refine g_aload_n (i := 0) dX9_errorPosition_19 rfl rfl ?_
    refine g_getf dX9_errorPosition_20 K_X9 (k := 14) fl_X9_85 (Nat.le_of_ble_eq_true rfl) hC_6 rfl ?_
    refine g_iret dX9_errorPosition_23 rfl rfl ?_
    exact ⟨rfl, rfl⟩
  · exact absurd c5 hr

set_option maxRecDepth 100000 in
theorem ev_errorPosition_no {l : Launch} {G : GG} (hl : l.stackTraces = false) {A : AD} {h : AH} {M : Nat → MS} {N : Nat × Nat} {c : Nat → Int32} {q : Nat → Nat} {H : HS} {L : LgS} {R : RS} {t l9 : SB} {O : OB} (hr : O.2.2.2.1 = -1) :
    Ev l G 10 1 6 mX9_errorPosition [.ref (A 6 0)] (hC h A (M, N, c, q, H, L, R, t, l9, O)) (Tr "java/util/NoSuchElementException" (hC h A (M, N, c, q, H, L, R, t, l9, O))) := by
  refine Ev.of hl (by decide) (Nat.le_of_ble_eq_true rfl) ?_
  refine g_aload_n (i := 0) dX9_errorPosition_0 rfl rfl ?_
  refine g_getf dX9_errorPosition_1 K_X9 (k := 14) fl_X9_85 (Nat.le_of_ble_eq_true rfl) hC_6 rfl ?_
  refine g_iconst (v := (-1)) dX9_errorPosition_4 (by decide) ?_
  refine g_icmp_ne (tgt := 19) dX9_errorPosition_5 (by decide) (fun c5 => ?_) (fun c5 => ?_)
  · exact absurd hr c5
  · exact g_throwN th_X9_164_319 dX9_errorPosition_8 dX9_errorPosition_11 dX9_errorPosition_12 dX9_errorPosition_15 dX9_errorPosition_18 rfl (by decide) (by decide) (Nat.le_of_ble_eq_true rfl) (Nat.le_of_ble_eq_true rfl) ⟨rfl, rfl⟩

set_option maxRecDepth 100000 in
theorem ev_failedCommand {l : Launch} {G : GG} (hl : l.stackTraces = false) {A : AD} {h : AH} {M : Nat → MS} {N : Nat × Nat} {c : Nat → Int32} {q : Nat → Nat} {H : HS} {L : LgS} {R : RS} {t l9 : SB} {O : OB} (hr : ¬ O.2.2.2.2 = -1) :
    Ev l G 10 0 0 mX9_failedCommand [.ref (A 6 0)] (hC h A (M, N, c, q, H, L, R, t, l9, O)) (Rt (some (.int (O.2.2.2.2))) (hC h A (M, N, c, q, H, L, R, t, l9, O))) := by
  refine Ev.of hl (by decide) (Nat.le_of_ble_eq_true rfl) ?_
  refine g_aload_n (i := 0) dX9_failedCommand_0 rfl rfl ?_
  refine g_getf dX9_failedCommand_1 K_X9 (k := 15) fl_X9_88 (Nat.le_of_ble_eq_true rfl) hC_6 rfl ?_
  refine g_iconst (v := (-1)) dX9_failedCommand_4 (by decide) ?_
  refine g_icmp_ne (tgt := 19) dX9_failedCommand_5 (by decide) (fun c5 => ?_) (fun c5 => ?_)
  · refine g_aload_n (i := 0) dX9_failedCommand_19 rfl rfl ?_
    refine g_getf dX9_failedCommand_20 K_X9 (k := 15) fl_X9_88 (Nat.le_of_ble_eq_true rfl) hC_6 rfl ?_
    refine g_iret dX9_failedCommand_23 rfl rfl ?_
    exact ⟨rfl, rfl⟩
  · exact absurd c5 hr

set_option maxRecDepth 100000 in
theorem ev_failedCommand_no {l : Launch} {G : GG} (hl : l.stackTraces = false) {A : AD} {h : AH} {M : Nat → MS} {N : Nat × Nat} {c : Nat → Int32} {q : Nat → Nat} {H : HS} {L : LgS} {R : RS} {t l9 : SB} {O : OB} (hr : O.2.2.2.2 = -1) :
    Ev l G 10 1 6 mX9_failedCommand [.ref (A 6 0)] (hC h A (M, N, c, q, H, L, R, t, l9, O)) (Tr "java/util/NoSuchElementException" (hC h A (M, N, c, q, H, L, R, t, l9, O))) := by
  refine Ev.of hl (by decide) (Nat.le_of_ble_eq_true rfl) ?_
  refine g_aload_n (i := 0) dX9_failedCommand_0 rfl rfl ?_
  refine g_getf dX9_failedCommand_1 K_X9 (k := 15) fl_X9_88 (Nat.le_of_ble_eq_true rfl) hC_6 rfl ?_
  refine g_iconst (v := (-1)) dX9_failedCommand_4 (by decide) ?_
  refine g_icmp_ne (tgt := 19) dX9_failedCommand_5 (by decide) (fun c5 => ?_) (fun c5 => ?_)
  · exact absurd hr c5
  · exact g_throwN th_X9_164_321 dX9_failedCommand_8 dX9_failedCommand_11 dX9_failedCommand_12 dX9_failedCommand_15 dX9_failedCommand_18 rfl (by decide) (by decide) (Nat.le_of_ble_eq_true rfl) (Nat.le_of_ble_eq_true rfl) ⟨rfl, rfl⟩

