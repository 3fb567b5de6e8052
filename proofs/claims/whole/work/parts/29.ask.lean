/-! The class's methods that ask (by wip/whole/gen/m15.py). -/
abbrev levP (x : Int32) : Prop := 1 ≤ x ∧ x ≤ 9999
abbrev clsP (x : Int32) : Prop := 1 ≤ x ∧ x ≤ 6
theorem cel (i j : Nat) : 8 * nI j + nI i = nI (8 * j + i) := by
  rw [show (8 : Int32) * nI j = nI (8 * j) from (Int32.ofNat_mul 8 j).symm, nI_add]
theorem cellB_nI {i j : Nat} (hi : i < 8) (hj : j < 8) : cellB (nI i) (nI j) := ⟨nI_pos' (by omega), (nI_lt' rfl (by omega) (by decide)).mpr hi, nI_pos' (by omega), (nI_lt' rfl (by omega) (by decide)).mpr hj⟩
/-- the grounds are grounds -/
def gOk (m : MS) : Prop := ∀ i, i < 64 → groundP (m.1 i)
theorem gnd_fits {x : Int32} (h : groundP x) : fits .char (.int x) = true ∧ narrow .char (.int x) = .int x ∧ vp_nar .char x = x ∧ (x.toUInt32 % 65536).toInt32 = x := by
  rcases h with rfl | rfl | rfl | rfl <;> exact ⟨by decide, rfl, rfl, by decide⟩
theorem gOk.fit {m : MS} (h : gOk m) : ∀ i, i < 64 → fits .char (.int (m.1 i)) = true := fun i hi => (gnd_fits (h i hi)).1

theorem wr_unions {l : Launch} {G : GG} (hl : l.stackTraces = false) {A : AD} {h : AH} {M : Nat → MS} {N : Nat × Nat} {c : Nat → Int32} {q : Nat → Nat} {H : HS} {L : LgS} {R : RS} {t l9 : SB} {O : OB} {b : Int64} :
    Ev l G 12 0 0 mX8_countRegions [.ref (A 11 0), .long b] (hC h A (M, N, c, q, H, L, R, t, l9, O)) (RtX (some (.int (unAN b 64))) (fun q' => (hC h A (M, N, c, q', H, L, R, t, l9, O)))) := by
  have e := ev_countByUnions hl (G := G) (h := (hC h A (M, N, c, q, H, L, R, t, l9, O))) (A := A) hC_11 (q := q) (b := b)
  simp only [hC_un] at e
  exact e

theorem wr_peak {l : Launch} {G : GG} (hl : l.stackTraces = false) {A : AD} {h : AH} {M : Nat → MS} {N : Nat × Nat} {c : Nat → Int32} {q : Nat → Nat} {H : HS} {L : LgS} {R : RS} {t l9 : SB} {O : OB} {fm to : Nat} (hf : fm < 64) (ht : to < 64) :
    Ev l G 12 0 0 mX0_findPeak [.ref (A 13 0), .ref (A 0 0), .int (nI fm), .int (nI to)] (hC h A (M, N, c, q, H, L, R, t, l9, O)) (RtX (some (.int (fpJ (M 0) fm to H.2))) (fun H' => (hC h A (M, N, c, q, H', L, R, t, l9, O)))) := by
  have e := ev_findPeak hl (G := G) (h := (hC h A (M, N, c, q, H, L, R, t, l9, O))) (hC_map (g := 0) (by decide)) (S := H) hf ht
  simp only [hC_hp] at e
  exact e

theorem wr_draw {l : Launch} {G : GG} (hl : l.stackTraces = false) {A : AD} {h : AH} {M : Nat → MS} {N : Nat × Nat} {c : Nat → Int32} {q : Nat → Nat} {H : HS} {L : LgS} {R : RS} {t l9 : SB} {O : OB} {k : Nat} (hk1 : 1 ≤ k) (hk : k ≤ 64) :
    Ev l G 12 0 0 mX5_draw [.ref (A 15 0), .ref (A 0 0), .int (nI k)] (hC h A (M, N, c, q, H, L, R, t, l9, O)) (Rt none (hC h A (M, N, c, q, H, (drwS (M 0) k L), R, t, l9, O))) := by
  have e := ev_draw hl (G := G) (h := (hC h A (M, N, c, q, H, L, R, t, l9, O))) (hC_map (g := 0) (by decide)) (S := L) hk1 hk
  simp only [hC_lg] at e
  exact e

theorem wr_small {l : Launch} {G : GG} (hl : l.stackTraces = false) {A : AD} {h : AH} {M : Nat → MS} {N : Nat × Nat} {c : Nat → Int32} {q : Nat → Nat} {H : HS} {L : LgS} {R : RS} {t l9 : SB} {O : OB} (hS : lgOk L) {k : Nat} (hk : k < 64) :
    Ev l G 11 0 0 mX5_smallestHeat [.ref (A 15 0), .int (nI k)] (hC h A (M, N, c, q, H, L, R, t, l9, O)) (Rt (some (.int (smH L k))) (hC h A (M, N, c, q, H, L, R, t, l9, O))) := by
  have e := ev_smallestHeat hl (G := G) (A := A) (h := (hC h A (M, N, c, q, H, L, R, t, l9, O))) hS hk
  simp only [hC_lg] at e
  exact e

theorem wr_great {l : Launch} {G : GG} (hl : l.stackTraces = false) {A : AD} {h : AH} {M : Nat → MS} {N : Nat × Nat} {c : Nat → Int32} {q : Nat → Nat} {H : HS} {L : LgS} {R : RS} {t l9 : SB} {O : OB} (hS : lgOk L) {k : Nat} (hk : k < 64) :
    Ev l G 11 0 0 mX5_greatestHeat [.ref (A 15 0), .int (nI k)] (hC h A (M, N, c, q, H, L, R, t, l9, O)) (Rt (some (.int (grH L k))) (hC h A (M, N, c, q, H, L, R, t, l9, O))) := by
  have e := ev_greatestHeat hl (G := G) (A := A) (h := (hC h A (M, N, c, q, H, L, R, t, l9, O))) hS hk
  simp only [hC_lg] at e
  exact e

theorem wr_spread {l : Launch} {G : GG} (hl : l.stackTraces = false) {A : AD} {h : AH} {M : Nat → MS} {N : Nat × Nat} {c : Nat → Int32} {q : Nat → Nat} {H : HS} {L : LgS} {R : RS} {t l9 : SB} {O : OB} (hS : lgOk L) :
    Ev l G 12 0 0 mX5_spread [.ref (A 15 0)] (hC h A (M, N, c, q, H, L, R, t, l9, O)) (Rt (some (.int (spN L L.2.2.2.2.2))) (hC h A (M, N, c, q, H, L, R, t, l9, O))) := by
  have e := ev_spread hl (G := G) (A := A) (h := (hC h A (M, N, c, q, H, L, R, t, l9, O))) hS
  simp only [hC_lg] at e
  exact e

theorem wr_classOf {l : Launch} {G : GG} (hl : l.stackTraces = false) {A : AD} {h : AH} {M : Nat → MS} {N : Nat × Nat} {c : Nat → Int32} {q : Nat → Nat} {H : HS} {L : LgS} {R : RS} {t l9 : SB} {O : OB} (hS : lgOk L) {x : Int32} :
    Ev l G 10 0 0 mX5_classOfCell [.ref (A 15 0), .int x] (hC h A (M, N, c, q, H, L, R, t, l9, O)) (Rt (some (.int (nI (clN L x L.2.2.2.2.2 0)))) (hC h A (M, N, c, q, H, L, R, t, l9, O))) := by
  have e := ev_classOfCell hl (G := G) (A := A) (h := (hC h A (M, N, c, q, H, L, R, t, l9, O))) hS (c := x)
  simp only [hC_lg] at e
  exact e

theorem wr_table {l : Launch} {G : GG} (hl : l.stackTraces = false) {A : AD} {h : AH} {M : Nat → MS} {N : Nat × Nat} {c : Nat → Int32} {q : Nat → Nat} {H : HS} {L : LgS} {R : RS} {t l9 : SB} {O : OB} {k : Nat} (hk1 : 1 ≤ k) (hk : k ≤ 6) :
    Ev l G 12 0 0 mX5_findSpreadByTable [.ref (A 15 0), .ref (A 0 0), .int (nI k)] (hC h A (M, N, c, q, H, L, R, t, l9, O)) (Rt (some (.int (tabT (rdS (M 0) L 64) k k (rdS (M 0) L 64).2.2.2.2.1))) (hC h A (M, N, c, q, H, (tabS (M 0) k L), R, t, l9, O))) := by
  have e := ev_findSpreadByTable hl (G := G) (h := (hC h A (M, N, c, q, H, L, R, t, l9, O))) (hC_map (g := 0) (by decide)) (S := L) hk1 hk
  simp only [hC_lg] at e
  exact e

theorem wr_copy {l : Launch} {G : GG} (hl : l.stackTraces = false) {A : AD} {h : AH} {M : Nat → MS} {N : Nat × Nat} {c : Nat → Int32} {q : Nat → Nat} {H : HS} {L : LgS} {R : RS} {t l9 : SB} {O : OB} {g g2 : Nat} (hg : g < 12) (hg2 : g2 < 12) (hne : g2 ≠ g) (hG : gOk (M g2)) :
    Ev l G 10 0 0 mX3_copyFrom [.ref (A 0 g), .ref (A 0 g2)] (hC h A (M, N, c, q, H, L, R, t, l9, O)) (Rt none (hC h A (va_up M g (M g2), N, c, q, H, L, R, t, l9, O))) := by
  have e := ev_copyFrom hl (G := G) (h := (hC h A (M, N, c, q, H, L, R, t, l9, O))) hne (hC_map hg) (hC_map hg2) hG.fit
  simp only [hC_set hg] at e
  exact e

theorem wr_ticks {l : Launch} {G : GG} (hl : l.stackTraces = false) {A : AD} {h : AH} {M : Nat → MS} {N : Nat × Nat} {c : Nat → Int32} {q : Nat → Nat} {H : HS} {L : LgS} {R : RS} {t l9 : SB} {O : OB} {g : Nat} (hg : g < 12) {n : Nat} (hn : n ≤ 20) :
    Ev l G 13 0 0 mX7_letTicksPass [.ref (A 9 0), .ref (A 0 g), .int (nI n)] (hC h A (M, N, c, q, H, L, R, t, l9, O)) (RtX (some (.int (ticksR n (M g)))) (fun c' => (hC h A (va_up M g (endM (ticksM n (M g)) (nI n) (ticksR n (M g))), N, c', q, H, L, R, t, l9, O)))) := by
  have e := ev_letTicksPass hl (G := G) (A := A) (h := (hC h A (M, N, c, q, H, L, R, t, l9, O))) hC_9 (g := g) (m := M g) (c := c) hn
  simp only [hC_tk hg, va_self] at e
  exact e

theorem wr_keep {l : Launch} {G : GG} (hl : l.stackTraces = false) {A : AD} {h : AH} {M : Nat → MS} {N : Nat × Nat} {c : Nat → Int32} {q : Nat → Nat} {H : HS} {L : LgS} {R : RS} {t l9 : SB} {O : OB} {g : Nat} (hg : g < 4) (hn : N.1 < 8) (hk : N.2 < 9) (hG : gOk (M g)) :
    Ev l G 11 0 0 mX4_keep [.ref (A 7 0), .ref (A 0 g)] (hC h A (M, N, c, q, H, L, R, t, l9, O)) (Rt none (hC h A (va_up M (4 + N.1) (M g), ((N.1 + 1) % 8, min (N.2 + 1) 8), c, q, H, L, R, t, l9, O))) := by
  have e := ev_keep hl (G := G) (h := (hC h A (M, N, c, q, H, L, R, t, l9, O))) hC_7 hC_8 hg hn hk (hC_map (by omega)) (hC_map (by omega)) hG.fit
  simp only [hC_set (show 4 + N.1 < 12 by omega), hC_h] at e
  exact e

theorem wr_takeBack {l : Launch} {G : GG} (hl : l.stackTraces = false) {A : AD} {h : AH} {M : Nat → MS} {N : Nat × Nat} {c : Nat → Int32} {q : Nat → Nat} {H : HS} {L : LgS} {R : RS} {t l9 : SB} {O : OB} {k : Nat} (hk9 : N.2 = k + 1) (hn : N.1 < 8) (hk : k < 8) (hG : gOk (M (4 + (N.1 + 7) % 8))) :
    Ev l G 11 0 0 mX4_takeBack [.ref (A 7 0), .ref (A 0 0)] (hC h A (M, N, c, q, H, L, R, t, l9, O)) (Rt none (hC h A (va_up M 0 (M (4 + (N.1 + 7) % 8)), ((N.1 + 7) % 8, k), c, q, H, L, R, t, l9, O))) := by
  have e := ev_takeBack hl (G := G) (h := (hC h A (M, N, c, q, H, L, R, t, l9, O))) hC_7 hC_8 (g := 0) (by decide) hn hk9 hk (hC_map (by decide)) (hC_map (by omega)) hG.fit
  simp only [hC_h, hC_set (show 0 < 12 by decide)] at e
  exact e

theorem wr_forget {l : Launch} {G : GG} (hl : l.stackTraces = false) {A : AD} {h : AH} {M : Nat → MS} {N : Nat × Nat} {c : Nat → Int32} {q : Nat → Nat} {H : HS} {L : LgS} {R : RS} {t l9 : SB} {O : OB}  :
    Ev l G 10 0 0 mX4_forget [.ref (A 7 0)] (hC h A (M, N, c, q, H, L, R, t, l9, O)) (Rt none (hC h A (M, (N.1, 0), c, q, H, L, R, t, l9, O))) := by
  have e := ev_forget hl (G := G) (h := (hC h A (M, N, c, q, H, L, R, t, l9, O))) hC_7 hC_8
  simp only [hC_h] at e
  exact e

theorem wr_lSet0 {l : Launch} {G : GG} (hl : l.stackTraces = false) {A : AD} {h : AH} {M : Nat → MS} {N : Nat × Nat} {c : Nat → Int32} {q : Nat → Nat} {H : HS} {L : LgS} {R : RS} {t l9 : SB} {O : OB} {T : TX} (hB : isTx l9 T.1 T.2) :
    Ev l G 31 1 142 mJ4_setLength_d00df [.ref (A 22 1), .int (nI 0)] (hC h A (M, N, c, q, H, L, R, t, l9, O)) (RtX none (fun x : {B' : SB // isTx B' T.1 0} => (hC h A (M, N, c, q, H, L, R, t, x.1, O)))) := by
  obtain ⟨hB1, hB2, hB3, hB4, hB5⟩ := id hB
  have e := ev_setLength hl (G := G) (A := A) (g := 1) (h := (hC h A (M, N, c, q, H, L, R, t, l9, O))) (a := l9.1) (c := l9.2.1) (n := T.2) (f := l9.2.2.1) (ml := l9.2.2.2.2) (t := T.1) hB2 hB3 hB4 hB5
  have e9 : (l9.1, l9.2.1, l9.2.2.1, T.2, l9.2.2.2.2) = l9 := by rw [← hB1]
  rw [e9] at e
  simp only [hC_sb1] at e
  exact e

theorem wr_lApC {l : Launch} {G : GG} (hl : l.stackTraces = false) {A : AD} {h : AH} {M : Nat → MS} {N : Nat × Nat} {c : Nat → Int32} {q : Nat → Nat} {H : HS} {L : LgS} {R : RS} {t l9 : SB} {O : OB} {T : TX} (hB : isTx l9 T.1 T.2) {w : Nat} (hw : w < 256) (h142 : T.2 + 1 ≤ 142) :
    Ev l G 17 1 142 mJ4_append_cf468 [.ref (A 22 1), .int (nI w)] (hC h A (M, N, c, q, H, L, R, t, l9, O)) (RtX (some (.ref (A 22 1))) (fun x : {B' : SB // isTx B' (sb_cat T.1 T.2 (fun _ => w)) (T.2 + 1)} => (hC h A (M, N, c, q, H, L, R, t, x.1, O)))) := by
  obtain ⟨hB1, hB2, hB3, hB4, hB5⟩ := id hB
  have e := ev_appendC hl (G := G) (A := A) (g := 1) (h := (hC h A (M, N, c, q, H, L, R, t, l9, O))) (a := l9.1) (c := l9.2.1) (n := T.2) (f := l9.2.2.1) (ml := l9.2.2.2.2) (t := T.1) hB2 hB3 hB4 hB5 hw h142
  have e9 : (l9.1, l9.2.1, l9.2.2.1, T.2, l9.2.2.2.2) = l9 := by rw [← hB1]
  rw [e9] at e
  simp only [hC_sb1] at e
  exact e

theorem wr_lApI {l : Launch} {G : GG} (hl : l.stackTraces = false) {A : AD} {h : AH} {M : Nat → MS} {N : Nat × Nat} {c : Nat → Int32} {q : Nat → Nat} {H : HS} {L : LgS} {R : RS} {t l9 : SB} {O : OB} {T : TX} (hB : isTx l9 T.1 T.2) {w : Nat} (hw : w < 1000000000) (h142 : T.2 + sb_dg w ≤ 142) :
    Ev l G 15 1 142 mJ4_append_bf812 [.ref (A 22 1), .int (nI w)] (hC h A (M, N, c, q, H, L, R, t, l9, O)) (RtX (some (.ref (A 22 1))) (fun x : {B' : SB // isTx B' (sb_cat T.1 T.2 (sb_dec w)) (T.2 + sb_dg w)} => (hC h A (M, N, c, q, H, L, R, t, x.1, O)))) := by
  obtain ⟨hB1, hB2, hB3, hB4, hB5⟩ := id hB
  have e := ev_appendI hl (G := G) (A := A) (g := 1) (h := (hC h A (M, N, c, q, H, L, R, t, l9, O))) (a := l9.1) (c := l9.2.1) (n := T.2) (f := l9.2.2.1) (ml := l9.2.2.2.2) (t := T.1) hB2 hB3 hB4 hB5 hw h142
  have e9 : (l9.1, l9.2.1, l9.2.2.1, T.2, l9.2.2.2.2) = l9 := by rw [← hB1]
  rw [e9] at e
  simp only [hC_sb1] at e
  exact e

theorem wr_lLen {l : Launch} {G : GG} (hl : l.stackTraces = false) {A : AD} {h : AH} {M : Nat → MS} {N : Nat × Nat} {c : Nat → Int32} {q : Nat → Nat} {H : HS} {L : LgS} {R : RS} {t l9 : SB} {O : OB} {T : TX} (hB : isTx l9 T.1 T.2) :
    Ev l G 11 0 0 mJ4_length_8abf5 [.ref (A 22 1)] (hC h A (M, N, c, q, H, L, R, t, l9, O)) (Rt (some (.int (nI T.2))) (hC h A (M, N, c, q, H, L, R, t, l9, O))) := by
  have e := ev_length hl (G := G) (A := A) (g := 1) (h := (hC h A (M, N, c, q, H, L, R, t, l9, O))) (B := l9)
  rw [hB.1] at e
  simp only [hC_sb1] at e
  exact e

theorem wr_lChar {l : Launch} {G : GG} (hl : l.stackTraces = false) {A : AD} {h : AH} {M : Nat → MS} {N : Nat × Nat} {c : Nat → Int32} {q : Nat → Nat} {H : HS} {L : LgS} {R : RS} {t l9 : SB} {O : OB} {T : TX} (hB : isTx l9 T.1 T.2) {i : Nat} (hi : i < T.2) :
    Ev l G 13 0 0 mJ4_charAt_5068e [.ref (A 22 1), .int (nI i)] (hC h A (M, N, c, q, H, L, R, t, l9, O)) (Rt (some (.int (nI (T.1 i)))) (hC h A (M, N, c, q, H, L, R, t, l9, O))) := by
  obtain ⟨hB1, hB2, hB3, hB4, hB5⟩ := id hB
  have e := ev_charAt hl (G := G) (A := A) (g := 1) (h := (hC h A (M, N, c, q, H, L, R, t, l9, O))) (a := l9.1) (c := l9.2.1) (n := T.2) (f := l9.2.2.1) (ml := l9.2.2.2.2) (i := i) hB2 (by unfold cOk at hB3; omega) hi (hB4 i hi).1 (hB4 i hi).2
  have e9 : (l9.1, l9.2.1, l9.2.2.1, T.2, l9.2.2.2.2) = l9 := by rw [← hB1]
  rw [e9] at e
  simp only [hC_sb1] at e
  exact e

theorem wr_readText {l : Launch} {G : GG} (hl : l.stackTraces = false) {A : AD} {h : AH} {M : Nat → MS} {N : Nat × Nat} {c : Nat → Int32} {q : Nat → Nat} {H : HS} {L : LgS} {R : RS} {t l9 : SB} {O : OB} {T : TX} (hT : tOk T) (hB : isTx t T.1 T.2) :
    Ev l G 18 0 0 mX2_readText [.ref (A 21 0)] (hC h A (M, N, c, q, H, L, R, t, l9, O)) (Rt (some (.int (if (rTxt T 10 0 0 R.2.2).1 = true then 1 else 0))) (hC h A (M, N, c, q, H, L, (rTxt T 10 0 0 R.2.2).2, t, l9, O))) := by
  have e := ev_readText hl (G := G) (A := A) (h := (hC h A (M, N, c, q, H, L, R, t, l9, O))) hT hB (n := R.1) (p := R.2.1) (K := R.2.2)
  simp only [hC_rd] at e
  exact e

theorem wr_isFull {l : Launch} {G : GG} (hl : l.stackTraces = false) {A : AD} {h : AH} {M : Nat → MS} {N : Nat × Nat} {c : Nat → Int32} {q : Nat → Nat} {H : HS} {L : LgS} {R : RS} {t l9 : SB} {O : OB} {T : TX} (hB : isTx t T.1 T.2) :
    Ev l G 12 0 0 mX2_isFull [.ref (A 21 0)] (hC h A (M, N, c, q, H, L, R, t, l9, O)) (Rt (some (.int (if 60 ≤ T.2 then 1 else 0))) (hC h A (M, N, c, q, H, L, R, t, l9, O))) := by
  have e := ev_isFull hl (G := G) (A := A) (h := (hC h A (M, N, c, q, H, L, R, t, l9, O))) (S := R) hB
  simp only [hC_rd] at e
  exact e

theorem wr_addC {l : Launch} {G : GG} (hl : l.stackTraces = false) {A : AD} {h : AH} {M : Nat → MS} {N : Nat × Nat} {c : Nat → Int32} {q : Nat → Nat} {H : HS} {L : LgS} {R : RS} {t l9 : SB} {O : OB} {T : TX} (hB : isTx t T.1 T.2) {w : Nat} (hw : w < 256) (hn : T.2 + 1 ≤ 142) :
    Ev l G 18 1 142 mX2_addCharacter [.ref (A 21 0), .int (nI w)] (hC h A (M, N, c, q, H, L, R, t, l9, O)) (RtX (some (.int (nI (T.2 + 1)))) (fun x : {B' : SB // isTx B' (sb_cat T.1 T.2 (fun _ => w)) (T.2 + 1)} => (hC h A (M, N, c, q, H, L, R, x.1, l9, O)))) := by
  have e := ev_addCharacter hl (G := G) (A := A) (h := (hC h A (M, N, c, q, H, L, R, t, l9, O))) (S := R) hB hw hn
  simp only [hC_rd] at e
  exact e

theorem wr_clear {l : Launch} {G : GG} (hl : l.stackTraces = false) {A : AD} {h : AH} {M : Nat → MS} {N : Nat × Nat} {c : Nat → Int32} {q : Nat → Nat} {H : HS} {L : LgS} {R : RS} {t l9 : SB} {O : OB} {T : TX} (hB : isTx t T.1 T.2) :
    Ev l G 32 1 142 mX2_clear [.ref (A 21 0)] (hC h A (M, N, c, q, H, L, R, t, l9, O)) (RtX none (fun x : {B' : SB // isTx B' T.1 0} => (hC h A (M, N, c, q, H, L, R, x.1, l9, O)))) := by
  have e := ev_clear hl (G := G) (A := A) (h := (hC h A (M, N, c, q, H, L, R, t, l9, O))) (S := R) hB
  simp only [hC_rd] at e
  exact e

theorem wr_pos {l : Launch} {G : GG} (hl : l.stackTraces = false) {A : AD} {h : AH} {M : Nat → MS} {N : Nat × Nat} {c : Nat → Int32} {q : Nat → Nat} {H : HS} {L : LgS} {R : RS} {t l9 : SB} {O : OB}  :
    Ev l G 10 0 0 mX2_position [.ref (A 21 0)] (hC h A (M, N, c, q, H, L, R, t, l9, O)) (Rt (some (.int (nI R.2.1))) (hC h A (M, N, c, q, H, L, R, t, l9, O))) := by
  have e := ev_position hl (G := G) (A := A) (h := (hC h A (M, N, c, q, H, L, R, t, l9, O))) (S := R) (B := t)
  simp only [hC_rd] at e
  exact e

theorem wr_cnt {l : Launch} {G : GG} (hl : l.stackTraces = false) {A : AD} {h : AH} {M : Nat → MS} {N : Nat × Nat} {c : Nat → Int32} {q : Nat → Nat} {H : HS} {L : LgS} {R : RS} {t l9 : SB} {O : OB}  :
    Ev l G 10 0 0 mX2_commandCount [.ref (A 21 0)] (hC h A (M, N, c, q, H, L, R, t, l9, O)) (Rt (some (.int (nI R.1))) (hC h A (M, N, c, q, H, L, R, t, l9, O))) := by
  have e := ev_commandCount hl (G := G) (A := A) (h := (hC h A (M, N, c, q, H, L, R, t, l9, O))) (S := R) (B := t)
  simp only [hC_rd] at e
  exact e

theorem wr_cmdAt {l : Launch} {G : GG} (hl : l.stackTraces = false) {A : AD} {h : AH} {M : Nat → MS} {N : Nat × Nat} {c : Nat → Int32} {q : Nat → Nat} {H : HS} {L : LgS} {R : RS} {t l9 : SB} {O : OB} {i : Nat} (hi : i < 10) :
    Ev l G 10 0 0 mX2_commandAt [.ref (A 21 0), .int (nI i)] (hC h A (M, N, c, q, H, L, R, t, l9, O)) (Rt (some (.ref (A 25 i))) (hC h A (M, N, c, q, H, L, R, t, l9, O))) := by
  have e := ev_commandAt hl (G := G) (A := A) (h := (hC h A (M, N, c, q, H, L, R, t, l9, O))) (S := R) (B := t) hi
  simp only [hC_rd] at e
  exact e

