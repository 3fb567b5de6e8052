/-! The law's walk: what its cases stand on (by wip/whole/gen/m63.py). -/
abbrev mL_law : MD := (yL_law, cL_law, 9, some .boolean, [])
/-- the law's locals at its loop's head -/
abbrev lwL (G : GG) (A : AD) (k : Nat) (v6 v7 v8 : Option Value) : List (Option Value) := [some (.ref (gX G).1), some (.ref (A 6 0)), some (.ref (A 30 0)), some (.ref (A 60 0)), some (.ref (A 61 0)), some (.int (nI (5 * k))), v6, v7, v8]
/-- behind a case -/
def lwN (l : Launch) (G : GG) (A : AD) (k KC KS : Nat) (P : Post) : Prop := ∀ (v6 v7 v8 : Option Value) (X : CL) (Y : YS) (fo : Nat → Int64) (fd : Nat → UInt64), RelX (k + 1) X Y → Go l G mL_law 40 KC KS P 2620 (lwL G A k v6 v7 v8) [] (LW A X Y fo fd)
theorem lw_ixn {k j : Nat} (hk : k < 512) (hj : j < 5) : ix (nI (5 * k) + nI j) (5 * k + j) := by
  rw [show nI (5 * k) + nI j = nI (5 * k + j) from (Int32.ofNat_add _ _).symm]
  exact ix_nI (by omega)
theorem lw_ix1 {k : Nat} (hk : k < 512) : ix (nI (5 * k) + 1) (5 * k + 1) := lw_ixn hk (by decide)
theorem lw_ix2 {k : Nat} (hk : k < 512) : ix (nI (5 * k) + 2) (5 * k + 2) := lw_ixn hk (by decide)
theorem lw_ix3 {k : Nat} (hk : k < 512) : ix (nI (5 * k) + 3) (5 * k + 3) := lw_ixn hk (by decide)
theorem lw_ix4 {k : Nat} (hk : k < 512) : ix (nI (5 * k) + 4) (5 * k + 4) := lw_ixn hk (by decide)
section
variable {l : Launch} {G : GG} {A : AD}
theorem ev_thrownL (hl : l.stackTraces = false) {X : CL} {Y : YS} {fo : Nat → Int64} {fd : Nat → UInt64} : Ev l G 10 0 0 mX10_thrown [.ref (A 30 0)] (LW A X Y fo fd) (Rt (some (.int (Y.2 11))) (LW A X Y fo fd)) := by
  rw [LW_mo]
  exact ev_thrown hl
theorem lwM {d : Nat} {Mm : MD} {am : List Value} {v : Option Value} {X : CL} {Y Y' : YS} {fo : Nat → Int64} {fd : Nat → UInt64} (h : Ev l G d 0 0 Mm am (mo (hC (oH A fo fd) A X) A Y) (Rt v (mo (hC (oH A fo fd) A X) A Y'))) : Ev l G d 0 0 Mm am (LW A X Y fo fd) (Rt v (LW A X Y' fo fd)) := by
  have e1 : LW A X Y fo fd = mo (hC (oH A fo fd) A X) A Y := LW_mo
  have e2 : LW A X Y' fo fd = mo (hC (oH A fo fd) A X) A Y' := LW_mo
  rw [e1, e2]
  exact h
section
variable {β : Type} {w : β → Value} {gd : β → (Nat → Int64) → (Nat → UInt64) → Prop} {n dm : Nat} {Mm : MD} {am : List Value} {Y : YS} {M : MD} {d kc ks KC KS mc ms pc : Nat} {P : Post} {L : List (Option Value)} {rest : List Value}
theorem kr_jw (hc : KC ≤ kc - mc) (hs : KS ≤ ks - ms) (h : ∀ (k0 : Int32) (X2 : CL) (f2 : Nat → Int64) (d2 : Nat → UInt64) (Pm : Post), Ev l G dm 0 0 Mm am (LW A X2 Y f2 d2) Pm → Jm w gd A n k0 X2 f2 d2 Pm → Go l G M d KC KS P pc L (.int k0 :: rest) (LW A X2 Y f2 d2)) : ∀ v2 h2, Jg w gd l G A n dm Mm am Y (.inl v2) h2 → Go l G M d (kc - mc) (ks - ms) P pc L (v2.toList ++ rest) h2 := by
  rintro v2 h2 ⟨k0, X2, f2, d2, e1, rfl, Pm, hM, hJ⟩
  cases e1
  exact Go.wid hc hs (h k0 X2 f2 d2 Pm hM hJ)
theorem kx_jw : ∀ E h2, Jg w gd l G A n dm Mm am Y (.inr E) h2 → GoT l G M d (kc - mc) (ks - ms) P pc L E h2 := by
  rintro E h2 ⟨k0, X2, f2, d2, e1, -⟩
  cases e1
theorem kr_jm {k0 : Int32} {X2 : CL} {f2 : Nat → Int64} {d2 : Nat → UInt64} {Pm : Post} (hJ : Jm w gd A n k0 X2 f2 d2 Pm) (h : ∀ (b : β) (Y2 : YS), Y2.2 11 = k0 → (k0 = 0 → gd b f2 d2) → RelX (n + 1) X2 Y2 → Go l G M d kc ks P pc L (w b :: rest) (LW A X2 Y2 f2 d2)) : ∀ v2 h2, Pm (.inl v2) h2 → Go l G M d (kc - 0) (ks - 0) P pc L (v2.toList ++ rest) h2 := by
  intro v2 h2 q
  obtain ⟨b, Y2, e1, rfl, h11, hb, hR⟩ := hJ _ _ q
  cases e1
  exact h b Y2 h11 hb hR
theorem kx_jm {k0 : Int32} {X2 : CL} {f2 : Nat → Int64} {d2 : Nat → UInt64} {Pm : Post} (hJ : Jm w gd A n k0 X2 f2 d2 Pm) : ∀ E h2, Pm (.inr E) h2 → GoT l G M d (kc - mc) (ks - ms) P pc L E h2 := by
  intro E h2 q
  obtain ⟨b, Y2, e1, -⟩ := hJ _ _ q
  cases e1
end
end
theorem dc_self {x : UInt64} (h : vf_n64 x) : Op.cmpValue (FP.dcmp x x) .l = 0 := by
  have z : ¬ Jvm.Free.Fl.relNe (FP.dcmp x x) = true := fun q => Jvm.Free.Fl.relNe_self.mp q h
  rcases hc : FP.dcmp x x with _ | (_ | _ | _) <;> rw [hc] at z <;> first | rfl | exact absurd rfl z
theorem lw_cons {m : MS} {a : Nat → Nat → Int32} (hm : mR m (a 0)) (ho : aI m) : (sumN m.2.1 64 + sumN m.2.2.1 64 = m.2.2.2.2.2.2.2 - sumN m.2.2.2.2.1 4) ∧ (∀ v, shpP m v) ∧ (∀ f w, w < 64 → fpJ m 0 w f = (tryN m 0 w 64).2) ∧ (¬ openN m.1 64 < 4 → (∀ L, spN (drwS m 2 L) (drwS m 2 L).2.2.2.2.2 = tabT (rdS m (drwS m 2 L) 64) 2 2 (rdS m (drwS m 2 L) 64).2.2.2.2.1) ∧ (∀ L, spN (drwS m 4 L) (drwS m 4 L).2.2.2.2.2 = tabT (rdS m (drwS m 4 L) 64) 4 4 (rdS m (drwS m 4 L) 64).2.2.2.2.1)) := by
  have hb := jo_bn hm ho
  have h64 := jo_le hm
  have key : ∀ c, 1 ≤ c → c ≤ 6 → c ≤ ordM a → ∀ L, spN (drwS m c L) (drwS m c L).2.2.2.2.2 = tabT (rdS m (drwS m c L) 64) c c (rdS m (drwS m c L) 64).2.2.2.2.1 := fun c h1 h6 hc L => by
    obtain ⟨hs, hmk, hlg, -⟩ := drw_R (L := L) hm.he hm.gr hb h1 h6 hc
    exact (sp_eq hs (by omega) hmk hlg).trans (tab_eq hm.he hm.gr hb h1 h6 hc).symm
  refine ⟨aI_sum ho, fun v => shp_all m v, fun f w hw => fp_try (by decide) hw (fun i hi => Int32.le_iff_toInt_le.mpr ((aI_bd ho).1 i hi).1) f, fun h4 => ?_⟩
  rw [jo_ord hm] at h4
  have h4n : 4 ≤ ordM a := by
    rcases Nat.lt_or_ge (ordM a) 4 with q | q
    · exact absurd ((nI_lt' (b := 4) rfl (by omega) (by decide)).mpr q) h4
    · exact q
  exact ⟨key 2 (by decide) (by decide) (by omega), key 4 (by decide) (by decide) (by omega)⟩
