/-! A call in both: behind the wrapper stands what the model's method will do. -/
section JT9
def gdI (b : Int32) (fo : Nat → Int64) (_ : Nat → UInt64) : Prop := fo 0 = b.toInt64
def gdL (b : Int64) (fo : Nat → Int64) (_ : Nat → UInt64) : Prop := fo 0 = b
def gdD (b : UInt64) (_ : Nat → Int64) (fd : Nat → UInt64) : Prop := fd 0 = b
def gdF (b : UInt32) (_ : Nat → Int64) (fd : Nat → UInt64) : Prop := fd 0 = FP.f2d b ∧ vf_n64 (FP.f2d b)
/-- what the model's method comes to: its answer fits, the relation goes on -/
def Jm {β : Type} (w : β → Value) (gd : β → (Nat → Int64) → (Nat → UInt64) → Prop) (A : AD) (n : Nat) (k : Int32) (X' : CL) (fo : Nat → Int64) (fd : Nat → UInt64) (Pm : Post) : Prop :=
  ∀ o2 h3, Pm o2 h3 → ∃ (b : β) (Y' : YS), o2 = .inl (some (w b)) ∧ h3 = LW A X' Y' fo fd ∧ Y'.2 11 = k ∧ (k = 0 → gd b fo fd) ∧ RelX (n + 1) X' Y'
def Jg {β : Type} (w : β → Value) (gd : β → (Nat → Int64) → (Nat → UInt64) → Prop) (l : Launch) (G : GG) (A : AD) (n dm : Nat) (Mm : MD) (am : List Value) (Y : YS) : Post := fun o h2 =>
  ∃ (k : Int32) (X' : CL) (fo : Nat → Int64) (fd : Nat → UInt64), o = .inl (some (.int k)) ∧ h2 = LW A X' Y fo fd ∧ ∃ Pm : Post, Ev l G dm 0 0 Mm am (LW A X' Y fo fd) Pm ∧ Jm w gd A n k X' fo fd Pm
def Jw {β : Type} (w : β → Value) (gd : β → (Nat → Int64) → (Nat → UInt64) → Prop) (l : Launch) (G : GG) (A : AD) (n dw : Nat) (Mw : MD) (aw : List Value) (dm : Nat) (Mm : MD) (am : List Value) (X : CL) (Y : YS) (fo : Nat → Int64) (fd : Nat → UInt64) : Prop :=
  ∃ mc ms, mc ≤ 25 ∧ ms ≤ 3550 ∧ Ev l G dw mc ms Mw aw (LW A X Y fo fd) (Jg w gd l G A n dm Mm am Y)
abbrev Jt := @Jw Int32 Value.int gdI
abbrev JtL := @Jw Int64 Value.long gdL
abbrev JtD := @Jw UInt64 Value.double gdD
abbrev JtF := @Jw UInt32 Value.float gdF
section
variable {l : Launch} {G : GG} {A : AD} {n dm : Nat} {Mm : MD} {am : List Value} {Y : YS} {fo : Nat → Int64} {fd : Nat → UInt64} {P9 : Post} {X' : CL}
section
variable {β : Type} {w : β → Value} {gd : β → (Nat → Int64) → (Nat → UInt64) → Prop}
theorem jg_rt {Y' : YS} {k : Int32} {b : β} (hm : Ev l G dm 0 0 Mm am (mo (hC (oH A fo fd) A X') A Y) (Rt (some (w b)) (mo (hC (oH A fo fd) A X') A Y'))) (h11 : Y'.2 11 = k) (hb : k = 0 → gd b fo fd) (hR : RelX (n + 1) X' Y') : Jg w gd l G A n dm Mm am Y (.inl (some (.int k))) (LW A X' Y fo fd) := by
  refine ⟨k, X', fo, fd, rfl, rfl, Rt (some (w b)) (mo (hC (oH A fo fd) A X') A Y'), by rw [LW_mo]; exact hm, ?_⟩
  rintro o2 h3 ⟨rfl, rfl⟩
  exact ⟨b, Y', rfl, LW_mo.symm, h11, hb, hR⟩
theorem jg_rtx {α : Type} {F : α → YS} {k : Int32} {b : β} (hm : Ev l G dm 0 0 Mm am (mo (hC (oH A fo fd) A X') A Y) (RtX (some (w b)) (fun x => mo (hC (oH A fo fd) A X') A (F x)))) (h11 : ∀ x, (F x).2 11 = k) (hb : k = 0 → gd b fo fd) (hR : ∀ x, RelX (n + 1) X' (F x)) : Jg w gd l G A n dm Mm am Y (.inl (some (.int k))) (LW A X' Y fo fd) := by
  refine ⟨k, X', fo, fd, rfl, rfl, RtX (some (w b)) (fun x => mo (hC (oH A fo fd) A X') A (F x)), by rw [LW_mo]; exact hm, ?_⟩
  rintro o2 h3 ⟨rfl, x, rfl⟩
  exact ⟨b, F x, rfl, LW_mo.symm, h11 x, hb, hR x⟩
end
abbrev Jp := @Jg Int32 Value.int gdI
theorem jp_ok {Y' : YS} {z b : Int32} (hm : Ev l G dm 0 0 Mm am (mo (hC (oH A (va_up fo 0 z.toInt64) fd) A X') A Y) (Rt (some (.int b)) (mo (hC (oH A (va_up fo 0 z.toInt64) fd) A X') A Y'))) (h11 : Y'.2 11 = 0) (hb : z = b) (hR : RelX (n + 1) X' Y') : Jp l G A n dm Mm am Y (.inl (some (.int 0))) (LW A X' Y (va_up fo 0 z.toInt64) fd) :=
  jg_rt hm h11 (fun _ => by show va_up fo 0 z.toInt64 0 = _; rw [va_up_self, hb]) hR
theorem jp_okx {α : Type} {F : α → YS} {z b : Int32} (hm : Ev l G dm 0 0 Mm am (mo (hC (oH A (va_up fo 0 z.toInt64) fd) A X') A Y) (RtX (some (.int b)) (fun x => mo (hC (oH A (va_up fo 0 z.toInt64) fd) A X') A (F x)))) (h11 : ∀ x, (F x).2 11 = 0) (hb : z = b) (hR : ∀ x, RelX (n + 1) X' (F x)) : Jp l G A n dm Mm am Y (.inl (some (.int 0))) (LW A X' Y (va_up fo 0 z.toInt64) fd) :=
  jg_rtx hm h11 (fun _ => by show va_up fo 0 z.toInt64 0 = _; rw [va_up_self, hb]) hR
theorem jp_no {Y' : YS} {k b : Int32} (hk : ¬ k = 0) (hm : Ev l G dm 0 0 Mm am (mo (hC (oH A fo fd) A X') A Y) (Rt (some (.int b)) (mo (hC (oH A fo fd) A X') A Y'))) (h11 : Y'.2 11 = k) (hR : RelX (n + 1) X' Y') : Jp l G A n dm Mm am Y (.inl (some (.int k))) (LW A X' Y fo fd) :=
  jg_rt hm h11 (fun q => absurd q hk) hR
theorem jp_nox {α : Type} {F : α → YS} {k b : Int32} (hk : ¬ k = 0) (hm : Ev l G dm 0 0 Mm am (mo (hC (oH A fo fd) A X') A Y) (RtX (some (.int b)) (fun x => mo (hC (oH A fo fd) A X') A (F x)))) (h11 : ∀ x, (F x).2 11 = k) (hR : ∀ x, RelX (n + 1) X' (F x)) : Jp l G A n dm Mm am Y (.inl (some (.int k))) (LW A X' Y fo fd) :=
  jg_rtx hm h11 (fun q => absurd q hk) hR
theorem ok_rt {z : Int32} (h : P9 (.inl (some (.int 0))) (LW A X' Y (va_up fo 0 z.toInt64) fd)) : ∀ v2 h2, Rt (some (.int z)) (LW A X' Y fo fd) (.inl v2) h2 → ∃ (z : Int32) (f : Nat → Int64), v2 = some (.int z) ∧ h2 60 0 = some (oArr (A 60 0) f) ∧ P9 (.inl (some (.int 0))) (up h2 60 0 (oArr (A 60 0) (va_up f 0 (z.toInt64)))) := by
  rintro v2 h2 ⟨e, rfl⟩
  cases e
  exact ⟨z, fo, rfl, LW_60, by rw [LW_up60]; exact h⟩
theorem ok_rtx {α : Type} {F : α → CL} {z : Int32} (h : ∀ x, P9 (.inl (some (.int 0))) (LW A (F x) Y (va_up fo 0 z.toInt64) fd)) : ∀ v2 h2, RtX (some (.int z)) (fun x => LW A (F x) Y fo fd) (.inl v2) h2 → ∃ (z : Int32) (f : Nat → Int64), v2 = some (.int z) ∧ h2 60 0 = some (oArr (A 60 0) f) ∧ P9 (.inl (some (.int 0))) (up h2 60 0 (oArr (A 60 0) (va_up f 0 (z.toInt64)))) := by
  rintro v2 h2 ⟨e, x, rfl⟩
  cases e
  exact ⟨z, fo, rfl, LW_60, by rw [LW_up60]; exact h x⟩
theorem ok_rtL {z : Int64} (h : P9 (.inl (some (.int 0))) (LW A X' Y (va_up fo 0 z) fd)) : ∀ v2 h2, Rt (some (.long z)) (LW A X' Y fo fd) (.inl v2) h2 → ∃ (z : Int64) (f : Nat → Int64), v2 = some (.long z) ∧ h2 60 0 = some (oArr (A 60 0) f) ∧ P9 (.inl (some (.int 0))) (up h2 60 0 (oArr (A 60 0) (va_up f 0 (z)))) := by
  rintro v2 h2 ⟨e, rfl⟩
  cases e
  exact ⟨z, fo, rfl, LW_60, by rw [LW_up60]; exact h⟩
theorem ok_rtD {z : UInt64} (h : P9 (.inl (some (.int 0))) (LW A X' Y fo (va_up fd 0 z))) : ∀ v2 h2, Rt (some (.double z)) (LW A X' Y fo fd) (.inl v2) h2 → ∃ (z : UInt64) (f : Nat → UInt64), v2 = some (.double z) ∧ h2 61 0 = some (dArr (A 61 0) f) ∧ P9 (.inl (some (.int 0))) (up h2 61 0 (dArr (A 61 0) (va_up f 0 (z)))) := by
  rintro v2 h2 ⟨e, rfl⟩
  cases e
  exact ⟨z, fd, rfl, LW_61, by rw [LW_up61]; exact h⟩
theorem ok_rtF {z : UInt32} (hf : vf_n64 (FP.f2d z)) (h : P9 (.inl (some (.int 0))) (LW A X' Y fo (va_up fd 0 (FP.f2d z)))) : ∀ v2 h2, Rt (some (.float z)) (LW A X' Y fo fd) (.inl v2) h2 → ∃ (z : UInt32) (f : Nat → UInt64), v2 = some (.float z) ∧ vf_n64 (FP.f2d z) ∧ h2 61 0 = some (dArr (A 61 0) f) ∧ P9 (.inl (some (.int 0))) (up h2 61 0 (dArr (A 61 0) (va_up f 0 (FP.f2d z)))) := by
  rintro v2 h2 ⟨e, rfl⟩
  cases e
  exact ⟨z, fd, rfl, hf, LW_61, by rw [LW_up61]; exact h⟩
theorem ok_tr {E : String} {h' : AH} {Q : Option Value → AH → Prop} : ∀ v2 h2, Tr E h' (.inl v2) h2 → Q v2 h2 := by
  rintro v2 h2 ⟨e, -⟩
  cases e
theorem ok_trx {α : Type} {E : String} {F : α → AH} {Q : Option Value → AH → Prop} : ∀ v2 h2, TrX E F (.inl v2) h2 → Q v2 h2 := by
  rintro v2 h2 ⟨e, -⟩
  cases e
theorem ex_rt {v : Option Value} {h' : AH} {Q : String → AH → Prop} : ∀ E h2, Rt v h' (.inr E) h2 → Q E h2 := by
  rintro E h2 ⟨e, -⟩
  cases e
theorem ex_rtx {α : Type} {v : Option Value} {F : α → AH} {Q : String → AH → Prop} : ∀ E h2, RtX v F (.inr E) h2 → Q E h2 := by
  rintro E h2 ⟨e, -⟩
  cases e
theorem ex_tr {E0 : String} {h' : AH} {Q : String → AH → Prop} (h : Q E0 h') : ∀ E h2, Tr E0 h' (.inr E) h2 → Q E h2 := by
  rintro E h2 ⟨e, rfl⟩
  cases e
  exact h
theorem ex_trx {α : Type} {E0 : String} {F : α → AH} {Q : String → AH → Prop} (h : ∀ x, Q E0 (F x)) : ∀ E h2, TrX E0 F (.inr E) h2 → Q E h2 := by
  rintro E h2 ⟨e, x, rfl⟩
  cases e
  exact h x
end
theorem lt_43 {x : Int32} : x < 4 ↔ x ≤ 3 := by
  rw [Int32.lt_iff_toInt_lt, Int32.le_iff_toInt_le]
  show x.toInt < 4 ↔ x.toInt ≤ 3
  omega
theorem side_m {x : Int32} : sideP x ↔ (0 ≤ x ∧ x ≤ 3) := and_congr Iff.rfl lt_43
theorem side_ex {x : Int32} (h : sideP x) : ∃ s, s < 4 ∧ x = nI s := nI_ex (b := 4) (n := 4) rfl (by decide) h.1 h.2
theorem cls_ex {x : Int32} (h : clsP x) : ∃ c, 1 ≤ c ∧ c ≤ 6 ∧ x = nI c := by
  have h1 := Int32.le_iff_toInt_le.mp h.1
  have h2 := Int32.le_iff_toInt_le.mp h.2
  have e1 : (1 : Int32).toInt = 1 := by decide
  have e6 : (6 : Int32).toInt = 6 := by decide
  rw [e1] at h1
  rw [e6] at h2
  refine ⟨x.toNatClampNeg, ?_, ?_, nI_clI (by omega)⟩
  · show 1 ≤ x.toInt.toNat
    omega
  · show x.toInt.toNat ≤ 6
    omega
end JT9
