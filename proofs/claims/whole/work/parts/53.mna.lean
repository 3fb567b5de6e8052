/-! A table of rows made at once (by wip/whole/gen/m43.py). -/
/-- the heap with a table of 7 rows of 65 -/
def mnH (h : AH) (q : Nat) (r : Nat → Nat) : AH := fun s g => if s = 19 ∧ g = 0 then some (q, .inl (8, 7, .inr (.inr (.inr (.inr (fun i => some (r i))))))) else if s = 20 ∧ g < 7 then some (r g, .inl (0, 65, .inl (fun _ => 0))) else h s g
theorem vpq_congr {cA : ClassId} {n : Nat} {f f' : Nat → Option Nat} (hf : ∀ i, i < n → f i = f' i) : vp_cell cA (n, .inr (.inr (.inr (.inr f)))) = vp_cell cA (n, .inr (.inr (.inr (.inr f')))) := by
  rw [vp_cell_q, vp_cell_q]
  unfold arrV
  congr 1
  apply Array.ext
  · simp
  · intro i hi1 hi2
    simp only [Array.getElem_ofFn]
    rw [hf i (by simpa using hi1)]
theorem mn_outer (c : ClassId) (N h0 : Nat) : ∀ i : Nat, Jvm.Free.Multi.outerC c N h0 i = arrV c N (fun j => va_rf (if j < i then some (h0 + 1 + j) else none))
  | 0 => by
    show ({ cls := c, slots := Array.replicate N .null, vm := .none } : Cell) = _
    rw [arrV_new]
    refine congrArg (arrV c N) (funext fun j => ?_)
    simp [va_rf]
  | i + 1 => by
    show (Jvm.Free.Multi.outerC c N h0 i).setSlot i (.ref (h0 + 1 + i)) = _
    rw [mn_outer c N h0 i, arrV_store]
    refine congrArg (arrV c N) (funext fun j => ?_)
    by_cases e : j = i
    · subst e
      simp [updV, va_rf]
    · by_cases h : j < i
      · simp [updV, e, h, Nat.lt_succ_of_lt h]
      · simp [updV, e, h, show ¬ j < i + 1 by omega]
set_option maxRecDepth 100000 in
theorem g_mna {l : Launch} {G : GG} {M : MD} {d kc ks pc : Nat} {P : Post} {L : List (Option Value)} {st : List Value} {h : AH} {idx : Nat} (hd : decode M.2.1 pc = .ok (.multianewarray idx 2, 4)) (hm : Cond.classLink M.1.cls idx "[[I" ∈ lw_tbl) (ha : Cond.arrayClass .int ∈ lw_tbl)
    (kk : ∀ q r, (∀ i, 7 ≤ i → r i = 0) → Go l G M d kc ks P (pc + 4) L (.ref q :: st) (mnH h q r)) : Go l G M d (kc + 8) (ks + 462) P pc L (.int 65 :: .int 7 :: st) h := by
  intro p e R s m args below meth c H locs cells slots mc ms ls F h1 h2 h3 h4 hE hS hL
  have hCx := F.cx
  have hb := hCx.base
  have e7 : (7 : Int32).toNatClampNeg = 7 := by decide
  have e65 : (65 : Int32).toNatClampNeg = 65 := by decide
  intro T hT Xs
  have hTs : T.heap.size = H.size := by rw [hT]
  obtain ⟨vm₁, cA, comp, -, fA, fC, hO, -, X', step⟩ := Xs.multianewarray2F (ty := .int) F.1 F.own (hCx.word hm rfl args) hCx.2.2.2.1.2.2 (hCx.word ha rfl args) (g := F0 m pc ls (.int 65 :: .int 7 :: st)) rfl (by rw [F.2.1]; exact hd) rfl (by decide) (by decide) (by rw [e7]; decide) (by rw [e65]; decide) (by rw [e65]; decide) (by decide) (by decide) (by rw [e7]; omega) (by rw [e7, e65]; omega)
  have hcA : cA = gA G 8 := Option.some.inj (fA.symm.trans (hCx.arr (t := 8) (by decide)).2)
  have hcC : comp = gA G 0 := Option.some.inj (fC.symm.trans (hCx.arr (t := 0) (by decide)).2)
  subst hcA
  subst hcC
  rw [e7, e65] at X' step
  have hTh : (T.setVm vm₁).heap = H := hT
  obtain ⟨f1, f2, -⟩ := Jvm.Free.Multi.fill_facts (T.setVm vm₁) (gA G 8) (gA G 0) 7 65 (defaultValue .int) 7
  have hold : ∀ x : Nat, x < H.size → (Jvm.Free.Multi.fill (T.setVm vm₁) (gA G 8) (gA G 0) 7 65 (defaultValue .int) 7).heap[x]? = H[x]? := fun x hx => by
    have := Jvm.Free.Multi.fill_old (T.setVm vm₁) (gA G 8) (gA G 0) 7 65 (defaultValue .int) (a := x) (by rw [hTh]; exact hx) 7
    rw [hTh] at this
    exact this
  have hrow : ∀ j : Nat, j < 7 → (Jvm.Free.Multi.fill (T.setVm vm₁) (gA G 8) (gA G 0) 7 65 (defaultValue .int) 7).heap[H.size + 1 + j]? = some (vp_cell (gA G 0) (65, .inl (fun _ => 0))) := fun j hj => by
    have := Jvm.Free.Multi.fill_inner (T.setVm vm₁) (gA G 8) (gA G 0) 7 65 (defaultValue .int) 7 j hj
    rw [hTh] at this
    rw [this]
    show some ({ cls := gA G 0, slots := Array.replicate 65 (.int 0), vm := .none } : Cell) = some (vp_cell (gA G 0) (65, .inl (fun _ => 0)))
    rw [vp_cell_i, arrV_new]
  rw [hTh] at f1 f2
  obtain ⟨R9, hR, hR0⟩ : ∃ R9 : Nat → Nat, (∀ i, i < 7 → R9 i = H.size + 1 + i) ∧ ∀ i, 7 ≤ i → R9 i = 0 := ⟨fun i => if i < 7 then H.size + 1 + i else 0, fun i hi => if_pos hi, fun i hi => if_neg (by omega)⟩
  have hout : (Jvm.Free.Multi.fill (T.setVm vm₁) (gA G 8) (gA G 0) 7 65 (defaultValue .int) 7).heap[H.size]? = some (vp_cell (gA G 8) (7, .inr (.inr (.inr (.inr (fun i => some (R9 i))))))) := by
    rw [f2, mn_outer, ← vp_cell_q]
    exact congrArg some (vpq_congr (fun i hi => (if_pos hi).trans (congrArg some (hR i hi).symm)))
  generalize Jvm.Free.Multi.fill (T.setVm vm₁) (gA G 8) (gA G 0) 7 65 (defaultValue .int) 7 = Fs at X' step f1 hold hrow hout
  have key : ∀ s' g' a' c', mnH h H.size R9 s' g' = some (a', c') → (s' = 19 ∧ g' = 0 ∧ a' = H.size ∧ c' = .inl (8, 7, .inr (.inr (.inr (.inr (fun i => some (R9 i))))))) ∨ (s' = 20 ∧ g' < 7 ∧ a' = H.size + 1 + g' ∧ c' = .inl (0, 65, .inl (fun _ => 0))) ∨ (a' < H.size ∧ h s' g' = some (a', c')) := by
    intro s' g' a' c' hq
    unfold mnH at hq
    split at hq
    · next q => cases hq; exact Or.inl ⟨q.1, q.2, rfl, rfl⟩
    · split at hq
      · next q => cases hq; exact Or.inr (Or.inl ⟨q.1, q.2, hR _ q.2, rfl⟩)
      · exact Or.inr (Or.inr ⟨hE.lt hq, hq⟩)
  have hE' : Emb G (mnH h H.size R9) Fs.heap := by
    refine ⟨fun s' g' a' c' hq => ?_, fun s1 g1 s2 g2 a' c' c'' q1 q2 => ?_⟩
    · rcases key _ _ _ _ hq with ⟨-, -, rfl, rfl⟩ | ⟨-, hg, rfl, rfl⟩ | ⟨hn, hq⟩
      · exact ⟨hout, Nat.le_trans hb hS.1⟩
      · exact ⟨hrow g' hg, by show gB G ≤ H.size + 1 + g'; have := Nat.le_trans hb hS.1; omega⟩
      · exact ⟨(hE.1 _ _ _ _ hq).1.kept (hold a' hn), (hE.1 _ _ _ _ hq).2⟩
    · rcases key _ _ _ _ q1 with ⟨a1, a2, a3, -⟩ | ⟨a1, a2, a3, -⟩ | ⟨a1, a2⟩ <;> rcases key _ _ _ _ q2 with ⟨b1, b2, b3, -⟩ | ⟨b1, b2, b3, -⟩ | ⟨b1, b2⟩
      · exact ⟨by omega, by omega⟩
      · omega
      · omega
      · omega
      · exact ⟨by omega, by omega⟩
      · omega
      · omega
      · omega
      · exact hE.2 _ _ _ _ _ _ _ a2 b2
  obtain ⟨t, a1, b1⟩ := kk H.size R9 hR0 _ _ _ _ _ _ _ _ _ _ _ _ _ mc ms _ F (by omega) (by omega) (by omega) (by omega) hE' ⟨by rw [f1]; have := hS.1; omega, fun x g1 g2 => (hold x (Nat.lt_of_lt_of_le g1 hS.1)).trans (hS.2.1 x g1 g2), hS.2.2⟩ hL Fs rfl X'
  refine ⟨t, step t ?_, b1⟩
  rw [hTs]
  exact a1
