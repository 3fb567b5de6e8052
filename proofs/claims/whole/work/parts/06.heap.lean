/-! ROWS THAT READ AND WRITE THE HEAP, over Go (by wip/whole/gen/heap.py). -/
/-- an index and its number -/
def ix (i : Int32) (j : Nat) : Prop := ¬ i < 0 ∧ i.toNatClampNeg = j
theorem ix_nI {j : Nat} (h : j < 2 ^ 31) : ix (nI j) j := ⟨nI_pos h, nI_clamp h⟩
theorem ix.in {i : Int32} {j n : Nat} (h : ix i j) (hj : j < n) : vp_in i n := fun q => q.elim h.1 (fun z => by rw [h.2] at z; omega)
/-- a class whose objects lie in the heap -/
def clsOk (ci N : Nat) (C : String) (T : u_T) (ty : Nat → FieldType) : Prop :=
  classes[ci]? = some (C, T, N) ∧ (∀ w ∈ u_ws C T N, w ∈ lw_tbl ∧ gw w = true) ∧ (∀ k, k < N → parseFieldDescriptor (T k).2.2.1 = some (ty k)) ∧ ∀ a, a < N → ∀ b, b < N → a ≠ b → (T a).2.1 ≠ (T b).2.1
theorem Emb.put {G : GG} {h : AH} {H H1 : Heap} {s g a : Nat} {c0 c1 : AC} (hE : Emb G h H) (hh : h s g = some (a, c0)) (hat : va_at (gD G) classes (a, gE G c1) H1) (oq : ∀ q : Nat, q ≠ a → H1[q]? = H[q]?) : Emb G (up h s g (a, c1)) H1 := by
  obtain ⟨e1, e2⟩ := hE
  have key : ∀ s' g' a' c', up h s g (a, c1) s' g' = some (a', c') → (s' = s ∧ g' = g ∧ a' = a ∧ c' = c1) ∨ (¬ (s' = s ∧ g' = g) ∧ h s' g' = some (a', c')) := by
    intro s' g' a' c' hq
    simp only [up] at hq
    split at hq
    · split at hq
      · cases hq
        exact Or.inl ⟨by assumption, by assumption, rfl, rfl⟩
      · exact Or.inr ⟨fun z => by have := z.2; contradiction, hq⟩
    · exact Or.inr ⟨fun z => by have := z.1; contradiction, hq⟩
  refine ⟨fun s' g' a' c' hq => ?_, fun s1 g1 s2 g2 a' c' c'' q1 q2 => ?_⟩
  · rcases key _ _ _ _ hq with ⟨-, -, rfl, rfl⟩ | ⟨hn, hq⟩
    · exact ⟨hat, (e1 _ _ _ _ hh).2⟩
    · have hne : a' ≠ a := fun z => hn (e2 _ _ _ _ _ _ _ hq (by rw [z]; exact hh))
      exact ⟨(e1 _ _ _ _ hq).1.kept (oq a' hne), (e1 _ _ _ _ hq).2⟩
  · rcases key _ _ _ _ q1 with ⟨x1, x2, x3, -⟩ | ⟨hn1, q1⟩ <;> rcases key _ _ _ _ q2 with ⟨y1, y2, y3, -⟩ | ⟨hn2, q2⟩
    · exact ⟨x1.trans y1.symm, x2.trans y2.symm⟩
    · rw [x1, x2]; exact e2 _ _ _ _ _ _ _ hh (by rw [← x3]; exact q2)
    · rw [y1, y2]; exact e2 _ _ _ _ _ _ _ (by rw [← y3]; exact q1) hh
    · exact e2 _ _ _ _ _ _ _ q1 q2
theorem Emb.lt {G : GG} {h : AH} {H : Heap} {s g a : Nat} {c : AC} (hE : Emb G h H) (hh : h s g = some (a, c)) : a < H.size := ((hE.1 _ _ _ _ hh).1).lt
theorem Emb.new {G : GG} {h : AH} {H H1 : Heap} {s g a : Nat} {c1 : AC} (hE : Emb G h H) (ha : H.size = a) (hf : fr G a) (hat : va_at (gD G) classes (a, gE G c1) H1) (oq : ∀ q : Nat, q < H.size → H1[q]? = H[q]?) : Emb G (up h s g (a, c1)) H1 := by
  have key : ∀ s' g' a' c', up h s g (a, c1) s' g' = some (a', c') → (s' = s ∧ g' = g ∧ a' = a ∧ c' = c1) ∨ (a' < H.size ∧ h s' g' = some (a', c')) := by
    intro s' g' a' c' hq
    simp only [up] at hq
    split at hq
    · split at hq
      · cases hq
        exact Or.inl ⟨by assumption, by assumption, rfl, rfl⟩
      · exact Or.inr ⟨hE.lt hq, hq⟩
    · exact Or.inr ⟨hE.lt hq, hq⟩
  obtain ⟨e1, e2⟩ := hE
  refine ⟨fun s' g' a' c' hq => ?_, fun s1 g1 s2 g2 a' c' c'' q1 q2 => ?_⟩
  · rcases key _ _ _ _ hq with ⟨-, -, rfl, rfl⟩ | ⟨hn, hq⟩
    · exact ⟨hat, hf⟩
    · exact ⟨(e1 _ _ _ _ hq).1.kept (oq a' hn), (e1 _ _ _ _ hq).2⟩
  · rcases key _ _ _ _ q1 with ⟨x1, x2, x3, -⟩ | ⟨hn1, q1⟩ <;> rcases key _ _ _ _ q2 with ⟨y1, y2, y3, -⟩ | ⟨hn2, q2⟩
    · exact ⟨x1.trans y1.symm, x2.trans y2.symm⟩
    · omega
    · omega
    · exact e2 _ _ _ _ _ _ _ q1 q2
theorem Fx.cx {l : Launch} {G : GG} {M : MD} {d : Nat} {p : Program} {R : Room} {s : State} {m : MethodId} {meth : Method} {c : Code} (F : Fx l G M d p R s m meth c) : Cx G s := F.2.2.2.2.2.2.2.2.2.2.1
theorem Fx.own {l : Launch} {G : GG} {M : MD} {d : Nat} {p : Program} {R : Room} {s : State} {m : MethodId} {meth : Method} {c : Code} (F : Fx l G M d p R s m meth c) : s.vm.findClass M.1.cls = some m.cls := F.2.2.2.2.2.1
theorem Cx.base {G : GG} {s : State} (h : Cx G s) : gB G ≤ s.heap.size := h.2.2.2.2.2.2.2.2.2.2.2.1
theorem Cx.arr {G : GG} {s : State} (h : Cx G s) {t : Nat} (ht : t < 9) : ArrOfT s (gA G t) (aty t) ∧ va_RA s (gA G t) (aty t) := h.2.2.1 t ht
section GH
variable {l : Launch} {G : GG} {M : MD} {d kc ks pc : Nat} {P : Post} {L : List (Option Value)} {st : List Value} {h : AH}
theorem g_getf {ci N : Nat} {C : String} {T : u_T} {ty : Nat → FieldType} {s0 g0 a idx k : Nat} {fs : List Value} {v : Value} (hd : decode M.2.1 pc = .ok (.getfield idx, 3)) (K : clsOk ci N C T ty) (hm : Cond.fieldLink M.1.cls idx (T k).1 (T k).2.1 (T k).2.2.1 ∈ lw_tbl) (hk : k < N) (hh : h s0 g0 = some (a, .inr (ci, fs))) (hv : fs[k]? = some v)
    (kk : Go l G M d kc ks P (pc + 3) L (v :: st) h) : Go l G M d kc ks P pc L (.ref a :: st) h := by
  intro p e R s m args below meth c H locs cells slots mc ms ls F h1 h2 h3 h4 hE hS hL
  have hCx := F.cx
  obtain ⟨r, hr, cell, q1, q2, q3, q4⟩ := (hE.1 _ _ _ _ hh).1
  cases Option.some.inj (hr.symm.trans K.1)
  obtain ⟨hSl, hfc, kC, hkC, hkind⟩ := hCx.2.1.1 ci _ K.1
  obtain ⟨cf, kf, fi, f, hi, hsl⟩ := hSl k hk
  refine W.getf F.1 F.2.1 F.own (hCx.word hm rfl args) hi (u_facts hfc hkC (u_lays (ws := u_ws C T N) (args := args) (fun w hw => hCx.word (K.2.1 w hw).1 (K.2.1 w hw).2 args) (fun _ hw => hw) hk) hi).1 q1 (by rw [q3]; exact fun z => by cases z) (v := v) ?_ rfl rfl hd (kk _ _ _ _ _ _ _ _ _ _ _ _ _ _ _ _ F h1 h2 h3 h4 hE hS hL)
  rw [hsl, q4 k hk]
  simp [vp_V, hv]
theorem g_getN {ci N : Nat} {C host : String} {T : u_T} {ty : Nat → FieldType} {s0 g0 a idx k : Nat} {fs : List Value} {v : Value} (hd : decode M.2.1 pc = .ok (.getfield idx, 3)) (K : clsOk ci N C T ty) (hm : Cond.fieldLinkNest M.1.cls idx (T k).1 (T k).2.1 (T k).2.2.1 host ∈ lw_tbl) (hk : k < N) (hh : h s0 g0 = some (a, .inr (ci, fs))) (hv : fs[k]? = some v)
    (kk : Go l G M d kc ks P (pc + 3) L (v :: st) h) : Go l G M d kc ks P pc L (.ref a :: st) h := by
  intro p e R s m args below meth c H locs cells slots mc ms ls F h1 h2 h3 h4 hE hS hL
  have hCx := F.cx
  have hP : va_P (gD G) classes [(a, .inr (ci, fs))] H := fun k9 q hq => by
    have h0 : k9 < 1 := (List.getElem?_eq_some_iff.mp hq).1
    rw [show k9 = 0 by omega] at hq
    cases hq
    exact (hE.1 _ _ _ _ hh).1
  exact va_getN F.1 F.2.1 (Ts := u_ws C T N) (fun w hw => hCx.word (K.2.1 w hw).1 (K.2.1 w hw).2 args) (fun _ hw => hw) F.own hCx.2.1 hP 0 rfl K.1 k hk (hCx.word hm rfl args) (fun _ hx => hx) hv hd (kk _ _ _ _ _ _ _ _ _ _ _ _ _ _ _ _ F h1 h2 h3 h4 hE hS hL)
theorem g_apart {ci N : Nat} {C : String} {T : u_T} {ty : Nat → FieldType} {s : State} (hCx : Cx G s) (K : clsOk ci N C T ty) : ∀ x y, x < N → y < N → x ≠ y → (gD G).2 ci x ≠ (gD G).2 ci y :=
  va_apart (own := C) (args := #[]) (Ts := u_ws C T N) (fun w hw => hCx.word (K.2.1 w hw).1 (K.2.1 w hw).2 _) (fun _ hw => hw) ty K.2.2.1 K.2.2.2 hCx.2.1 K.1
theorem g_putf {ci N : Nat} {C : String} {T : u_T} {ty : Nat → FieldType} {s0 g0 a idx k : Nat} {fs : List Value} {v : Value} (hd : decode M.2.1 pc = .ok (.putfield idx, 3)) (K : clsOk ci N C T ty) (hm : Cond.fieldLink M.1.cls idx (T k).1 (T k).2.1 (T k).2.2.1 ∈ lw_tbl) (hk : k < N) (hfin : (T k).2.2.2 = false) (hh : h s0 g0 = some (a, .inr (ci, fs))) (hl : k < fs.length) (hn : narrow (ty k) v = v) (hfit : fits (ty k) v = true)
    (kk : Go l G M d kc ks P (pc + 3) L st (up h s0 g0 (a, .inr (ci, fs.set k v)))) : Go l G M d kc ks P pc L (v :: .ref a :: st) h := by
  intro p e R s m args below meth c H locs cells slots mc ms ls F h1 h2 h3 h4 hE hS hL
  have hCx := F.cx
  have hap := g_apart hCx K
  obtain ⟨r, hr, cell, q1, q2, q3, q4⟩ := (hE.1 _ _ _ _ hh).1
  cases Option.some.inj (hr.symm.trans K.1)
  obtain ⟨hSl, hfc, kC, hkC, hkind⟩ := hCx.2.1.1 ci _ K.1
  obtain ⟨cf, kf, fi, f, hi, hsl⟩ := hSl k hk
  have hts : ∀ w ∈ u_ws C T N, w.before args s = true := fun w hw => hCx.word (K.2.1 w hw).1 (K.2.1 w hw).2 args
  have hlay := hts _ (u_in_lay hk)
  unfold u_lay at hlay
  rw [if_neg (by rw [hfin]; decide)] at hlay
  have hst := (u_facts hfc hkC (u_lays hts (fun _ hw => hw) hk) hi).1
  have h6 := u_store hfc hkC hkind hlay hi (K.2.2.1 k hk) hn hfit
  refine W.putK F.1 F.2.1 (f := f) ⟨F.own, hCx.word hm rfl args, ⟨_, _, _, hi⟩, hst⟩ (by rw [q2]; exact h6) q1 q3 (by rw [hsl]; exact k2_hasslot (q4 k hk)) rfl rfl hd fun H' e1 e2 e3 => ?_
  rw [hsl] at e1
  exact kk _ _ _ _ _ _ _ _ _ _ _ _ _ _ _ _ F h1 h2 h3 h4 (hE.put hh ⟨_, K.1, t_OB.to (V := updV (vp_V fs) k v) ⟨_, e1, q2, q3, t_set q4 hap hk v⟩ (fun j _ => vp_updV_set hl v j)⟩ e3) (hS.put e2 e3 (hE.1 _ _ _ _ hh).2) hL
theorem g_putN {ci N : Nat} {C host : String} {T : u_T} {ty : Nat → FieldType} {s0 g0 a idx k : Nat} {fs : List Value} {v : Value} (hd : decode M.2.1 pc = .ok (.putfield idx, 3)) (K : clsOk ci N C T ty) (hm : Cond.fieldLinkNest M.1.cls idx (T k).1 (T k).2.1 (T k).2.2.1 host ∈ lw_tbl) (hk : k < N) (hfin : (T k).2.2.2 = false) (hh : h s0 g0 = some (a, .inr (ci, fs))) (hl : k < fs.length) (hn : narrow (ty k) v = v) (hfit : fits (ty k) v = true)
    (kk : Go l G M d kc ks P (pc + 3) L st (up h s0 g0 (a, .inr (ci, fs.set k v)))) : Go l G M d kc ks P pc L (v :: .ref a :: st) h := by
  intro p e R s m args below meth c H locs cells slots mc ms ls F h1 h2 h3 h4 hE hS hL
  have hCx := F.cx
  have hap := g_apart hCx K
  obtain ⟨r, hr, cell, q1, q2, q3, q4⟩ := (hE.1 _ _ _ _ hh).1
  cases Option.some.inj (hr.symm.trans K.1)
  obtain ⟨hSl, hfc, kC, hkC, hkind⟩ := hCx.2.1.1 ci _ K.1
  obtain ⟨cf, kf, fi, f, hi, hsl⟩ := hSl k hk
  have hts : ∀ w ∈ u_ws C T N, w.before args s = true := fun w hw => hCx.word (K.2.1 w hw).1 (K.2.1 w hw).2 args
  have hlay := hts _ (u_in_lay hk)
  unfold u_lay at hlay
  rw [if_neg (by rw [hfin]; decide)] at hlay
  have hst := (u_facts hfc hkC (u_lays hts (fun _ hw => hw) hk) hi).1
  have h6 := u_store hfc hkC hkind hlay hi (K.2.2.1 k hk) hn hfit
  refine va_WputK F.1 F.2.1 (f := f) F.own (hCx.word hm rfl args) hi hst (by rw [q2]; exact h6) q1 q3 (by rw [hsl]; exact k2_hasslot (q4 k hk)) rfl rfl hd fun H' e1 e2 e3 => ?_
  rw [hsl] at e1
  exact kk _ _ _ _ _ _ _ _ _ _ _ _ _ _ _ _ F h1 h2 h3 h4 (hE.put hh ⟨_, K.1, t_OB.to (V := updV (vp_V fs) k v) ⟨_, e1, q2, q3, t_set q4 hap hk v⟩ (fun j _ => vp_updV_set hl v j)⟩ e3) (hS.put e2 e3 (hE.1 _ _ _ _ hh).2) hL
theorem g_putF {ci N : Nat} {C : String} {T : u_T} {ty : Nat → FieldType} {s0 g0 a idx k : Nat} {fs : List Value} {v : Value} (hd : decode M.2.1 pc = .ok (.putfield idx, 3)) (K : clsOk ci N C T ty) (hm : Cond.fieldLink M.1.cls idx (T k).1 (T k).2.1 (T k).2.2.1 ∈ lw_tbl) (hk : k < N) (hfin : (T k).2.2.2 = true) (hi0 : M.1.name = "<init>") (hdecl : (T k).1 = M.1.cls) (hh : h s0 g0 = some (a, .inr (ci, fs))) (hl : k < fs.length) (hn : narrow (ty k) v = v) (hfit : fits (ty k) v = true)
    (kk : Go l G M d kc ks P (pc + 3) L st (up h s0 g0 (a, .inr (ci, fs.set k v)))) : Go l G M d kc ks P pc L (v :: .ref a :: st) h := by
  intro p e R s m args below meth c H locs cells slots mc ms ls F h1 h2 h3 h4 hE hS hL
  have hCx := F.cx
  have hap := g_apart hCx K
  obtain ⟨r, hr, cell, q1, q2, q3, q4⟩ := (hE.1 _ _ _ _ hh).1
  cases Option.some.inj (hr.symm.trans K.1)
  obtain ⟨hSl, hfc, kC, hkC, hkind⟩ := hCx.2.1.1 ci _ K.1
  obtain ⟨cf, kf, fi, f, hi, hsl⟩ := hSl k hk
  have hts : ∀ w ∈ u_ws C T N, w.before args s = true := fun w hw => hCx.word (K.2.1 w hw).1 (K.2.1 w hw).2 args
  have hlay := hts _ (u_in_lay hk)
  unfold u_lay at hlay
  rw [if_pos hfin] at hlay
  have hst := (u_facts hfc hkC (u_lays hts (fun _ hw => hw) hk) hi).1
  have hcf : m.cls = cf := by
    obtain ⟨_, _, c', _, _, _, -, -, hf', -, -, -, hown2, -⟩ := Cond.laysFinal_spec hlay
    have e1 : c' = cf := by have := hi.symm.trans hf'; simp at this; exact this.1.symm
    rw [hdecl] at hown2
    rw [← e1]; exact Option.some.inj (F.own.symm.trans hown2)
  have h6 := u_fits hfc hkC hkind (Or.inr hlay) hi (K.2.2.1 k hk) hn hfit
  refine W.putFinK F.1 F.2.1 F.own (hCx.word hm rfl args) hi hst hcf (F.2.2.2.2.2.2.1.trans hi0) (by rw [q2]; exact h6) q1 q3 (by rw [hsl]; exact k2_hasslot (q4 k hk)) rfl rfl hd fun H' e1 e2 e3 => ?_
  rw [hsl] at e1
  exact kk _ _ _ _ _ _ _ _ _ _ _ _ _ _ _ _ F h1 h2 h3 h4 (hE.put hh ⟨_, K.1, t_OB.to (V := updV (vp_V fs) k v) ⟨_, e1, q2, q3, t_set q4 hap hk v⟩ (fun j _ => vp_updV_set hl v j)⟩ e3) (hS.put e2 e3 (hE.1 _ _ _ _ hh).2) hL
theorem g_iald {s0 g0 a n j : Nat} {i : Int32} {f : Nat → Int32} (hd : decode M.2.1 pc = .ok (.iaload, 1)) (hh : h s0 g0 = some (a, .inl (0, n, .inl f))) (hi : ix i j) (hj : j < n)
    (kk : Go l G M d kc ks P (pc + 1) L (.int (f j) :: st) h) : Go l G M d kc ks P pc L (.int i :: .ref a :: st) h := by
  intro p e R s m args below meth c H locs cells slots mc ms ls F h1 h2 h3 h4 hE hS hL
  have hc : H[a]? = some (vp_cell (gA G 0) (n, .inl f)) := (hE.1 _ _ _ _ hh).1
  refine W.iald (v := .int (f j)) F.1 F.2.1 hc ((F.cx.arr (t := 0) (by decide)).1 n (fun j => .int (f j))) (fun q => by cases q) ?_ ?_ rfl rfl hd (kk _ _ _ _ _ _ _ _ _ _ _ _ _ _ _ _ F h1 h2 h3 h4 hE hS hL)
  · show ¬ (i < 0 ∨ (arrV _ _ _).slots.size ≤ _)
    rw [arrV_size]
    exact hi.in hj
  · show (arrV _ _ _).slots[_]? = _
    rw [hi.2, arrV_read _ _ hj]
theorem g_cald {s0 g0 a n j : Nat} {i : Int32} {f : Nat → Int32} (hd : decode M.2.1 pc = .ok (.caload, 1)) (hh : h s0 g0 = some (a, .inl (2, n, .inl f))) (hi : ix i j) (hj : j < n)
    (kk : Go l G M d kc ks P (pc + 1) L (.int (f j) :: st) h) : Go l G M d kc ks P pc L (.int i :: .ref a :: st) h := by
  intro p e R s m args below meth c H locs cells slots mc ms ls F h1 h2 h3 h4 hE hS hL
  have hc : H[a]? = some (vp_cell (gA G 2) (n, .inl f)) := (hE.1 _ _ _ _ hh).1
  refine W.cald (v := .int (f j)) F.1 F.2.1 hc ((F.cx.arr (t := 2) (by decide)).1 n (fun j => .int (f j))) (fun q => by cases q) ?_ ?_ rfl rfl hd (kk _ _ _ _ _ _ _ _ _ _ _ _ _ _ _ _ F h1 h2 h3 h4 hE hS hL)
  · show ¬ (i < 0 ∨ (arrV _ _ _).slots.size ≤ _)
    rw [arrV_size]
    exact hi.in hj
  · show (arrV _ _ _).slots[_]? = _
    rw [hi.2, arrV_read _ _ hj]
theorem g_bald {s0 g0 a n j : Nat} {i : Int32} {f : Nat → Int32} (hd : decode M.2.1 pc = .ok (.baload, 1)) (hh : h s0 g0 = some (a, .inl (3, n, .inl f))) (hi : ix i j) (hj : j < n)
    (kk : Go l G M d kc ks P (pc + 1) L (.int (f j) :: st) h) : Go l G M d kc ks P pc L (.int i :: .ref a :: st) h := by
  intro p e R s m args below meth c H locs cells slots mc ms ls F h1 h2 h3 h4 hE hS hL
  have hc : H[a]? = some (vp_cell (gA G 3) (n, .inl f)) := (hE.1 _ _ _ _ hh).1
  refine W.bald (v := .int (f j)) F.1 F.2.1 hc ((F.cx.arr (t := 3) (by decide)).1 n (fun j => .int (f j))) (fun q => by cases q) ?_ ?_ rfl rfl hd (kk _ _ _ _ _ _ _ _ _ _ _ _ _ _ _ _ F h1 h2 h3 h4 hE hS hL)
  · show ¬ (i < 0 ∨ (arrV _ _ _).slots.size ≤ _)
    rw [arrV_size]
    exact hi.in hj
  · show (arrV _ _ _).slots[_]? = _
    rw [hi.2, arrV_read _ _ hj]
theorem g_zald {s0 g0 a n j : Nat} {i : Int32} {f : Nat → Int32} (hd : decode M.2.1 pc = .ok (.baload, 1)) (hh : h s0 g0 = some (a, .inl (4, n, .inl f))) (hi : ix i j) (hj : j < n)
    (kk : Go l G M d kc ks P (pc + 1) L (.int (f j) :: st) h) : Go l G M d kc ks P pc L (.int i :: .ref a :: st) h := by
  intro p e R s m args below meth c H locs cells slots mc ms ls F h1 h2 h3 h4 hE hS hL
  have hc : H[a]? = some (vp_cell (gA G 4) (n, .inl f)) := (hE.1 _ _ _ _ hh).1
  refine W.zald (v := .int (f j)) F.1 F.2.1 hc ((F.cx.arr (t := 4) (by decide)).1 n (fun j => .int (f j))) (fun q => by cases q) ?_ ?_ rfl rfl hd (kk _ _ _ _ _ _ _ _ _ _ _ _ _ _ _ _ F h1 h2 h3 h4 hE hS hL)
  · show ¬ (i < 0 ∨ (arrV _ _ _).slots.size ≤ _)
    rw [arrV_size]
    exact hi.in hj
  · show (arrV _ _ _).slots[_]? = _
    rw [hi.2, arrV_read _ _ hj]
theorem g_lald {s0 g0 a n j : Nat} {i : Int32} {f : Nat → Int64} (hd : decode M.2.1 pc = .ok (.laload, 1)) (hh : h s0 g0 = some (a, .inl (1, n, .inr (.inl f)))) (hi : ix i j) (hj : j < n)
    (kk : Go l G M d kc ks P (pc + 1) L (.long (f j) :: st) h) : Go l G M d kc ks P pc L (.int i :: .ref a :: st) h := by
  intro p e R s m args below meth c H locs cells slots mc ms ls F h1 h2 h3 h4 hE hS hL
  have hc : H[a]? = some (vp_cell (gA G 1) (n, .inr (.inl f))) := (hE.1 _ _ _ _ hh).1
  refine W.lald (v := .long (f j)) F.1 F.2.1 hc ((F.cx.arr (t := 1) (by decide)).1 n (fun j => .long (f j))) (fun q => by cases q) ?_ ?_ rfl rfl hd (kk _ _ _ _ _ _ _ _ _ _ _ _ _ _ _ _ F h1 h2 h3 h4 hE hS hL)
  · show ¬ (i < 0 ∨ (arrV _ _ _).slots.size ≤ _)
    rw [arrV_size]
    exact hi.in hj
  · show (arrV _ _ _).slots[_]? = _
    rw [hi.2, arrV_read _ _ hj]
theorem g_dald {s0 g0 a n j : Nat} {i : Int32} {f : Nat → UInt64} (hd : decode M.2.1 pc = .ok (.daload, 1)) (hh : h s0 g0 = some (a, .inl (5, n, .inr (.inr (.inr (.inl f)))))) (hi : ix i j) (hj : j < n)
    (kk : Go l G M d kc ks P (pc + 1) L (.double (f j) :: st) h) : Go l G M d kc ks P pc L (.int i :: .ref a :: st) h := by
  intro p e R s m args below meth c H locs cells slots mc ms ls F h1 h2 h3 h4 hE hS hL
  have hc : H[a]? = some (vp_cell (gA G 5) (n, .inr (.inr (.inr (.inl f))))) := (hE.1 _ _ _ _ hh).1
  refine W.dald (v := .double (f j)) F.1 F.2.1 hc ((F.cx.arr (t := 5) (by decide)).1 n (fun j => .double (f j))) (fun q => by cases q) ?_ ?_ rfl rfl hd (kk _ _ _ _ _ _ _ _ _ _ _ _ _ _ _ _ F h1 h2 h3 h4 hE hS hL)
  · show ¬ (i < 0 ∨ (arrV _ _ _).slots.size ≤ _)
    rw [arrV_size]
    exact hi.in hj
  · show (arrV _ _ _).slots[_]? = _
    rw [hi.2, arrV_read _ _ hj]
theorem g_iast {s0 g0 a n j : Nat} {i : Int32} {f : Nat → Int32} {x y : Int32} (hd : decode M.2.1 pc = .ok (.iastore, 1)) (hh : h s0 g0 = some (a, .inl (0, n, .inl f))) (hi : ix i j) (hj : j < n) (hy : x = y)
    (kk : Go l G M d kc ks P (pc + 1) L st (up h s0 g0 (a, .inl (0, n, .inl (va_up f j y))))) : Go l G M d kc ks P pc L (.int x :: .int i :: .ref a :: st) h := by
  intro p e R s m args below meth c H locs cells slots mc ms ls F h1 h2 h3 h4 hE hS hL
  have hc : H[a]? = some (vp_cell (gA G 0) (n, .inl f)) := (hE.1 _ _ _ _ hh).1
  subst hy
  refine W.iast F.1 F.2.1 hc ((F.cx.arr (t := 0) (by decide)).1 n (fun j => .int (f j))) (fun q => by cases q) ?_ rfl rfl hd fun H1 e z oq => ?_
  · show ¬ (i < 0 ∨ (arrV _ _ _).slots.size ≤ _)
    rw [arrV_size]
    exact hi.in hj
  · refine kk _ _ _ _ _ _ _ _ _ _ _ _ _ _ _ _ F h1 h2 h3 h4 (hE.put hh ?_ oq) (hS.put z oq (hE.1 _ _ _ _ hh).2) hL
    show H1[a]? = some (vp_cell _ _)
    rw [e, hi.2]
    show some ((arrV (gA G 0) n (fun q => .int (f q))).setSlot j (.int x)) = some (arrV (gA G 0) n (fun q => .int (va_up f j x q)))
    rw [arrV_store]
    congr 2
    funext q
    by_cases hq : q = j
    · subst hq
      simp [updV, va_up]
    · simp [updV, va_up, hq]
theorem g_cast {s0 g0 a n j : Nat} {i : Int32} {f : Nat → Int32} {x y : Int32} (hd : decode M.2.1 pc = .ok (.castore, 1)) (hh : h s0 g0 = some (a, .inl (2, n, .inl f))) (hi : ix i j) (hj : j < n) (hy : (vp_nar .char x) = y)
    (kk : Go l G M d kc ks P (pc + 1) L st (up h s0 g0 (a, .inl (2, n, .inl (va_up f j y))))) : Go l G M d kc ks P pc L (.int x :: .int i :: .ref a :: st) h := by
  intro p e R s m args below meth c H locs cells slots mc ms ls F h1 h2 h3 h4 hE hS hL
  have hc : H[a]? = some (vp_cell (gA G 2) (n, .inl f)) := (hE.1 _ _ _ _ hh).1
  subst hy
  refine W.cast F.1 F.2.1 hc ((F.cx.arr (t := 2) (by decide)).1 n (fun j => .int (f j))) (fun q => by cases q) ?_ rfl rfl hd fun H1 e z oq => ?_
  · show ¬ (i < 0 ∨ (arrV _ _ _).slots.size ≤ _)
    rw [arrV_size]
    exact hi.in hj
  · refine kk _ _ _ _ _ _ _ _ _ _ _ _ _ _ _ _ F h1 h2 h3 h4 (hE.put hh ?_ oq) (hS.put z oq (hE.1 _ _ _ _ hh).2) hL
    show H1[a]? = some (vp_cell _ _)
    rw [e, hi.2]
    show some ((arrV (gA G 2) n (fun q => .int (f q))).setSlot j (narrow .char (.int x))) = some (arrV (gA G 2) n (fun q => .int (va_up f j (vp_nar .char x) q)))
    rw [arrV_store]
    congr 2
    funext q
    by_cases hq : q = j
    · subst hq
      simp [updV, va_up, vp_nar, narrow]
    · simp [updV, va_up, hq]
theorem g_bast {s0 g0 a n j : Nat} {i : Int32} {f : Nat → Int32} {x y : Int32} (hd : decode M.2.1 pc = .ok (.bastore, 1)) (hh : h s0 g0 = some (a, .inl (3, n, .inl f))) (hi : ix i j) (hj : j < n) (hy : (vp_nar .byte x) = y)
    (kk : Go l G M d kc ks P (pc + 1) L st (up h s0 g0 (a, .inl (3, n, .inl (va_up f j y))))) : Go l G M d kc ks P pc L (.int x :: .int i :: .ref a :: st) h := by
  intro p e R s m args below meth c H locs cells slots mc ms ls F h1 h2 h3 h4 hE hS hL
  have hc : H[a]? = some (vp_cell (gA G 3) (n, .inl f)) := (hE.1 _ _ _ _ hh).1
  subst hy
  refine W.bast F.1 F.2.1 hc ((F.cx.arr (t := 3) (by decide)).1 n (fun j => .int (f j))) (fun q => by cases q) ?_ rfl rfl hd fun H1 e z oq => ?_
  · show ¬ (i < 0 ∨ (arrV _ _ _).slots.size ≤ _)
    rw [arrV_size]
    exact hi.in hj
  · refine kk _ _ _ _ _ _ _ _ _ _ _ _ _ _ _ _ F h1 h2 h3 h4 (hE.put hh ?_ oq) (hS.put z oq (hE.1 _ _ _ _ hh).2) hL
    show H1[a]? = some (vp_cell _ _)
    rw [e, hi.2]
    show some ((arrV (gA G 3) n (fun q => .int (f q))).setSlot j (narrow .byte (.int x))) = some (arrV (gA G 3) n (fun q => .int (va_up f j (vp_nar .byte x) q)))
    rw [arrV_store]
    congr 2
    funext q
    by_cases hq : q = j
    · subst hq
      simp [updV, va_up, vp_nar, narrow]
    · simp [updV, va_up, hq]
theorem g_zast {s0 g0 a n j : Nat} {i : Int32} {f : Nat → Int32} {x y : Int32} (hd : decode M.2.1 pc = .ok (.bastore, 1)) (hh : h s0 g0 = some (a, .inl (4, n, .inl f))) (hi : ix i j) (hj : j < n) (hy : (vp_nar .boolean x) = y)
    (kk : Go l G M d kc ks P (pc + 1) L st (up h s0 g0 (a, .inl (4, n, .inl (va_up f j y))))) : Go l G M d kc ks P pc L (.int x :: .int i :: .ref a :: st) h := by
  intro p e R s m args below meth c H locs cells slots mc ms ls F h1 h2 h3 h4 hE hS hL
  have hc : H[a]? = some (vp_cell (gA G 4) (n, .inl f)) := (hE.1 _ _ _ _ hh).1
  subst hy
  refine W.zast F.1 F.2.1 hc ((F.cx.arr (t := 4) (by decide)).1 n (fun j => .int (f j))) (fun q => by cases q) ?_ rfl rfl hd fun H1 e z oq => ?_
  · show ¬ (i < 0 ∨ (arrV _ _ _).slots.size ≤ _)
    rw [arrV_size]
    exact hi.in hj
  · refine kk _ _ _ _ _ _ _ _ _ _ _ _ _ _ _ _ F h1 h2 h3 h4 (hE.put hh ?_ oq) (hS.put z oq (hE.1 _ _ _ _ hh).2) hL
    show H1[a]? = some (vp_cell _ _)
    rw [e, hi.2]
    show some ((arrV (gA G 4) n (fun q => .int (f q))).setSlot j (narrow .boolean (.int x))) = some (arrV (gA G 4) n (fun q => .int (va_up f j (vp_nar .boolean x) q)))
    rw [arrV_store]
    congr 2
    funext q
    by_cases hq : q = j
    · subst hq
      simp [updV, va_up, vp_nar, narrow]
    · simp [updV, va_up, hq]
theorem g_last {s0 g0 a n j : Nat} {i : Int32} {f : Nat → Int64} {x y : Int64} (hd : decode M.2.1 pc = .ok (.lastore, 1)) (hh : h s0 g0 = some (a, .inl (1, n, .inr (.inl f)))) (hi : ix i j) (hj : j < n) (hy : x = y)
    (kk : Go l G M d kc ks P (pc + 1) L st (up h s0 g0 (a, .inl (1, n, .inr (.inl (va_up f j y)))))) : Go l G M d kc ks P pc L (.long x :: .int i :: .ref a :: st) h := by
  intro p e R s m args below meth c H locs cells slots mc ms ls F h1 h2 h3 h4 hE hS hL
  have hc : H[a]? = some (vp_cell (gA G 1) (n, .inr (.inl f))) := (hE.1 _ _ _ _ hh).1
  subst hy
  refine W.last F.1 F.2.1 hc ((F.cx.arr (t := 1) (by decide)).1 n (fun j => .long (f j))) (fun q => by cases q) ?_ rfl rfl hd fun H1 e z oq => ?_
  · show ¬ (i < 0 ∨ (arrV _ _ _).slots.size ≤ _)
    rw [arrV_size]
    exact hi.in hj
  · refine kk _ _ _ _ _ _ _ _ _ _ _ _ _ _ _ _ F h1 h2 h3 h4 (hE.put hh ?_ oq) (hS.put z oq (hE.1 _ _ _ _ hh).2) hL
    show H1[a]? = some (vp_cell _ _)
    rw [e, hi.2]
    show some ((arrV (gA G 1) n (fun q => .long (f q))).setSlot j (.long x)) = some (arrV (gA G 1) n (fun q => .long (va_up f j x q)))
    rw [arrV_store]
    congr 2
    funext q
    by_cases hq : q = j
    · subst hq
      simp [updV, va_up]
    · simp [updV, va_up, hq]
theorem g_alen {s0 g0 a t : Nat} {x : vp_A} {v : Int32} (hd : decode M.2.1 pc = .ok (.arraylength, 1)) (hh : h s0 g0 = some (a, .inl (t, x))) (ht : t < 9) (hv : Int32.ofNat x.1 = v)
    (kk : Go l G M d kc ks P (pc + 1) L (.int v :: st) h) : Go l G M d kc ks P pc L (.ref a :: st) h := by
  intro p e R s m args below meth c H locs cells slots mc ms ls F h1 h2 h3 h4 hE hS hL
  have hP : va_P (gD G) classes [(a, .inl (gA G t, x))] H := fun k9 q hq => by
    have h0 : k9 < 1 := (List.getElem?_eq_some_iff.mp hq).1
    rw [show k9 = 0 by omega] at hq
    cases hq
    exact (hE.1 _ _ _ _ hh).1
  have hK : va_K (gD G) classes [(gA G t, aty t)] s := ⟨F.cx.2.1.1, fun k9 q hq => by
    have h0 : k9 < 1 := (List.getElem?_eq_some_iff.mp hq).1
    rw [show k9 = 0 by omega] at hq
    cases hq
    exact F.cx.arr ht⟩
  exact va_alen F.1 F.2.1 hK hP 0 0 rfl rfl hv hd (kk _ _ _ _ _ _ _ _ _ _ _ _ _ _ _ _ F h1 h2 h3 h4 hE hS hL)
theorem g_sld {i : Int32} {j : Nat} (hd : decode M.2.1 pc = .ok (.iaload, 1)) (hi : ix i j) (hj : j < (gX G).2.1)
    (kk : Go l G M d kc ks P (pc + 1) L (.int ((gX G).2.2 j) :: st) h) : Go l G M d kc ks P pc L (.int i :: .ref (gX G).1 :: st) h := by
  intro p e R s m args below meth c H locs cells slots mc ms ls F h1 h2 h3 h4 hE hS hL
  obtain ⟨-, -, q1, q2, q3, -⟩ := F.cx.2.2.2.2.2.2
  refine va_sld F.1 F.2.1 q1 q2 q3 hS (hi.in hj) hd ?_
  rw [hi.2]
  exact kk _ _ _ _ _ _ _ _ _ _ _ _ _ _ _ _ F h1 h2 h3 h4 hE hS hL
theorem g_slen (hd : decode M.2.1 pc = .ok (.arraylength, 1))
    (kk : Go l G M d kc ks P (pc + 1) L (.int (Int32.ofNat (gX G).2.1) :: st) h) : Go l G M d kc ks P pc L (.ref (gX G).1 :: st) h := by
  intro p e R s m args below meth c H locs cells slots mc ms ls F h1 h2 h3 h4 hE hS hL
  obtain ⟨-, -, q1, q2, q3, -⟩ := F.cx.2.2.2.2.2.2
  exact va_slen F.1 F.2.1 q1 q2 q3 hS hd (kk _ _ _ _ _ _ _ _ _ _ _ _ _ _ _ _ F h1 h2 h3 h4 hE hS hL)
theorem g_aald {s0 g0 a n j b t : Nat} {i : Int32} {f : Nat → Option Nat} (hd : decode M.2.1 pc = .ok (.aaload, 1)) (hh : h s0 g0 = some (a, .inl (t, n, .inr (.inr (.inr (.inr f)))))) (ht : t < 9) (hr : (aty t).isReference = true) (hi : ix i j) (hj : j < n) (hb : f j = some b)
    (kk : Go l G M d kc ks P (pc + 1) L (.ref b :: st) h) : Go l G M d kc ks P pc L (.int i :: .ref a :: st) h := by
  intro p e R s m args below meth c H locs cells slots mc ms ls F h1 h2 h3 h4 hE hS hL
  have hc : H[a]? = some (vp_cell (gA G t) (n, .inr (.inr (.inr (.inr f))))) := (hE.1 _ _ _ _ hh).1
  refine W.aald (v := .ref b) (ty := aty t) F.1 F.2.1 hc ((F.cx.arr ht).1 n (fun j => va_rf (f j))) hr (fun q => by cases q) ?_ ?_ rfl rfl hd (kk _ _ _ _ _ _ _ _ _ _ _ _ _ _ _ _ F h1 h2 h3 h4 hE hS hL)
  · show ¬ (i < 0 ∨ (arrV _ _ _).slots.size ≤ _)
    rw [arrV_size]
    exact hi.in hj
  · show (arrV _ _ _).slots[_]? = _
    rw [hi.2, arrV_read _ _ hj, hb]
    rfl
end GH
