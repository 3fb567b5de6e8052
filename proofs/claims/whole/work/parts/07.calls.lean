/-! NEW CELLS, COPIES, MATH, CALLS, THROWS AND THEIR CATCHING, over Go (by wip/whole/gen/calls.py). -/
section GC
variable {l : Launch} {G : GG} {M : MD} {d kc ks pc : Nat} {P : Post} {L : List (Option Value)} {st : List Value} {h : AH}
theorem g_new {ci N idx s0 g0 : Nat} {C : String} {T : u_T} {ty : Nat → FieldType} {fs : List Value} (hd : decode M.2.1 pc = .ok (.new idx, 3)) (K : clsOk ci N C T ty) (hm : Cond.classLink M.1.cls idx C ∈ lw_tbl) (hi : Cond.instantiable C N ∈ lw_tbl) (hi2 : Cond.initialized C ∈ lw_tbl) (hfs : ∀ j, j < N → defaultValue (ty j) = vp_V fs j)
    (kk : ∀ a, Go l G M d kc ks P (pc + 3) L (.ref a :: st) (up h s0 g0 (a, .inr (ci, fs)))) : Go l G M d (kc + 1) (ks + N) P pc L st h := by
  intro p e R s m args below meth c H locs cells slots mc ms ls F h1 h2 h3 h4 hE hS hL
  have hCx := F.cx
  have hKn := hCx.2.1.1 ci _ K.1
  have hb := hCx.base
  refine W.newcK F.1 F.2.1 F.own (hCx.word hm rfl args) (hCx.word hi rfl args) (hCx.word hi2 rfl args) rfl hd (by omega) (by omega) hKn.2.1 rfl fun H1 kC hkC e1 z1 o1 => ?_
  refine kk H.size _ _ _ _ _ _ _ _ _ _ _ _ _ _ _ _ F (by omega) (by omega) (by omega) (by omega) (hE.new rfl (Nat.le_trans hb hS.1) ⟨_, K.1, ?_⟩ o1) ⟨Nat.le_trans hS.1 (by omega), fun x g1 g2 => (o1 x (Nat.lt_of_lt_of_le g1 hS.1)).trans (hS.2.1 x g1 g2), hS.2.2⟩ hL
  exact (u_born (ws := u_ws C T N) (args := args) ty (fun w hw => hCx.word (K.2.1 w hw).1 (K.2.1 w hw).2 args) (fun _ hw => hw) hKn hkC e1 K.2.2.1).to hfs
theorem g_newa {atype : ArrayType} {n : Int32} {N t s0 g0 : Nat} {a0 : vp_A} (hd : decode M.2.1 pc = .ok (.newarray atype, 2)) (hm : Cond.arrayClass (newarray.typeOf atype) ∈ lw_tbl) (ht : t < 9) (hty : newarray.typeOf atype = aty t) (ha : ∀ cA : ClassId, vp_cell cA a0 = arrV cA N (fun _ => defaultValue (aty t))) (hi : ix n N) (hbytes : N * componentBytes (aty t) ≤ 536870912) (hnm : ∀ U cA, va_RA U cA (aty t) → U.vm.findClass ("[" ++ (newarray.typeOf atype).toString) = some cA)
    (kk : ∀ a, Go l G M d kc ks P (pc + 2) L (.ref a :: st) (up h s0 g0 (a, .inl (t, a0)))) : Go l G M d (kc + 1) (ks + N) P pc L (.int n :: st) h := by
  intro p e R s m args below meth c H locs cells slots mc ms ls F h1 h2 h3 h4 hE hS hL
  have hCx := F.cx
  have hb := hCx.base
  refine va_newaK F.1 F.2.1 (hCx.word hm rfl args) rfl hd rfl hi.1 hi.2 (by rw [hty]; exact hbytes) (by omega) (by omega) rfl fun H1 cA e1 z1 o1 hAr hNm => ?_
  have hcA : cA = gA G t := Option.some.inj (hNm.symm.trans (hnm _ _ (hCx.arr ht).2))
  subst hcA
  rw [hty] at e1
  refine kk H.size _ _ _ _ _ _ _ _ _ _ _ _ _ _ _ _ F (by omega) (by omega) (by omega) (by omega) (hE.new rfl (Nat.le_trans hb hS.1) ?_ o1) ⟨Nat.le_trans hS.1 (by omega), fun x g1 g2 => (o1 x (Nat.lt_of_lt_of_le g1 hS.1)).trans (hS.2.1 x g1 g2), hS.2.2⟩ hL
  show H1[H.size]? = some (vp_cell _ _)
  rw [ha]
  exact e1
theorem g_anew {C : String} {idx N t s0 g0 : Nat} {n : Int32} (hd : decode M.2.1 pc = .ok (.anewarray idx, 3)) (hm : Cond.classLink M.1.cls idx C ∈ lw_tbl) (ht : t < 9) (hty : aty t = .object C) (ho : ∀ U, Cx G U → aoT (.object C) U) (hi : ix n N) (hbytes : N * 4 ≤ 536870912)
    (kk : ∀ a, Go l G M d kc ks P (pc + 3) L (.ref a :: st) (up h s0 g0 (a, .inl (t, N, .inr (.inr (.inr (.inr (fun _ => none)))))))) : Go l G M d (kc + 1) (ks + N) P pc L (.int n :: st) h := by
  intro p e R s m args below meth c H locs cells slots mc ms ls F h1 h2 h3 h4 hE hS hL
  have hCx := F.cx
  have hb := hCx.base
  refine W.anew F.1 F.2.1 F.own (hCx.word hm rfl args) (ho s hCx) rfl hd rfl hi.1 (by rw [hi.2]; exact hbytes) (by omega) (by rw [hi.2]; omega) fun cA kA comp f1 f2 f3 f4 => ?_
  obtain ⟨-, hra⟩ := hCx.arr ht
  rw [hty] at hra
  obtain ⟨kA', comp', g1, g2, g3, g4⟩ := hra
  have hcA : cA = gA G t := Option.some.inj (f1.symm.trans g4)
  subst hcA
  rw [hi.2]
  refine kk H.size _ _ _ _ _ _ _ _ _ _ _ _ _ _ _ _ F (by omega) (by omega) (by omega) (by omega) (hE.new rfl (Nat.le_trans hb hS.1) ?_ (fun q hq => by rw [Array.getElem?_push, if_neg (Nat.ne_of_lt hq)])) ⟨Nat.le_trans hS.1 (by simp), fun x g1 g2 => (by rw [Array.getElem?_push, if_neg (Nat.ne_of_lt (Nat.lt_of_lt_of_le g1 hS.1))]; exact hS.2.1 x g1 g2), hS.2.2⟩ hL
  show (H.push _)[H.size]? = some (vp_cell _ _)
  rw [Array.getElem?_push, if_pos rfl, arrV_new]
  rfl
theorem g_aast {C : String} {T : u_T} {ty : Nat → FieldType} {ci nF t n j v s0 g0 s1 g1 a : Nat} {i : Int32} {f : Nat → Option Nat} {vs : List Value} (hd : decode M.2.1 pc = .ok (.aastore, 1)) (K : clsOk ci nF C T ty) (ht : t < 9) (hty : aty t = .object C) (hh : h s0 g0 = some (a, .inl (t, n, .inr (.inr (.inr (.inr f)))))) (hv : h s1 g1 = some (v, .inr (ci, vs))) (hi : ix i j) (hj : j < n)
    (kk : Go l G M d kc ks P (pc + 1) L st (up h s0 g0 (a, .inl (t, n, .inr (.inr (.inr (.inr (va_up f j (some v))))))))) : Go l G M d kc ks P pc L (.ref v :: .int i :: .ref a :: st) h := by
  intro p e R s m args below meth c H locs cells slots mc ms ls F h1 h2 h3 h4 hE hS hL
  have hCx := F.cx
  obtain ⟨r', hr', cellV, v1, v2, v3, -⟩ := (hE.1 _ _ _ _ hv).1
  have hcls := (hCx.2.1.1 ci _ K.1).2
  have hc : H[a]? = some (vp_cell (gA G t) (n, .inr (.inr (.inr (.inr f))))) := (hE.1 _ _ _ _ hh).1
  obtain ⟨-, hra⟩ := hCx.arr ht
  rw [hty] at hra
  obtain ⟨kA, comp, k1, k2, k3, -⟩ := hra
  have hcomp : comp = (gD G).1 ci := Option.some.inj (k3.symm.trans hcls.1)
  subst hcomp
  obtain ⟨kC, hkC, -⟩ := id hcls.2
  refine W.aast F.1 F.2.1 hc (fun q z => by cases z) (fun z => by cases z) k1 k2 rfl hkC ⟨hi.1, by show _ < (arrV _ _ _).slots.size; rw [arrV_size, hi.2]; exact hj⟩ v1 (fun q z => by rw [v3] at z; cases z) (by rw [v2]; exact hkC) (by rw [v2]; exact va_assign hcls) rfl rfl hd fun H1 e z oq => ?_
  refine kk _ _ _ _ _ _ _ _ _ _ _ _ _ _ _ _ F h1 h2 h3 h4 (hE.put hh ?_ oq) (hS.put z oq (hE.1 _ _ _ _ hh).2) hL
  show H1[a]? = some (vp_cell _ _)
  rw [e, hi.2]
  show some ((arrV (gA G t) n (fun q => va_rf (f q))).setSlot j (.ref v)) = some (arrV (gA G t) n (fun q => va_rf (va_up f j (some v) q)))
  rw [arrV_store]
  congr 2
  funext q
  by_cases hq : q = j
  · subst hq
    simp [updV, va_up, va_rf]
  · simp [updV, va_up, hq]
theorem g_max {idx : Nat} {x y : Int32} (hd : decode M.2.1 pc = .ok (.invokestatic idx, 3)) (hm : Cond.methodLink M.1.cls idx Lib.Math.max.name ∈ lw_tbl) (w1 : Cond.static Lib.Math.max.name ∈ lw_tbl) (w2 : Cond.initialized "java/lang/Math" ∈ lw_tbl) (w3 : Cond.code Lib.Math.max.name Lib.Math.max.code 2 (some .int) ∈ lw_tbl) (hfr : 1 ≤ d) (hro : (st.map fun v => v.category).sum + 13 ≤ 64 * d)
    (kk : Go l G M d kc ks P (pc + 3) L (.int (if x < y then y else x) :: st) h) : Go l G M d kc ks P pc L (.int y :: .int x :: st) h := by
  intro p e R s m args below meth c H locs cells slots mc ms ls F h1 h2 h3 h4 hE hS hL
  have hCx := F.cx
  exact va_mmax F.1 F.2.1 (F.2.2.2.1.trans hL.1.symm) F.own (hCx.word hm rfl args) (hCx.word w1 rfl args) (hCx.word w2 rfl args) (hCx.word w3 rfl args) (by rw [F.2.2.2.2.2.2.2.2.1]; exact hfr) (by rw [F.2.2.2.2.2.2.2.2.2.1]; exact hro) (by omega) (by omega) hd (kk _ _ _ _ _ _ _ _ _ _ _ _ _ _ _ _ F h1 h2 h3 h4 hE hS hL)
theorem g_min {idx : Nat} {x y : Int32} (hd : decode M.2.1 pc = .ok (.invokestatic idx, 3)) (hm : Cond.methodLink M.1.cls idx Lib.Math.min.name ∈ lw_tbl) (w1 : Cond.static Lib.Math.min.name ∈ lw_tbl) (w2 : Cond.initialized "java/lang/Math" ∈ lw_tbl) (w3 : Cond.code Lib.Math.min.name Lib.Math.min.code 2 (some .int) ∈ lw_tbl) (hfr : 1 ≤ d) (hro : (st.map fun v => v.category).sum + 13 ≤ 64 * d)
    (kk : Go l G M d kc ks P (pc + 3) L (.int (if y < x then y else x) :: st) h) : Go l G M d kc ks P pc L (.int y :: .int x :: st) h := by
  intro p e R s m args below meth c H locs cells slots mc ms ls F h1 h2 h3 h4 hE hS hL
  have hCx := F.cx
  exact va_mmin F.1 F.2.1 (F.2.2.2.1.trans hL.1.symm) F.own (hCx.word hm rfl args) (hCx.word w1 rfl args) (hCx.word w2 rfl args) (hCx.word w3 rfl args) (by rw [F.2.2.2.2.2.2.2.2.1]; exact hfr) (by rw [F.2.2.2.2.2.2.2.2.2.1]; exact hro) (by omega) (by omega) hd (kk _ _ _ _ _ _ _ _ _ _ _ _ _ _ _ _ F h1 h2 h3 h4 hE hS hL)
theorem g_abs {idx : Nat} {x : Int32} (hd : decode M.2.1 pc = .ok (.invokestatic idx, 3)) (hm : Cond.methodLink M.1.cls idx Lib.Math.abs.name ∈ lw_tbl) (w1 : Cond.static Lib.Math.abs.name ∈ lw_tbl) (w2 : Cond.initialized "java/lang/Math" ∈ lw_tbl) (w3 : Cond.code Lib.Math.abs.name Lib.Math.abs.code 1 (some .int) ∈ lw_tbl) (hfr : 1 ≤ d) (hro : (st.map fun v => v.category).sum + 13 ≤ 64 * d)
    (kk : Go l G M d kc ks P (pc + 3) L (.int (if 0 ≤ x then x else 0 - x) :: st) h) : Go l G M d kc ks P pc L (.int x :: st) h := by
  intro p e R s m args below meth c H locs cells slots mc ms ls F h1 h2 h3 h4 hE hS hL
  have hCx := F.cx
  exact va_mabs F.1 F.2.1 (F.2.2.2.1.trans hL.1.symm) F.own (hCx.word hm rfl args) (hCx.word w1 rfl args) (hCx.word w2 rfl args) (hCx.word w3 rfl args) (by rw [F.2.2.2.2.2.2.2.2.1]; exact hfr) (by rw [F.2.2.2.2.2.2.2.2.2.1]; exact hro) (by omega) (by omega) hd (kk _ _ _ _ _ _ _ _ _ _ _ _ _ _ _ _ F h1 h2 h3 h4 hE hS hL)
theorem g_copyi {idx t0 t1 s0 g0 s1 g1 a0 a1 n0 n1 sp dp n : Nat} {isp idp inn : Int32} {f g : Nat → Int32} (hd : decode M.2.1 pc = .ok (.invokestatic idx, 3)) (hm : Cond.methodLink M.1.cls idx arraycopyName ∈ lw_tbl) (w1 : Cond.native arraycopyName ∈ lw_tbl) (w2 : Cond.static arraycopyName ∈ lw_tbl) (w3 : Cond.initialized "java/lang/System" ∈ lw_tbl) (hfr : 1 ≤ d) (hro : (st.map fun v => v.category).sum + (nativeFrameWords "java/lang/System" "arraycopy" 5 + 11) ≤ 64 * d)
    (ht : t0 < 9) (hp : refKind (aty t0) = false) (h0 : h s0 g0 = some (a0, .inl (t0, n0, .inl f))) (h1' : h s1 g1 = some (a1, .inl (t0, n1, .inl g))) (i1 : ix isp sp) (i2 : ix idp dp) (i3 : ix inn n) (b1 : sp + n ≤ n0) (b2 : dp + n ≤ n1) (hfit : ∀ i, i < n → fits (aty t0) (.int (f (sp + i))) = true)
    (kk : Go l G M d kc ks P (pc + 3) L st (up h s1 g1 (a1, .inl (t0, n1, .inl (va_cpy f g sp dp n))))) : Go l G M d kc ks P pc L (.int inn :: .int idp :: .ref a1 :: .int isp :: .ref a0 :: st) h := by
  intro p e R s m args below meth c H locs cells slots mc ms ls F h1 h2 h3 h4 hE hS hL
  have hCx := F.cx
  obtain ⟨j1, rfl⟩ := i1
  obtain ⟨j2, rfl⟩ := i2
  obtain ⟨j3, rfl⟩ := i3
  have nn : ∀ z : Int32, ¬ z < 0 → z.toInt = (z.toNatClampNeg : Int) := by
    intro z hz
    have hz0 : (0 : Int) ≤ z.toInt := by
      have := Int32.not_lt.mp hz
      simpa using Int32.le_iff_toInt_le.mp this
    show z.toInt = ((z.toInt.toNat : Nat) : Int)
    omega
  have hc0 : H[a0]? = some (vp_cell (gA G t0) (n0, .inl f)) := (hE.1 _ _ _ _ h0).1
  have hc1 : H[a1]? = some (vp_cell (gA G t0) (n1, .inl g)) := (hE.1 _ _ _ _ h1').1
  have hAr := (hCx.arr ht).1
  obtain ⟨-, k0, hk0, cm0, hkk0⟩ := hAr n0 (fun j => .int (f j))
  obtain ⟨-, k1, hk1, cm1, hkk1⟩ := hAr n1 (fun j => .int (g j))
  intro T hT X
  obtain ⟨vm', X', step⟩ := X.arraycopy F.1 F.own (hCx.word hm rfl args) (hCx.word w1 rfl args) (hCx.word w2 rfl args) (hCx.word w3 rfl args) (src := a0) (dst := a1) (cs := vp_cell (gA G t0) (n0, .inl f)) (cd := vp_cell (gA G t0) (n1, .inl g)) (srcPos := isp) (destPos := idp) (n := inn) (by rw [hT]; exact hc0) (by rw [hT]; exact hc1)
    (fun _ z => by cases z) (fun _ z => by cases z) (fun z => by cases z) (fun z => by cases z) hk0 hk1 hkk0 hkk1 (by simp [hp]) j1 j2 j3
    (by rw [nn isp j1, nn inn j3]; show ¬ _ > ((arrV (gA G t0) n0 (fun j => .int (f j))).slots.size : Int); rw [arrV_size]; omega)
    (by rw [nn idp j2, nn inn j3]; show ¬ _ > ((arrV (gA G t0) n1 (fun j => .int (g j))).slots.size : Int); rw [arrV_size]; omega)
    (fun vm₁ _ i hi => by
      have e : (vp_cell (gA G t0) (n0, .inl f)).slots.getD (isp.toNatClampNeg + i) .null = .int (f (isp.toNatClampNeg + i)) := by
        show (arrV (gA G t0) n0 (fun j => .int (f j))).slots.getD _ _ = _
        rw [Array.getD_eq_getD_getElem?, arrV_read _ _ (by omega)]
        rfl
      refine ⟨?_, ?_⟩
      · rw [e]
        exact hfit i hi
      · rw [e]
        exact trivial)
    (g := F0 m pc ls (.int inn :: .int idp :: .ref a1 :: .int isp :: .ref a0 :: st)) rfl (by rw [F.2.2.2.1]; exact hL.1) (rest := st) rfl (by rw [F.2.1]; exact hd) (by rw [F.2.2.2.2.2.2.2.2.1]; exact hfr) (by rw [F.2.2.2.2.2.2.2.2.2.1]; show 2 * 0 + _ + _ ≤ _; omega)
  have e1 : copied (vp_cell (gA G t0) (n0, .inl f)) (vp_cell (gA G t0) (n1, .inl g)) isp idp inn = vp_cell (gA G t0) (n1, .inl (va_cpy f g isp.toNatClampNeg idp.toNatClampNeg inn.toNatClampNeg)) := va_copied (fun z => .int z) (gA G t0) (gA G t0) f g b1
  rw [e1] at X' step
  have hl : a1 < H.size := (Array.getElem?_eq_some_iff.mp hc1).1
  have hheap : ((T.setVm vm').setCell a1 (vp_cell (gA G t0) (n1, .inl (va_cpy f g isp.toNatClampNeg idp.toNatClampNeg inn.toNatClampNeg)))).heap = H.setIfInBounds a1 (vp_cell (gA G t0) (n1, .inl (va_cpy f g isp.toNatClampNeg idp.toNatClampNeg inn.toNatClampNeg))) := by rw [← hT]; rfl
  have oq : ∀ q : Nat, q ≠ a1 → (H.setIfInBounds a1 (vp_cell (gA G t0) (n1, .inl (va_cpy f g isp.toNatClampNeg idp.toNatClampNeg inn.toNatClampNeg))))[q]? = H[q]? := fun q hq => by simp [Array.getElem?_setIfInBounds, Ne.symm hq]
  have ha1 := (hE.1 _ _ _ _ h1').2
  obtain ⟨t, x1, y1⟩ := kk _ _ _ _ _ _ _ _ _ _ _ _ _ _ _ _ F h1 h2 h3 h4 (hE.put h1' (show (H.setIfInBounds a1 _)[a1]? = some _ by simp [Array.getElem?_setIfInBounds, hl]) oq) ⟨by simp; exact hS.1, fun q g1 g2 => by
      rw [oq q (fun e => g2 (by rw [e]; exact ha1))]
      exact hS.2.1 q g1 g2, fun q hq => by
      rcases List.mem_append.mp hq with h | h
      · exact hS.2.2 q h
      · obtain ⟨k, -, rfl⟩ := List.mem_map.mp h
        exact ha1⟩ hL _ hheap X'
  exact ⟨t, step t x1, y1⟩
end GC
